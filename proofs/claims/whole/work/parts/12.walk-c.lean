def T_X2_add (N : Nat) (g_length : Int32) (g_bytes : Nat → Int32) (p1 : Int32) : Option (Int32 × (Nat → Int32)) :=
  (ob g_length 150 (some (g_length + 1, upd g_bytes g_length.toNatClampNeg p1)))
abbrev rm_X2_add : Room := { frames := 0, cells := 0, slots := 0, locals := 0 }
set_option maxHeartbeats 4000000 in
set_option maxRecDepth 100000 in
theorem c_X2_add (l : Launch) (D : va_G) (cyI cyJ cyS : ClassId) (N : Nat) (a : Nat → Nat) (g_length : Int32) (g_place : Int32) (g_fault : Int32) (g_bytes : Nat → Int32) (p1 : Int32) (sz : Nat) (R0 : Int32 × (Nat → Int32)) (hT : T_X2_add N g_length g_bytes p1 = some R0) : Met l yX2_add wsX2_add rm_X2_add (va_Pc [.ref (a 0), .int p1] (preW D (tyS cyI cyJ cyS) [oX2 a g_length g_place g_fault, rI cyI (a 1) 150 g_bytes] sz)) (va_Qv (fun (_ : Unit) => True) (fun _ t => va_P D vwCl [oX2 a R0.1 g_place g_fault, rI cyI (a 1) 150 R0.2] t.heap ∧ va_D (va_A [oX2 a g_length g_place g_fault, rI cyI (a 1) 150 g_bytes] sz) [oX2 a R0.1 g_place g_fault, rI cyI (a 1) 150 R0.2]) (va_A [oX2 a g_length g_place g_fault, rI cyI (a 1) 150 g_bytes] sz)) 0 0 (va_A [oX2 a g_length g_place g_fault, rI cyI (a 1) 150 g_bytes] sz) := by
  refine Met.ofW (cc := cX2_add) (maxL := 2) (ret := none) (by decide) rfl ?_
  intro p e s m args below meth c s₁ B hml hv
  obtain ⟨rfl, hsz, hP, hKK, hD0⟩ := hv
  have hx := B.exec
  have hb := B.bytes
  have hr := B.returns
  have hts := atoms_spec (ws := wsX2_add) B.pre
  have hown : s.vm.findClass RX2 = some m.cls := findClass_of_methodNamed B.named
  have hlocks := B.notSynchronized
  have hK := hKK.1
  have inX2 : ∀ w ∈ wsX20, w ∈ wsX2_add := (fun _ h => List.mem_cons_of_mem _ (List.mem_append_right _ h))
  subst hsz
  have hD := hD0.self (sz := s.heap.size)
  generalize hAe : va_A [oX2 a g_length g_place g_fault, rI cyI (a 1) 150 g_bytes] s.heap.size = A at hD ⊢
  have hA : ∀ q : Nat, s.heap.size ≤ q → A q := fun q h => by rw [← hAe]; exact Or.inr h
  have hS : va_S A s.heap s.heap [] := va_S.rf
  have hP : va_P D vwCl [oX2 a g_length g_place g_fault, rI cyI (a 1) 150 g_bytes] s.heap := hP
  have hl := lv_entry [.ref (a 0), .int p1] (n := 2) (Nat.le_of_ble_eq_true rfl)
  rw [lg_entry_eq]
  generalize (lg_sl [.ref (a 0), .int p1] ++ List.replicate (2 - (lg_sl [.ref (a 0), .int p1]).length) Slot.unset).toArray = ls at hl ⊢
  have hl : lv_has ls 2 [(0, .ref (a 0)), (1, .int p1)] := hl
  unfold T_X2_add at hT
  refine lv_aload_n hx hb dX2_add_0 rfl (lv_at hl 0 rfl) ?_
  refine va_get (D := D) (cl := vwCl) (ci := 1) (v := .ref (a 1)) (C := RX2) (T := TX2) (N := 4) hx hb hts inX2 hown hK hP 0 rfl rfl 0 (by decide) (hts (Cond.fieldLink RX2 9 "FrozenIn$Text" "bytes" "[I") (List.mem_of_getElem? (i := 1) rfl)) (fun _ h9 => h9) rfl dX2_add_1 ?_
  refine lv_aload_n hx hb dX2_add_4 rfl (lv_at hl 0 rfl) ?_
  refine va_get (D := D) (cl := vwCl) (ci := 1) (v := .int g_length) (C := RX2) (T := TX2) (N := 4) hx hb hts inX2 hown hK hP 0 rfl rfl 1 (by decide) (hts (Cond.fieldLink RX2 15 "FrozenIn$Text" "length" "I") (List.mem_of_getElem? (i := 2) rfl)) (fun _ h9 => h9) rfl dX2_add_5 ?_
  refine lv_iload_n hx hb dX2_add_8 rfl (lv_at hl 1 rfl) ?_
  obtain ⟨hi2, h1⟩ := ob_e hT
  refine va_iast hx hb hK hP hD hS 1 0 rfl rfl hi2 dX2_add_9 (fun H3 L4 hP hD hS => ?_)
  have hP : va_P D vwCl [oX2 a g_length g_place g_fault, rI cyI (a 1) 150 (upd g_bytes g_length.toNatClampNeg p1)] H3 := hP
  have hD : va_D A [oX2 a g_length g_place g_fault, rI cyI (a 1) 150 (upd g_bytes g_length.toNatClampNeg p1)] := hD
  refine lv_aload_n hx hb dX2_add_10 rfl (lv_at hl 0 rfl) ?_
  refine lv_dup hx hb dX2_add_11 rfl ?_
  refine va_get (D := D) (cl := vwCl) (ci := 1) (v := .int g_length) (C := RX2) (T := TX2) (N := 4) hx hb hts inX2 hown hK hP 0 rfl rfl 1 (by decide) (hts (Cond.fieldLink RX2 15 "FrozenIn$Text" "length" "I") (List.mem_of_getElem? (i := 2) rfl)) (fun _ h9 => h9) rfl dX2_add_12 ?_
  refine lv_iconst (v := 1) hx hb dX2_add_15 (by decide) ?_
  refine lv_iadd hx hb dX2_add_16 ?_
  refine va_put (D := D) (cl := vwCl) (ci := 1) (v := .int (g_length + 1)) (ty := .int) (C := RX2) (T := TX2) (N := 4) hx hb hts inX2 tyX2 tyX2_ok nmX2 hown hK hP hD hS 0 rfl rfl 1 (by decide) (hts (Cond.fieldLink RX2 15 "FrozenIn$Text" "length" "I") (List.mem_of_getElem? (i := 2) rfl)) (fun _ h9 => h9) rfl (by decide +kernel) rfl rfl (Nat.le_of_ble_eq_true rfl) dX2_add_17 (fun H5 L6 hP hD hS => ?_)
  have hP : va_P D vwCl [oX2 a (g_length + 1) g_place g_fault, rI cyI (a 1) 150 (upd g_bytes g_length.toNatClampNeg p1)] H5 := hP
  have hD : va_D A [oX2 a (g_length + 1) g_place g_fault, rI cyI (a 1) 150 (upd g_bytes g_length.toNatClampNeg p1)] := hD
  rw [← Option.some.inj h1]
  exact W.vret hx hb hr (fun t ht hW => ⟨⟨(), rfl, trivial, ⟨by rw [ht]; exact hP, hD⟩⟩, hS.F ht⟩) hS.2.2 dX2_add_20
def T_X2_empty (g_length : Int32) : Int32 :=
  0
abbrev rm_X2_empty : Room := { frames := 0, cells := 0, slots := 0, locals := 0 }
set_option maxHeartbeats 4000000 in
set_option maxRecDepth 100000 in
theorem c_X2_empty (l : Launch) (D : va_G) (cyI cyJ cyS : ClassId) (a : Nat → Nat) (g_length : Int32) (g_place : Int32) (g_fault : Int32) (sz : Nat) (R0 : Int32) (hT : T_X2_empty g_length = R0) : Met l yX2_empty wsX2_empty rm_X2_empty (va_Pc [.ref (a 0)] (preW D (tyS cyI cyJ cyS) [oX2 a g_length g_place g_fault] sz)) (va_Qv (fun (_ : Unit) => True) (fun _ t => va_P D vwCl [oX2 a R0 g_place g_fault] t.heap ∧ va_D (va_A [oX2 a g_length g_place g_fault] sz) [oX2 a R0 g_place g_fault]) (va_A [oX2 a g_length g_place g_fault] sz)) 0 0 (va_A [oX2 a g_length g_place g_fault] sz) := by
  refine Met.ofW (cc := cX2_empty) (maxL := 1) (ret := none) (by decide) rfl ?_
  intro p e s m args below meth c s₁ B hml hv
  obtain ⟨rfl, hsz, hP, hKK, hD0⟩ := hv
  have hx := B.exec
  have hb := B.bytes
  have hr := B.returns
  have hts := atoms_spec (ws := wsX2_empty) B.pre
  have hown : s.vm.findClass RX2 = some m.cls := findClass_of_methodNamed B.named
  have hlocks := B.notSynchronized
  have hK := hKK.1
  have inX2 : ∀ w ∈ wsX20, w ∈ wsX2_empty := (fun _ h => List.mem_cons_of_mem _ (List.mem_append_right _ h))
  subst hsz
  have hD := hD0.self (sz := s.heap.size)
  generalize hAe : va_A [oX2 a g_length g_place g_fault] s.heap.size = A at hD ⊢
  have hA : ∀ q : Nat, s.heap.size ≤ q → A q := fun q h => by rw [← hAe]; exact Or.inr h
  have hS : va_S A s.heap s.heap [] := va_S.rf
  have hP : va_P D vwCl [oX2 a g_length g_place g_fault] s.heap := hP
  have hl := lv_entry [.ref (a 0)] (n := 1) (Nat.le_of_ble_eq_true rfl)
  rw [lg_entry_eq]
  generalize (lg_sl [.ref (a 0)] ++ List.replicate (1 - (lg_sl [.ref (a 0)]).length) Slot.unset).toArray = ls at hl ⊢
  have hl : lv_has ls 1 [(0, .ref (a 0))] := hl
  unfold T_X2_empty at hT
  refine lv_aload_n hx hb dX2_empty_0 rfl (lv_at hl 0 rfl) ?_
  refine lv_iconst (v := 0) hx hb dX2_empty_1 (by decide) ?_
  refine va_put (D := D) (cl := vwCl) (ci := 1) (v := .int 0) (ty := .int) (C := RX2) (T := TX2) (N := 4) hx hb hts inX2 tyX2 tyX2_ok nmX2 hown hK hP hD hS 0 rfl rfl 1 (by decide) (hts (Cond.fieldLink RX2 15 "FrozenIn$Text" "length" "I") (List.mem_of_getElem? (i := 1) rfl)) (fun _ h9 => h9) rfl (by decide +kernel) rfl rfl (Nat.le_of_ble_eq_true rfl) dX2_empty_2 (fun H1 L2 hP hD hS => ?_)
  have hP : va_P D vwCl [oX2 a 0 g_place g_fault] H1 := hP
  have hD : va_D A [oX2 a 0 g_place g_fault] := hD
  rw [← hT]
  exact W.vret hx hb hr (fun t ht hW => ⟨⟨(), rfl, trivial, ⟨by rw [ht]; exact hP, hD⟩⟩, hS.F ht⟩) hS.2.2 dX2_empty_5
def T_X2_skipBlanks_L0 (N : Nat) (g_length : Int32) (g_bytes : Nat → Int32) (k38 : Int32 → Option Int32) : Nat → Int32 → Option Int32
  | 0, _ => none
  | n + 1, z11 => (if g_length ≤ z11 then (k38 z11) else (ob z11 150 (if (g_bytes z11.toNatClampNeg) = 32 then (T_X2_skipBlanks_L0 N g_length g_bytes k38 n (z11 + 1)) else (k38 z11))))
theorem T_X2_skipBlanks_L0_s (N : Nat) (g_length : Int32) (g_bytes : Nat → Int32) (k38 : Int32 → Option Int32) (n : Nat) (z11 : Int32) : T_X2_skipBlanks_L0 N g_length g_bytes k38 (n + 1) z11 = (if g_length ≤ z11 then (k38 z11) else (ob z11 150 (if (g_bytes z11.toNatClampNeg) = 32 then (T_X2_skipBlanks_L0 N g_length g_bytes k38 n (z11 + 1)) else (k38 z11)))) := rfl
def T_X2_skipBlanks (N : Nat) (g_length : Int32) (g_place : Int32) (g_bytes : Nat → Int32) : Option Int32 :=
  (if g_length ≤ g_place then (some g_place) else (ob g_place 150 (if (g_bytes g_place.toNatClampNeg) = 32 then (T_X2_skipBlanks_L0 N g_length g_bytes (fun (z26 : Int32) => (some z26)) N (g_place + 1)) else (some g_place))))
abbrev rm_X2_skipBlanks : Room := { frames := 0, cells := 0, slots := 0, locals := 0 }
set_option maxHeartbeats 4000000 in
set_option maxRecDepth 100000 in
theorem c_X2_skipBlanks (l : Launch) (D : va_G) (cyI cyJ cyS : ClassId) (N : Nat) (a : Nat → Nat) (g_length : Int32) (g_place : Int32) (g_fault : Int32) (g_bytes : Nat → Int32) (sz : Nat) (R0 : Int32) (hT : T_X2_skipBlanks N g_length g_place g_bytes = some R0) : Met l yX2_skipBlanks wsX2_skipBlanks rm_X2_skipBlanks (va_Pc [.ref (a 0)] (preW D (tyS cyI cyJ cyS) [oX2 a g_length g_place g_fault, rI cyI (a 1) 150 g_bytes] sz)) (va_Qv (fun (_ : Unit) => True) (fun _ t => va_P D vwCl [oX2 a g_length R0 g_fault, rI cyI (a 1) 150 g_bytes] t.heap ∧ va_D (va_A [oX2 a g_length g_place g_fault, rI cyI (a 1) 150 g_bytes] sz) [oX2 a g_length R0 g_fault, rI cyI (a 1) 150 g_bytes]) (va_A [oX2 a g_length g_place g_fault, rI cyI (a 1) 150 g_bytes] sz)) 0 0 (va_A [oX2 a g_length g_place g_fault, rI cyI (a 1) 150 g_bytes] sz) := by
  refine Met.ofW (cc := cX2_skipBlanks) (maxL := 1) (ret := none) (by decide) rfl ?_
  intro p e s m args below meth c s₁ B hml hv
  obtain ⟨rfl, hsz, hP, hKK, hD0⟩ := hv
  have hx := B.exec
  have hb := B.bytes
  have hr := B.returns
  have hts := atoms_spec (ws := wsX2_skipBlanks) B.pre
  have hown : s.vm.findClass RX2 = some m.cls := findClass_of_methodNamed B.named
  have hlocks := B.notSynchronized
  have hK := hKK.1
  have inX2 : ∀ w ∈ wsX20, w ∈ wsX2_skipBlanks := (fun _ h => List.mem_cons_of_mem _ (List.mem_append_right _ h))
  subst hsz
  have hD := hD0.self (sz := s.heap.size)
  generalize hAe : va_A [oX2 a g_length g_place g_fault, rI cyI (a 1) 150 g_bytes] s.heap.size = A at hD ⊢
  have hA : ∀ q : Nat, s.heap.size ≤ q → A q := fun q h => by rw [← hAe]; exact Or.inr h
  have hS : va_S A s.heap s.heap [] := va_S.rf
  have hP : va_P D vwCl [oX2 a g_length g_place g_fault, rI cyI (a 1) 150 g_bytes] s.heap := hP
  have hl := lv_entry [.ref (a 0)] (n := 1) (Nat.le_of_ble_eq_true rfl)
  rw [lg_entry_eq]
  generalize (lg_sl [.ref (a 0)] ++ List.replicate (1 - (lg_sl [.ref (a 0)]).length) Slot.unset).toArray = ls at hl ⊢
  have hl : lv_has ls 1 [(0, .ref (a 0))] := hl
  have L0 : ∀ (k38 : Int32 → Option Int32) (hk38 : ∀ (z12 : Int32) (H : Heap) (locs : List Loc) (ls : Array Slot), k38 z12 = some R0 → va_P D vwCl [oX2 a g_length z12 g_fault, rI cyI (a 1) 150 g_bytes] H → va_D A [oX2 a g_length z12 g_fault, rI cyI (a 1) 150 g_bytes] → va_S A s.heap H locs → lv_has ls 1 [] → W p l e (headSpec wsX2_skipBlanks rm_X2_skipBlanks).room s m ([.ref (a 0)] : List Value).toArray below meth c H locs 0 0 (MQ below (va_Qv (fun (_ : Unit) => True) (fun _ t => va_P D vwCl [oX2 a g_length R0 g_fault, rI cyI (a 1) 150 g_bytes] t.heap ∧ va_D A [oX2 a g_length R0 g_fault, rI cyI (a 1) 150 g_bytes]) A) ([.ref (a 0)] : List Value).toArray s 0 0 A) (F0 m 38 ls [])) (n : Nat), ∀ (z11 : Int32) (H : Heap) (locs : List Loc) (ls : Array Slot), T_X2_skipBlanks_L0 N g_length g_bytes k38 n z11 = some R0 → va_P D vwCl [oX2 a g_length z11 g_fault, rI cyI (a 1) 150 g_bytes] H → va_D A [oX2 a g_length z11 g_fault, rI cyI (a 1) 150 g_bytes] → va_S A s.heap H locs → lv_has ls 1 [(0, .ref (a 0))] → W p l e (headSpec wsX2_skipBlanks rm_X2_skipBlanks).room s m ([.ref (a 0)] : List Value).toArray below meth c H locs 0 0 (MQ below (va_Qv (fun (_ : Unit) => True) (fun _ t => va_P D vwCl [oX2 a g_length R0 g_fault, rI cyI (a 1) 150 g_bytes] t.heap ∧ va_D A [oX2 a g_length R0 g_fault, rI cyI (a 1) 150 g_bytes]) A) ([.ref (a 0)] : List Value).toArray s 0 0 A) (F0 m 0 ls []) := by
    intro k38 hk38 n
    induction n with
    | zero => intro _ _ _ _ h; exact absurd h (fun z => by cases z)
    | succ n ih =>
      intro z11 H14 L15 ls h13 hP hD hS hl
      rw [T_X2_skipBlanks_L0_s] at h13
      refine lv_aload_n hx hb dX2_skipBlanks_0 rfl (lv_at hl 0 rfl) ?_
      refine va_get (D := D) (cl := vwCl) (ci := 1) (v := .int z11) (C := RX2) (T := TX2) (N := 4) hx hb hts inX2 hown hK hP 0 rfl rfl 2 (by decide) (hts (Cond.fieldLink RX2 19 "FrozenIn$Text" "place" "I") (List.mem_of_getElem? (i := 1) rfl)) (fun _ h9 => h9) rfl dX2_skipBlanks_1 ?_
      refine lv_aload_n hx hb dX2_skipBlanks_4 rfl (lv_at hl 0 rfl) ?_
      refine va_get (D := D) (cl := vwCl) (ci := 1) (v := .int g_length) (C := RX2) (T := TX2) (N := 4) hx hb hts inX2 hown hK hP 0 rfl rfl 1 (by decide) (hts (Cond.fieldLink RX2 15 "FrozenIn$Text" "length" "I") (List.mem_of_getElem? (i := 2) rfl)) (fun _ h9 => h9) rfl dX2_skipBlanks_5 ?_
      refine lv_icmp_ge (tgt := 38) hx hb dX2_skipBlanks_8 (by decide) (fun c16 => ?_) (fun c16 => ?_)
      · have h17 := (if_pos c16).symm.trans h13
        exact hk38 z11 _ _ _ h17 hP hD hS (lv_sub hl [] rfl)
      · have h18 := (if_neg c16).symm.trans h13
        refine lv_aload_n hx hb dX2_skipBlanks_11 rfl (lv_at hl 0 rfl) ?_
        refine va_get (D := D) (cl := vwCl) (ci := 1) (v := .ref (a 1)) (C := RX2) (T := TX2) (N := 4) hx hb hts inX2 hown hK hP 0 rfl rfl 0 (by decide) (hts (Cond.fieldLink RX2 9 "FrozenIn$Text" "bytes" "[I") (List.mem_of_getElem? (i := 3) rfl)) (fun _ h9 => h9) rfl dX2_skipBlanks_12 ?_
        refine lv_aload_n hx hb dX2_skipBlanks_15 rfl (lv_at hl 0 rfl) ?_
        refine va_get (D := D) (cl := vwCl) (ci := 1) (v := .int z11) (C := RX2) (T := TX2) (N := 4) hx hb hts inX2 hown hK hP 0 rfl rfl 2 (by decide) (hts (Cond.fieldLink RX2 19 "FrozenIn$Text" "place" "I") (List.mem_of_getElem? (i := 1) rfl)) (fun _ h9 => h9) rfl dX2_skipBlanks_16 ?_
        obtain ⟨hi20, h19⟩ := ob_e h18
        refine va_iald hx hb hK hP 1 0 rfl rfl hi20 dX2_skipBlanks_19 ?_
        refine lv_bipush (v := 32) hx hb dX2_skipBlanks_20 (by decide) ?_
        refine lv_icmp_ne (tgt := 38) hx hb dX2_skipBlanks_22 (by decide) (fun c21 => ?_) (fun c21 => ?_)
        · have h22 := (if_neg c21).symm.trans h19
          exact hk38 z11 _ _ _ h22 hP hD hS (lv_sub hl [] rfl)
        · have h23 := (if_pos c21).symm.trans h19
          refine lv_aload_n hx hb dX2_skipBlanks_25 rfl (lv_at hl 0 rfl) ?_
          refine lv_dup hx hb dX2_skipBlanks_26 rfl ?_
          refine va_get (D := D) (cl := vwCl) (ci := 1) (v := .int z11) (C := RX2) (T := TX2) (N := 4) hx hb hts inX2 hown hK hP 0 rfl rfl 2 (by decide) (hts (Cond.fieldLink RX2 19 "FrozenIn$Text" "place" "I") (List.mem_of_getElem? (i := 1) rfl)) (fun _ h9 => h9) rfl dX2_skipBlanks_27 ?_
          refine lv_iconst (v := 1) hx hb dX2_skipBlanks_30 (by decide) ?_
          refine lv_iadd hx hb dX2_skipBlanks_31 ?_
          refine va_put (D := D) (cl := vwCl) (ci := 1) (v := .int (z11 + 1)) (ty := .int) (C := RX2) (T := TX2) (N := 4) hx hb hts inX2 tyX2 tyX2_ok nmX2 hown hK hP hD hS 0 rfl rfl 2 (by decide) (hts (Cond.fieldLink RX2 19 "FrozenIn$Text" "place" "I") (List.mem_of_getElem? (i := 1) rfl)) (fun _ h9 => h9) rfl (by decide +kernel) rfl rfl (Nat.le_of_ble_eq_true rfl) dX2_skipBlanks_32 (fun H24 L25 hP hD hS => ?_)
          have hP : va_P D vwCl [oX2 a g_length (z11 + 1) g_fault, rI cyI (a 1) 150 g_bytes] H24 := hP
          have hD : va_D A [oX2 a g_length (z11 + 1) g_fault, rI cyI (a 1) 150 g_bytes] := hD
          refine lv_goto (tgt := 0) hx hb dX2_skipBlanks_35 (by decide) ?_
          exact ih (z11 + 1) _ _ _ h23 hP hD hS (lv_sub hl [0] rfl)
  unfold T_X2_skipBlanks at hT
  refine lv_aload_n hx hb dX2_skipBlanks_0 rfl (lv_at hl 0 rfl) ?_
  refine va_get (D := D) (cl := vwCl) (ci := 1) (v := .int g_place) (C := RX2) (T := TX2) (N := 4) hx hb hts inX2 hown hK hP 0 rfl rfl 2 (by decide) (hts (Cond.fieldLink RX2 19 "FrozenIn$Text" "place" "I") (List.mem_of_getElem? (i := 1) rfl)) (fun _ h9 => h9) rfl dX2_skipBlanks_1 ?_
  refine lv_aload_n hx hb dX2_skipBlanks_4 rfl (lv_at hl 0 rfl) ?_
  refine va_get (D := D) (cl := vwCl) (ci := 1) (v := .int g_length) (C := RX2) (T := TX2) (N := 4) hx hb hts inX2 hown hK hP 0 rfl rfl 1 (by decide) (hts (Cond.fieldLink RX2 15 "FrozenIn$Text" "length" "I") (List.mem_of_getElem? (i := 2) rfl)) (fun _ h9 => h9) rfl dX2_skipBlanks_5 ?_
  refine lv_icmp_ge (tgt := 38) hx hb dX2_skipBlanks_8 (by decide) (fun c1 => ?_) (fun c1 => ?_)
  · have h2 := (if_pos c1).symm.trans hT
    rw [← Option.some.inj h2]
    exact W.vret hx hb hr (fun t ht hW => ⟨⟨(), rfl, trivial, ⟨by rw [ht]; exact hP, hD⟩⟩, hS.F ht⟩) hS.2.2 dX2_skipBlanks_38
  · have h3 := (if_neg c1).symm.trans hT
    refine lv_aload_n hx hb dX2_skipBlanks_11 rfl (lv_at hl 0 rfl) ?_
    refine va_get (D := D) (cl := vwCl) (ci := 1) (v := .ref (a 1)) (C := RX2) (T := TX2) (N := 4) hx hb hts inX2 hown hK hP 0 rfl rfl 0 (by decide) (hts (Cond.fieldLink RX2 9 "FrozenIn$Text" "bytes" "[I") (List.mem_of_getElem? (i := 3) rfl)) (fun _ h9 => h9) rfl dX2_skipBlanks_12 ?_
    refine lv_aload_n hx hb dX2_skipBlanks_15 rfl (lv_at hl 0 rfl) ?_
    refine va_get (D := D) (cl := vwCl) (ci := 1) (v := .int g_place) (C := RX2) (T := TX2) (N := 4) hx hb hts inX2 hown hK hP 0 rfl rfl 2 (by decide) (hts (Cond.fieldLink RX2 19 "FrozenIn$Text" "place" "I") (List.mem_of_getElem? (i := 1) rfl)) (fun _ h9 => h9) rfl dX2_skipBlanks_16 ?_
    obtain ⟨hi5, h4⟩ := ob_e h3
    refine va_iald hx hb hK hP 1 0 rfl rfl hi5 dX2_skipBlanks_19 ?_
    refine lv_bipush (v := 32) hx hb dX2_skipBlanks_20 (by decide) ?_
    refine lv_icmp_ne (tgt := 38) hx hb dX2_skipBlanks_22 (by decide) (fun c6 => ?_) (fun c6 => ?_)
    · have h7 := (if_neg c6).symm.trans h4
      rw [← Option.some.inj h7]
      exact W.vret hx hb hr (fun t ht hW => ⟨⟨(), rfl, trivial, ⟨by rw [ht]; exact hP, hD⟩⟩, hS.F ht⟩) hS.2.2 dX2_skipBlanks_38
    · have h8 := (if_pos c6).symm.trans h4
      refine lv_aload_n hx hb dX2_skipBlanks_25 rfl (lv_at hl 0 rfl) ?_
      refine lv_dup hx hb dX2_skipBlanks_26 rfl ?_
      refine va_get (D := D) (cl := vwCl) (ci := 1) (v := .int g_place) (C := RX2) (T := TX2) (N := 4) hx hb hts inX2 hown hK hP 0 rfl rfl 2 (by decide) (hts (Cond.fieldLink RX2 19 "FrozenIn$Text" "place" "I") (List.mem_of_getElem? (i := 1) rfl)) (fun _ h9 => h9) rfl dX2_skipBlanks_27 ?_
      refine lv_iconst (v := 1) hx hb dX2_skipBlanks_30 (by decide) ?_
      refine lv_iadd hx hb dX2_skipBlanks_31 ?_
      refine va_put (D := D) (cl := vwCl) (ci := 1) (v := .int (g_place + 1)) (ty := .int) (C := RX2) (T := TX2) (N := 4) hx hb hts inX2 tyX2 tyX2_ok nmX2 hown hK hP hD hS 0 rfl rfl 2 (by decide) (hts (Cond.fieldLink RX2 19 "FrozenIn$Text" "place" "I") (List.mem_of_getElem? (i := 1) rfl)) (fun _ h9 => h9) rfl (by decide +kernel) rfl rfl (Nat.le_of_ble_eq_true rfl) dX2_skipBlanks_32 (fun H9 L10 hP hD hS => ?_)
      have hP : va_P D vwCl [oX2 a g_length (g_place + 1) g_fault, rI cyI (a 1) 150 g_bytes] H9 := hP
      have hD : va_D A [oX2 a g_length (g_place + 1) g_fault, rI cyI (a 1) 150 g_bytes] := hD
      refine lv_goto (tgt := 0) hx hb dX2_skipBlanks_35 (by decide) ?_
      refine L0 _ (fun z26 H28 L29 ls h27 hP hD hS hl => ?_) N (g_place + 1) _ _ _ h8 hP hD hS (lv_sub hl [0] rfl)
      rw [← Option.some.inj h27]
      exact W.vret hx hb hr (fun t ht hW => ⟨⟨(), rfl, trivial, ⟨by rw [ht]; exact hP, hD⟩⟩, hS.F ht⟩) hS.2.2 dX2_skipBlanks_38
def T_X2_runOf_L2 (N : Nat) (p1 : Int32) (p2 : Int32) (g_length : Int32) (g_place : Int32) (g_bytes : Nat → Int32) (k51 : Int32 → Option Int32) : Nat → Int32 → Option Int32
  | 0, _ => none
  | n + 1, x1 => (if g_length ≤ (g_place + x1) then (k51 x1) else (ob (g_place + x1) 150 (if (g_bytes (g_place + x1).toNatClampNeg) < p1 then (k51 x1) else (ob (g_place + x1) 150 (if p2 < (g_bytes (g_place + x1).toNatClampNeg) then (k51 x1) else (lt' (x1 + 1) fun x19 => (T_X2_runOf_L2 N p1 p2 g_length g_place g_bytes k51 n x19)))))))
theorem T_X2_runOf_L2_s (N : Nat) (p1 : Int32) (p2 : Int32) (g_length : Int32) (g_place : Int32) (g_bytes : Nat → Int32) (k51 : Int32 → Option Int32) (n : Nat) (x1 : Int32) : T_X2_runOf_L2 N p1 p2 g_length g_place g_bytes k51 (n + 1) x1 = (if g_length ≤ (g_place + x1) then (k51 x1) else (ob (g_place + x1) 150 (if (g_bytes (g_place + x1).toNatClampNeg) < p1 then (k51 x1) else (ob (g_place + x1) 150 (if p2 < (g_bytes (g_place + x1).toNatClampNeg) then (k51 x1) else (lt' (x1 + 1) fun x19 => (T_X2_runOf_L2 N p1 p2 g_length g_place g_bytes k51 n x19))))))) := rfl
def T_X2_runOf (N : Nat) (g_length : Int32) (g_place : Int32) (g_bytes : Nat → Int32) (p1 : Int32) (p2 : Int32) : Option Int32 :=
  (T_X2_runOf_L2 N p1 p2 g_length g_place g_bytes (fun (x21 : Int32) => (some x21)) N 0)
abbrev rm_X2_runOf : Room := { frames := 0, cells := 0, slots := 0, locals := 0 }
set_option maxHeartbeats 4000000 in
set_option maxRecDepth 100000 in
theorem c_X2_runOf (l : Launch) (D : va_G) (cyI cyJ cyS : ClassId) (N : Nat) (a : Nat → Nat) (g_length : Int32) (g_place : Int32) (g_fault : Int32) (g_bytes : Nat → Int32) (p1 : Int32) (p2 : Int32) (R0 : Int32) (hT : T_X2_runOf N g_length g_place g_bytes p1 p2 = some R0) : Met l yX2_runOf wsX2_runOf rm_X2_runOf (va_Pc [.ref (a 0), .int p1, .int p2] (preR D (tyS cyI cyJ cyS) [oX2 a g_length g_place g_fault, rI cyI (a 1) 150 g_bytes])) (vp_Si (fun r => r = R0)) 0 0 (fun _ => False) := by
  refine Met.ofW (cc := cX2_runOf) (maxL := 4) (ret := (some .int)) (by decide) rfl ?_
  intro p e s m args below meth c s₁ B hml hv
  obtain ⟨rfl, hP, hKK⟩ := hv
  have hx := B.exec
  have hb := B.bytes
  have hr := B.returns
  have hts := atoms_spec (ws := wsX2_runOf) B.pre
  have hown : s.vm.findClass RX2 = some m.cls := findClass_of_methodNamed B.named
  have hlocks := B.notSynchronized
  have hK := hKK.1
  have inX2 : ∀ w ∈ wsX20, w ∈ wsX2_runOf := (fun _ h => List.mem_cons_of_mem _ (List.mem_append_right _ h))
  have hP : va_P D vwCl [oX2 a g_length g_place g_fault, rI cyI (a 1) 150 g_bytes] s.heap := hP
  have hl := lv_entry [.ref (a 0), .int p1, .int p2] (n := 4) (Nat.le_of_ble_eq_true rfl)
  rw [lg_entry_eq]
  generalize (lg_sl [.ref (a 0), .int p1, .int p2] ++ List.replicate (4 - (lg_sl [.ref (a 0), .int p1, .int p2]).length) Slot.unset).toArray = ls at hl ⊢
  have hl : lv_has ls 4 [(0, .ref (a 0)), (1, .int p1), (2, .int p2)] := hl
  have L2 : ∀ (k51 : Int32 → Option Int32) (hk51 : ∀ (x2 : Int32) (ls : Array Slot), k51 x2 = some R0 → lv_has ls 4 [(3, .int x2)] → W p l e (headSpec wsX2_runOf rm_X2_runOf).room s m ([.ref (a 0), .int p1, .int p2] : List Value).toArray below meth c s.heap [] 0 0 (MQ below (vp_Si (fun r => r = R0)) ([.ref (a 0), .int p1, .int p2] : List Value).toArray s 0 0 (fun _ => False)) (F0 m 51 ls [])) (n : Nat), ∀ (x1 : Int32) (ls : Array Slot), T_X2_runOf_L2 N p1 p2 g_length g_place g_bytes k51 n x1 = some R0 → lv_has ls 4 [(0, .ref (a 0)), (1, .int p1), (2, .int p2), (3, .int x1)] → W p l e (headSpec wsX2_runOf rm_X2_runOf).room s m ([.ref (a 0), .int p1, .int p2] : List Value).toArray below meth c s.heap [] 0 0 (MQ below (vp_Si (fun r => r = R0)) ([.ref (a 0), .int p1, .int p2] : List Value).toArray s 0 0 (fun _ => False)) (F0 m 2 ls []) := by
    intro k51 hk51 n
    induction n with
    | zero => intro _ _ h; exact absurd h (fun z => by cases z)
    | succ n ih =>
      intro x1 ls h3 hl
      rw [T_X2_runOf_L2_s] at h3
      refine lv_aload_n hx hb dX2_runOf_2 rfl (lv_at hl 0 rfl) ?_
      refine va_get (D := D) (cl := vwCl) (ci := 1) (v := .int g_place) (C := RX2) (T := TX2) (N := 4) hx hb hts inX2 hown hK hP 0 rfl rfl 2 (by decide) (hts (Cond.fieldLink RX2 19 "FrozenIn$Text" "place" "I") (List.mem_of_getElem? (i := 1) rfl)) (fun _ h9 => h9) rfl dX2_runOf_3 ?_
      refine lv_iload_n hx hb dX2_runOf_6 rfl (lv_at hl 3 rfl) ?_
      refine lv_iadd hx hb dX2_runOf_7 ?_
      refine lv_aload_n hx hb dX2_runOf_8 rfl (lv_at hl 0 rfl) ?_
      refine va_get (D := D) (cl := vwCl) (ci := 1) (v := .int g_length) (C := RX2) (T := TX2) (N := 4) hx hb hts inX2 hown hK hP 0 rfl rfl 1 (by decide) (hts (Cond.fieldLink RX2 15 "FrozenIn$Text" "length" "I") (List.mem_of_getElem? (i := 2) rfl)) (fun _ h9 => h9) rfl dX2_runOf_9 ?_
      refine lv_icmp_ge (tgt := 51) hx hb dX2_runOf_12 (by decide) (fun c6 => ?_) (fun c6 => ?_)
      · have h7 := (if_pos c6).symm.trans h3
        exact hk51 x1 _ h7 (lv_sub hl [3] rfl)
      · have h8 := (if_neg c6).symm.trans h3
        refine lv_aload_n hx hb dX2_runOf_15 rfl (lv_at hl 0 rfl) ?_
        refine va_get (D := D) (cl := vwCl) (ci := 1) (v := .ref (a 1)) (C := RX2) (T := TX2) (N := 4) hx hb hts inX2 hown hK hP 0 rfl rfl 0 (by decide) (hts (Cond.fieldLink RX2 9 "FrozenIn$Text" "bytes" "[I") (List.mem_of_getElem? (i := 3) rfl)) (fun _ h9 => h9) rfl dX2_runOf_16 ?_
        refine lv_aload_n hx hb dX2_runOf_19 rfl (lv_at hl 0 rfl) ?_
        refine va_get (D := D) (cl := vwCl) (ci := 1) (v := .int g_place) (C := RX2) (T := TX2) (N := 4) hx hb hts inX2 hown hK hP 0 rfl rfl 2 (by decide) (hts (Cond.fieldLink RX2 19 "FrozenIn$Text" "place" "I") (List.mem_of_getElem? (i := 1) rfl)) (fun _ h9 => h9) rfl dX2_runOf_20 ?_
        refine lv_iload_n hx hb dX2_runOf_23 rfl (lv_at hl 3 rfl) ?_
        refine lv_iadd hx hb dX2_runOf_24 ?_
        obtain ⟨hi10, h9⟩ := ob_e h8
        refine va_iald hx hb hK hP 1 0 rfl rfl hi10 dX2_runOf_25 ?_
        refine lv_iload_n hx hb dX2_runOf_26 rfl (lv_at hl 1 rfl) ?_
        refine lv_icmp_lt (tgt := 51) hx hb dX2_runOf_27 (by decide) (fun c11 => ?_) (fun c11 => ?_)
        · have h12 := (if_pos c11).symm.trans h9
          exact hk51 x1 _ h12 (lv_sub hl [3] rfl)
        · have h13 := (if_neg c11).symm.trans h9
          refine lv_aload_n hx hb dX2_runOf_30 rfl (lv_at hl 0 rfl) ?_
          refine va_get (D := D) (cl := vwCl) (ci := 1) (v := .ref (a 1)) (C := RX2) (T := TX2) (N := 4) hx hb hts inX2 hown hK hP 0 rfl rfl 0 (by decide) (hts (Cond.fieldLink RX2 9 "FrozenIn$Text" "bytes" "[I") (List.mem_of_getElem? (i := 3) rfl)) (fun _ h9 => h9) rfl dX2_runOf_31 ?_
          refine lv_aload_n hx hb dX2_runOf_34 rfl (lv_at hl 0 rfl) ?_
          refine va_get (D := D) (cl := vwCl) (ci := 1) (v := .int g_place) (C := RX2) (T := TX2) (N := 4) hx hb hts inX2 hown hK hP 0 rfl rfl 2 (by decide) (hts (Cond.fieldLink RX2 19 "FrozenIn$Text" "place" "I") (List.mem_of_getElem? (i := 1) rfl)) (fun _ h9 => h9) rfl dX2_runOf_35 ?_
          refine lv_iload_n hx hb dX2_runOf_38 rfl (lv_at hl 3 rfl) ?_
          refine lv_iadd hx hb dX2_runOf_39 ?_
          obtain ⟨hi15, h14⟩ := ob_e h13
          refine va_iald hx hb hK hP 1 0 rfl rfl hi15 dX2_runOf_40 ?_
          refine lv_iload_n hx hb dX2_runOf_41 rfl (lv_at hl 2 rfl) ?_
          refine lv_icmp_gt (tgt := 51) hx hb dX2_runOf_42 (by decide) (fun c16 => ?_) (fun c16 => ?_)
          · have h17 := (if_pos c16).symm.trans h14
            exact hk51 x1 _ h17 (lv_sub hl [3] rfl)
          · have h18 := (if_neg c16).symm.trans h14
            obtain ⟨x19, ex19, h20⟩ := lt_e h18
            refine lv_iinc (v := x19) (lv' := [(3, .int x19), (0, .ref (a 0)), (1, .int p1), (2, .int p2)]) hx hb dX2_runOf_45 hl (k := 3) rfl (by rw [ex19]; rfl) (by decide) rfl (fun ls hl => ?_)
            refine lv_goto (tgt := 2) hx hb dX2_runOf_48 (by decide) ?_
            exact ih x19 _ h20 (lv_sub hl [1, 2, 3, 0] rfl)
  unfold T_X2_runOf at hT
  refine lv_iconst (v := 0) hx hb dX2_runOf_0 (by decide) ?_
  refine lv_istore_n (lv' := [(3, .int 0), (0, .ref (a 0)), (1, .int p1), (2, .int p2)]) hx hb dX2_runOf_1 rfl hl (by decide) rfl (fun ls hl => ?_)
  refine L2 _ (fun x21 ls h22 hl => ?_) N 0 _ hT (lv_sub hl [1, 2, 3, 0] rfl)
  refine lv_iload_n hx hb dX2_runOf_51 rfl (lv_at hl 0 rfl) ?_
  exact W.iret (v := x21) hx hb hr (fun t ht hW => ⟨x21, rfl, (Option.some.inj h22), ht⟩) (fun q hq => by cases hq) dX2_runOf_52
def T_X2_takeWord_L21 (N : Nat) (y9 : Int32) (g_place : Int32) (g_bytes : Nat → Int32) (i1 : Nat) (k53 : Option (Int32 × Int32)) : Nat → Int32 → Option (Int32 × Int32)
  | 0, _ => none
  | n + 1, x8 => (if y9 ≤ x8 then k53 else (ob (g_place + x8) 150 (ob x8 (strL.getD i1 0) (if (g_bytes (g_place + x8).toNatClampNeg) = (chS i1 x8) then (lt' (x8 + 1) fun x22 => (T_X2_takeWord_L21 N y9 g_place g_bytes i1 k53 n x22)) else (some (0, g_place))))))
theorem T_X2_takeWord_L21_s (N : Nat) (y9 : Int32) (g_place : Int32) (g_bytes : Nat → Int32) (i1 : Nat) (k53 : Option (Int32 × Int32)) (n : Nat) (x8 : Int32) : T_X2_takeWord_L21 N y9 g_place g_bytes i1 k53 (n + 1) x8 = (if y9 ≤ x8 then k53 else (ob (g_place + x8) 150 (ob x8 (strL.getD i1 0) (if (g_bytes (g_place + x8).toNatClampNeg) = (chS i1 x8) then (lt' (x8 + 1) fun x22 => (T_X2_takeWord_L21 N y9 g_place g_bytes i1 k53 n x22)) else (some (0, g_place)))))) := rfl
def T_X2_takeWord (N : Nat) (g_length : Int32) (g_place : Int32) (g_bytes : Nat → Int32) (i1 : Nat) : Option (Int32 × Int32) :=
  (lt' (Int32.ofNat (strL.getD i1 0)) fun x1 => (Option.bind (T_X2_runOf N g_length g_place g_bytes 97 122) fun u3 => (if u3 = x1 then (T_X2_takeWord_L21 N x1 g_place g_bytes i1 (some (1, g_place + x1)) N 0) else (some (0, g_place)))))
abbrev rm_X2_takeWord : Room := { frames := 4, cells := 0, slots := 0, locals := 85 }
set_option maxHeartbeats 4000000 in
set_option maxRecDepth 100000 in
theorem c_X2_takeWord (l : Launch) (D : va_G) (cyI cyJ cyS : ClassId) (N : Nat) (a : Nat → Nat) (g_length : Int32) (g_place : Int32) (g_fault : Int32) (g_bytes : Nat → Int32) (i1 : Nat) (hst_i1 : i1 < 3) (adK adV : Nat → Nat) (t0 : Option Nat) (sz : Nat) (R0 : Int32 × Int32) (hT : T_X2_takeWord N g_length g_place g_bytes i1 = some R0) : Met l yX2_takeWord wsX2_takeWord rm_X2_takeWord (va_Pc [.ref (a 0), .ref (adK i1)] (preWS D (tyS cyI cyJ cyS) [oX2 a g_length g_place g_fault, rI cyI (a 1) 150 g_bytes] sz adK adV t0)) (va_Qi (fun (r : Int32) (_ : Unit) => r = R0.1 ∧ nb r) (fun _ t => va_P D vwCl [oX2 a g_length R0.2 g_fault, rI cyI (a 1) 150 g_bytes] t.heap ∧ va_D (va_A [oX2 a g_length g_place g_fault, rI cyI (a 1) 150 g_bytes] sz) [oX2 a g_length R0.2 g_fault, rI cyI (a 1) 150 g_bytes]) (va_A [oX2 a g_length g_place g_fault, rI cyI (a 1) 150 g_bytes] sz)) 0 0 (va_A [oX2 a g_length g_place g_fault, rI cyI (a 1) 150 g_bytes] sz) := by
  refine Met.ofW (cc := cX2_takeWord) (maxL := 4) (ret := (some .boolean)) (by decide) rfl ?_
  intro p e s m args below meth c s₁ B hml hv
  obtain ⟨rfl, hsz, hP, hKK, hD0, hSS, hKR⟩ := hv
  have hx := B.exec
  have hb := B.bytes
  have hr := B.returns
  have hts := atoms_spec (ws := wsX2_takeWord) B.pre
  have hown : s.vm.findClass RX2 = some m.cls := findClass_of_methodNamed B.named
  have hlocks := B.notSynchronized
  have hK := hKK.1
  have inX2 : ∀ w ∈ wsX20, w ∈ wsX2_takeWord := (fun _ h => List.mem_cons_of_mem _ (List.mem_append_right _ h))
  subst hsz
  have hD := hD0.self (sz := s.heap.size)
  generalize hAe : va_A [oX2 a g_length g_place g_fault, rI cyI (a 1) 150 g_bytes] s.heap.size = A at hD hSS ⊢
  have hA : ∀ q : Nat, s.heap.size ≤ q → A q := fun q h => by rw [← hAe]; exact Or.inr h
  have hS : va_S A s.heap s.heap [] := va_S.rf
  have hP : va_P D vwCl [oX2 a g_length g_place g_fault, rI cyI (a 1) 150 g_bytes] s.heap := hP
  have hl := lv_entry [.ref (a 0), .ref (adK i1)] (n := 4) (Nat.le_of_ble_eq_true rfl)
  rw [lg_entry_eq]
  generalize (lg_sl [.ref (a 0), .ref (adK i1)] ++ List.replicate (4 - (lg_sl [.ref (a 0), .ref (adK i1)]).length) Slot.unset).toArray = ls at hl ⊢
  have hl : lv_has ls 4 [(0, .ref (a 0)), (1, .ref (adK i1))] := hl
  have L21 : ∀ (y9 : Int32) (k53 : Option (Int32 × Int32)) (hk53 : ∀ (H : Heap) (locs : List Loc) (ls : Array Slot), k53 = some R0 → va_P D vwCl [oX2 a g_length g_place g_fault, rI cyI (a 1) 150 g_bytes] H → va_D A [oX2 a g_length g_place g_fault, rI cyI (a 1) 150 g_bytes] → va_S A s.heap H locs → lv_has ls 4 [(0, .ref (a 0)), (2, .int y9)] → W p l e (headSpec wsX2_takeWord rm_X2_takeWord).room s m ([.ref (a 0), .ref (adK i1)] : List Value).toArray below meth c H locs 0 0 (MQ below (va_Qi (fun (r : Int32) (_ : Unit) => r = R0.1 ∧ nb r) (fun _ t => va_P D vwCl [oX2 a g_length R0.2 g_fault, rI cyI (a 1) 150 g_bytes] t.heap ∧ va_D A [oX2 a g_length R0.2 g_fault, rI cyI (a 1) 150 g_bytes]) A) ([.ref (a 0), .ref (adK i1)] : List Value).toArray s 0 0 A) (F0 m 53 ls [])) (n : Nat), ∀ (x8 : Int32) (H : Heap) (locs : List Loc) (ls : Array Slot), T_X2_takeWord_L21 N y9 g_place g_bytes i1 k53 n x8 = some R0 → va_P D vwCl [oX2 a g_length g_place g_fault, rI cyI (a 1) 150 g_bytes] H → va_D A [oX2 a g_length g_place g_fault, rI cyI (a 1) 150 g_bytes] → va_S A s.heap H locs → lv_has ls 4 [(0, .ref (a 0)), (1, .ref (adK i1)), (2, .int y9), (3, .int x8)] → W p l e (headSpec wsX2_takeWord rm_X2_takeWord).room s m ([.ref (a 0), .ref (adK i1)] : List Value).toArray below meth c H locs 0 0 (MQ below (va_Qi (fun (r : Int32) (_ : Unit) => r = R0.1 ∧ nb r) (fun _ t => va_P D vwCl [oX2 a g_length R0.2 g_fault, rI cyI (a 1) 150 g_bytes] t.heap ∧ va_D A [oX2 a g_length R0.2 g_fault, rI cyI (a 1) 150 g_bytes]) A) ([.ref (a 0), .ref (adK i1)] : List Value).toArray s 0 0 A) (F0 m 21 ls []) := by
    intro y9 k53 hk53 n
    induction n with
    | zero => intro _ _ _ _ h; exact absurd h (fun z => by cases z)
    | succ n ih =>
      intro x8 H11 L12 ls h10 hP hD hS hl
      rw [T_X2_takeWord_L21_s] at h10
      refine lv_iload_n hx hb dX2_takeWord_21 rfl (lv_at hl 3 rfl) ?_
      refine lv_iload_n hx hb dX2_takeWord_22 rfl (lv_at hl 2 rfl) ?_
      refine lv_icmp_ge (tgt := 53) hx hb dX2_takeWord_23 (by decide) (fun c13 => ?_) (fun c13 => ?_)
      · have h14 := (if_pos c13).symm.trans h10
        exact hk53  _ _ _ h14 hP hD hS (lv_sub hl [0, 2] rfl)
      · have h15 := (if_neg c13).symm.trans h10
        refine lv_aload_n hx hb dX2_takeWord_26 rfl (lv_at hl 0 rfl) ?_
        refine va_get (D := D) (cl := vwCl) (ci := 1) (v := .ref (a 1)) (C := RX2) (T := TX2) (N := 4) hx hb hts inX2 hown hK hP 0 rfl rfl 0 (by decide) (hts (Cond.fieldLink RX2 9 "FrozenIn$Text" "bytes" "[I") (List.mem_of_getElem? (i := 1) rfl)) (fun _ h9 => h9) rfl dX2_takeWord_27 ?_
        refine lv_aload_n hx hb dX2_takeWord_30 rfl (lv_at hl 0 rfl) ?_
        refine va_get (D := D) (cl := vwCl) (ci := 1) (v := .int g_place) (C := RX2) (T := TX2) (N := 4) hx hb hts inX2 hown hK hP 0 rfl rfl 2 (by decide) (hts (Cond.fieldLink RX2 19 "FrozenIn$Text" "place" "I") (List.mem_of_getElem? (i := 2) rfl)) (fun _ h9 => h9) rfl dX2_takeWord_31 ?_
        refine lv_iload_n hx hb dX2_takeWord_34 rfl (lv_at hl 3 rfl) ?_
        refine lv_iadd hx hb dX2_takeWord_35 ?_
        obtain ⟨hi17, h16⟩ := ob_e h15
        refine va_iald hx hb hK hP 1 0 rfl rfl hi17 dX2_takeWord_36 ?_
        refine lv_aload_n hx hb dX2_takeWord_37 rfl (lv_at hl 1 rfl) ?_
        refine lv_iload_n hx hb dX2_takeWord_38 rfl (lv_at hl 3 rfl) ?_
        obtain ⟨hi19, h18⟩ := ob_e h16
        refine kc_I (W.runV (As := [.int x8]) (rest := [.int (g_bytes (g_place + x8).toNatClampNeg)]) ⟨hx, hb, hml, hown, hts⟩ (c_J0_charAt_5068e l adK adV t0 i1 hst_i1 x8 hi19) (cwV 1 hts gX2_takeWord_J0_charAt_5068e rfl rfl rfl (by decide +kernel) ⟨(Nat.le_of_ble_eq_true rfl), (Nat.le_of_ble_eq_true rfl)⟩) (preS0_V (SS_narrow (SS_kept hSS hS.2.1) (fun _ h => h.elim)) (vk_recv hSS.1 hst_i1 hS)) rfl rfl hl.1 rfl (lv_room (Nat.le_of_ble_eq_true rfl)) dX2_takeWord_39 ⟨Nat.zero_le _, Nat.zero_le _⟩) ?_
        refine lv_icmp_eq (tgt := 47) hx hb dX2_takeWord_42 (by decide) (fun c20 => ?_) (fun c20 => ?_)
        · have h21 := (if_pos c20).symm.trans h18
          obtain ⟨x22, ex22, h23⟩ := lt_e h21
          refine lv_iinc (v := x22) (lv' := [(3, .int x22), (0, .ref (a 0)), (1, .ref (adK i1)), (2, .int y9)]) hx hb dX2_takeWord_47 hl (k := 3) rfl (by rw [ex22]; rfl) (by decide) rfl (fun ls hl => ?_)
          refine lv_goto (tgt := 21) hx hb dX2_takeWord_50 (by decide) ?_
          exact ih x22 _ _ _ h23 hP hD hS (lv_sub hl [1, 2, 3, 0] rfl)
        · have h24 := (if_neg c20).symm.trans h18
          refine lv_iconst (v := 0) hx hb dX2_takeWord_45 (by decide) ?_
          rw [← Option.some.inj h24]
          exact W.zret (v := 0) hx hb hr (nb_n nb_0) (fun t ht hW => ⟨⟨0, (), rfl, ⟨rfl, nb_0⟩, ⟨by rw [ht]; exact hP, hD⟩⟩, hS.F ht⟩) hS.2.2 dX2_takeWord_46
  unfold T_X2_takeWord at hT
  refine lv_aload_n hx hb dX2_takeWord_0 rfl (lv_at hl 1 rfl) ?_
  refine kc_I (W.runV (As := []) (rest := []) ⟨hx, hb, hml, hown, hts⟩ (c_J0_length_8abf5 l adK adV t0 i1 hst_i1) (cwV 0 hts gX2_takeWord_J0_length_8abf5 rfl rfl rfl (by decide +kernel) ⟨(Nat.le_of_ble_eq_true rfl), (Nat.le_of_ble_eq_true rfl)⟩) (preS0_V (SS_narrow (SS_kept hSS hS.2.1) (fun _ h => h.elim)) (vk_recv hSS.1 hst_i1 hS)) rfl rfl hl.1 rfl (lv_room (Nat.le_of_ble_eq_true rfl)) dX2_takeWord_1 ⟨Nat.zero_le _, Nat.zero_le _⟩) ?_
  obtain ⟨x1, ex1, h2⟩ := lt_e hT
  refine lv_nm ex1 ?_
  refine lv_istore_n (lv' := [(2, .int x1), (0, .ref (a 0)), (1, .ref (adK i1))]) hx hb dX2_takeWord_4 rfl hl (by decide) rfl (fun ls hl => ?_)
  refine lv_aload_n hx hb dX2_takeWord_5 rfl (lv_at hl 1 rfl) ?_
  refine lv_bipush (v := 97) hx hb dX2_takeWord_6 (by decide) ?_
  refine lv_bipush (v := 122) hx hb dX2_takeWord_8 (by decide) ?_
  obtain ⟨u3, hu4, h5⟩ := bd_e h2
  refine kc_I (W.runV (As := [.int 97, .int 122]) (rest := []) ⟨hx, hb, hml, hown, hts⟩ (c_X2_runOf l D cyI cyJ cyS N a g_length g_place g_fault g_bytes 97 122 u3 hu4) (cwV 2 hts gX2_takeWord_X2_runOf rfl rfl rfl (by decide +kernel) ⟨(Nat.le_of_ble_eq_true rfl), (Nat.le_of_ble_eq_true rfl)⟩) (preR_V (hP.sub (ws' := [oX2 a g_length g_place g_fault, rI cyI (a 1) 150 g_bytes]) [0, 1] rfl) hKK (va_recv hK hP (ci := 1) (q0 := 0) rfl rfl)) rfl rfl hl.1 rfl (lv_room (Nat.le_of_ble_eq_true rfl)) dX2_takeWord_10 ⟨Nat.zero_le _, Nat.zero_le _⟩) ?_
  refine lv_iload_n hx hb dX2_takeWord_13 rfl (lv_at hl 0 rfl) ?_
  refine lv_icmp_eq (tgt := 19) hx hb dX2_takeWord_14 (by decide) (fun c6 => ?_) (fun c6 => ?_)
  · have h7 := (if_pos c6).symm.trans h5
    refine lv_iconst (v := 0) hx hb dX2_takeWord_19 (by decide) ?_
    refine lv_istore_n (lv' := [(3, .int 0), (2, .int x1), (0, .ref (a 0)), (1, .ref (adK i1))]) hx hb dX2_takeWord_20 rfl hl (by decide) rfl (fun ls hl => ?_)
    refine L21 x1 _ (fun H26 L27 ls h25 hP hD hS hl => ?_) N 0 _ _ _ h7 hP hD hS (lv_sub hl [2, 3, 1, 0] rfl)
    refine lv_aload_n hx hb dX2_takeWord_53 rfl (lv_at hl 0 rfl) ?_
    refine lv_dup hx hb dX2_takeWord_54 rfl ?_
    refine va_get (D := D) (cl := vwCl) (ci := 1) (v := .int g_place) (C := RX2) (T := TX2) (N := 4) hx hb hts inX2 hown hK hP 0 rfl rfl 2 (by decide) (hts (Cond.fieldLink RX2 19 "FrozenIn$Text" "place" "I") (List.mem_of_getElem? (i := 2) rfl)) (fun _ h9 => h9) rfl dX2_takeWord_55 ?_
    refine lv_iload_n hx hb dX2_takeWord_58 rfl (lv_at hl 1 rfl) ?_
    refine lv_iadd hx hb dX2_takeWord_59 ?_
    refine va_put (D := D) (cl := vwCl) (ci := 1) (v := .int (g_place + x1)) (ty := .int) (C := RX2) (T := TX2) (N := 4) hx hb hts inX2 tyX2 tyX2_ok nmX2 hown hK hP hD hS 0 rfl rfl 2 (by decide) (hts (Cond.fieldLink RX2 19 "FrozenIn$Text" "place" "I") (List.mem_of_getElem? (i := 2) rfl)) (fun _ h9 => h9) rfl (by decide +kernel) rfl rfl (Nat.le_of_ble_eq_true rfl) dX2_takeWord_60 (fun H28 L29 hP hD hS => ?_)
    have hP : va_P D vwCl [oX2 a g_length (g_place + x1) g_fault, rI cyI (a 1) 150 g_bytes] H28 := hP
    have hD : va_D A [oX2 a g_length (g_place + x1) g_fault, rI cyI (a 1) 150 g_bytes] := hD
    refine lv_iconst (v := 1) hx hb dX2_takeWord_63 (by decide) ?_
    rw [← Option.some.inj h25]
    exact W.zret (v := 1) hx hb hr (nb_n nb_1) (fun t ht hW => ⟨⟨1, (), rfl, ⟨rfl, nb_1⟩, ⟨by rw [ht]; exact hP, hD⟩⟩, hS.F ht⟩) hS.2.2 dX2_takeWord_64
  · have h30 := (if_neg c6).symm.trans h5
    refine lv_iconst (v := 0) hx hb dX2_takeWord_17 (by decide) ?_
    rw [← Option.some.inj h30]
    exact W.zret (v := 0) hx hb hr (nb_n nb_0) (fun t ht hW => ⟨⟨0, (), rfl, ⟨rfl, nb_0⟩, ⟨by rw [ht]; exact hP, hD⟩⟩, hS.F ht⟩) hS.2.2 dX2_takeWord_18
def T_X2_fail (g_place : Int32) (g_fault : Int32) : Int32 :=
  (if g_fault = (-1) then g_place else g_fault)
abbrev rm_X2_fail : Room := { frames := 0, cells := 0, slots := 0, locals := 0 }
set_option maxHeartbeats 4000000 in
set_option maxRecDepth 100000 in
theorem c_X2_fail (l : Launch) (D : va_G) (cyI cyJ cyS : ClassId) (a : Nat → Nat) (g_length : Int32) (g_place : Int32) (g_fault : Int32) (sz : Nat) (R0 : Int32) (hT : T_X2_fail g_place g_fault = R0) : Met l yX2_fail wsX2_fail rm_X2_fail (va_Pc [.ref (a 0)] (preW D (tyS cyI cyJ cyS) [oX2 a g_length g_place g_fault] sz)) (va_Qv (fun (_ : Unit) => True) (fun _ t => va_P D vwCl [oX2 a g_length g_place R0] t.heap ∧ va_D (va_A [oX2 a g_length g_place g_fault] sz) [oX2 a g_length g_place R0]) (va_A [oX2 a g_length g_place g_fault] sz)) 0 0 (va_A [oX2 a g_length g_place g_fault] sz) := by
  refine Met.ofW (cc := cX2_fail) (maxL := 1) (ret := none) (by decide) rfl ?_
  intro p e s m args below meth c s₁ B hml hv
  obtain ⟨rfl, hsz, hP, hKK, hD0⟩ := hv
  have hx := B.exec
  have hb := B.bytes
  have hr := B.returns
  have hts := atoms_spec (ws := wsX2_fail) B.pre
  have hown : s.vm.findClass RX2 = some m.cls := findClass_of_methodNamed B.named
  have hlocks := B.notSynchronized
  have hK := hKK.1
  have inX2 : ∀ w ∈ wsX20, w ∈ wsX2_fail := (fun _ h => List.mem_cons_of_mem _ (List.mem_append_right _ h))
  subst hsz
  have hD := hD0.self (sz := s.heap.size)
  generalize hAe : va_A [oX2 a g_length g_place g_fault] s.heap.size = A at hD ⊢
  have hA : ∀ q : Nat, s.heap.size ≤ q → A q := fun q h => by rw [← hAe]; exact Or.inr h
  have hS : va_S A s.heap s.heap [] := va_S.rf
  have hP : va_P D vwCl [oX2 a g_length g_place g_fault] s.heap := hP
  have hl := lv_entry [.ref (a 0)] (n := 1) (Nat.le_of_ble_eq_true rfl)
  rw [lg_entry_eq]
  generalize (lg_sl [.ref (a 0)] ++ List.replicate (1 - (lg_sl [.ref (a 0)]).length) Slot.unset).toArray = ls at hl ⊢
  have hl : lv_has ls 1 [(0, .ref (a 0))] := hl
  unfold T_X2_fail at hT
  refine lv_aload_n hx hb dX2_fail_0 rfl (lv_at hl 0 rfl) ?_
  refine va_get (D := D) (cl := vwCl) (ci := 1) (v := .int g_fault) (C := RX2) (T := TX2) (N := 4) hx hb hts inX2 hown hK hP 0 rfl rfl 3 (by decide) (hts (Cond.fieldLink RX2 22 "FrozenIn$Text" "fault" "I") (List.mem_of_getElem? (i := 1) rfl)) (fun _ h9 => h9) rfl dX2_fail_1 ?_
  refine lv_iconst (v := (-1)) hx hb dX2_fail_4 (by decide) ?_
  refine lv_icmp_ne (tgt := 16) hx hb dX2_fail_5 (by decide) (fun c1 => ?_) (fun c1 => ?_)
  · have h2 := (if_neg c1).symm.trans hT
    rw [← h2]
    exact W.vret hx hb hr (fun t ht hW => ⟨⟨(), rfl, trivial, ⟨by rw [ht]; exact hP, hD⟩⟩, hS.F ht⟩) hS.2.2 dX2_fail_16
  · have h3 := (if_pos c1).symm.trans hT
    refine lv_aload_n hx hb dX2_fail_8 rfl (lv_at hl 0 rfl) ?_
    refine lv_aload_n hx hb dX2_fail_9 rfl (lv_at hl 0 rfl) ?_
    refine va_get (D := D) (cl := vwCl) (ci := 1) (v := .int g_place) (C := RX2) (T := TX2) (N := 4) hx hb hts inX2 hown hK hP 0 rfl rfl 2 (by decide) (hts (Cond.fieldLink RX2 19 "FrozenIn$Text" "place" "I") (List.mem_of_getElem? (i := 2) rfl)) (fun _ h9 => h9) rfl dX2_fail_10 ?_
    refine va_put (D := D) (cl := vwCl) (ci := 1) (v := .int g_place) (ty := .int) (C := RX2) (T := TX2) (N := 4) hx hb hts inX2 tyX2 tyX2_ok nmX2 hown hK hP hD hS 0 rfl rfl 3 (by decide) (hts (Cond.fieldLink RX2 22 "FrozenIn$Text" "fault" "I") (List.mem_of_getElem? (i := 1) rfl)) (fun _ h9 => h9) rfl (by decide +kernel) rfl rfl (Nat.le_of_ble_eq_true rfl) dX2_fail_13 (fun H4 L5 hP hD hS => ?_)
    have hP : va_P D vwCl [oX2 a g_length g_place g_place] H4 := hP
    have hD : va_D A [oX2 a g_length g_place g_place] := hD
    rw [← h3]
    exact W.vret hx hb hr (fun t ht hW => ⟨⟨(), rfl, trivial, ⟨by rw [ht]; exact hP, hD⟩⟩, hS.F ht⟩) hS.2.2 dX2_fail_16
def T_X2_numberOf_L4 (N : Nat) (p1 : Int32) (g_place : Int32) (g_bytes : Nat → Int32)  : Nat → Int32 → Int32 → Option Int32
  | 0, _, _ => none
  | n + 1, x1, x2 => (if p1 ≤ x2 then (some x1) else (ob (g_place + x2) 150 (lt' (((10 * x1) + (g_bytes (g_place + x2).toNatClampNeg)) - 48) fun x11 => (lt' (x2 + 1) fun x13 => (T_X2_numberOf_L4 N p1 g_place g_bytes n x11 x13)))))
theorem T_X2_numberOf_L4_s (N : Nat) (p1 : Int32) (g_place : Int32) (g_bytes : Nat → Int32)  (n : Nat) (x1 : Int32) (x2 : Int32) : T_X2_numberOf_L4 N p1 g_place g_bytes  (n + 1) x1 x2 = (if p1 ≤ x2 then (some x1) else (ob (g_place + x2) 150 (lt' (((10 * x1) + (g_bytes (g_place + x2).toNatClampNeg)) - 48) fun x11 => (lt' (x2 + 1) fun x13 => (T_X2_numberOf_L4 N p1 g_place g_bytes n x11 x13))))) := rfl
def T_X2_numberOf (N : Nat) (g_place : Int32) (g_bytes : Nat → Int32) (p1 : Int32) : Option Int32 :=
  (T_X2_numberOf_L4 N p1 g_place g_bytes N 0 0)
abbrev rm_X2_numberOf : Room := { frames := 0, cells := 0, slots := 0, locals := 0 }
set_option maxHeartbeats 4000000 in
set_option maxRecDepth 100000 in
theorem c_X2_numberOf (l : Launch) (D : va_G) (cyI cyJ cyS : ClassId) (N : Nat) (a : Nat → Nat) (g_length : Int32) (g_place : Int32) (g_fault : Int32) (g_bytes : Nat → Int32) (p1 : Int32) (R0 : Int32) (hT : T_X2_numberOf N g_place g_bytes p1 = some R0) : Met l yX2_numberOf wsX2_numberOf rm_X2_numberOf (va_Pc [.ref (a 0), .int p1] (preR D (tyS cyI cyJ cyS) [oX2 a g_length g_place g_fault, rI cyI (a 1) 150 g_bytes])) (vp_Si (fun r => r = R0)) 0 0 (fun _ => False) := by
  refine Met.ofW (cc := cX2_numberOf) (maxL := 4) (ret := (some .int)) (by decide) rfl ?_
  intro p e s m args below meth c s₁ B hml hv
  obtain ⟨rfl, hP, hKK⟩ := hv
  have hx := B.exec
  have hb := B.bytes
  have hr := B.returns
  have hts := atoms_spec (ws := wsX2_numberOf) B.pre
  have hown : s.vm.findClass RX2 = some m.cls := findClass_of_methodNamed B.named
  have hlocks := B.notSynchronized
  have hK := hKK.1
  have inX2 : ∀ w ∈ wsX20, w ∈ wsX2_numberOf := (fun _ h => List.mem_cons_of_mem _ (List.mem_append_right _ h))
  have hP : va_P D vwCl [oX2 a g_length g_place g_fault, rI cyI (a 1) 150 g_bytes] s.heap := hP
  have hl := lv_entry [.ref (a 0), .int p1] (n := 4) (Nat.le_of_ble_eq_true rfl)
  rw [lg_entry_eq]
  generalize (lg_sl [.ref (a 0), .int p1] ++ List.replicate (4 - (lg_sl [.ref (a 0), .int p1]).length) Slot.unset).toArray = ls at hl ⊢
  have hl : lv_has ls 4 [(0, .ref (a 0)), (1, .int p1)] := hl
  have L4 : ∀ (n : Nat), ∀ (x1 : Int32) (x2 : Int32) (ls : Array Slot), T_X2_numberOf_L4 N p1 g_place g_bytes n x1 x2 = some R0 → lv_has ls 4 [(0, .ref (a 0)), (1, .int p1), (2, .int x1), (3, .int x2)] → W p l e (headSpec wsX2_numberOf rm_X2_numberOf).room s m ([.ref (a 0), .int p1] : List Value).toArray below meth c s.heap [] 0 0 (MQ below (vp_Si (fun r => r = R0)) ([.ref (a 0), .int p1] : List Value).toArray s 0 0 (fun _ => False)) (F0 m 4 ls []) := by
    intro n
    induction n with
    | zero => intro _ _ _ h; exact absurd h (fun z => by cases z)
    | succ n ih =>
      intro x1 x2 ls h3 hl
      rw [T_X2_numberOf_L4_s] at h3
      refine lv_iload_n hx hb dX2_numberOf_4 rfl (lv_at hl 3 rfl) ?_
      refine lv_iload_n hx hb dX2_numberOf_5 rfl (lv_at hl 1 rfl) ?_
      refine lv_icmp_ge (tgt := 35) hx hb dX2_numberOf_6 (by decide) (fun c6 => ?_) (fun c6 => ?_)
      · have h7 := (if_pos c6).symm.trans h3
        refine lv_iload_n hx hb dX2_numberOf_35 rfl (lv_at hl 2 rfl) ?_
        exact W.iret (v := x1) hx hb hr (fun t ht hW => ⟨x1, rfl, (Option.some.inj h7), ht⟩) (fun q hq => by cases hq) dX2_numberOf_36
      · have h8 := (if_neg c6).symm.trans h3
        refine lv_bipush (v := 10) hx hb dX2_numberOf_9 (by decide) ?_
        refine lv_iload_n hx hb dX2_numberOf_11 rfl (lv_at hl 2 rfl) ?_
        refine lv_imul hx hb dX2_numberOf_12 ?_
        refine lv_aload_n hx hb dX2_numberOf_13 rfl (lv_at hl 0 rfl) ?_
        refine va_get (D := D) (cl := vwCl) (ci := 1) (v := .ref (a 1)) (C := RX2) (T := TX2) (N := 4) hx hb hts inX2 hown hK hP 0 rfl rfl 0 (by decide) (hts (Cond.fieldLink RX2 9 "FrozenIn$Text" "bytes" "[I") (List.mem_of_getElem? (i := 1) rfl)) (fun _ h9 => h9) rfl dX2_numberOf_14 ?_
        refine lv_aload_n hx hb dX2_numberOf_17 rfl (lv_at hl 0 rfl) ?_
        refine va_get (D := D) (cl := vwCl) (ci := 1) (v := .int g_place) (C := RX2) (T := TX2) (N := 4) hx hb hts inX2 hown hK hP 0 rfl rfl 2 (by decide) (hts (Cond.fieldLink RX2 19 "FrozenIn$Text" "place" "I") (List.mem_of_getElem? (i := 2) rfl)) (fun _ h9 => h9) rfl dX2_numberOf_18 ?_
        refine lv_iload_n hx hb dX2_numberOf_21 rfl (lv_at hl 3 rfl) ?_
        refine lv_iadd hx hb dX2_numberOf_22 ?_
        obtain ⟨hi10, h9⟩ := ob_e h8
        refine va_iald hx hb hK hP 1 0 rfl rfl hi10 dX2_numberOf_23 ?_
        refine lv_iadd hx hb dX2_numberOf_24 ?_
        refine lv_bipush (v := 48) hx hb dX2_numberOf_25 (by decide) ?_
        refine lv_isub hx hb dX2_numberOf_27 ?_
        obtain ⟨x11, ex11, h12⟩ := lt_e h9
        refine lv_nm ex11 ?_
        refine lv_istore_n (lv' := [(2, .int x11), (0, .ref (a 0)), (1, .int p1), (3, .int x2)]) hx hb dX2_numberOf_28 rfl hl (by decide) rfl (fun ls hl => ?_)
        obtain ⟨x13, ex13, h14⟩ := lt_e h12
        refine lv_iinc (v := x13) (lv' := [(3, .int x13), (2, .int x11), (0, .ref (a 0)), (1, .int p1)]) hx hb dX2_numberOf_29 hl (k := 3) rfl (by rw [ex13]; rfl) (by decide) rfl (fun ls hl => ?_)
        refine lv_goto (tgt := 4) hx hb dX2_numberOf_32 (by decide) ?_
        exact ih x11 x13 _ h14 (lv_sub hl [2, 3, 1, 0] rfl)
  unfold T_X2_numberOf at hT
  refine lv_iconst (v := 0) hx hb dX2_numberOf_0 (by decide) ?_
  refine lv_istore_n (lv' := [(2, .int 0), (0, .ref (a 0)), (1, .int p1)]) hx hb dX2_numberOf_1 rfl hl (by decide) rfl (fun ls hl => ?_)
  refine lv_iconst (v := 0) hx hb dX2_numberOf_2 (by decide) ?_
  refine lv_istore_n (lv' := [(3, .int 0), (2, .int 0), (0, .ref (a 0)), (1, .int p1)]) hx hb dX2_numberOf_3 rfl hl (by decide) rfl (fun ls hl => ?_)
  refine L4  N 0 0 _ hT (lv_sub hl [2, 3, 1, 0] rfl)
def T_X2_takeNumber (N : Nat) (g_length : Int32) (g_place : Int32) (g_fault : Int32) (g_bytes : Nat → Int32) (p1 : Int32) : Option (Int32 × Int32 × Int32) :=
  (Option.bind (T_X2_skipBlanks N g_length g_place g_bytes) fun u1 => (Option.bind (T_X2_runOf N g_length u1 g_bytes 48 57) fun u6 => (jn (fun (x9 : Int32) => (jn (lt' (T_X2_fail u1 g_fault) fun u22 => (some (0, u1, u22))) fun j16 => (if g_fault = (-1) then (if x9 ≤ p1 then (some (x9, u1 + u6, g_fault)) else j16) else j16))) fun j10 => (jn (Option.bind (T_X2_numberOf N u1 g_bytes u6) fun u41 => (j10 u41)) fun j35 => (if u6 = 1 then j35 else (if u6 = 2 then j35 else (j10 (p1 + 1))))))))
abbrev rm_X2_takeNumber : Room := { frames := 1, cells := 0, slots := 0, locals := 23 }
set_option maxHeartbeats 4000000 in
set_option maxRecDepth 100000 in
theorem c_X2_takeNumber (l : Launch) (D : va_G) (cyI cyJ cyS : ClassId) (N : Nat) (a : Nat → Nat) (g_length : Int32) (g_place : Int32) (g_fault : Int32) (g_bytes : Nat → Int32) (p1 : Int32) (sz : Nat) (R0 : Int32 × Int32 × Int32) (hT : T_X2_takeNumber N g_length g_place g_fault g_bytes p1 = some R0) : Met l yX2_takeNumber wsX2_takeNumber rm_X2_takeNumber (va_Pc [.ref (a 0), .int p1] (preW D (tyS cyI cyJ cyS) [oX2 a g_length g_place g_fault, rI cyI (a 1) 150 g_bytes] sz)) (va_Qi (fun (r : Int32) (_ : Unit) => r = R0.1) (fun _ t => va_P D vwCl [oX2 a g_length R0.2.1 R0.2.2, rI cyI (a 1) 150 g_bytes] t.heap ∧ va_D (va_A [oX2 a g_length g_place g_fault, rI cyI (a 1) 150 g_bytes] sz) [oX2 a g_length R0.2.1 R0.2.2, rI cyI (a 1) 150 g_bytes]) (va_A [oX2 a g_length g_place g_fault, rI cyI (a 1) 150 g_bytes] sz)) 0 0 (va_A [oX2 a g_length g_place g_fault, rI cyI (a 1) 150 g_bytes] sz) := by
  refine Met.ofW (cc := cX2_takeNumber) (maxL := 4) (ret := (some .int)) (by decide) rfl ?_
  intro p e s m args below meth c s₁ B hml hv
  obtain ⟨rfl, hsz, hP, hKK, hD0⟩ := hv
  have hx := B.exec
  have hb := B.bytes
  have hr := B.returns
  have hts := atoms_spec (ws := wsX2_takeNumber) B.pre
  have hown : s.vm.findClass RX2 = some m.cls := findClass_of_methodNamed B.named
  have hlocks := B.notSynchronized
  have hK := hKK.1
  have inX2 : ∀ w ∈ wsX20, w ∈ wsX2_takeNumber := (fun _ h => List.mem_cons_of_mem _ (List.mem_append_right _ h))
  subst hsz
  have hD := hD0.self (sz := s.heap.size)
  generalize hAe : va_A [oX2 a g_length g_place g_fault, rI cyI (a 1) 150 g_bytes] s.heap.size = A at hD ⊢
  have hA : ∀ q : Nat, s.heap.size ≤ q → A q := fun q h => by rw [← hAe]; exact Or.inr h
  have hS : va_S A s.heap s.heap [] := va_S.rf
  have hP : va_P D vwCl [oX2 a g_length g_place g_fault, rI cyI (a 1) 150 g_bytes] s.heap := hP
  have hl := lv_entry [.ref (a 0), .int p1] (n := 4) (Nat.le_of_ble_eq_true rfl)
  rw [lg_entry_eq]
  generalize (lg_sl [.ref (a 0), .int p1] ++ List.replicate (4 - (lg_sl [.ref (a 0), .int p1]).length) Slot.unset).toArray = ls at hl ⊢
  have hl : lv_has ls 4 [(0, .ref (a 0)), (1, .int p1)] := hl
  unfold T_X2_takeNumber at hT
  refine lv_aload_n hx hb dX2_takeNumber_0 rfl (lv_at hl 0 rfl) ?_
  obtain ⟨u1, hu2, h3⟩ := bd_e hT
  refine kw_V (wc := [oX2 a g_length g_place g_fault, rI cyI (a 1) 150 g_bytes]) (wr := []) (ws' := [oX2 a g_length u1 g_fault, rI cyI (a 1) 150 g_bytes]) (va_runV (As := []) (rest := []) ⟨hx, hb, hml, hown, hts⟩ (c_X2_skipBlanks l D cyI cyJ cyS N a g_length g_place g_fault g_bytes s.heap.size u1 hu2) (cwV 0 hts gX2_takeNumber_X2_skipBlanks rfl rfl rfl (by decide +kernel) ⟨(Nat.le_of_ble_eq_true rfl), (Nat.le_of_ble_eq_true rfl)⟩) (preW_V (hP.sub (ws' := [oX2 a g_length g_place g_fault, rI cyI (a 1) 150 g_bytes]) [0, 1] rfl) (hD.sub (ws' := [oX2 a g_length g_place g_fault, rI cyI (a 1) 150 g_bytes]) [0, 1] (by decide) rfl) hKK (va_recv hK hP (ci := 1) (q0 := 0) rfl rfl)) rfl rfl hl.1 rfl (lv_room (Nat.le_of_ble_eq_true rfl)) dX2_takeNumber_1 ⟨Nat.zero_le _, Nat.zero_le _⟩) hP hD hS hA [0, 1] [] [0, 1] rfl rfl (by decide) (by decide) rfl (by decide) (fun H4 L5 hP hD hS => ?_)
  refine lv_aload_n hx hb dX2_takeNumber_4 rfl (lv_at hl 0 rfl) ?_
  refine lv_bipush (v := 48) hx hb dX2_takeNumber_5 (by decide) ?_
  refine lv_bipush (v := 57) hx hb dX2_takeNumber_7 (by decide) ?_
  obtain ⟨u6, hu7, h8⟩ := bd_e h3
  refine kc_I (W.runV (As := [.int 48, .int 57]) (rest := []) ⟨hx, hb, hml, hown, hts⟩ (c_X2_runOf l D cyI cyJ cyS N a g_length u1 g_fault g_bytes 48 57 u6 hu7) (cwV 2 hts gX2_takeNumber_X2_runOf rfl rfl rfl (by decide +kernel) ⟨(Nat.le_of_ble_eq_true rfl), (Nat.le_of_ble_eq_true rfl)⟩) (preR_V (hP.sub (ws' := [oX2 a g_length u1 g_fault, rI cyI (a 1) 150 g_bytes]) [0, 1] rfl) hKK (va_recv hK hP (ci := 1) (q0 := 0) rfl rfl)) rfl rfl hl.1 rfl (lv_room (Nat.le_of_ble_eq_true rfl)) dX2_takeNumber_9 ⟨Nat.zero_le _, Nat.zero_le _⟩) ?_
  refine lv_istore_n (lv' := [(2, .int u6), (0, .ref (a 0)), (1, .int p1)]) hx hb dX2_takeNumber_12 rfl hl (by decide) rfl (fun ls hl => ?_)
  refine lv_iload_n hx hb dX2_takeNumber_13 rfl (lv_at hl 0 rfl) ?_
  refine lv_iconst (v := 1) hx hb dX2_takeNumber_14 (by decide) ?_
  obtain ⟨j10, hj11, h12⟩ := jn_e h8
  have Jj10 : ∀ (x9 : Int32) (H : Heap) (locs : List Loc) (ls : Array Slot), j10 x9 = some R0 → va_P D vwCl [oX2 a g_length u1 g_fault, rI cyI (a 1) 150 g_bytes] H → va_D A [oX2 a g_length u1 g_fault, rI cyI (a 1) 150 g_bytes] → va_S A s.heap H locs → lv_has ls 4 [(0, .ref (a 0)), (1, .int p1), (2, .int u6)] → W p l e (headSpec wsX2_takeNumber rm_X2_takeNumber).room s m ([.ref (a 0), .int p1] : List Value).toArray below meth c H locs 0 0 (MQ below (va_Qi (fun (r : Int32) (_ : Unit) => r = R0.1) (fun _ t => va_P D vwCl [oX2 a g_length R0.2.1 R0.2.2, rI cyI (a 1) 150 g_bytes] t.heap ∧ va_D A [oX2 a g_length R0.2.1 R0.2.2, rI cyI (a 1) 150 g_bytes]) A) ([.ref (a 0), .int p1] : List Value).toArray s 0 0 A) (F0 m 34 ls [.int x9]) := by
    intro x9 H14 L15 ls h13 hP hD hS hl
    rw [hj11] at h13
    refine lv_istore_n (lv' := [(3, .int x9), (0, .ref (a 0)), (1, .int p1), (2, .int u6)]) hx hb dX2_takeNumber_34 rfl hl (by decide) rfl (fun ls hl => ?_)
    refine lv_aload_n hx hb dX2_takeNumber_35 rfl (lv_at hl 1 rfl) ?_
    refine va_get (D := D) (cl := vwCl) (ci := 1) (v := .int g_fault) (C := RX2) (T := TX2) (N := 4) hx hb hts inX2 hown hK hP 0 rfl rfl 3 (by decide) (hts (Cond.fieldLink RX2 22 "FrozenIn$Text" "fault" "I") (List.mem_of_getElem? (i := 1) rfl)) (fun _ h9 => h9) rfl dX2_takeNumber_36 ?_
    refine lv_iconst (v := (-1)) hx hb dX2_takeNumber_39 (by decide) ?_
    obtain ⟨j16, hj17, h18⟩ := jn_e h13
    have Jj16 : ∀ (H : Heap) (locs : List Loc) (ls : Array Slot), j16 = some R0 → va_P D vwCl [oX2 a g_length u1 g_fault, rI cyI (a 1) 150 g_bytes] H → va_D A [oX2 a g_length u1 g_fault, rI cyI (a 1) 150 g_bytes] → va_S A s.heap H locs → lv_has ls 4 [(0, .ref (a 0))] → W p l e (headSpec wsX2_takeNumber rm_X2_takeNumber).room s m ([.ref (a 0), .int p1] : List Value).toArray below meth c H locs 0 0 (MQ below (va_Qi (fun (r : Int32) (_ : Unit) => r = R0.1) (fun _ t => va_P D vwCl [oX2 a g_length R0.2.1 R0.2.2, rI cyI (a 1) 150 g_bytes] t.heap ∧ va_D A [oX2 a g_length R0.2.1 R0.2.2, rI cyI (a 1) 150 g_bytes]) A) ([.ref (a 0), .int p1] : List Value).toArray s 0 0 A) (F0 m 48 ls []) := by
      intro H20 L21 ls h19 hP hD hS hl
      rw [hj17] at h19
      refine lv_aload_n hx hb dX2_takeNumber_48 rfl (lv_at hl 0 rfl) ?_
      obtain ⟨u22, hu23, h24⟩ := lt_e h19
      refine kw_V (wc := [oX2 a g_length u1 g_fault]) (wr := [rI cyI (a 1) 150 g_bytes]) (ws' := [oX2 a g_length u1 u22, rI cyI (a 1) 150 g_bytes]) (va_runV (As := []) (rest := []) ⟨hx, hb, hml, hown, hts⟩ (c_X2_fail l D cyI cyJ cyS a g_length u1 g_fault H20.size u22 hu23.symm) (cwV 0 hts gX2_takeNumber_X2_fail rfl rfl rfl (by decide +kernel) ⟨(Nat.le_of_ble_eq_true rfl), (Nat.le_of_ble_eq_true rfl)⟩) (preW_V (hP.sub (ws' := [oX2 a g_length u1 g_fault]) [0] rfl) (hD.sub (ws' := [oX2 a g_length u1 g_fault]) [0] (by decide) rfl) hKK (va_recv hK hP (ci := 1) (q0 := 0) rfl rfl)) rfl rfl hl.1 rfl (lv_room (Nat.le_of_ble_eq_true rfl)) dX2_takeNumber_49 ⟨Nat.zero_le _, Nat.zero_le _⟩) hP hD hS hA [0] [1] [1, 0] rfl rfl (by decide) (by decide) rfl (by decide) (fun H25 L26 hP hD hS => ?_)
      refine lv_iconst (v := 0) hx hb dX2_takeNumber_52 (by decide) ?_
      rw [← Option.some.inj h24]
      exact W.iret (v := 0) hx hb hr (fun t ht hW => ⟨⟨0, (), rfl, rfl, ⟨by rw [ht]; exact hP, hD⟩⟩, hS.F ht⟩) hS.2.2 dX2_takeNumber_53
    refine lv_icmp_ne (tgt := 48) hx hb dX2_takeNumber_40 (by decide) (fun c27 => ?_) (fun c27 => ?_)
    · have h28 := (if_neg c27).symm.trans h18
      exact Jj16  _ _ _ h28 hP hD hS (lv_sub hl [1] rfl)
    · have h29 := (if_pos c27).symm.trans h18
      refine lv_iload_n hx hb dX2_takeNumber_43 rfl (lv_at hl 0 rfl) ?_
      refine lv_iload_n hx hb dX2_takeNumber_44 rfl (lv_at hl 2 rfl) ?_
      refine lv_icmp_le (tgt := 54) hx hb dX2_takeNumber_45 (by decide) (fun c30 => ?_) (fun c30 => ?_)
      · have h31 := (if_pos c30).symm.trans h29
        refine lv_aload_n hx hb dX2_takeNumber_54 rfl (lv_at hl 1 rfl) ?_
        refine lv_dup hx hb dX2_takeNumber_55 rfl ?_
        refine va_get (D := D) (cl := vwCl) (ci := 1) (v := .int u1) (C := RX2) (T := TX2) (N := 4) hx hb hts inX2 hown hK hP 0 rfl rfl 2 (by decide) (hts (Cond.fieldLink RX2 19 "FrozenIn$Text" "place" "I") (List.mem_of_getElem? (i := 2) rfl)) (fun _ h9 => h9) rfl dX2_takeNumber_56 ?_
        refine lv_iload_n hx hb dX2_takeNumber_59 rfl (lv_at hl 3 rfl) ?_
        refine lv_iadd hx hb dX2_takeNumber_60 ?_
        refine va_put (D := D) (cl := vwCl) (ci := 1) (v := .int (u1 + u6)) (ty := .int) (C := RX2) (T := TX2) (N := 4) hx hb hts inX2 tyX2 tyX2_ok nmX2 hown hK hP hD hS 0 rfl rfl 2 (by decide) (hts (Cond.fieldLink RX2 19 "FrozenIn$Text" "place" "I") (List.mem_of_getElem? (i := 2) rfl)) (fun _ h9 => h9) rfl (by decide +kernel) rfl rfl (Nat.le_of_ble_eq_true rfl) dX2_takeNumber_61 (fun H32 L33 hP hD hS => ?_)
        have hP : va_P D vwCl [oX2 a g_length (u1 + u6) g_fault, rI cyI (a 1) 150 g_bytes] H32 := hP
        have hD : va_D A [oX2 a g_length (u1 + u6) g_fault, rI cyI (a 1) 150 g_bytes] := hD
        refine lv_iload_n hx hb dX2_takeNumber_64 rfl (lv_at hl 0 rfl) ?_
        rw [← Option.some.inj h31]
        exact W.iret (v := x9) hx hb hr (fun t ht hW => ⟨⟨x9, (), rfl, rfl, ⟨by rw [ht]; exact hP, hD⟩⟩, hS.F ht⟩) hS.2.2 dX2_takeNumber_65
      · have h34 := (if_neg c30).symm.trans h29
        exact Jj16  _ _ _ h34 hP hD hS (lv_sub hl [1] rfl)
  obtain ⟨j35, hj36, h37⟩ := jn_e h12
  have Jj35 : ∀ (H : Heap) (locs : List Loc) (ls : Array Slot), j35 = some R0 → va_P D vwCl [oX2 a g_length u1 g_fault, rI cyI (a 1) 150 g_bytes] H → va_D A [oX2 a g_length u1 g_fault, rI cyI (a 1) 150 g_bytes] → va_S A s.heap H locs → lv_has ls 4 [(0, .ref (a 0)), (1, .int p1), (2, .int u6)] → W p l e (headSpec wsX2_takeNumber rm_X2_takeNumber).room s m ([.ref (a 0), .int p1] : List Value).toArray below meth c H locs 0 0 (MQ below (va_Qi (fun (r : Int32) (_ : Unit) => r = R0.1) (fun _ t => va_P D vwCl [oX2 a g_length R0.2.1 R0.2.2, rI cyI (a 1) 150 g_bytes] t.heap ∧ va_D A [oX2 a g_length R0.2.1 R0.2.2, rI cyI (a 1) 150 g_bytes]) A) ([.ref (a 0), .int p1] : List Value).toArray s 0 0 A) (F0 m 23 ls []) := by
    intro H39 L40 ls h38 hP hD hS hl
    rw [hj36] at h38
    refine lv_aload_n hx hb dX2_takeNumber_23 rfl (lv_at hl 0 rfl) ?_
    refine lv_iload_n hx hb dX2_takeNumber_24 rfl (lv_at hl 2 rfl) ?_
    obtain ⟨u41, hu42, h43⟩ := bd_e h38
    refine kc_I (W.runV (As := [.int u6]) (rest := []) ⟨hx, hb, hml, hown, hts⟩ (c_X2_numberOf l D cyI cyJ cyS N a g_length u1 g_fault g_bytes u6 u41 hu42) (cwV 1 hts gX2_takeNumber_X2_numberOf rfl rfl rfl (by decide +kernel) ⟨(Nat.le_of_ble_eq_true rfl), (Nat.le_of_ble_eq_true rfl)⟩) (preR_V (hP.sub (ws' := [oX2 a g_length u1 g_fault, rI cyI (a 1) 150 g_bytes]) [0, 1] rfl) hKK (va_recv hK hP (ci := 1) (q0 := 0) rfl rfl)) rfl rfl hl.1 rfl (lv_room (Nat.le_of_ble_eq_true rfl)) dX2_takeNumber_25 ⟨Nat.zero_le _, Nat.zero_le _⟩) ?_
    refine lv_goto (tgt := 34) hx hb dX2_takeNumber_28 (by decide) ?_
    exact Jj10 u41 _ _ _ h43 hP hD hS (lv_sub hl [0, 1, 2] rfl)
  refine lv_icmp_eq (tgt := 23) hx hb dX2_takeNumber_15 (by decide) (fun c44 => ?_) (fun c44 => ?_)
  · have h45 := (if_pos c44).symm.trans h37
    exact Jj35  _ _ _ h45 hP hD hS (lv_sub hl [1, 2, 0] rfl)
  · have h46 := (if_neg c44).symm.trans h37
    refine lv_iload_n hx hb dX2_takeNumber_18 rfl (lv_at hl 0 rfl) ?_
    refine lv_iconst (v := 2) hx hb dX2_takeNumber_19 (by decide) ?_
    refine lv_icmp_ne (tgt := 31) hx hb dX2_takeNumber_20 (by decide) (fun c47 => ?_) (fun c47 => ?_)
    · have h48 := (if_neg c47).symm.trans h46
      refine lv_iload_n hx hb dX2_takeNumber_31 rfl (lv_at hl 2 rfl) ?_
      refine lv_iconst (v := 1) hx hb dX2_takeNumber_32 (by decide) ?_
      refine lv_iadd hx hb dX2_takeNumber_33 ?_
      exact Jj10 (p1 + 1) _ _ _ h48 hP hD hS (lv_sub hl [1, 2, 0] rfl)
    · have h49 := (if_pos c47).symm.trans h46
      exact Jj35  _ _ _ h49 hP hD hS (lv_sub hl [1, 2, 0] rfl)
def T_X2_takeEnd (N : Nat) (g_length : Int32) (g_place : Int32) (g_fault : Int32) (g_bytes : Nat → Int32) : Option (Int32 × Int32) :=
  (Option.bind (T_X2_skipBlanks N g_length g_place g_bytes) fun u1 => (jn (lt' (T_X2_fail u1 g_fault) fun u12 => (some (u1, u12))) fun j6 => (if g_fault = (-1) then (if g_length ≤ u1 then j6 else (ob u1 150 (if (g_bytes u1.toNatClampNeg) = 59 then (some (u1 + 1, g_fault)) else j6))) else j6)))
abbrev rm_X2_takeEnd : Room := { frames := 1, cells := 0, slots := 0, locals := 20 }
set_option maxHeartbeats 4000000 in
set_option maxRecDepth 100000 in
theorem c_X2_takeEnd (l : Launch) (D : va_G) (cyI cyJ cyS : ClassId) (N : Nat) (a : Nat → Nat) (g_length : Int32) (g_place : Int32) (g_fault : Int32) (g_bytes : Nat → Int32) (sz : Nat) (R0 : Int32 × Int32) (hT : T_X2_takeEnd N g_length g_place g_fault g_bytes = some R0) : Met l yX2_takeEnd wsX2_takeEnd rm_X2_takeEnd (va_Pc [.ref (a 0)] (preW D (tyS cyI cyJ cyS) [oX2 a g_length g_place g_fault, rI cyI (a 1) 150 g_bytes] sz)) (va_Qv (fun (_ : Unit) => True) (fun _ t => va_P D vwCl [oX2 a g_length R0.1 R0.2, rI cyI (a 1) 150 g_bytes] t.heap ∧ va_D (va_A [oX2 a g_length g_place g_fault, rI cyI (a 1) 150 g_bytes] sz) [oX2 a g_length R0.1 R0.2, rI cyI (a 1) 150 g_bytes]) (va_A [oX2 a g_length g_place g_fault, rI cyI (a 1) 150 g_bytes] sz)) 0 0 (va_A [oX2 a g_length g_place g_fault, rI cyI (a 1) 150 g_bytes] sz) := by
  refine Met.ofW (cc := cX2_takeEnd) (maxL := 1) (ret := none) (by decide) rfl ?_
  intro p e s m args below meth c s₁ B hml hv
  obtain ⟨rfl, hsz, hP, hKK, hD0⟩ := hv
  have hx := B.exec
  have hb := B.bytes
  have hr := B.returns
  have hts := atoms_spec (ws := wsX2_takeEnd) B.pre
  have hown : s.vm.findClass RX2 = some m.cls := findClass_of_methodNamed B.named
  have hlocks := B.notSynchronized
  have hK := hKK.1
  have inX2 : ∀ w ∈ wsX20, w ∈ wsX2_takeEnd := (fun _ h => List.mem_cons_of_mem _ (List.mem_append_right _ h))
  subst hsz
  have hD := hD0.self (sz := s.heap.size)
  generalize hAe : va_A [oX2 a g_length g_place g_fault, rI cyI (a 1) 150 g_bytes] s.heap.size = A at hD ⊢
  have hA : ∀ q : Nat, s.heap.size ≤ q → A q := fun q h => by rw [← hAe]; exact Or.inr h
  have hS : va_S A s.heap s.heap [] := va_S.rf
  have hP : va_P D vwCl [oX2 a g_length g_place g_fault, rI cyI (a 1) 150 g_bytes] s.heap := hP
  have hl := lv_entry [.ref (a 0)] (n := 1) (Nat.le_of_ble_eq_true rfl)
  rw [lg_entry_eq]
  generalize (lg_sl [.ref (a 0)] ++ List.replicate (1 - (lg_sl [.ref (a 0)]).length) Slot.unset).toArray = ls at hl ⊢
  have hl : lv_has ls 1 [(0, .ref (a 0))] := hl
  unfold T_X2_takeEnd at hT
  refine lv_aload_n hx hb dX2_takeEnd_0 rfl (lv_at hl 0 rfl) ?_
  obtain ⟨u1, hu2, h3⟩ := bd_e hT
  refine kw_V (wc := [oX2 a g_length g_place g_fault, rI cyI (a 1) 150 g_bytes]) (wr := []) (ws' := [oX2 a g_length u1 g_fault, rI cyI (a 1) 150 g_bytes]) (va_runV (As := []) (rest := []) ⟨hx, hb, hml, hown, hts⟩ (c_X2_skipBlanks l D cyI cyJ cyS N a g_length g_place g_fault g_bytes s.heap.size u1 hu2) (cwV 0 hts gX2_takeEnd_X2_skipBlanks rfl rfl rfl (by decide +kernel) ⟨(Nat.le_of_ble_eq_true rfl), (Nat.le_of_ble_eq_true rfl)⟩) (preW_V (hP.sub (ws' := [oX2 a g_length g_place g_fault, rI cyI (a 1) 150 g_bytes]) [0, 1] rfl) (hD.sub (ws' := [oX2 a g_length g_place g_fault, rI cyI (a 1) 150 g_bytes]) [0, 1] (by decide) rfl) hKK (va_recv hK hP (ci := 1) (q0 := 0) rfl rfl)) rfl rfl hl.1 rfl (lv_room (Nat.le_of_ble_eq_true rfl)) dX2_takeEnd_1 ⟨Nat.zero_le _, Nat.zero_le _⟩) hP hD hS hA [0, 1] [] [0, 1] rfl rfl (by decide) (by decide) rfl (by decide) (fun H4 L5 hP hD hS => ?_)
  refine lv_aload_n hx hb dX2_takeEnd_4 rfl (lv_at hl 0 rfl) ?_
  refine va_get (D := D) (cl := vwCl) (ci := 1) (v := .int g_fault) (C := RX2) (T := TX2) (N := 4) hx hb hts inX2 hown hK hP 0 rfl rfl 3 (by decide) (hts (Cond.fieldLink RX2 22 "FrozenIn$Text" "fault" "I") (List.mem_of_getElem? (i := 1) rfl)) (fun _ h9 => h9) rfl dX2_takeEnd_5 ?_
  refine lv_iconst (v := (-1)) hx hb dX2_takeEnd_8 (by decide) ?_
  obtain ⟨j6, hj7, h8⟩ := jn_e h3
  have Jj6 : ∀ (H : Heap) (locs : List Loc) (ls : Array Slot), j6 = some R0 → va_P D vwCl [oX2 a g_length u1 g_fault, rI cyI (a 1) 150 g_bytes] H → va_D A [oX2 a g_length u1 g_fault, rI cyI (a 1) 150 g_bytes] → va_S A s.heap H locs → lv_has ls 1 [(0, .ref (a 0))] → W p l e (headSpec wsX2_takeEnd rm_X2_takeEnd).room s m ([.ref (a 0)] : List Value).toArray below meth c H locs 0 0 (MQ below (va_Qv (fun (_ : Unit) => True) (fun _ t => va_P D vwCl [oX2 a g_length R0.1 R0.2, rI cyI (a 1) 150 g_bytes] t.heap ∧ va_D A [oX2 a g_length R0.1 R0.2, rI cyI (a 1) 150 g_bytes]) A) ([.ref (a 0)] : List Value).toArray s 0 0 A) (F0 m 50 ls []) := by
    intro H10 L11 ls h9 hP hD hS hl
    rw [hj7] at h9
    refine lv_aload_n hx hb dX2_takeEnd_50 rfl (lv_at hl 0 rfl) ?_
    obtain ⟨u12, hu13, h14⟩ := lt_e h9
    refine kw_V (wc := [oX2 a g_length u1 g_fault]) (wr := [rI cyI (a 1) 150 g_bytes]) (ws' := [oX2 a g_length u1 u12, rI cyI (a 1) 150 g_bytes]) (va_runV (As := []) (rest := []) ⟨hx, hb, hml, hown, hts⟩ (c_X2_fail l D cyI cyJ cyS a g_length u1 g_fault H10.size u12 hu13.symm) (cwV 0 hts gX2_takeEnd_X2_fail rfl rfl rfl (by decide +kernel) ⟨(Nat.le_of_ble_eq_true rfl), (Nat.le_of_ble_eq_true rfl)⟩) (preW_V (hP.sub (ws' := [oX2 a g_length u1 g_fault]) [0] rfl) (hD.sub (ws' := [oX2 a g_length u1 g_fault]) [0] (by decide) rfl) hKK (va_recv hK hP (ci := 1) (q0 := 0) rfl rfl)) rfl rfl hl.1 rfl (lv_room (Nat.le_of_ble_eq_true rfl)) dX2_takeEnd_51 ⟨Nat.zero_le _, Nat.zero_le _⟩) hP hD hS hA [0] [1] [1, 0] rfl rfl (by decide) (by decide) rfl (by decide) (fun H15 L16 hP hD hS => ?_)
    rw [← Option.some.inj h14]
    exact W.vret hx hb hr (fun t ht hW => ⟨⟨(), rfl, trivial, ⟨by rw [ht]; exact hP, hD⟩⟩, hS.F ht⟩) hS.2.2 dX2_takeEnd_54
  refine lv_icmp_ne (tgt := 50) hx hb dX2_takeEnd_9 (by decide) (fun c17 => ?_) (fun c17 => ?_)
  · have h18 := (if_neg c17).symm.trans h8
    exact Jj6  _ _ _ h18 hP hD hS (lv_sub hl [0] rfl)
  · have h19 := (if_pos c17).symm.trans h8
    refine lv_aload_n hx hb dX2_takeEnd_12 rfl (lv_at hl 0 rfl) ?_
    refine va_get (D := D) (cl := vwCl) (ci := 1) (v := .int u1) (C := RX2) (T := TX2) (N := 4) hx hb hts inX2 hown hK hP 0 rfl rfl 2 (by decide) (hts (Cond.fieldLink RX2 19 "FrozenIn$Text" "place" "I") (List.mem_of_getElem? (i := 2) rfl)) (fun _ h9 => h9) rfl dX2_takeEnd_13 ?_
    refine lv_aload_n hx hb dX2_takeEnd_16 rfl (lv_at hl 0 rfl) ?_
    refine va_get (D := D) (cl := vwCl) (ci := 1) (v := .int g_length) (C := RX2) (T := TX2) (N := 4) hx hb hts inX2 hown hK hP 0 rfl rfl 1 (by decide) (hts (Cond.fieldLink RX2 15 "FrozenIn$Text" "length" "I") (List.mem_of_getElem? (i := 3) rfl)) (fun _ h9 => h9) rfl dX2_takeEnd_17 ?_
    refine lv_icmp_ge (tgt := 50) hx hb dX2_takeEnd_20 (by decide) (fun c20 => ?_) (fun c20 => ?_)
    · have h21 := (if_pos c20).symm.trans h19
      exact Jj6  _ _ _ h21 hP hD hS (lv_sub hl [0] rfl)
    · have h22 := (if_neg c20).symm.trans h19
      refine lv_aload_n hx hb dX2_takeEnd_23 rfl (lv_at hl 0 rfl) ?_
      refine va_get (D := D) (cl := vwCl) (ci := 1) (v := .ref (a 1)) (C := RX2) (T := TX2) (N := 4) hx hb hts inX2 hown hK hP 0 rfl rfl 0 (by decide) (hts (Cond.fieldLink RX2 9 "FrozenIn$Text" "bytes" "[I") (List.mem_of_getElem? (i := 4) rfl)) (fun _ h9 => h9) rfl dX2_takeEnd_24 ?_
      refine lv_aload_n hx hb dX2_takeEnd_27 rfl (lv_at hl 0 rfl) ?_
      refine va_get (D := D) (cl := vwCl) (ci := 1) (v := .int u1) (C := RX2) (T := TX2) (N := 4) hx hb hts inX2 hown hK hP 0 rfl rfl 2 (by decide) (hts (Cond.fieldLink RX2 19 "FrozenIn$Text" "place" "I") (List.mem_of_getElem? (i := 2) rfl)) (fun _ h9 => h9) rfl dX2_takeEnd_28 ?_
      obtain ⟨hi24, h23⟩ := ob_e h22
      refine va_iald hx hb hK hP 1 0 rfl rfl hi24 dX2_takeEnd_31 ?_
      refine lv_bipush (v := 59) hx hb dX2_takeEnd_32 (by decide) ?_
      refine lv_icmp_ne (tgt := 50) hx hb dX2_takeEnd_34 (by decide) (fun c25 => ?_) (fun c25 => ?_)
      · have h26 := (if_neg c25).symm.trans h23
        exact Jj6  _ _ _ h26 hP hD hS (lv_sub hl [0] rfl)
      · have h27 := (if_pos c25).symm.trans h23
        refine lv_aload_n hx hb dX2_takeEnd_37 rfl (lv_at hl 0 rfl) ?_
        refine lv_dup hx hb dX2_takeEnd_38 rfl ?_
        refine va_get (D := D) (cl := vwCl) (ci := 1) (v := .int u1) (C := RX2) (T := TX2) (N := 4) hx hb hts inX2 hown hK hP 0 rfl rfl 2 (by decide) (hts (Cond.fieldLink RX2 19 "FrozenIn$Text" "place" "I") (List.mem_of_getElem? (i := 2) rfl)) (fun _ h9 => h9) rfl dX2_takeEnd_39 ?_
        refine lv_iconst (v := 1) hx hb dX2_takeEnd_42 (by decide) ?_
        refine lv_iadd hx hb dX2_takeEnd_43 ?_
        refine va_put (D := D) (cl := vwCl) (ci := 1) (v := .int (u1 + 1)) (ty := .int) (C := RX2) (T := TX2) (N := 4) hx hb hts inX2 tyX2 tyX2_ok nmX2 hown hK hP hD hS 0 rfl rfl 2 (by decide) (hts (Cond.fieldLink RX2 19 "FrozenIn$Text" "place" "I") (List.mem_of_getElem? (i := 2) rfl)) (fun _ h9 => h9) rfl (by decide +kernel) rfl rfl (Nat.le_of_ble_eq_true rfl) dX2_takeEnd_44 (fun H28 L29 hP hD hS => ?_)
        have hP : va_P D vwCl [oX2 a g_length (u1 + 1) g_fault, rI cyI (a 1) 150 g_bytes] H28 := hP
        have hD : va_D A [oX2 a g_length (u1 + 1) g_fault, rI cyI (a 1) 150 g_bytes] := hD
        refine lv_goto (tgt := 54) hx hb dX2_takeEnd_47 (by decide) ?_
        rw [← Option.some.inj h27]
        exact W.vret hx hb hr (fun t ht hW => ⟨⟨(), rfl, trivial, ⟨by rw [ht]; exact hP, hD⟩⟩, hS.F ht⟩) hS.2.2 dX2_takeEnd_54
def T_X2_readSea (N : Nat) (g_length : Int32) (g_place : Int32) (g_fault : Int32) (g_bytes : Nat → Int32) (gp1_month : Int32) (gp1_floes : Int32) (gp1_founds : Int32) (gp1_notes : Int32) (gp1_undos : Int32) (gp1_ways : Nat → Int32) (gp1_strengths : Nat → Int32) : Option (Int32 × Int32 × Int32 × Int32 × Int32 × Int32 × Int32 × (Nat → Int32) × (Nat → Int32)) :=
  (Option.bind (T_X2_skipBlanks N g_length g_place g_bytes) fun u1 => (Option.bind (T_X2_takeWord N g_length u1 g_bytes 0) fun u6 => (jn (fun (z12 : Int32) => (Option.bind (T_X2_takeNumber N g_length u6.2 z12 g_bytes 99) fun u19 => (lt' u19.1 fun x24 => (Option.bind (T_X2_takeEnd N g_length u19.2.1 u19.2.2 g_bytes) fun u26 => (Option.bind (T_X1_begin N gp1_month gp1_floes gp1_founds gp1_notes gp1_undos gp1_ways gp1_strengths x24) fun u31 => (some (u26.1, u26.2, u31.1, u31.2.1, u31.2.2.1, u31.2.2.2.1, u31.2.2.2.2.1, u31.2.2.2.2.2.1, u31.2.2.2.2.2.2))))))) fun j13 => (if u6.1 = 0 then (lt' (T_X2_fail u6.2 g_fault) fun u39 => (j13 u39)) else (j13 g_fault)))))
abbrev rm_X2_readSea : Room := { frames := 5, cells := 0, slots := 0, locals := 108 }
set_option maxHeartbeats 4000000 in
set_option maxRecDepth 100000 in
theorem c_X2_readSea (l : Launch) (D : va_G) (cyI cyJ cyS : ClassId) (N : Nat) (a b1 : Nat → Nat) (g_length : Int32) (g_place : Int32) (g_fault : Int32) (g_bytes : Nat → Int32) (gp1_month : Int32) (gp1_floes : Int32) (gp1_founds : Int32) (gp1_notes : Int32) (gp1_undos : Int32) (gp1_ways : Nat → Int32) (gp1_strengths : Nat → Int32) (adK adV : Nat → Nat) (t0 : Option Nat) (sz : Nat) (R0 : Int32 × Int32 × Int32 × Int32 × Int32 × Int32 × Int32 × (Nat → Int32) × (Nat → Int32)) (hT : T_X2_readSea N g_length g_place g_fault g_bytes gp1_month gp1_floes gp1_founds gp1_notes gp1_undos gp1_ways gp1_strengths = some R0) : Met l yX2_readSea wsX2_readSea rm_X2_readSea (va_Pc [.ref (a 0), .ref (b1 0)] (preWS D (tyS cyI cyJ cyS) [oX2 a g_length g_place g_fault, rI cyI (a 1) 150 g_bytes, oX1 b1 gp1_month gp1_floes gp1_founds gp1_notes gp1_undos, rI cyI (b1 1) 12 gp1_ways, rI cyI (b1 2) 12 gp1_strengths] sz adK adV t0)) (va_Qv (fun (_ : Unit) => True) (fun _ t => va_P D vwCl [oX2 a g_length R0.1 R0.2.1, rI cyI (a 1) 150 g_bytes, oX1 b1 R0.2.2.1 R0.2.2.2.1 R0.2.2.2.2.1 R0.2.2.2.2.2.1 R0.2.2.2.2.2.2.1, rI cyI (b1 1) 12 R0.2.2.2.2.2.2.2.1, rI cyI (b1 2) 12 R0.2.2.2.2.2.2.2.2] t.heap ∧ va_D (va_A [oX2 a g_length g_place g_fault, rI cyI (a 1) 150 g_bytes, oX1 b1 gp1_month gp1_floes gp1_founds gp1_notes gp1_undos, rI cyI (b1 1) 12 gp1_ways, rI cyI (b1 2) 12 gp1_strengths] sz) [oX2 a g_length R0.1 R0.2.1, rI cyI (a 1) 150 g_bytes, oX1 b1 R0.2.2.1 R0.2.2.2.1 R0.2.2.2.2.1 R0.2.2.2.2.2.1 R0.2.2.2.2.2.2.1, rI cyI (b1 1) 12 R0.2.2.2.2.2.2.2.1, rI cyI (b1 2) 12 R0.2.2.2.2.2.2.2.2]) (va_A [oX2 a g_length g_place g_fault, rI cyI (a 1) 150 g_bytes, oX1 b1 gp1_month gp1_floes gp1_founds gp1_notes gp1_undos, rI cyI (b1 1) 12 gp1_ways, rI cyI (b1 2) 12 gp1_strengths] sz)) 0 0 (va_A [oX2 a g_length g_place g_fault, rI cyI (a 1) 150 g_bytes, oX1 b1 gp1_month gp1_floes gp1_founds gp1_notes gp1_undos, rI cyI (b1 1) 12 gp1_ways, rI cyI (b1 2) 12 gp1_strengths] sz) := by
  refine Met.ofW (cc := cX2_readSea) (maxL := 3) (ret := none) (by decide) rfl ?_
  intro p e s m args below meth c s₁ B hml hv
  obtain ⟨rfl, hsz, hP, hKK, hD0, hSS, hKR⟩ := hv
  have hx := B.exec
  have hb := B.bytes
  have hr := B.returns
  have hts := atoms_spec (ws := wsX2_readSea) B.pre
  have hown : s.vm.findClass RX2 = some m.cls := findClass_of_methodNamed B.named
  have hlocks := B.notSynchronized
  have hK := hKK.1
  have inX2 : ∀ w ∈ wsX20, w ∈ wsX2_readSea := (fun _ h => List.mem_cons_of_mem _ (List.mem_append_left _ (List.mem_append_right _ h)))
  have inX1 : ∀ w ∈ wsX10, w ∈ wsX2_readSea := (fun _ h => List.mem_cons_of_mem _ (List.mem_append_right _ h))
  subst hsz
  have hD := hD0.self (sz := s.heap.size)
  generalize hAe : va_A [oX2 a g_length g_place g_fault, rI cyI (a 1) 150 g_bytes, oX1 b1 gp1_month gp1_floes gp1_founds gp1_notes gp1_undos, rI cyI (b1 1) 12 gp1_ways, rI cyI (b1 2) 12 gp1_strengths] s.heap.size = A at hD hSS ⊢
  have hA : ∀ q : Nat, s.heap.size ≤ q → A q := fun q h => by rw [← hAe]; exact Or.inr h
  have hS : va_S A s.heap s.heap [] := va_S.rf
  have hP : va_P D vwCl [oX2 a g_length g_place g_fault, rI cyI (a 1) 150 g_bytes, oX1 b1 gp1_month gp1_floes gp1_founds gp1_notes gp1_undos, rI cyI (b1 1) 12 gp1_ways, rI cyI (b1 2) 12 gp1_strengths] s.heap := hP
  have hl := lv_entry [.ref (a 0), .ref (b1 0)] (n := 3) (Nat.le_of_ble_eq_true rfl)
  rw [lg_entry_eq]
  generalize (lg_sl [.ref (a 0), .ref (b1 0)] ++ List.replicate (3 - (lg_sl [.ref (a 0), .ref (b1 0)]).length) Slot.unset).toArray = ls at hl ⊢
  have hl : lv_has ls 3 [(0, .ref (a 0)), (1, .ref (b1 0))] := hl
  unfold T_X2_readSea at hT
  refine lv_aload_n hx hb dX2_readSea_0 rfl (lv_at hl 0 rfl) ?_
  obtain ⟨u1, hu2, h3⟩ := bd_e hT
  refine kw_V (wc := [oX2 a g_length g_place g_fault, rI cyI (a 1) 150 g_bytes]) (wr := [oX1 b1 gp1_month gp1_floes gp1_founds gp1_notes gp1_undos, rI cyI (b1 1) 12 gp1_ways, rI cyI (b1 2) 12 gp1_strengths]) (ws' := [oX2 a g_length u1 g_fault, rI cyI (a 1) 150 g_bytes, oX1 b1 gp1_month gp1_floes gp1_founds gp1_notes gp1_undos, rI cyI (b1 1) 12 gp1_ways, rI cyI (b1 2) 12 gp1_strengths]) (va_runV (As := []) (rest := []) ⟨hx, hb, hml, hown, hts⟩ (c_X2_skipBlanks l D cyI cyJ cyS N a g_length g_place g_fault g_bytes s.heap.size u1 hu2) (cwV 0 hts gX2_readSea_X2_skipBlanks rfl rfl rfl (by decide +kernel) ⟨(Nat.le_of_ble_eq_true rfl), (Nat.le_of_ble_eq_true rfl)⟩) (preW_V (hP.sub (ws' := [oX2 a g_length g_place g_fault, rI cyI (a 1) 150 g_bytes]) [0, 1] rfl) (hD.sub (ws' := [oX2 a g_length g_place g_fault, rI cyI (a 1) 150 g_bytes]) [0, 1] (by decide) rfl) hKK (va_recv hK hP (ci := 1) (q0 := 0) rfl rfl)) rfl rfl hl.1 rfl (lv_room (Nat.le_of_ble_eq_true rfl)) dX2_readSea_1 ⟨Nat.zero_le _, Nat.zero_le _⟩) hP hD hS hA [0, 1] [2, 3, 4] [3, 4, 0, 1, 2] rfl rfl (by decide) (by decide) rfl (by decide) (fun H4 L5 hP hD hS => ?_)
  refine lv_aload_n hx hb dX2_readSea_4 rfl (lv_at hl 0 rfl) ?_
  refine va_ldcS hx hb hown hKR.1 dX2_readSea_5 ?_
  obtain ⟨u6, hu7, h8⟩ := bd_e h3
  refine kw_Z (wc := [oX2 a g_length u1 g_fault, rI cyI (a 1) 150 g_bytes]) (wr := [oX1 b1 gp1_month gp1_floes gp1_founds gp1_notes gp1_undos, rI cyI (b1 1) 12 gp1_ways, rI cyI (b1 2) 12 gp1_strengths]) (ws' := [oX2 a g_length u6.2 g_fault, rI cyI (a 1) 150 g_bytes, oX1 b1 gp1_month gp1_floes gp1_founds gp1_notes gp1_undos, rI cyI (b1 1) 12 gp1_ways, rI cyI (b1 2) 12 gp1_strengths]) (va_runV (As := [.ref (adK 0)]) (rest := []) ⟨hx, hb, hml, hown, hts⟩ (c_X2_takeWord l D cyI cyJ cyS N a g_length u1 g_fault g_bytes 0 (by decide) adK adV t0 H4.size u6 hu7) (cwV 1 hts gX2_readSea_X2_takeWord rfl rfl rfl (by decide +kernel) ⟨(Nat.le_of_ble_eq_true rfl), (Nat.le_of_ble_eq_true rfl)⟩) (preWS_V (hP.sub (ws' := [oX2 a g_length u1 g_fault, rI cyI (a 1) 150 g_bytes]) [0, 1] rfl) (hD.sub (ws' := [oX2 a g_length u1 g_fault, rI cyI (a 1) 150 g_bytes]) [0, 1] (by decide) rfl) hKK (SS_narrow (SS_kept hSS hS.2.1) (va_free (wc := [oX2 a g_length u1 g_fault, rI cyI (a 1) 150 g_bytes]) hD hS hA [0, 1] rfl)) hKR (va_recv hK hP (ci := 1) (q0 := 0) rfl rfl)) rfl rfl hl.1 rfl (lv_room (Nat.le_of_ble_eq_true rfl)) dX2_readSea_7 ⟨Nat.zero_le _, Nat.zero_le _⟩) hP hD hS hA [0, 1] [2, 3, 4] [3, 4, 0, 1, 2] rfl rfl (by decide) (by decide) rfl (by decide) (fun H9 L10 hn11 hP hD hS => ?_)
  obtain ⟨j13, hj14, h15⟩ := jn_e h8
  have Jj13 : ∀ (z12 : Int32) (H : Heap) (locs : List Loc) (ls : Array Slot), j13 z12 = some R0 → va_P D vwCl [oX2 a g_length u6.2 z12, rI cyI (a 1) 150 g_bytes, oX1 b1 gp1_month gp1_floes gp1_founds gp1_notes gp1_undos, rI cyI (b1 1) 12 gp1_ways, rI cyI (b1 2) 12 gp1_strengths] H → va_D A [oX2 a g_length u6.2 z12, rI cyI (a 1) 150 g_bytes, oX1 b1 gp1_month gp1_floes gp1_founds gp1_notes gp1_undos, rI cyI (b1 1) 12 gp1_ways, rI cyI (b1 2) 12 gp1_strengths] → va_S A s.heap H locs → lv_has ls 3 [(0, .ref (a 0)), (1, .ref (b1 0))] → W p l e (headSpec wsX2_readSea rm_X2_readSea).room s m ([.ref (a 0), .ref (b1 0)] : List Value).toArray below meth c H locs 0 0 (MQ below (va_Qv (fun (_ : Unit) => True) (fun _ t => va_P D vwCl [oX2 a g_length R0.1 R0.2.1, rI cyI (a 1) 150 g_bytes, oX1 b1 R0.2.2.1 R0.2.2.2.1 R0.2.2.2.2.1 R0.2.2.2.2.2.1 R0.2.2.2.2.2.2.1, rI cyI (b1 1) 12 R0.2.2.2.2.2.2.2.1, rI cyI (b1 2) 12 R0.2.2.2.2.2.2.2.2] t.heap ∧ va_D A [oX2 a g_length R0.1 R0.2.1, rI cyI (a 1) 150 g_bytes, oX1 b1 R0.2.2.1 R0.2.2.2.1 R0.2.2.2.2.1 R0.2.2.2.2.2.1 R0.2.2.2.2.2.2.1, rI cyI (b1 1) 12 R0.2.2.2.2.2.2.2.1, rI cyI (b1 2) 12 R0.2.2.2.2.2.2.2.2]) A) ([.ref (a 0), .ref (b1 0)] : List Value).toArray s 0 0 A) (F0 m 17 ls []) := by
    intro z12 H17 L18 ls h16 hP hD hS hl
    rw [hj14] at h16
    refine lv_aload_n hx hb dX2_readSea_17 rfl (lv_at hl 0 rfl) ?_
    refine lv_bipush (v := 99) hx hb dX2_readSea_18 (by decide) ?_
    obtain ⟨u19, hu20, h21⟩ := bd_e h16
    refine kw_I (wc := [oX2 a g_length u6.2 z12, rI cyI (a 1) 150 g_bytes]) (wr := [oX1 b1 gp1_month gp1_floes gp1_founds gp1_notes gp1_undos, rI cyI (b1 1) 12 gp1_ways, rI cyI (b1 2) 12 gp1_strengths]) (ws' := [oX2 a g_length u19.2.1 u19.2.2, rI cyI (a 1) 150 g_bytes, oX1 b1 gp1_month gp1_floes gp1_founds gp1_notes gp1_undos, rI cyI (b1 1) 12 gp1_ways, rI cyI (b1 2) 12 gp1_strengths]) (va_runV (As := [.int 99]) (rest := []) ⟨hx, hb, hml, hown, hts⟩ (c_X2_takeNumber l D cyI cyJ cyS N a g_length u6.2 z12 g_bytes 99 H17.size u19 hu20) (cwV 1 hts gX2_readSea_X2_takeNumber rfl rfl rfl (by decide +kernel) ⟨(Nat.le_of_ble_eq_true rfl), (Nat.le_of_ble_eq_true rfl)⟩) (preW_V (hP.sub (ws' := [oX2 a g_length u6.2 z12, rI cyI (a 1) 150 g_bytes]) [0, 1] rfl) (hD.sub (ws' := [oX2 a g_length u6.2 z12, rI cyI (a 1) 150 g_bytes]) [0, 1] (by decide) rfl) hKK (va_recv hK hP (ci := 1) (q0 := 0) rfl rfl)) rfl rfl hl.1 rfl (lv_room (Nat.le_of_ble_eq_true rfl)) dX2_readSea_20 ⟨Nat.zero_le _, Nat.zero_le _⟩) hP hD hS hA [0, 1] [2, 3, 4] [3, 4, 0, 1, 2] rfl rfl (by decide) (by decide) rfl (by decide) (fun H22 L23 hP hD hS => ?_)
    obtain ⟨x24, ex24, h25⟩ := lt_e h21
    refine lv_nm ex24 ?_
    refine lv_istore_n (lv' := [(2, .int x24), (0, .ref (a 0)), (1, .ref (b1 0))]) hx hb dX2_readSea_23 rfl hl (by decide) rfl (fun ls hl => ?_)
    refine lv_aload_n hx hb dX2_readSea_24 rfl (lv_at hl 1 rfl) ?_
    obtain ⟨u26, hu27, h28⟩ := bd_e h25
    refine kw_V (wc := [oX2 a g_length u19.2.1 u19.2.2, rI cyI (a 1) 150 g_bytes]) (wr := [oX1 b1 gp1_month gp1_floes gp1_founds gp1_notes gp1_undos, rI cyI (b1 1) 12 gp1_ways, rI cyI (b1 2) 12 gp1_strengths]) (ws' := [oX2 a g_length u26.1 u26.2, rI cyI (a 1) 150 g_bytes, oX1 b1 gp1_month gp1_floes gp1_founds gp1_notes gp1_undos, rI cyI (b1 1) 12 gp1_ways, rI cyI (b1 2) 12 gp1_strengths]) (va_runV (As := []) (rest := []) ⟨hx, hb, hml, hown, hts⟩ (c_X2_takeEnd l D cyI cyJ cyS N a g_length u19.2.1 u19.2.2 g_bytes H22.size u26 hu27) (cwV 0 hts gX2_readSea_X2_takeEnd rfl rfl rfl (by decide +kernel) ⟨(Nat.le_of_ble_eq_true rfl), (Nat.le_of_ble_eq_true rfl)⟩) (preW_V (hP.sub (ws' := [oX2 a g_length u19.2.1 u19.2.2, rI cyI (a 1) 150 g_bytes]) [0, 1] rfl) (hD.sub (ws' := [oX2 a g_length u19.2.1 u19.2.2, rI cyI (a 1) 150 g_bytes]) [0, 1] (by decide) rfl) hKK (va_recv hK hP (ci := 1) (q0 := 0) rfl rfl)) rfl rfl hl.1 rfl (lv_room (Nat.le_of_ble_eq_true rfl)) dX2_readSea_25 ⟨Nat.zero_le _, Nat.zero_le _⟩) hP hD hS hA [0, 1] [2, 3, 4] [3, 4, 0, 1, 2] rfl rfl (by decide) (by decide) rfl (by decide) (fun H29 L30 hP hD hS => ?_)
    refine lv_aload_n hx hb dX2_readSea_28 rfl (lv_at hl 2 rfl) ?_
    refine lv_iload_n hx hb dX2_readSea_29 rfl (lv_at hl 0 rfl) ?_
    obtain ⟨u31, hu32, h33⟩ := bd_e h28
    refine kw_V (wc := [oX1 b1 gp1_month gp1_floes gp1_founds gp1_notes gp1_undos, rI cyI (b1 1) 12 gp1_ways, rI cyI (b1 2) 12 gp1_strengths]) (wr := [oX2 a g_length u26.1 u26.2, rI cyI (a 1) 150 g_bytes]) (ws' := [oX2 a g_length u26.1 u26.2, rI cyI (a 1) 150 g_bytes, oX1 b1 u31.1 u31.2.1 u31.2.2.1 u31.2.2.2.1 u31.2.2.2.2.1, rI cyI (b1 1) 12 u31.2.2.2.2.2.1, rI cyI (b1 2) 12 u31.2.2.2.2.2.2]) (va_runV (As := [.int x24]) (rest := []) ⟨hx, hb, hml, hown, hts⟩ (c_X1_begin l D cyI cyJ cyS N b1 gp1_month gp1_floes gp1_founds gp1_notes gp1_undos gp1_ways gp1_strengths x24 H29.size u31 hu32) (cwV 1 hts gX2_readSea_X1_begin rfl rfl rfl (by decide +kernel) ⟨(Nat.le_of_ble_eq_true rfl), (Nat.le_of_ble_eq_true rfl)⟩) (preW_V (hP.sub (ws' := [oX1 b1 gp1_month gp1_floes gp1_founds gp1_notes gp1_undos, rI cyI (b1 1) 12 gp1_ways, rI cyI (b1 2) 12 gp1_strengths]) [2, 3, 4] rfl) (hD.sub (ws' := [oX1 b1 gp1_month gp1_floes gp1_founds gp1_notes gp1_undos, rI cyI (b1 1) 12 gp1_ways, rI cyI (b1 2) 12 gp1_strengths]) [2, 3, 4] (by decide) rfl) hKK (va_recv hK hP (ci := 0) (q0 := 2) rfl rfl)) rfl rfl hl.1 rfl (lv_room (Nat.le_of_ble_eq_true rfl)) dX2_readSea_30 ⟨Nat.zero_le _, Nat.zero_le _⟩) hP hD hS hA [2, 3, 4] [0, 1] [0, 1, 2, 3, 4] rfl rfl (by decide) (by decide) rfl (by decide) (fun H34 L35 hP hD hS => ?_)
    rw [← Option.some.inj h33]
    exact W.vret hx hb hr (fun t ht hW => ⟨⟨(), rfl, trivial, ⟨by rw [ht]; exact hP, hD⟩⟩, hS.F ht⟩) hS.2.2 dX2_readSea_33
  refine lv_if_ne (tgt := 17) hx hb dX2_readSea_10 (by decide) (fun c36 => ?_) (fun c36 => ?_)
  · have h37 := (if_neg c36).symm.trans h15
    exact Jj13 g_fault _ _ _ h37 hP hD hS (lv_sub hl [0, 1] rfl)
  · have h38 := (if_pos c36).symm.trans h15
    refine lv_aload_n hx hb dX2_readSea_13 rfl (lv_at hl 0 rfl) ?_
    obtain ⟨u39, hu40, h41⟩ := lt_e h38
    refine kw_V (wc := [oX2 a g_length u6.2 g_fault]) (wr := [rI cyI (a 1) 150 g_bytes, oX1 b1 gp1_month gp1_floes gp1_founds gp1_notes gp1_undos, rI cyI (b1 1) 12 gp1_ways, rI cyI (b1 2) 12 gp1_strengths]) (ws' := [oX2 a g_length u6.2 u39, rI cyI (a 1) 150 g_bytes, oX1 b1 gp1_month gp1_floes gp1_founds gp1_notes gp1_undos, rI cyI (b1 1) 12 gp1_ways, rI cyI (b1 2) 12 gp1_strengths]) (va_runV (As := []) (rest := []) ⟨hx, hb, hml, hown, hts⟩ (c_X2_fail l D cyI cyJ cyS a g_length u6.2 g_fault H9.size u39 hu40.symm) (cwV 0 hts gX2_readSea_X2_fail rfl rfl rfl (by decide +kernel) ⟨(Nat.le_of_ble_eq_true rfl), (Nat.le_of_ble_eq_true rfl)⟩) (preW_V (hP.sub (ws' := [oX2 a g_length u6.2 g_fault]) [0] rfl) (hD.sub (ws' := [oX2 a g_length u6.2 g_fault]) [0] (by decide) rfl) hKK (va_recv hK hP (ci := 1) (q0 := 0) rfl rfl)) rfl rfl hl.1 rfl (lv_room (Nat.le_of_ble_eq_true rfl)) dX2_readSea_14 ⟨Nat.zero_le _, Nat.zero_le _⟩) hP hD hS hA [0] [1, 2, 3, 4] [4, 0, 1, 2, 3] rfl rfl (by decide) (by decide) rfl (by decide) (fun H42 L43 hP hD hS => ?_)
    exact Jj13 u39 _ _ _ h41 hP hD hS (lv_sub hl [0, 1] rfl)
def T_X2_readWind (N : Nat) (g_length : Int32) (g_place : Int32) (g_fault : Int32) (g_bytes : Nat → Int32) (gp1_undos : Int32) (gp1_ways : Nat → Int32) (gp1_strengths : Nat → Int32) : Option (Int32 × Int32 × Int32 × (Nat → Int32) × (Nat → Int32)) :=
  (Option.bind (T_X2_takeNumber N g_length g_place g_fault g_bytes 11) fun u1 => (lt' u1.1 fun x6 => (Option.bind (T_X2_takeNumber N g_length u1.2.1 u1.2.2 g_bytes 3) fun u8 => (lt' u8.1 fun x13 => (Option.bind (T_X2_takeNumber N g_length u8.2.1 u8.2.2 g_bytes 3) fun u15 => (lt' u15.1 fun x20 => (Option.bind (T_X2_takeEnd N g_length u15.2.1 u15.2.2 g_bytes) fun u22 => (Option.bind (T_X1_tellWind N gp1_undos gp1_ways gp1_strengths x6 x13 x20) fun u27 => (some (u22.1, u22.2, u27.1, u27.2.1, u27.2.2))))))))))
abbrev rm_X2_readWind : Room := { frames := 2, cells := 0, slots := 0, locals := 46 }
set_option maxHeartbeats 4000000 in
set_option maxRecDepth 100000 in
theorem c_X2_readWind (l : Launch) (D : va_G) (cyI cyJ cyS : ClassId) (N : Nat) (a b1 : Nat → Nat) (g_length : Int32) (g_place : Int32) (g_fault : Int32) (g_bytes : Nat → Int32) (gp1_month : Int32) (gp1_floes : Int32) (gp1_founds : Int32) (gp1_notes : Int32) (gp1_undos : Int32) (gp1_ways : Nat → Int32) (gp1_strengths : Nat → Int32) (sz : Nat) (R0 : Int32 × Int32 × Int32 × (Nat → Int32) × (Nat → Int32)) (hT : T_X2_readWind N g_length g_place g_fault g_bytes gp1_undos gp1_ways gp1_strengths = some R0) : Met l yX2_readWind wsX2_readWind rm_X2_readWind (va_Pc [.ref (a 0), .ref (b1 0)] (preW D (tyS cyI cyJ cyS) [oX2 a g_length g_place g_fault, rI cyI (a 1) 150 g_bytes, oX1 b1 gp1_month gp1_floes gp1_founds gp1_notes gp1_undos, rI cyI (b1 1) 12 gp1_ways, rI cyI (b1 2) 12 gp1_strengths] sz)) (va_Qv (fun (_ : Unit) => True) (fun _ t => va_P D vwCl [oX2 a g_length R0.1 R0.2.1, rI cyI (a 1) 150 g_bytes, oX1 b1 gp1_month gp1_floes gp1_founds gp1_notes R0.2.2.1, rI cyI (b1 1) 12 R0.2.2.2.1, rI cyI (b1 2) 12 R0.2.2.2.2] t.heap ∧ va_D (va_A [oX2 a g_length g_place g_fault, rI cyI (a 1) 150 g_bytes, oX1 b1 gp1_month gp1_floes gp1_founds gp1_notes gp1_undos, rI cyI (b1 1) 12 gp1_ways, rI cyI (b1 2) 12 gp1_strengths] sz) [oX2 a g_length R0.1 R0.2.1, rI cyI (a 1) 150 g_bytes, oX1 b1 gp1_month gp1_floes gp1_founds gp1_notes R0.2.2.1, rI cyI (b1 1) 12 R0.2.2.2.1, rI cyI (b1 2) 12 R0.2.2.2.2]) (va_A [oX2 a g_length g_place g_fault, rI cyI (a 1) 150 g_bytes, oX1 b1 gp1_month gp1_floes gp1_founds gp1_notes gp1_undos, rI cyI (b1 1) 12 gp1_ways, rI cyI (b1 2) 12 gp1_strengths] sz)) 0 0 (va_A [oX2 a g_length g_place g_fault, rI cyI (a 1) 150 g_bytes, oX1 b1 gp1_month gp1_floes gp1_founds gp1_notes gp1_undos, rI cyI (b1 1) 12 gp1_ways, rI cyI (b1 2) 12 gp1_strengths] sz) := by
  refine Met.ofW (cc := cX2_readWind) (maxL := 5) (ret := none) (by decide) rfl ?_
  intro p e s m args below meth c s₁ B hml hv
  obtain ⟨rfl, hsz, hP, hKK, hD0⟩ := hv
  have hx := B.exec
  have hb := B.bytes
  have hr := B.returns
  have hts := atoms_spec (ws := wsX2_readWind) B.pre
  have hown : s.vm.findClass RX2 = some m.cls := findClass_of_methodNamed B.named
  have hlocks := B.notSynchronized
  have hK := hKK.1
  have inX2 : ∀ w ∈ wsX20, w ∈ wsX2_readWind := (fun _ h => List.mem_cons_of_mem _ (List.mem_append_left _ (List.mem_append_right _ h)))
  have inX1 : ∀ w ∈ wsX10, w ∈ wsX2_readWind := (fun _ h => List.mem_cons_of_mem _ (List.mem_append_right _ h))
  subst hsz
  have hD := hD0.self (sz := s.heap.size)
  generalize hAe : va_A [oX2 a g_length g_place g_fault, rI cyI (a 1) 150 g_bytes, oX1 b1 gp1_month gp1_floes gp1_founds gp1_notes gp1_undos, rI cyI (b1 1) 12 gp1_ways, rI cyI (b1 2) 12 gp1_strengths] s.heap.size = A at hD ⊢
  have hA : ∀ q : Nat, s.heap.size ≤ q → A q := fun q h => by rw [← hAe]; exact Or.inr h
  have hS : va_S A s.heap s.heap [] := va_S.rf
  have hP : va_P D vwCl [oX2 a g_length g_place g_fault, rI cyI (a 1) 150 g_bytes, oX1 b1 gp1_month gp1_floes gp1_founds gp1_notes gp1_undos, rI cyI (b1 1) 12 gp1_ways, rI cyI (b1 2) 12 gp1_strengths] s.heap := hP
  have hl := lv_entry [.ref (a 0), .ref (b1 0)] (n := 5) (Nat.le_of_ble_eq_true rfl)
  rw [lg_entry_eq]
  generalize (lg_sl [.ref (a 0), .ref (b1 0)] ++ List.replicate (5 - (lg_sl [.ref (a 0), .ref (b1 0)]).length) Slot.unset).toArray = ls at hl ⊢
  have hl : lv_has ls 5 [(0, .ref (a 0)), (1, .ref (b1 0))] := hl
  unfold T_X2_readWind at hT
  refine lv_aload_n hx hb dX2_readWind_0 rfl (lv_at hl 0 rfl) ?_
  refine lv_bipush (v := 11) hx hb dX2_readWind_1 (by decide) ?_
  obtain ⟨u1, hu2, h3⟩ := bd_e hT
  refine kw_I (wc := [oX2 a g_length g_place g_fault, rI cyI (a 1) 150 g_bytes]) (wr := [oX1 b1 gp1_month gp1_floes gp1_founds gp1_notes gp1_undos, rI cyI (b1 1) 12 gp1_ways, rI cyI (b1 2) 12 gp1_strengths]) (ws' := [oX2 a g_length u1.2.1 u1.2.2, rI cyI (a 1) 150 g_bytes, oX1 b1 gp1_month gp1_floes gp1_founds gp1_notes gp1_undos, rI cyI (b1 1) 12 gp1_ways, rI cyI (b1 2) 12 gp1_strengths]) (va_runV (As := [.int 11]) (rest := []) ⟨hx, hb, hml, hown, hts⟩ (c_X2_takeNumber l D cyI cyJ cyS N a g_length g_place g_fault g_bytes 11 s.heap.size u1 hu2) (cwV 1 hts gX2_readWind_X2_takeNumber rfl rfl rfl (by decide +kernel) ⟨(Nat.le_of_ble_eq_true rfl), (Nat.le_of_ble_eq_true rfl)⟩) (preW_V (hP.sub (ws' := [oX2 a g_length g_place g_fault, rI cyI (a 1) 150 g_bytes]) [0, 1] rfl) (hD.sub (ws' := [oX2 a g_length g_place g_fault, rI cyI (a 1) 150 g_bytes]) [0, 1] (by decide) rfl) hKK (va_recv hK hP (ci := 1) (q0 := 0) rfl rfl)) rfl rfl hl.1 rfl (lv_room (Nat.le_of_ble_eq_true rfl)) dX2_readWind_3 ⟨Nat.zero_le _, Nat.zero_le _⟩) hP hD hS hA [0, 1] [2, 3, 4] [3, 4, 0, 1, 2] rfl rfl (by decide) (by decide) rfl (by decide) (fun H4 L5 hP hD hS => ?_)
  obtain ⟨x6, ex6, h7⟩ := lt_e h3
  refine lv_nm ex6 ?_
  refine lv_istore_n (lv' := [(2, .int x6), (0, .ref (a 0)), (1, .ref (b1 0))]) hx hb dX2_readWind_6 rfl hl (by decide) rfl (fun ls hl => ?_)
  refine lv_aload_n hx hb dX2_readWind_7 rfl (lv_at hl 1 rfl) ?_
  refine lv_iconst (v := 3) hx hb dX2_readWind_8 (by decide) ?_
  obtain ⟨u8, hu9, h10⟩ := bd_e h7
  refine kw_I (wc := [oX2 a g_length u1.2.1 u1.2.2, rI cyI (a 1) 150 g_bytes]) (wr := [oX1 b1 gp1_month gp1_floes gp1_founds gp1_notes gp1_undos, rI cyI (b1 1) 12 gp1_ways, rI cyI (b1 2) 12 gp1_strengths]) (ws' := [oX2 a g_length u8.2.1 u8.2.2, rI cyI (a 1) 150 g_bytes, oX1 b1 gp1_month gp1_floes gp1_founds gp1_notes gp1_undos, rI cyI (b1 1) 12 gp1_ways, rI cyI (b1 2) 12 gp1_strengths]) (va_runV (As := [.int 3]) (rest := []) ⟨hx, hb, hml, hown, hts⟩ (c_X2_takeNumber l D cyI cyJ cyS N a g_length u1.2.1 u1.2.2 g_bytes 3 H4.size u8 hu9) (cwV 1 hts gX2_readWind_X2_takeNumber rfl rfl rfl (by decide +kernel) ⟨(Nat.le_of_ble_eq_true rfl), (Nat.le_of_ble_eq_true rfl)⟩) (preW_V (hP.sub (ws' := [oX2 a g_length u1.2.1 u1.2.2, rI cyI (a 1) 150 g_bytes]) [0, 1] rfl) (hD.sub (ws' := [oX2 a g_length u1.2.1 u1.2.2, rI cyI (a 1) 150 g_bytes]) [0, 1] (by decide) rfl) hKK (va_recv hK hP (ci := 1) (q0 := 0) rfl rfl)) rfl rfl hl.1 rfl (lv_room (Nat.le_of_ble_eq_true rfl)) dX2_readWind_9 ⟨Nat.zero_le _, Nat.zero_le _⟩) hP hD hS hA [0, 1] [2, 3, 4] [3, 4, 0, 1, 2] rfl rfl (by decide) (by decide) rfl (by decide) (fun H11 L12 hP hD hS => ?_)
  obtain ⟨x13, ex13, h14⟩ := lt_e h10
  refine lv_nm ex13 ?_
  refine lv_istore_n (lv' := [(3, .int x13), (2, .int x6), (0, .ref (a 0)), (1, .ref (b1 0))]) hx hb dX2_readWind_12 rfl hl (by decide) rfl (fun ls hl => ?_)
  refine lv_aload_n hx hb dX2_readWind_13 rfl (lv_at hl 2 rfl) ?_
  refine lv_iconst (v := 3) hx hb dX2_readWind_14 (by decide) ?_
  obtain ⟨u15, hu16, h17⟩ := bd_e h14
  refine kw_I (wc := [oX2 a g_length u8.2.1 u8.2.2, rI cyI (a 1) 150 g_bytes]) (wr := [oX1 b1 gp1_month gp1_floes gp1_founds gp1_notes gp1_undos, rI cyI (b1 1) 12 gp1_ways, rI cyI (b1 2) 12 gp1_strengths]) (ws' := [oX2 a g_length u15.2.1 u15.2.2, rI cyI (a 1) 150 g_bytes, oX1 b1 gp1_month gp1_floes gp1_founds gp1_notes gp1_undos, rI cyI (b1 1) 12 gp1_ways, rI cyI (b1 2) 12 gp1_strengths]) (va_runV (As := [.int 3]) (rest := []) ⟨hx, hb, hml, hown, hts⟩ (c_X2_takeNumber l D cyI cyJ cyS N a g_length u8.2.1 u8.2.2 g_bytes 3 H11.size u15 hu16) (cwV 1 hts gX2_readWind_X2_takeNumber rfl rfl rfl (by decide +kernel) ⟨(Nat.le_of_ble_eq_true rfl), (Nat.le_of_ble_eq_true rfl)⟩) (preW_V (hP.sub (ws' := [oX2 a g_length u8.2.1 u8.2.2, rI cyI (a 1) 150 g_bytes]) [0, 1] rfl) (hD.sub (ws' := [oX2 a g_length u8.2.1 u8.2.2, rI cyI (a 1) 150 g_bytes]) [0, 1] (by decide) rfl) hKK (va_recv hK hP (ci := 1) (q0 := 0) rfl rfl)) rfl rfl hl.1 rfl (lv_room (Nat.le_of_ble_eq_true rfl)) dX2_readWind_15 ⟨Nat.zero_le _, Nat.zero_le _⟩) hP hD hS hA [0, 1] [2, 3, 4] [3, 4, 0, 1, 2] rfl rfl (by decide) (by decide) rfl (by decide) (fun H18 L19 hP hD hS => ?_)
  obtain ⟨x20, ex20, h21⟩ := lt_e h17
  refine lv_nm ex20 ?_
  refine lv_istore (lv' := [(4, .int x20), (3, .int x13), (2, .int x6), (0, .ref (a 0)), (1, .ref (b1 0))]) hx hb dX2_readWind_18 hl (by decide) rfl (fun ls hl => ?_)
  refine lv_aload_n hx hb dX2_readWind_20 rfl (lv_at hl 3 rfl) ?_
  obtain ⟨u22, hu23, h24⟩ := bd_e h21
  refine kw_V (wc := [oX2 a g_length u15.2.1 u15.2.2, rI cyI (a 1) 150 g_bytes]) (wr := [oX1 b1 gp1_month gp1_floes gp1_founds gp1_notes gp1_undos, rI cyI (b1 1) 12 gp1_ways, rI cyI (b1 2) 12 gp1_strengths]) (ws' := [oX2 a g_length u22.1 u22.2, rI cyI (a 1) 150 g_bytes, oX1 b1 gp1_month gp1_floes gp1_founds gp1_notes gp1_undos, rI cyI (b1 1) 12 gp1_ways, rI cyI (b1 2) 12 gp1_strengths]) (va_runV (As := []) (rest := []) ⟨hx, hb, hml, hown, hts⟩ (c_X2_takeEnd l D cyI cyJ cyS N a g_length u15.2.1 u15.2.2 g_bytes H18.size u22 hu23) (cwV 0 hts gX2_readWind_X2_takeEnd rfl rfl rfl (by decide +kernel) ⟨(Nat.le_of_ble_eq_true rfl), (Nat.le_of_ble_eq_true rfl)⟩) (preW_V (hP.sub (ws' := [oX2 a g_length u15.2.1 u15.2.2, rI cyI (a 1) 150 g_bytes]) [0, 1] rfl) (hD.sub (ws' := [oX2 a g_length u15.2.1 u15.2.2, rI cyI (a 1) 150 g_bytes]) [0, 1] (by decide) rfl) hKK (va_recv hK hP (ci := 1) (q0 := 0) rfl rfl)) rfl rfl hl.1 rfl (lv_room (Nat.le_of_ble_eq_true rfl)) dX2_readWind_21 ⟨Nat.zero_le _, Nat.zero_le _⟩) hP hD hS hA [0, 1] [2, 3, 4] [3, 4, 0, 1, 2] rfl rfl (by decide) (by decide) rfl (by decide) (fun H25 L26 hP hD hS => ?_)
  refine lv_aload_n hx hb dX2_readWind_24 rfl (lv_at hl 4 rfl) ?_
  refine lv_iload_n hx hb dX2_readWind_25 rfl (lv_at hl 2 rfl) ?_
  refine lv_iload_n hx hb dX2_readWind_26 rfl (lv_at hl 1 rfl) ?_
  refine lv_iload hx hb dX2_readWind_27 (lv_at hl 0 rfl) ?_
  obtain ⟨u27, hu28, h29⟩ := bd_e h24
  refine kw_V (wc := [oX1 b1 gp1_month gp1_floes gp1_founds gp1_notes gp1_undos, rI cyI (b1 1) 12 gp1_ways, rI cyI (b1 2) 12 gp1_strengths]) (wr := [oX2 a g_length u22.1 u22.2, rI cyI (a 1) 150 g_bytes]) (ws' := [oX2 a g_length u22.1 u22.2, rI cyI (a 1) 150 g_bytes, oX1 b1 gp1_month gp1_floes gp1_founds gp1_notes u27.1, rI cyI (b1 1) 12 u27.2.1, rI cyI (b1 2) 12 u27.2.2]) (va_runV (As := [.int x6, .int x13, .int x20]) (rest := []) ⟨hx, hb, hml, hown, hts⟩ (c_X1_tellWind l D cyI cyJ cyS N b1 gp1_month gp1_floes gp1_founds gp1_notes gp1_undos gp1_ways gp1_strengths x6 x13 x20 H25.size u27 hu28) (cwV 3 hts gX2_readWind_X1_tellWind rfl rfl rfl (by decide +kernel) ⟨(Nat.le_of_ble_eq_true rfl), (Nat.le_of_ble_eq_true rfl)⟩) (preW_V (hP.sub (ws' := [oX1 b1 gp1_month gp1_floes gp1_founds gp1_notes gp1_undos, rI cyI (b1 1) 12 gp1_ways, rI cyI (b1 2) 12 gp1_strengths]) [2, 3, 4] rfl) (hD.sub (ws' := [oX1 b1 gp1_month gp1_floes gp1_founds gp1_notes gp1_undos, rI cyI (b1 1) 12 gp1_ways, rI cyI (b1 2) 12 gp1_strengths]) [2, 3, 4] (by decide) rfl) hKK (va_recv hK hP (ci := 0) (q0 := 2) rfl rfl)) rfl rfl hl.1 rfl (lv_room (Nat.le_of_ble_eq_true rfl)) dX2_readWind_29 ⟨Nat.zero_le _, Nat.zero_le _⟩) hP hD hS hA [2, 3, 4] [0, 1] [0, 1, 2, 3, 4] rfl rfl (by decide) (by decide) rfl (by decide) (fun H30 L31 hP hD hS => ?_)
  rw [← Option.some.inj h29]
  exact W.vret hx hb hr (fun t ht hW => ⟨⟨(), rfl, trivial, ⟨by rw [ht]; exact hP, hD⟩⟩, hS.F ht⟩) hS.2.2 dX2_readWind_32
def T_X2_readFloe (N : Nat) (g_length : Int32) (g_place : Int32) (g_fault : Int32) (g_bytes : Nat → Int32) (gp1_floes : Int32) (gp1_undos : Int32) (gp1_kinds : Nat → Int32) (gp1_cells : Nat → Int32) (gp1_foods : Nat → Int32) : Option (Int32 × Int32 × Int32 × Int32 × (Nat → Int32) × (Nat → Int32) × (Nat → Int32)) :=
  (Option.bind (T_X2_takeNumber N g_length g_place g_fault g_bytes 5) fun u1 => (lt' u1.1 fun x6 => (Option.bind (T_X2_takeNumber N g_length u1.2.1 u1.2.2 g_bytes 35) fun u8 => (lt' u8.1 fun x13 => (Option.bind (T_X2_takeNumber N g_length u8.2.1 u8.2.2 g_bytes 60) fun u15 => (lt' u15.1 fun x20 => (Option.bind (T_X2_takeEnd N g_length u15.2.1 u15.2.2 g_bytes) fun u22 => (Option.bind (T_X1_addFloe N gp1_floes gp1_undos gp1_kinds gp1_cells gp1_foods x6 x13 x20) fun u27 => (some (u22.1, u22.2, u27.1, u27.2.1, u27.2.2.1, u27.2.2.2.1, u27.2.2.2.2))))))))))
abbrev rm_X2_readFloe : Room := { frames := 2, cells := 0, slots := 0, locals := 46 }
set_option maxHeartbeats 4000000 in
set_option maxRecDepth 100000 in
theorem c_X2_readFloe (l : Launch) (D : va_G) (cyI cyJ cyS : ClassId) (N : Nat) (a b1 : Nat → Nat) (g_length : Int32) (g_place : Int32) (g_fault : Int32) (g_bytes : Nat → Int32) (gp1_month : Int32) (gp1_floes : Int32) (gp1_founds : Int32) (gp1_notes : Int32) (gp1_undos : Int32) (gp1_kinds : Nat → Int32) (gp1_cells : Nat → Int32) (gp1_foods : Nat → Int32) (sz : Nat) (R0 : Int32 × Int32 × Int32 × Int32 × (Nat → Int32) × (Nat → Int32) × (Nat → Int32)) (hT : T_X2_readFloe N g_length g_place g_fault g_bytes gp1_floes gp1_undos gp1_kinds gp1_cells gp1_foods = some R0) : Met l yX2_readFloe wsX2_readFloe rm_X2_readFloe (va_Pc [.ref (a 0), .ref (b1 0)] (preW D (tyS cyI cyJ cyS) [oX2 a g_length g_place g_fault, rI cyI (a 1) 150 g_bytes, oX1 b1 gp1_month gp1_floes gp1_founds gp1_notes gp1_undos, rI cyI (b1 3) 5 gp1_kinds, rI cyI (b1 4) 5 gp1_cells, rI cyI (b1 5) 5 gp1_foods] sz)) (va_Qv (fun (_ : Unit) => True) (fun _ t => va_P D vwCl [oX2 a g_length R0.1 R0.2.1, rI cyI (a 1) 150 g_bytes, oX1 b1 gp1_month R0.2.2.1 gp1_founds gp1_notes R0.2.2.2.1, rI cyI (b1 3) 5 R0.2.2.2.2.1, rI cyI (b1 4) 5 R0.2.2.2.2.2.1, rI cyI (b1 5) 5 R0.2.2.2.2.2.2] t.heap ∧ va_D (va_A [oX2 a g_length g_place g_fault, rI cyI (a 1) 150 g_bytes, oX1 b1 gp1_month gp1_floes gp1_founds gp1_notes gp1_undos, rI cyI (b1 3) 5 gp1_kinds, rI cyI (b1 4) 5 gp1_cells, rI cyI (b1 5) 5 gp1_foods] sz) [oX2 a g_length R0.1 R0.2.1, rI cyI (a 1) 150 g_bytes, oX1 b1 gp1_month R0.2.2.1 gp1_founds gp1_notes R0.2.2.2.1, rI cyI (b1 3) 5 R0.2.2.2.2.1, rI cyI (b1 4) 5 R0.2.2.2.2.2.1, rI cyI (b1 5) 5 R0.2.2.2.2.2.2]) (va_A [oX2 a g_length g_place g_fault, rI cyI (a 1) 150 g_bytes, oX1 b1 gp1_month gp1_floes gp1_founds gp1_notes gp1_undos, rI cyI (b1 3) 5 gp1_kinds, rI cyI (b1 4) 5 gp1_cells, rI cyI (b1 5) 5 gp1_foods] sz)) 0 0 (va_A [oX2 a g_length g_place g_fault, rI cyI (a 1) 150 g_bytes, oX1 b1 gp1_month gp1_floes gp1_founds gp1_notes gp1_undos, rI cyI (b1 3) 5 gp1_kinds, rI cyI (b1 4) 5 gp1_cells, rI cyI (b1 5) 5 gp1_foods] sz) := by
  refine Met.ofW (cc := cX2_readFloe) (maxL := 5) (ret := none) (by decide) rfl ?_
  intro p e s m args below meth c s₁ B hml hv
  obtain ⟨rfl, hsz, hP, hKK, hD0⟩ := hv
  have hx := B.exec
  have hb := B.bytes
  have hr := B.returns
  have hts := atoms_spec (ws := wsX2_readFloe) B.pre
  have hown : s.vm.findClass RX2 = some m.cls := findClass_of_methodNamed B.named
  have hlocks := B.notSynchronized
  have hK := hKK.1
  have inX2 : ∀ w ∈ wsX20, w ∈ wsX2_readFloe := (fun _ h => List.mem_cons_of_mem _ (List.mem_append_left _ (List.mem_append_right _ h)))
  have inX1 : ∀ w ∈ wsX10, w ∈ wsX2_readFloe := (fun _ h => List.mem_cons_of_mem _ (List.mem_append_right _ h))
  subst hsz
  have hD := hD0.self (sz := s.heap.size)
  generalize hAe : va_A [oX2 a g_length g_place g_fault, rI cyI (a 1) 150 g_bytes, oX1 b1 gp1_month gp1_floes gp1_founds gp1_notes gp1_undos, rI cyI (b1 3) 5 gp1_kinds, rI cyI (b1 4) 5 gp1_cells, rI cyI (b1 5) 5 gp1_foods] s.heap.size = A at hD ⊢
  have hA : ∀ q : Nat, s.heap.size ≤ q → A q := fun q h => by rw [← hAe]; exact Or.inr h
  have hS : va_S A s.heap s.heap [] := va_S.rf
  have hP : va_P D vwCl [oX2 a g_length g_place g_fault, rI cyI (a 1) 150 g_bytes, oX1 b1 gp1_month gp1_floes gp1_founds gp1_notes gp1_undos, rI cyI (b1 3) 5 gp1_kinds, rI cyI (b1 4) 5 gp1_cells, rI cyI (b1 5) 5 gp1_foods] s.heap := hP
  have hl := lv_entry [.ref (a 0), .ref (b1 0)] (n := 5) (Nat.le_of_ble_eq_true rfl)
  rw [lg_entry_eq]
  generalize (lg_sl [.ref (a 0), .ref (b1 0)] ++ List.replicate (5 - (lg_sl [.ref (a 0), .ref (b1 0)]).length) Slot.unset).toArray = ls at hl ⊢
  have hl : lv_has ls 5 [(0, .ref (a 0)), (1, .ref (b1 0))] := hl
  unfold T_X2_readFloe at hT
  refine lv_aload_n hx hb dX2_readFloe_0 rfl (lv_at hl 0 rfl) ?_
  refine lv_iconst (v := 5) hx hb dX2_readFloe_1 (by decide) ?_
  obtain ⟨u1, hu2, h3⟩ := bd_e hT
  refine kw_I (wc := [oX2 a g_length g_place g_fault, rI cyI (a 1) 150 g_bytes]) (wr := [oX1 b1 gp1_month gp1_floes gp1_founds gp1_notes gp1_undos, rI cyI (b1 3) 5 gp1_kinds, rI cyI (b1 4) 5 gp1_cells, rI cyI (b1 5) 5 gp1_foods]) (ws' := [oX2 a g_length u1.2.1 u1.2.2, rI cyI (a 1) 150 g_bytes, oX1 b1 gp1_month gp1_floes gp1_founds gp1_notes gp1_undos, rI cyI (b1 3) 5 gp1_kinds, rI cyI (b1 4) 5 gp1_cells, rI cyI (b1 5) 5 gp1_foods]) (va_runV (As := [.int 5]) (rest := []) ⟨hx, hb, hml, hown, hts⟩ (c_X2_takeNumber l D cyI cyJ cyS N a g_length g_place g_fault g_bytes 5 s.heap.size u1 hu2) (cwV 1 hts gX2_readFloe_X2_takeNumber rfl rfl rfl (by decide +kernel) ⟨(Nat.le_of_ble_eq_true rfl), (Nat.le_of_ble_eq_true rfl)⟩) (preW_V (hP.sub (ws' := [oX2 a g_length g_place g_fault, rI cyI (a 1) 150 g_bytes]) [0, 1] rfl) (hD.sub (ws' := [oX2 a g_length g_place g_fault, rI cyI (a 1) 150 g_bytes]) [0, 1] (by decide) rfl) hKK (va_recv hK hP (ci := 1) (q0 := 0) rfl rfl)) rfl rfl hl.1 rfl (lv_room (Nat.le_of_ble_eq_true rfl)) dX2_readFloe_2 ⟨Nat.zero_le _, Nat.zero_le _⟩) hP hD hS hA [0, 1] [2, 3, 4, 5] [4, 5, 0, 1, 2, 3] rfl rfl (by decide) (by decide) rfl (by decide) (fun H4 L5 hP hD hS => ?_)
  obtain ⟨x6, ex6, h7⟩ := lt_e h3
  refine lv_nm ex6 ?_
  refine lv_istore_n (lv' := [(2, .int x6), (0, .ref (a 0)), (1, .ref (b1 0))]) hx hb dX2_readFloe_5 rfl hl (by decide) rfl (fun ls hl => ?_)
  refine lv_aload_n hx hb dX2_readFloe_6 rfl (lv_at hl 1 rfl) ?_
  refine lv_bipush (v := 35) hx hb dX2_readFloe_7 (by decide) ?_
  obtain ⟨u8, hu9, h10⟩ := bd_e h7
  refine kw_I (wc := [oX2 a g_length u1.2.1 u1.2.2, rI cyI (a 1) 150 g_bytes]) (wr := [oX1 b1 gp1_month gp1_floes gp1_founds gp1_notes gp1_undos, rI cyI (b1 3) 5 gp1_kinds, rI cyI (b1 4) 5 gp1_cells, rI cyI (b1 5) 5 gp1_foods]) (ws' := [oX2 a g_length u8.2.1 u8.2.2, rI cyI (a 1) 150 g_bytes, oX1 b1 gp1_month gp1_floes gp1_founds gp1_notes gp1_undos, rI cyI (b1 3) 5 gp1_kinds, rI cyI (b1 4) 5 gp1_cells, rI cyI (b1 5) 5 gp1_foods]) (va_runV (As := [.int 35]) (rest := []) ⟨hx, hb, hml, hown, hts⟩ (c_X2_takeNumber l D cyI cyJ cyS N a g_length u1.2.1 u1.2.2 g_bytes 35 H4.size u8 hu9) (cwV 1 hts gX2_readFloe_X2_takeNumber rfl rfl rfl (by decide +kernel) ⟨(Nat.le_of_ble_eq_true rfl), (Nat.le_of_ble_eq_true rfl)⟩) (preW_V (hP.sub (ws' := [oX2 a g_length u1.2.1 u1.2.2, rI cyI (a 1) 150 g_bytes]) [0, 1] rfl) (hD.sub (ws' := [oX2 a g_length u1.2.1 u1.2.2, rI cyI (a 1) 150 g_bytes]) [0, 1] (by decide) rfl) hKK (va_recv hK hP (ci := 1) (q0 := 0) rfl rfl)) rfl rfl hl.1 rfl (lv_room (Nat.le_of_ble_eq_true rfl)) dX2_readFloe_9 ⟨Nat.zero_le _, Nat.zero_le _⟩) hP hD hS hA [0, 1] [2, 3, 4, 5] [4, 5, 0, 1, 2, 3] rfl rfl (by decide) (by decide) rfl (by decide) (fun H11 L12 hP hD hS => ?_)
  obtain ⟨x13, ex13, h14⟩ := lt_e h10
  refine lv_nm ex13 ?_
  refine lv_istore_n (lv' := [(3, .int x13), (2, .int x6), (0, .ref (a 0)), (1, .ref (b1 0))]) hx hb dX2_readFloe_12 rfl hl (by decide) rfl (fun ls hl => ?_)
  refine lv_aload_n hx hb dX2_readFloe_13 rfl (lv_at hl 2 rfl) ?_
  refine lv_bipush (v := 60) hx hb dX2_readFloe_14 (by decide) ?_
  obtain ⟨u15, hu16, h17⟩ := bd_e h14
  refine kw_I (wc := [oX2 a g_length u8.2.1 u8.2.2, rI cyI (a 1) 150 g_bytes]) (wr := [oX1 b1 gp1_month gp1_floes gp1_founds gp1_notes gp1_undos, rI cyI (b1 3) 5 gp1_kinds, rI cyI (b1 4) 5 gp1_cells, rI cyI (b1 5) 5 gp1_foods]) (ws' := [oX2 a g_length u15.2.1 u15.2.2, rI cyI (a 1) 150 g_bytes, oX1 b1 gp1_month gp1_floes gp1_founds gp1_notes gp1_undos, rI cyI (b1 3) 5 gp1_kinds, rI cyI (b1 4) 5 gp1_cells, rI cyI (b1 5) 5 gp1_foods]) (va_runV (As := [.int 60]) (rest := []) ⟨hx, hb, hml, hown, hts⟩ (c_X2_takeNumber l D cyI cyJ cyS N a g_length u8.2.1 u8.2.2 g_bytes 60 H11.size u15 hu16) (cwV 1 hts gX2_readFloe_X2_takeNumber rfl rfl rfl (by decide +kernel) ⟨(Nat.le_of_ble_eq_true rfl), (Nat.le_of_ble_eq_true rfl)⟩) (preW_V (hP.sub (ws' := [oX2 a g_length u8.2.1 u8.2.2, rI cyI (a 1) 150 g_bytes]) [0, 1] rfl) (hD.sub (ws' := [oX2 a g_length u8.2.1 u8.2.2, rI cyI (a 1) 150 g_bytes]) [0, 1] (by decide) rfl) hKK (va_recv hK hP (ci := 1) (q0 := 0) rfl rfl)) rfl rfl hl.1 rfl (lv_room (Nat.le_of_ble_eq_true rfl)) dX2_readFloe_16 ⟨Nat.zero_le _, Nat.zero_le _⟩) hP hD hS hA [0, 1] [2, 3, 4, 5] [4, 5, 0, 1, 2, 3] rfl rfl (by decide) (by decide) rfl (by decide) (fun H18 L19 hP hD hS => ?_)
  obtain ⟨x20, ex20, h21⟩ := lt_e h17
  refine lv_nm ex20 ?_
  refine lv_istore (lv' := [(4, .int x20), (3, .int x13), (2, .int x6), (0, .ref (a 0)), (1, .ref (b1 0))]) hx hb dX2_readFloe_19 hl (by decide) rfl (fun ls hl => ?_)
  refine lv_aload_n hx hb dX2_readFloe_21 rfl (lv_at hl 3 rfl) ?_
  obtain ⟨u22, hu23, h24⟩ := bd_e h21
  refine kw_V (wc := [oX2 a g_length u15.2.1 u15.2.2, rI cyI (a 1) 150 g_bytes]) (wr := [oX1 b1 gp1_month gp1_floes gp1_founds gp1_notes gp1_undos, rI cyI (b1 3) 5 gp1_kinds, rI cyI (b1 4) 5 gp1_cells, rI cyI (b1 5) 5 gp1_foods]) (ws' := [oX2 a g_length u22.1 u22.2, rI cyI (a 1) 150 g_bytes, oX1 b1 gp1_month gp1_floes gp1_founds gp1_notes gp1_undos, rI cyI (b1 3) 5 gp1_kinds, rI cyI (b1 4) 5 gp1_cells, rI cyI (b1 5) 5 gp1_foods]) (va_runV (As := []) (rest := []) ⟨hx, hb, hml, hown, hts⟩ (c_X2_takeEnd l D cyI cyJ cyS N a g_length u15.2.1 u15.2.2 g_bytes H18.size u22 hu23) (cwV 0 hts gX2_readFloe_X2_takeEnd rfl rfl rfl (by decide +kernel) ⟨(Nat.le_of_ble_eq_true rfl), (Nat.le_of_ble_eq_true rfl)⟩) (preW_V (hP.sub (ws' := [oX2 a g_length u15.2.1 u15.2.2, rI cyI (a 1) 150 g_bytes]) [0, 1] rfl) (hD.sub (ws' := [oX2 a g_length u15.2.1 u15.2.2, rI cyI (a 1) 150 g_bytes]) [0, 1] (by decide) rfl) hKK (va_recv hK hP (ci := 1) (q0 := 0) rfl rfl)) rfl rfl hl.1 rfl (lv_room (Nat.le_of_ble_eq_true rfl)) dX2_readFloe_22 ⟨Nat.zero_le _, Nat.zero_le _⟩) hP hD hS hA [0, 1] [2, 3, 4, 5] [4, 5, 0, 1, 2, 3] rfl rfl (by decide) (by decide) rfl (by decide) (fun H25 L26 hP hD hS => ?_)
  refine lv_aload_n hx hb dX2_readFloe_25 rfl (lv_at hl 4 rfl) ?_
  refine lv_iload_n hx hb dX2_readFloe_26 rfl (lv_at hl 2 rfl) ?_
  refine lv_iload_n hx hb dX2_readFloe_27 rfl (lv_at hl 1 rfl) ?_
  refine lv_iload hx hb dX2_readFloe_28 (lv_at hl 0 rfl) ?_
  obtain ⟨u27, hu28, h29⟩ := bd_e h24
  refine kw_V (wc := [oX1 b1 gp1_month gp1_floes gp1_founds gp1_notes gp1_undos, rI cyI (b1 3) 5 gp1_kinds, rI cyI (b1 4) 5 gp1_cells, rI cyI (b1 5) 5 gp1_foods]) (wr := [oX2 a g_length u22.1 u22.2, rI cyI (a 1) 150 g_bytes]) (ws' := [oX2 a g_length u22.1 u22.2, rI cyI (a 1) 150 g_bytes, oX1 b1 gp1_month u27.1 gp1_founds gp1_notes u27.2.1, rI cyI (b1 3) 5 u27.2.2.1, rI cyI (b1 4) 5 u27.2.2.2.1, rI cyI (b1 5) 5 u27.2.2.2.2]) (va_runV (As := [.int x6, .int x13, .int x20]) (rest := []) ⟨hx, hb, hml, hown, hts⟩ (c_X1_addFloe l D cyI cyJ cyS N b1 gp1_month gp1_floes gp1_founds gp1_notes gp1_undos gp1_kinds gp1_cells gp1_foods x6 x13 x20 H25.size u27 hu28) (cwV 3 hts gX2_readFloe_X1_addFloe rfl rfl rfl (by decide +kernel) ⟨(Nat.le_of_ble_eq_true rfl), (Nat.le_of_ble_eq_true rfl)⟩) (preW_V (hP.sub (ws' := [oX1 b1 gp1_month gp1_floes gp1_founds gp1_notes gp1_undos, rI cyI (b1 3) 5 gp1_kinds, rI cyI (b1 4) 5 gp1_cells, rI cyI (b1 5) 5 gp1_foods]) [2, 3, 4, 5] rfl) (hD.sub (ws' := [oX1 b1 gp1_month gp1_floes gp1_founds gp1_notes gp1_undos, rI cyI (b1 3) 5 gp1_kinds, rI cyI (b1 4) 5 gp1_cells, rI cyI (b1 5) 5 gp1_foods]) [2, 3, 4, 5] (by decide) rfl) hKK (va_recv hK hP (ci := 0) (q0 := 2) rfl rfl)) rfl rfl hl.1 rfl (lv_room (Nat.le_of_ble_eq_true rfl)) dX2_readFloe_30 ⟨Nat.zero_le _, Nat.zero_le _⟩) hP hD hS hA [2, 3, 4, 5] [0, 1] [0, 1, 2, 3, 4, 5] rfl rfl (by decide) (by decide) rfl (by decide) (fun H30 L31 hP hD hS => ?_)
  rw [← Option.some.inj h29]
  exact W.vret hx hb hr (fun t ht hW => ⟨⟨(), rfl, trivial, ⟨by rw [ht]; exact hP, hD⟩⟩, hS.F ht⟩) hS.2.2 dX2_readFloe_33
def T_X2_readItem (N : Nat) (g_length : Int32) (g_place : Int32) (g_fault : Int32) (g_bytes : Nat → Int32) (gp1_floes : Int32) (gp1_undos : Int32) (gp1_ways : Nat → Int32) (gp1_strengths : Nat → Int32) (gp1_kinds : Nat → Int32) (gp1_cells : Nat → Int32) (gp1_foods : Nat → Int32) : Option (Int32 × Int32 × Int32 × Int32 × (Nat → Int32) × (Nat → Int32) × (Nat → Int32) × (Nat → Int32) × (Nat → Int32)) :=
  (Option.bind (T_X2_takeWord N g_length g_place g_bytes 1) fun u1 => (if u1.1 = 0 then (jn (fun (z9 : Int32) => (lt' (T_X2_fail z9 g_fault) fun u16 => (some (z9, u16, gp1_floes, gp1_undos, gp1_ways, gp1_strengths, gp1_kinds, gp1_cells, gp1_foods)))) fun j10 => (if 5 ≤ gp1_floes then (j10 u1.2) else (Option.bind (T_X2_takeWord N g_length u1.2 g_bytes 2) fun u24 => (if u24.1 = 0 then (j10 u24.2) else (Option.bind (T_X2_readFloe N g_length u24.2 g_fault g_bytes gp1_floes gp1_undos gp1_kinds gp1_cells gp1_foods) fun u33 => (some (u33.1, u33.2.1, u33.2.2.1, u33.2.2.2.1, gp1_ways, gp1_strengths, u33.2.2.2.2.1, u33.2.2.2.2.2.1, u33.2.2.2.2.2.2))))))) else (Option.bind (T_X2_readWind N g_length u1.2 g_fault g_bytes gp1_undos gp1_ways gp1_strengths) fun u39 => (some (u39.1, u39.2.1, gp1_floes, u39.2.2.1, u39.2.2.2.1, u39.2.2.2.2, gp1_kinds, gp1_cells, gp1_foods)))))
abbrev rm_X2_readItem : Room := { frames := 5, cells := 0, slots := 0, locals := 108 }
set_option maxHeartbeats 4000000 in
set_option maxRecDepth 100000 in
theorem c_X2_readItem (l : Launch) (D : va_G) (cyI cyJ cyS : ClassId) (N : Nat) (a b1 : Nat → Nat) (g_length : Int32) (g_place : Int32) (g_fault : Int32) (g_bytes : Nat → Int32) (gp1_month : Int32) (gp1_floes : Int32) (gp1_founds : Int32) (gp1_notes : Int32) (gp1_undos : Int32) (gp1_ways : Nat → Int32) (gp1_strengths : Nat → Int32) (gp1_kinds : Nat → Int32) (gp1_cells : Nat → Int32) (gp1_foods : Nat → Int32) (adK adV : Nat → Nat) (t0 : Option Nat) (sz : Nat) (R0 : Int32 × Int32 × Int32 × Int32 × (Nat → Int32) × (Nat → Int32) × (Nat → Int32) × (Nat → Int32) × (Nat → Int32)) (hT : T_X2_readItem N g_length g_place g_fault g_bytes gp1_floes gp1_undos gp1_ways gp1_strengths gp1_kinds gp1_cells gp1_foods = some R0) : Met l yX2_readItem wsX2_readItem rm_X2_readItem (va_Pc [.ref (a 0), .ref (b1 0)] (preWS D (tyS cyI cyJ cyS) [oX2 a g_length g_place g_fault, rI cyI (a 1) 150 g_bytes, oX1 b1 gp1_month gp1_floes gp1_founds gp1_notes gp1_undos, rI cyI (b1 1) 12 gp1_ways, rI cyI (b1 2) 12 gp1_strengths, rI cyI (b1 3) 5 gp1_kinds, rI cyI (b1 4) 5 gp1_cells, rI cyI (b1 5) 5 gp1_foods] sz adK adV t0)) (va_Qv (fun (_ : Unit) => True) (fun _ t => va_P D vwCl [oX2 a g_length R0.1 R0.2.1, rI cyI (a 1) 150 g_bytes, oX1 b1 gp1_month R0.2.2.1 gp1_founds gp1_notes R0.2.2.2.1, rI cyI (b1 1) 12 R0.2.2.2.2.1, rI cyI (b1 2) 12 R0.2.2.2.2.2.1, rI cyI (b1 3) 5 R0.2.2.2.2.2.2.1, rI cyI (b1 4) 5 R0.2.2.2.2.2.2.2.1, rI cyI (b1 5) 5 R0.2.2.2.2.2.2.2.2] t.heap ∧ va_D (va_A [oX2 a g_length g_place g_fault, rI cyI (a 1) 150 g_bytes, oX1 b1 gp1_month gp1_floes gp1_founds gp1_notes gp1_undos, rI cyI (b1 1) 12 gp1_ways, rI cyI (b1 2) 12 gp1_strengths, rI cyI (b1 3) 5 gp1_kinds, rI cyI (b1 4) 5 gp1_cells, rI cyI (b1 5) 5 gp1_foods] sz) [oX2 a g_length R0.1 R0.2.1, rI cyI (a 1) 150 g_bytes, oX1 b1 gp1_month R0.2.2.1 gp1_founds gp1_notes R0.2.2.2.1, rI cyI (b1 1) 12 R0.2.2.2.2.1, rI cyI (b1 2) 12 R0.2.2.2.2.2.1, rI cyI (b1 3) 5 R0.2.2.2.2.2.2.1, rI cyI (b1 4) 5 R0.2.2.2.2.2.2.2.1, rI cyI (b1 5) 5 R0.2.2.2.2.2.2.2.2]) (va_A [oX2 a g_length g_place g_fault, rI cyI (a 1) 150 g_bytes, oX1 b1 gp1_month gp1_floes gp1_founds gp1_notes gp1_undos, rI cyI (b1 1) 12 gp1_ways, rI cyI (b1 2) 12 gp1_strengths, rI cyI (b1 3) 5 gp1_kinds, rI cyI (b1 4) 5 gp1_cells, rI cyI (b1 5) 5 gp1_foods] sz)) 0 0 (va_A [oX2 a g_length g_place g_fault, rI cyI (a 1) 150 g_bytes, oX1 b1 gp1_month gp1_floes gp1_founds gp1_notes gp1_undos, rI cyI (b1 1) 12 gp1_ways, rI cyI (b1 2) 12 gp1_strengths, rI cyI (b1 3) 5 gp1_kinds, rI cyI (b1 4) 5 gp1_cells, rI cyI (b1 5) 5 gp1_foods] sz) := by
  refine Met.ofW (cc := cX2_readItem) (maxL := 2) (ret := none) (by decide) rfl ?_
  intro p e s m args below meth c s₁ B hml hv
  obtain ⟨rfl, hsz, hP, hKK, hD0, hSS, hKR⟩ := hv
  have hx := B.exec
  have hb := B.bytes
  have hr := B.returns
  have hts := atoms_spec (ws := wsX2_readItem) B.pre
  have hown : s.vm.findClass RX2 = some m.cls := findClass_of_methodNamed B.named
  have hlocks := B.notSynchronized
  have hK := hKK.1
  have inX2 : ∀ w ∈ wsX20, w ∈ wsX2_readItem := (fun _ h => List.mem_cons_of_mem _ (List.mem_append_right _ h))
  have inX1 : ∀ w ∈ wsX10, w ∈ wsX2_readItem := (fun _ h => List.mem_cons_of_mem _ (List.mem_append_left _ (List.mem_append_right _ h)))
  subst hsz
  have hD := hD0.self (sz := s.heap.size)
  generalize hAe : va_A [oX2 a g_length g_place g_fault, rI cyI (a 1) 150 g_bytes, oX1 b1 gp1_month gp1_floes gp1_founds gp1_notes gp1_undos, rI cyI (b1 1) 12 gp1_ways, rI cyI (b1 2) 12 gp1_strengths, rI cyI (b1 3) 5 gp1_kinds, rI cyI (b1 4) 5 gp1_cells, rI cyI (b1 5) 5 gp1_foods] s.heap.size = A at hD hSS ⊢
  have hA : ∀ q : Nat, s.heap.size ≤ q → A q := fun q h => by rw [← hAe]; exact Or.inr h
  have hS : va_S A s.heap s.heap [] := va_S.rf
  have hP : va_P D vwCl [oX2 a g_length g_place g_fault, rI cyI (a 1) 150 g_bytes, oX1 b1 gp1_month gp1_floes gp1_founds gp1_notes gp1_undos, rI cyI (b1 1) 12 gp1_ways, rI cyI (b1 2) 12 gp1_strengths, rI cyI (b1 3) 5 gp1_kinds, rI cyI (b1 4) 5 gp1_cells, rI cyI (b1 5) 5 gp1_foods] s.heap := hP
  have hl := lv_entry [.ref (a 0), .ref (b1 0)] (n := 2) (Nat.le_of_ble_eq_true rfl)
  rw [lg_entry_eq]
  generalize (lg_sl [.ref (a 0), .ref (b1 0)] ++ List.replicate (2 - (lg_sl [.ref (a 0), .ref (b1 0)]).length) Slot.unset).toArray = ls at hl ⊢
  have hl : lv_has ls 2 [(0, .ref (a 0)), (1, .ref (b1 0))] := hl
  unfold T_X2_readItem at hT
  refine lv_aload_n hx hb dX2_readItem_0 rfl (lv_at hl 0 rfl) ?_
  refine va_ldcS hx hb hown hKR.2.1 dX2_readItem_1 ?_
  obtain ⟨u1, hu2, h3⟩ := bd_e hT
  refine kw_Z (wc := [oX2 a g_length g_place g_fault, rI cyI (a 1) 150 g_bytes]) (wr := [oX1 b1 gp1_month gp1_floes gp1_founds gp1_notes gp1_undos, rI cyI (b1 1) 12 gp1_ways, rI cyI (b1 2) 12 gp1_strengths, rI cyI (b1 3) 5 gp1_kinds, rI cyI (b1 4) 5 gp1_cells, rI cyI (b1 5) 5 gp1_foods]) (ws' := [oX2 a g_length u1.2 g_fault, rI cyI (a 1) 150 g_bytes, oX1 b1 gp1_month gp1_floes gp1_founds gp1_notes gp1_undos, rI cyI (b1 1) 12 gp1_ways, rI cyI (b1 2) 12 gp1_strengths, rI cyI (b1 3) 5 gp1_kinds, rI cyI (b1 4) 5 gp1_cells, rI cyI (b1 5) 5 gp1_foods]) (va_runV (As := [.ref (adK 1)]) (rest := []) ⟨hx, hb, hml, hown, hts⟩ (c_X2_takeWord l D cyI cyJ cyS N a g_length g_place g_fault g_bytes 1 (by decide) adK adV t0 s.heap.size u1 hu2) (cwV 1 hts gX2_readItem_X2_takeWord rfl rfl rfl (by decide +kernel) ⟨(Nat.le_of_ble_eq_true rfl), (Nat.le_of_ble_eq_true rfl)⟩) (preWS_V (hP.sub (ws' := [oX2 a g_length g_place g_fault, rI cyI (a 1) 150 g_bytes]) [0, 1] rfl) (hD.sub (ws' := [oX2 a g_length g_place g_fault, rI cyI (a 1) 150 g_bytes]) [0, 1] (by decide) rfl) hKK (SS_narrow (SS_kept hSS hS.2.1) (va_free (wc := [oX2 a g_length g_place g_fault, rI cyI (a 1) 150 g_bytes]) hD hS hA [0, 1] rfl)) hKR (va_recv hK hP (ci := 1) (q0 := 0) rfl rfl)) rfl rfl hl.1 rfl (lv_room (Nat.le_of_ble_eq_true rfl)) dX2_readItem_3 ⟨Nat.zero_le _, Nat.zero_le _⟩) hP hD hS hA [0, 1] [2, 3, 4, 5, 6, 7] [6, 7, 0, 1, 2, 3, 4, 5] rfl rfl (by decide) (by decide) rfl (by decide) (fun H4 L5 hn6 hP hD hS => ?_)
  refine lv_if_eq (tgt := 17) hx hb dX2_readItem_6 (by decide) (fun c7 => ?_) (fun c7 => ?_)
  · have h8 := (if_pos c7).symm.trans h3
    refine lv_aload_n hx hb dX2_readItem_17 rfl (lv_at hl 1 rfl) ?_
    refine va_get (D := D) (cl := vwCl) (ci := 0) (v := .int gp1_floes) (C := RX1) (T := TX1) (N := 13) hx hb hts inX1 hown hK hP 2 rfl rfl 3 (by decide) (hts (Cond.fieldLink RX2 62 "FrozenIn$Sea" "floes" "I") (List.mem_of_getElem? (i := 1) rfl)) (fun _ h9 => h9) rfl dX2_readItem_18 ?_
    refine lv_iconst (v := 5) hx hb dX2_readItem_21 (by decide) ?_
    obtain ⟨j10, hj11, h12⟩ := jn_e h8
    have Jj10 : ∀ (z9 : Int32) (H : Heap) (locs : List Loc) (ls : Array Slot), j10 z9 = some R0 → va_P D vwCl [oX2 a g_length z9 g_fault, rI cyI (a 1) 150 g_bytes, oX1 b1 gp1_month gp1_floes gp1_founds gp1_notes gp1_undos, rI cyI (b1 1) 12 gp1_ways, rI cyI (b1 2) 12 gp1_strengths, rI cyI (b1 3) 5 gp1_kinds, rI cyI (b1 4) 5 gp1_cells, rI cyI (b1 5) 5 gp1_foods] H → va_D A [oX2 a g_length z9 g_fault, rI cyI (a 1) 150 g_bytes, oX1 b1 gp1_month gp1_floes gp1_founds gp1_notes gp1_undos, rI cyI (b1 1) 12 gp1_ways, rI cyI (b1 2) 12 gp1_strengths, rI cyI (b1 3) 5 gp1_kinds, rI cyI (b1 4) 5 gp1_cells, rI cyI (b1 5) 5 gp1_foods] → va_S A s.heap H locs → lv_has ls 2 [(0, .ref (a 0))] → W p l e (headSpec wsX2_readItem rm_X2_readItem).room s m ([.ref (a 0), .ref (b1 0)] : List Value).toArray below meth c H locs 0 0 (MQ below (va_Qv (fun (_ : Unit) => True) (fun _ t => va_P D vwCl [oX2 a g_length R0.1 R0.2.1, rI cyI (a 1) 150 g_bytes, oX1 b1 gp1_month R0.2.2.1 gp1_founds gp1_notes R0.2.2.2.1, rI cyI (b1 1) 12 R0.2.2.2.2.1, rI cyI (b1 2) 12 R0.2.2.2.2.2.1, rI cyI (b1 3) 5 R0.2.2.2.2.2.2.1, rI cyI (b1 4) 5 R0.2.2.2.2.2.2.2.1, rI cyI (b1 5) 5 R0.2.2.2.2.2.2.2.2] t.heap ∧ va_D A [oX2 a g_length R0.1 R0.2.1, rI cyI (a 1) 150 g_bytes, oX1 b1 gp1_month R0.2.2.1 gp1_founds gp1_notes R0.2.2.2.1, rI cyI (b1 1) 12 R0.2.2.2.2.1, rI cyI (b1 2) 12 R0.2.2.2.2.2.1, rI cyI (b1 3) 5 R0.2.2.2.2.2.2.1, rI cyI (b1 4) 5 R0.2.2.2.2.2.2.2.1, rI cyI (b1 5) 5 R0.2.2.2.2.2.2.2.2]) A) ([.ref (a 0), .ref (b1 0)] : List Value).toArray s 0 0 A) (F0 m 42 ls []) := by
      intro z9 H14 L15 ls h13 hP hD hS hl
      rw [hj11] at h13
      refine lv_aload_n hx hb dX2_readItem_42 rfl (lv_at hl 0 rfl) ?_
      obtain ⟨u16, hu17, h18⟩ := lt_e h13
      refine kw_V (wc := [oX2 a g_length z9 g_fault]) (wr := [rI cyI (a 1) 150 g_bytes, oX1 b1 gp1_month gp1_floes gp1_founds gp1_notes gp1_undos, rI cyI (b1 1) 12 gp1_ways, rI cyI (b1 2) 12 gp1_strengths, rI cyI (b1 3) 5 gp1_kinds, rI cyI (b1 4) 5 gp1_cells, rI cyI (b1 5) 5 gp1_foods]) (ws' := [oX2 a g_length z9 u16, rI cyI (a 1) 150 g_bytes, oX1 b1 gp1_month gp1_floes gp1_founds gp1_notes gp1_undos, rI cyI (b1 1) 12 gp1_ways, rI cyI (b1 2) 12 gp1_strengths, rI cyI (b1 3) 5 gp1_kinds, rI cyI (b1 4) 5 gp1_cells, rI cyI (b1 5) 5 gp1_foods]) (va_runV (As := []) (rest := []) ⟨hx, hb, hml, hown, hts⟩ (c_X2_fail l D cyI cyJ cyS a g_length z9 g_fault H14.size u16 hu17.symm) (cwV 0 hts gX2_readItem_X2_fail rfl rfl rfl (by decide +kernel) ⟨(Nat.le_of_ble_eq_true rfl), (Nat.le_of_ble_eq_true rfl)⟩) (preW_V (hP.sub (ws' := [oX2 a g_length z9 g_fault]) [0] rfl) (hD.sub (ws' := [oX2 a g_length z9 g_fault]) [0] (by decide) rfl) hKK (va_recv hK hP (ci := 1) (q0 := 0) rfl rfl)) rfl rfl hl.1 rfl (lv_room (Nat.le_of_ble_eq_true rfl)) dX2_readItem_43 ⟨Nat.zero_le _, Nat.zero_le _⟩) hP hD hS hA [0] [1, 2, 3, 4, 5, 6, 7] [7, 0, 1, 2, 3, 4, 5, 6] rfl rfl (by decide) (by decide) rfl (by decide) (fun H19 L20 hP hD hS => ?_)
      rw [← Option.some.inj h18]
      exact W.vret hx hb hr (fun t ht hW => ⟨⟨(), rfl, trivial, ⟨by rw [ht]; exact hP, hD⟩⟩, hS.F ht⟩) hS.2.2 dX2_readItem_46
    refine lv_icmp_ge (tgt := 42) hx hb dX2_readItem_22 (by decide) (fun c21 => ?_) (fun c21 => ?_)
    · have h22 := (if_pos c21).symm.trans h12
      exact Jj10 u1.2 _ _ _ h22 hP hD hS (lv_sub hl [0] rfl)
    · have h23 := (if_neg c21).symm.trans h12
      refine lv_aload_n hx hb dX2_readItem_25 rfl (lv_at hl 0 rfl) ?_
      refine va_ldcS hx hb hown hKR.2.2 dX2_readItem_26 ?_
      obtain ⟨u24, hu25, h26⟩ := bd_e h23
      refine kw_Z (wc := [oX2 a g_length u1.2 g_fault, rI cyI (a 1) 150 g_bytes]) (wr := [oX1 b1 gp1_month gp1_floes gp1_founds gp1_notes gp1_undos, rI cyI (b1 1) 12 gp1_ways, rI cyI (b1 2) 12 gp1_strengths, rI cyI (b1 3) 5 gp1_kinds, rI cyI (b1 4) 5 gp1_cells, rI cyI (b1 5) 5 gp1_foods]) (ws' := [oX2 a g_length u24.2 g_fault, rI cyI (a 1) 150 g_bytes, oX1 b1 gp1_month gp1_floes gp1_founds gp1_notes gp1_undos, rI cyI (b1 1) 12 gp1_ways, rI cyI (b1 2) 12 gp1_strengths, rI cyI (b1 3) 5 gp1_kinds, rI cyI (b1 4) 5 gp1_cells, rI cyI (b1 5) 5 gp1_foods]) (va_runV (As := [.ref (adK 2)]) (rest := []) ⟨hx, hb, hml, hown, hts⟩ (c_X2_takeWord l D cyI cyJ cyS N a g_length u1.2 g_fault g_bytes 2 (by decide) adK adV t0 H4.size u24 hu25) (cwV 1 hts gX2_readItem_X2_takeWord rfl rfl rfl (by decide +kernel) ⟨(Nat.le_of_ble_eq_true rfl), (Nat.le_of_ble_eq_true rfl)⟩) (preWS_V (hP.sub (ws' := [oX2 a g_length u1.2 g_fault, rI cyI (a 1) 150 g_bytes]) [0, 1] rfl) (hD.sub (ws' := [oX2 a g_length u1.2 g_fault, rI cyI (a 1) 150 g_bytes]) [0, 1] (by decide) rfl) hKK (SS_narrow (SS_kept hSS hS.2.1) (va_free (wc := [oX2 a g_length u1.2 g_fault, rI cyI (a 1) 150 g_bytes]) hD hS hA [0, 1] rfl)) hKR (va_recv hK hP (ci := 1) (q0 := 0) rfl rfl)) rfl rfl hl.1 rfl (lv_room (Nat.le_of_ble_eq_true rfl)) dX2_readItem_28 ⟨Nat.zero_le _, Nat.zero_le _⟩) hP hD hS hA [0, 1] [2, 3, 4, 5, 6, 7] [6, 7, 0, 1, 2, 3, 4, 5] rfl rfl (by decide) (by decide) rfl (by decide) (fun H27 L28 hn29 hP hD hS => ?_)
      refine lv_if_eq (tgt := 42) hx hb dX2_readItem_31 (by decide) (fun c30 => ?_) (fun c30 => ?_)
      · have h31 := (if_pos c30).symm.trans h26
        exact Jj10 u24.2 _ _ _ h31 hP hD hS (lv_sub hl [0] rfl)
      · have h32 := (if_neg c30).symm.trans h26
        refine lv_aload_n hx hb dX2_readItem_34 rfl (lv_at hl 0 rfl) ?_
        refine lv_aload_n hx hb dX2_readItem_35 rfl (lv_at hl 1 rfl) ?_
        obtain ⟨u33, hu34, h35⟩ := bd_e h32
        refine kw_V (wc := [oX2 a g_length u24.2 g_fault, rI cyI (a 1) 150 g_bytes, oX1 b1 gp1_month gp1_floes gp1_founds gp1_notes gp1_undos, rI cyI (b1 3) 5 gp1_kinds, rI cyI (b1 4) 5 gp1_cells, rI cyI (b1 5) 5 gp1_foods]) (wr := [rI cyI (b1 1) 12 gp1_ways, rI cyI (b1 2) 12 gp1_strengths]) (ws' := [oX2 a g_length u33.1 u33.2.1, rI cyI (a 1) 150 g_bytes, oX1 b1 gp1_month u33.2.2.1 gp1_founds gp1_notes u33.2.2.2.1, rI cyI (b1 1) 12 gp1_ways, rI cyI (b1 2) 12 gp1_strengths, rI cyI (b1 3) 5 u33.2.2.2.2.1, rI cyI (b1 4) 5 u33.2.2.2.2.2.1, rI cyI (b1 5) 5 u33.2.2.2.2.2.2]) (va_runV (As := [.ref (b1 0)]) (rest := []) ⟨hx, hb, hml, hown, hts⟩ (c_X2_readFloe l D cyI cyJ cyS N a b1 g_length u24.2 g_fault g_bytes gp1_month gp1_floes gp1_founds gp1_notes gp1_undos gp1_kinds gp1_cells gp1_foods H27.size u33 hu34) (cwV 1 hts gX2_readItem_X2_readFloe rfl rfl rfl (by decide +kernel) ⟨(Nat.le_of_ble_eq_true rfl), (Nat.le_of_ble_eq_true rfl)⟩) (preW_V (hP.sub (ws' := [oX2 a g_length u24.2 g_fault, rI cyI (a 1) 150 g_bytes, oX1 b1 gp1_month gp1_floes gp1_founds gp1_notes gp1_undos, rI cyI (b1 3) 5 gp1_kinds, rI cyI (b1 4) 5 gp1_cells, rI cyI (b1 5) 5 gp1_foods]) [0, 1, 2, 5, 6, 7] rfl) (hD.sub (ws' := [oX2 a g_length u24.2 g_fault, rI cyI (a 1) 150 g_bytes, oX1 b1 gp1_month gp1_floes gp1_founds gp1_notes gp1_undos, rI cyI (b1 3) 5 gp1_kinds, rI cyI (b1 4) 5 gp1_cells, rI cyI (b1 5) 5 gp1_foods]) [0, 1, 2, 5, 6, 7] (by decide) rfl) hKK (va_recv hK hP (ci := 1) (q0 := 0) rfl rfl)) rfl rfl hl.1 rfl (lv_room (Nat.le_of_ble_eq_true rfl)) dX2_readItem_36 ⟨Nat.zero_le _, Nat.zero_le _⟩) hP hD hS hA [0, 1, 2, 5, 6, 7] [3, 4] [2, 3, 4, 0, 1, 5, 6, 7] rfl rfl (by decide) (by decide) rfl (by decide) (fun H36 L37 hP hD hS => ?_)
        refine lv_goto (tgt := 46) hx hb dX2_readItem_39 (by decide) ?_
        rw [← Option.some.inj h35]
        exact W.vret hx hb hr (fun t ht hW => ⟨⟨(), rfl, trivial, ⟨by rw [ht]; exact hP, hD⟩⟩, hS.F ht⟩) hS.2.2 dX2_readItem_46
  · have h38 := (if_neg c7).symm.trans h3
    refine lv_aload_n hx hb dX2_readItem_9 rfl (lv_at hl 0 rfl) ?_
    refine lv_aload_n hx hb dX2_readItem_10 rfl (lv_at hl 1 rfl) ?_
    obtain ⟨u39, hu40, h41⟩ := bd_e h38
    refine kw_V (wc := [oX2 a g_length u1.2 g_fault, rI cyI (a 1) 150 g_bytes, oX1 b1 gp1_month gp1_floes gp1_founds gp1_notes gp1_undos, rI cyI (b1 1) 12 gp1_ways, rI cyI (b1 2) 12 gp1_strengths]) (wr := [rI cyI (b1 3) 5 gp1_kinds, rI cyI (b1 4) 5 gp1_cells, rI cyI (b1 5) 5 gp1_foods]) (ws' := [oX2 a g_length u39.1 u39.2.1, rI cyI (a 1) 150 g_bytes, oX1 b1 gp1_month gp1_floes gp1_founds gp1_notes u39.2.2.1, rI cyI (b1 1) 12 u39.2.2.2.1, rI cyI (b1 2) 12 u39.2.2.2.2, rI cyI (b1 3) 5 gp1_kinds, rI cyI (b1 4) 5 gp1_cells, rI cyI (b1 5) 5 gp1_foods]) (va_runV (As := [.ref (b1 0)]) (rest := []) ⟨hx, hb, hml, hown, hts⟩ (c_X2_readWind l D cyI cyJ cyS N a b1 g_length u1.2 g_fault g_bytes gp1_month gp1_floes gp1_founds gp1_notes gp1_undos gp1_ways gp1_strengths H4.size u39 hu40) (cwV 1 hts gX2_readItem_X2_readWind rfl rfl rfl (by decide +kernel) ⟨(Nat.le_of_ble_eq_true rfl), (Nat.le_of_ble_eq_true rfl)⟩) (preW_V (hP.sub (ws' := [oX2 a g_length u1.2 g_fault, rI cyI (a 1) 150 g_bytes, oX1 b1 gp1_month gp1_floes gp1_founds gp1_notes gp1_undos, rI cyI (b1 1) 12 gp1_ways, rI cyI (b1 2) 12 gp1_strengths]) [0, 1, 2, 3, 4] rfl) (hD.sub (ws' := [oX2 a g_length u1.2 g_fault, rI cyI (a 1) 150 g_bytes, oX1 b1 gp1_month gp1_floes gp1_founds gp1_notes gp1_undos, rI cyI (b1 1) 12 gp1_ways, rI cyI (b1 2) 12 gp1_strengths]) [0, 1, 2, 3, 4] (by decide) rfl) hKK (va_recv hK hP (ci := 1) (q0 := 0) rfl rfl)) rfl rfl hl.1 rfl (lv_room (Nat.le_of_ble_eq_true rfl)) dX2_readItem_11 ⟨Nat.zero_le _, Nat.zero_le _⟩) hP hD hS hA [0, 1, 2, 3, 4] [5, 6, 7] [3, 4, 5, 6, 7, 0, 1, 2] rfl rfl (by decide) (by decide) rfl (by decide) (fun H42 L43 hP hD hS => ?_)
    refine lv_goto (tgt := 46) hx hb dX2_readItem_14 (by decide) ?_
    rw [← Option.some.inj h41]
    exact W.vret hx hb hr (fun t ht hW => ⟨⟨(), rfl, trivial, ⟨by rw [ht]; exact hP, hD⟩⟩, hS.F ht⟩) hS.2.2 dX2_readItem_46
def T_X2_readInto_L21 (N : Nat) (g_length : Int32) (g_bytes : Nat → Int32) (k62 : Int32 → Int32 → Int32 → Int32 → Int32 → (Nat → Int32) → (Nat → Int32) → (Nat → Int32) → (Nat → Int32) → (Nat → Int32) → Option (Int32 × Int32 × Int32 × Int32 × Int32 × Int32 × Int32 × Int32 × (Nat → Int32) × (Nat → Int32) × (Nat → Int32) × (Nat → Int32) × (Nat → Int32))) : Nat → Int32 → Int32 → Int32 → Int32 → Int32 → (Nat → Int32) → (Nat → Int32) → (Nat → Int32) → (Nat → Int32) → (Nat → Int32) → Option (Int32 × Int32 × Int32 × Int32 × Int32 × Int32 × Int32 × Int32 × (Nat → Int32) × (Nat → Int32) × (Nat → Int32) × (Nat → Int32) × (Nat → Int32))
  | 0, _, _, _, _, _, _, _, _, _, _ => none
  | n + 1, x15, z16, z17, z18, z19, z20, z21, z22, z23, z24 => (if z17 = (-1) then (if g_length ≤ z16 then (k62 x15 z16 z17 z18 z19 z20 z21 z22 z23 z24) else (if 150 < x15 then (k62 x15 z16 z17 z18 z19 z20 z21 z22 z23 z24) else (Option.bind (T_X2_readItem N g_length z16 z17 g_bytes z18 z19 z20 z21 z22 z23 z24) fun u50 => (lt' (x15 + 1) fun x55 => (Option.bind (T_X2_skipBlanks N g_length u50.1 g_bytes) fun u57 => (T_X2_readInto_L21 N g_length g_bytes k62 n x55 u57 u50.2.1 u50.2.2.1 u50.2.2.2.1 u50.2.2.2.2.1 u50.2.2.2.2.2.1 u50.2.2.2.2.2.2.1 u50.2.2.2.2.2.2.2.1 u50.2.2.2.2.2.2.2.2)))))) else (k62 x15 z16 z17 z18 z19 z20 z21 z22 z23 z24))
theorem T_X2_readInto_L21_s (N : Nat) (g_length : Int32) (g_bytes : Nat → Int32) (k62 : Int32 → Int32 → Int32 → Int32 → Int32 → (Nat → Int32) → (Nat → Int32) → (Nat → Int32) → (Nat → Int32) → (Nat → Int32) → Option (Int32 × Int32 × Int32 × Int32 × Int32 × Int32 × Int32 × Int32 × (Nat → Int32) × (Nat → Int32) × (Nat → Int32) × (Nat → Int32) × (Nat → Int32))) (n : Nat) (x15 : Int32) (z16 : Int32) (z17 : Int32) (z18 : Int32) (z19 : Int32) (z20 : Nat → Int32) (z21 : Nat → Int32) (z22 : Nat → Int32) (z23 : Nat → Int32) (z24 : Nat → Int32) : T_X2_readInto_L21 N g_length g_bytes k62 (n + 1) x15 z16 z17 z18 z19 z20 z21 z22 z23 z24 = (if z17 = (-1) then (if g_length ≤ z16 then (k62 x15 z16 z17 z18 z19 z20 z21 z22 z23 z24) else (if 150 < x15 then (k62 x15 z16 z17 z18 z19 z20 z21 z22 z23 z24) else (Option.bind (T_X2_readItem N g_length z16 z17 g_bytes z18 z19 z20 z21 z22 z23 z24) fun u50 => (lt' (x15 + 1) fun x55 => (Option.bind (T_X2_skipBlanks N g_length u50.1 g_bytes) fun u57 => (T_X2_readInto_L21 N g_length g_bytes k62 n x55 u57 u50.2.1 u50.2.2.1 u50.2.2.2.1 u50.2.2.2.2.1 u50.2.2.2.2.2.1 u50.2.2.2.2.2.2.1 u50.2.2.2.2.2.2.2.1 u50.2.2.2.2.2.2.2.2)))))) else (k62 x15 z16 z17 z18 z19 z20 z21 z22 z23 z24)) := rfl
def T_X2_readInto (N : Nat) (g_length : Int32) (g_place : Int32) (g_fault : Int32) (g_bytes : Nat → Int32) (gp1_month : Int32) (gp1_floes : Int32) (gp1_founds : Int32) (gp1_notes : Int32) (gp1_undos : Int32) (gp1_ways : Nat → Int32) (gp1_strengths : Nat → Int32) (gp1_kinds : Nat → Int32) (gp1_cells : Nat → Int32) (gp1_foods : Nat → Int32) : Option (Int32 × Int32 × Int32 × Int32 × Int32 × Int32 × Int32 × Int32 × (Nat → Int32) × (Nat → Int32) × (Nat → Int32) × (Nat → Int32) × (Nat → Int32)) :=
  (Option.bind (T_X2_readSea N g_length 0 (-1) g_bytes gp1_month gp1_floes gp1_founds gp1_notes gp1_undos gp1_ways gp1_strengths) fun u5 => (Option.bind (T_X2_skipBlanks N g_length u5.1 g_bytes) fun u10 => (T_X2_readInto_L21 N g_length g_bytes (fun (x62 : Int32) (z63 : Int32) (z64 : Int32) (z65 : Int32) (z66 : Int32) (z67 : Nat → Int32) (z68 : Nat → Int32) (z69 : Nat → Int32) (z70 : Nat → Int32) (z71 : Nat → Int32) => (if z64 = (-1) then (some (x62, z63, z64, u5.2.2.1, z65, u5.2.2.2.2.1, u5.2.2.2.2.2.1, z66, z67, z68, z69, z70, z71)) else (some ((-10) - z64, z63, z64, u5.2.2.1, z65, u5.2.2.2.2.1, u5.2.2.2.2.2.1, z66, z67, z68, z69, z70, z71)))) N 1 u10 u5.2.1 u5.2.2.2.1 u5.2.2.2.2.2.2.1 u5.2.2.2.2.2.2.2.1 u5.2.2.2.2.2.2.2.2 gp1_kinds gp1_cells gp1_foods)))
abbrev rm_X2_readInto : Room := { frames := 6, cells := 0, slots := 0, locals := 130 }
set_option maxHeartbeats 4000000 in
set_option maxRecDepth 100000 in
theorem c_X2_readInto (l : Launch) (D : va_G) (cyI cyJ cyS : ClassId) (N : Nat) (a b1 : Nat → Nat) (g_length : Int32) (g_place : Int32) (g_fault : Int32) (g_bytes : Nat → Int32) (gp1_month : Int32) (gp1_floes : Int32) (gp1_founds : Int32) (gp1_notes : Int32) (gp1_undos : Int32) (gp1_ways : Nat → Int32) (gp1_strengths : Nat → Int32) (gp1_kinds : Nat → Int32) (gp1_cells : Nat → Int32) (gp1_foods : Nat → Int32) (adK adV : Nat → Nat) (t0 : Option Nat) (sz : Nat) (R0 : Int32 × Int32 × Int32 × Int32 × Int32 × Int32 × Int32 × Int32 × (Nat → Int32) × (Nat → Int32) × (Nat → Int32) × (Nat → Int32) × (Nat → Int32)) (hT : T_X2_readInto N g_length g_place g_fault g_bytes gp1_month gp1_floes gp1_founds gp1_notes gp1_undos gp1_ways gp1_strengths gp1_kinds gp1_cells gp1_foods = some R0) : Met l yX2_readInto wsX2_readInto rm_X2_readInto (va_Pc [.ref (a 0), .ref (b1 0)] (preWS D (tyS cyI cyJ cyS) [oX2 a g_length g_place g_fault, rI cyI (a 1) 150 g_bytes, oX1 b1 gp1_month gp1_floes gp1_founds gp1_notes gp1_undos, rI cyI (b1 1) 12 gp1_ways, rI cyI (b1 2) 12 gp1_strengths, rI cyI (b1 3) 5 gp1_kinds, rI cyI (b1 4) 5 gp1_cells, rI cyI (b1 5) 5 gp1_foods] sz adK adV t0)) (va_Qi (fun (r : Int32) (_ : Unit) => r = R0.1) (fun _ t => va_P D vwCl [oX2 a g_length R0.2.1 R0.2.2.1, rI cyI (a 1) 150 g_bytes, oX1 b1 R0.2.2.2.1 R0.2.2.2.2.1 R0.2.2.2.2.2.1 R0.2.2.2.2.2.2.1 R0.2.2.2.2.2.2.2.1, rI cyI (b1 1) 12 R0.2.2.2.2.2.2.2.2.1, rI cyI (b1 2) 12 R0.2.2.2.2.2.2.2.2.2.1, rI cyI (b1 3) 5 R0.2.2.2.2.2.2.2.2.2.2.1, rI cyI (b1 4) 5 R0.2.2.2.2.2.2.2.2.2.2.2.1, rI cyI (b1 5) 5 R0.2.2.2.2.2.2.2.2.2.2.2.2] t.heap ∧ va_D (va_A [oX2 a g_length g_place g_fault, rI cyI (a 1) 150 g_bytes, oX1 b1 gp1_month gp1_floes gp1_founds gp1_notes gp1_undos, rI cyI (b1 1) 12 gp1_ways, rI cyI (b1 2) 12 gp1_strengths, rI cyI (b1 3) 5 gp1_kinds, rI cyI (b1 4) 5 gp1_cells, rI cyI (b1 5) 5 gp1_foods] sz) [oX2 a g_length R0.2.1 R0.2.2.1, rI cyI (a 1) 150 g_bytes, oX1 b1 R0.2.2.2.1 R0.2.2.2.2.1 R0.2.2.2.2.2.1 R0.2.2.2.2.2.2.1 R0.2.2.2.2.2.2.2.1, rI cyI (b1 1) 12 R0.2.2.2.2.2.2.2.2.1, rI cyI (b1 2) 12 R0.2.2.2.2.2.2.2.2.2.1, rI cyI (b1 3) 5 R0.2.2.2.2.2.2.2.2.2.2.1, rI cyI (b1 4) 5 R0.2.2.2.2.2.2.2.2.2.2.2.1, rI cyI (b1 5) 5 R0.2.2.2.2.2.2.2.2.2.2.2.2]) (va_A [oX2 a g_length g_place g_fault, rI cyI (a 1) 150 g_bytes, oX1 b1 gp1_month gp1_floes gp1_founds gp1_notes gp1_undos, rI cyI (b1 1) 12 gp1_ways, rI cyI (b1 2) 12 gp1_strengths, rI cyI (b1 3) 5 gp1_kinds, rI cyI (b1 4) 5 gp1_cells, rI cyI (b1 5) 5 gp1_foods] sz)) 0 0 (va_A [oX2 a g_length g_place g_fault, rI cyI (a 1) 150 g_bytes, oX1 b1 gp1_month gp1_floes gp1_founds gp1_notes gp1_undos, rI cyI (b1 1) 12 gp1_ways, rI cyI (b1 2) 12 gp1_strengths, rI cyI (b1 3) 5 gp1_kinds, rI cyI (b1 4) 5 gp1_cells, rI cyI (b1 5) 5 gp1_foods] sz) := by
  refine Met.ofW (cc := cX2_readInto) (maxL := 3) (ret := (some .int)) (by decide) rfl ?_
  intro p e s m args below meth c s₁ B hml hv
  obtain ⟨rfl, hsz, hP, hKK, hD0, hSS, hKR⟩ := hv
  have hx := B.exec
  have hb := B.bytes
  have hr := B.returns
  have hts := atoms_spec (ws := wsX2_readInto) B.pre
  have hown : s.vm.findClass RX2 = some m.cls := findClass_of_methodNamed B.named
  have hlocks := B.notSynchronized
  have hK := hKK.1
  have inX2 : ∀ w ∈ wsX20, w ∈ wsX2_readInto := (fun _ h => List.mem_cons_of_mem _ (List.mem_append_left _ (List.mem_append_right _ h)))
  have inX1 : ∀ w ∈ wsX10, w ∈ wsX2_readInto := (fun _ h => List.mem_cons_of_mem _ (List.mem_append_right _ h))
  subst hsz
  have hD := hD0.self (sz := s.heap.size)
  generalize hAe : va_A [oX2 a g_length g_place g_fault, rI cyI (a 1) 150 g_bytes, oX1 b1 gp1_month gp1_floes gp1_founds gp1_notes gp1_undos, rI cyI (b1 1) 12 gp1_ways, rI cyI (b1 2) 12 gp1_strengths, rI cyI (b1 3) 5 gp1_kinds, rI cyI (b1 4) 5 gp1_cells, rI cyI (b1 5) 5 gp1_foods] s.heap.size = A at hD hSS ⊢
  have hA : ∀ q : Nat, s.heap.size ≤ q → A q := fun q h => by rw [← hAe]; exact Or.inr h
  have hS : va_S A s.heap s.heap [] := va_S.rf
  have hP : va_P D vwCl [oX2 a g_length g_place g_fault, rI cyI (a 1) 150 g_bytes, oX1 b1 gp1_month gp1_floes gp1_founds gp1_notes gp1_undos, rI cyI (b1 1) 12 gp1_ways, rI cyI (b1 2) 12 gp1_strengths, rI cyI (b1 3) 5 gp1_kinds, rI cyI (b1 4) 5 gp1_cells, rI cyI (b1 5) 5 gp1_foods] s.heap := hP
  have hl := lv_entry [.ref (a 0), .ref (b1 0)] (n := 3) (Nat.le_of_ble_eq_true rfl)
  rw [lg_entry_eq]
  generalize (lg_sl [.ref (a 0), .ref (b1 0)] ++ List.replicate (3 - (lg_sl [.ref (a 0), .ref (b1 0)]).length) Slot.unset).toArray = ls at hl ⊢
  have hl : lv_has ls 3 [(0, .ref (a 0)), (1, .ref (b1 0))] := hl
  have L21 : ∀ (y25 : Int32) (y26 : Int32) (y27 : Int32) (k62 : Int32 → Int32 → Int32 → Int32 → Int32 → (Nat → Int32) → (Nat → Int32) → (Nat → Int32) → (Nat → Int32) → (Nat → Int32) → Option (Int32 × Int32 × Int32 × Int32 × Int32 × Int32 × Int32 × Int32 × (Nat → Int32) × (Nat → Int32) × (Nat → Int32) × (Nat → Int32) × (Nat → Int32))) (hk62 : ∀ (x28 : Int32) (z29 : Int32) (z30 : Int32) (z31 : Int32) (z32 : Int32) (z33 : Nat → Int32) (z34 : Nat → Int32) (z35 : Nat → Int32) (z36 : Nat → Int32) (z37 : Nat → Int32) (H : Heap) (locs : List Loc) (ls : Array Slot), k62 x28 z29 z30 z31 z32 z33 z34 z35 z36 z37 = some R0 → va_P D vwCl [oX2 a g_length z29 z30, rI cyI (a 1) 150 g_bytes, oX1 b1 y25 z31 y26 y27 z32, rI cyI (b1 1) 12 z33, rI cyI (b1 2) 12 z34, rI cyI (b1 3) 5 z35, rI cyI (b1 4) 5 z36, rI cyI (b1 5) 5 z37] H → va_D A [oX2 a g_length z29 z30, rI cyI (a 1) 150 g_bytes, oX1 b1 y25 z31 y26 y27 z32, rI cyI (b1 1) 12 z33, rI cyI (b1 2) 12 z34, rI cyI (b1 3) 5 z35, rI cyI (b1 4) 5 z36, rI cyI (b1 5) 5 z37] → va_S A s.heap H locs → lv_has ls 3 [(0, .ref (a 0)), (2, .int x28)] → W p l e (headSpec wsX2_readInto rm_X2_readInto).room s m ([.ref (a 0), .ref (b1 0)] : List Value).toArray below meth c H locs 0 0 (MQ below (va_Qi (fun (r : Int32) (_ : Unit) => r = R0.1) (fun _ t => va_P D vwCl [oX2 a g_length R0.2.1 R0.2.2.1, rI cyI (a 1) 150 g_bytes, oX1 b1 R0.2.2.2.1 R0.2.2.2.2.1 R0.2.2.2.2.2.1 R0.2.2.2.2.2.2.1 R0.2.2.2.2.2.2.2.1, rI cyI (b1 1) 12 R0.2.2.2.2.2.2.2.2.1, rI cyI (b1 2) 12 R0.2.2.2.2.2.2.2.2.2.1, rI cyI (b1 3) 5 R0.2.2.2.2.2.2.2.2.2.2.1, rI cyI (b1 4) 5 R0.2.2.2.2.2.2.2.2.2.2.2.1, rI cyI (b1 5) 5 R0.2.2.2.2.2.2.2.2.2.2.2.2] t.heap ∧ va_D A [oX2 a g_length R0.2.1 R0.2.2.1, rI cyI (a 1) 150 g_bytes, oX1 b1 R0.2.2.2.1 R0.2.2.2.2.1 R0.2.2.2.2.2.1 R0.2.2.2.2.2.2.1 R0.2.2.2.2.2.2.2.1, rI cyI (b1 1) 12 R0.2.2.2.2.2.2.2.2.1, rI cyI (b1 2) 12 R0.2.2.2.2.2.2.2.2.2.1, rI cyI (b1 3) 5 R0.2.2.2.2.2.2.2.2.2.2.1, rI cyI (b1 4) 5 R0.2.2.2.2.2.2.2.2.2.2.2.1, rI cyI (b1 5) 5 R0.2.2.2.2.2.2.2.2.2.2.2.2]) A) ([.ref (a 0), .ref (b1 0)] : List Value).toArray s 0 0 A) (F0 m 62 ls [])) (n : Nat), ∀ (x15 : Int32) (z16 : Int32) (z17 : Int32) (z18 : Int32) (z19 : Int32) (z20 : Nat → Int32) (z21 : Nat → Int32) (z22 : Nat → Int32) (z23 : Nat → Int32) (z24 : Nat → Int32) (H : Heap) (locs : List Loc) (ls : Array Slot), T_X2_readInto_L21 N g_length g_bytes k62 n x15 z16 z17 z18 z19 z20 z21 z22 z23 z24 = some R0 → va_P D vwCl [oX2 a g_length z16 z17, rI cyI (a 1) 150 g_bytes, oX1 b1 y25 z18 y26 y27 z19, rI cyI (b1 1) 12 z20, rI cyI (b1 2) 12 z21, rI cyI (b1 3) 5 z22, rI cyI (b1 4) 5 z23, rI cyI (b1 5) 5 z24] H → va_D A [oX2 a g_length z16 z17, rI cyI (a 1) 150 g_bytes, oX1 b1 y25 z18 y26 y27 z19, rI cyI (b1 1) 12 z20, rI cyI (b1 2) 12 z21, rI cyI (b1 3) 5 z22, rI cyI (b1 4) 5 z23, rI cyI (b1 5) 5 z24] → va_S A s.heap H locs → lv_has ls 3 [(0, .ref (a 0)), (1, .ref (b1 0)), (2, .int x15)] → W p l e (headSpec wsX2_readInto rm_X2_readInto).room s m ([.ref (a 0), .ref (b1 0)] : List Value).toArray below meth c H locs 0 0 (MQ below (va_Qi (fun (r : Int32) (_ : Unit) => r = R0.1) (fun _ t => va_P D vwCl [oX2 a g_length R0.2.1 R0.2.2.1, rI cyI (a 1) 150 g_bytes, oX1 b1 R0.2.2.2.1 R0.2.2.2.2.1 R0.2.2.2.2.2.1 R0.2.2.2.2.2.2.1 R0.2.2.2.2.2.2.2.1, rI cyI (b1 1) 12 R0.2.2.2.2.2.2.2.2.1, rI cyI (b1 2) 12 R0.2.2.2.2.2.2.2.2.2.1, rI cyI (b1 3) 5 R0.2.2.2.2.2.2.2.2.2.2.1, rI cyI (b1 4) 5 R0.2.2.2.2.2.2.2.2.2.2.2.1, rI cyI (b1 5) 5 R0.2.2.2.2.2.2.2.2.2.2.2.2] t.heap ∧ va_D A [oX2 a g_length R0.2.1 R0.2.2.1, rI cyI (a 1) 150 g_bytes, oX1 b1 R0.2.2.2.1 R0.2.2.2.2.1 R0.2.2.2.2.2.1 R0.2.2.2.2.2.2.1 R0.2.2.2.2.2.2.2.1, rI cyI (b1 1) 12 R0.2.2.2.2.2.2.2.2.1, rI cyI (b1 2) 12 R0.2.2.2.2.2.2.2.2.2.1, rI cyI (b1 3) 5 R0.2.2.2.2.2.2.2.2.2.2.1, rI cyI (b1 4) 5 R0.2.2.2.2.2.2.2.2.2.2.2.1, rI cyI (b1 5) 5 R0.2.2.2.2.2.2.2.2.2.2.2.2]) A) ([.ref (a 0), .ref (b1 0)] : List Value).toArray s 0 0 A) (F0 m 21 ls []) := by
    intro y25 y26 y27 k62 hk62 n
    induction n with
    | zero => intro _ _ _ _ _ _ _ _ _ _ _ _ _ h; exact absurd h (fun z => by cases z)
    | succ n ih =>
      intro x15 z16 z17 z18 z19 z20 z21 z22 z23 z24 H39 L40 ls h38 hP hD hS hl
      rw [T_X2_readInto_L21_s] at h38
      refine lv_aload_n hx hb dX2_readInto_21 rfl (lv_at hl 0 rfl) ?_
      refine va_get (D := D) (cl := vwCl) (ci := 1) (v := .int z17) (C := RX2) (T := TX2) (N := 4) hx hb hts inX2 hown hK hP 0 rfl rfl 3 (by decide) (hts (Cond.fieldLink RX2 22 "FrozenIn$Text" "fault" "I") (List.mem_of_getElem? (i := 2) rfl)) (fun _ h9 => h9) rfl dX2_readInto_22 ?_
      refine lv_iconst (v := (-1)) hx hb dX2_readInto_25 (by decide) ?_
      refine lv_icmp_ne (tgt := 62) hx hb dX2_readInto_26 (by decide) (fun c41 => ?_) (fun c41 => ?_)
      · have h42 := (if_neg c41).symm.trans h38
        exact hk62 x15 z16 z17 z18 z19 z20 z21 z22 z23 z24 _ _ _ h42 hP hD hS (lv_sub hl [0, 2] rfl)
      · have h43 := (if_pos c41).symm.trans h38
        refine lv_aload_n hx hb dX2_readInto_29 rfl (lv_at hl 0 rfl) ?_
        refine va_get (D := D) (cl := vwCl) (ci := 1) (v := .int z16) (C := RX2) (T := TX2) (N := 4) hx hb hts inX2 hown hK hP 0 rfl rfl 2 (by decide) (hts (Cond.fieldLink RX2 19 "FrozenIn$Text" "place" "I") (List.mem_of_getElem? (i := 1) rfl)) (fun _ h9 => h9) rfl dX2_readInto_30 ?_
        refine lv_aload_n hx hb dX2_readInto_33 rfl (lv_at hl 0 rfl) ?_
        refine va_get (D := D) (cl := vwCl) (ci := 1) (v := .int g_length) (C := RX2) (T := TX2) (N := 4) hx hb hts inX2 hown hK hP 0 rfl rfl 1 (by decide) (hts (Cond.fieldLink RX2 15 "FrozenIn$Text" "length" "I") (List.mem_of_getElem? (i := 3) rfl)) (fun _ h9 => h9) rfl dX2_readInto_34 ?_
        refine lv_icmp_ge (tgt := 62) hx hb dX2_readInto_37 (by decide) (fun c44 => ?_) (fun c44 => ?_)
        · have h45 := (if_pos c44).symm.trans h43
          exact hk62 x15 z16 z17 z18 z19 z20 z21 z22 z23 z24 _ _ _ h45 hP hD hS (lv_sub hl [0, 2] rfl)
        · have h46 := (if_neg c44).symm.trans h43
          refine lv_iload_n hx hb dX2_readInto_40 rfl (lv_at hl 2 rfl) ?_
          refine lv_sipush (v := 150) hx hb dX2_readInto_41 (by decide) ?_
          refine lv_icmp_gt (tgt := 62) hx hb dX2_readInto_44 (by decide) (fun c47 => ?_) (fun c47 => ?_)
          · have h48 := (if_pos c47).symm.trans h46
            exact hk62 x15 z16 z17 z18 z19 z20 z21 z22 z23 z24 _ _ _ h48 hP hD hS (lv_sub hl [0, 2] rfl)
          · have h49 := (if_neg c47).symm.trans h46
            refine lv_aload_n hx hb dX2_readInto_47 rfl (lv_at hl 0 rfl) ?_
            refine lv_aload_n hx hb dX2_readInto_48 rfl (lv_at hl 1 rfl) ?_
            obtain ⟨u50, hu51, h52⟩ := bd_e h49
            refine kw_V (wc := [oX2 a g_length z16 z17, rI cyI (a 1) 150 g_bytes, oX1 b1 y25 z18 y26 y27 z19, rI cyI (b1 1) 12 z20, rI cyI (b1 2) 12 z21, rI cyI (b1 3) 5 z22, rI cyI (b1 4) 5 z23, rI cyI (b1 5) 5 z24]) (wr := []) (ws' := [oX2 a g_length u50.1 u50.2.1, rI cyI (a 1) 150 g_bytes, oX1 b1 y25 u50.2.2.1 y26 y27 u50.2.2.2.1, rI cyI (b1 1) 12 u50.2.2.2.2.1, rI cyI (b1 2) 12 u50.2.2.2.2.2.1, rI cyI (b1 3) 5 u50.2.2.2.2.2.2.1, rI cyI (b1 4) 5 u50.2.2.2.2.2.2.2.1, rI cyI (b1 5) 5 u50.2.2.2.2.2.2.2.2]) (va_runV (As := [.ref (b1 0)]) (rest := []) ⟨hx, hb, hml, hown, hts⟩ (c_X2_readItem l D cyI cyJ cyS N a b1 g_length z16 z17 g_bytes y25 z18 y26 y27 z19 z20 z21 z22 z23 z24 adK adV t0 H39.size u50 hu51) (cwV 1 hts gX2_readInto_X2_readItem rfl rfl rfl (by decide +kernel) ⟨(Nat.le_of_ble_eq_true rfl), (Nat.le_of_ble_eq_true rfl)⟩) (preWS_V (hP.sub (ws' := [oX2 a g_length z16 z17, rI cyI (a 1) 150 g_bytes, oX1 b1 y25 z18 y26 y27 z19, rI cyI (b1 1) 12 z20, rI cyI (b1 2) 12 z21, rI cyI (b1 3) 5 z22, rI cyI (b1 4) 5 z23, rI cyI (b1 5) 5 z24]) [0, 1, 2, 3, 4, 5, 6, 7] rfl) (hD.sub (ws' := [oX2 a g_length z16 z17, rI cyI (a 1) 150 g_bytes, oX1 b1 y25 z18 y26 y27 z19, rI cyI (b1 1) 12 z20, rI cyI (b1 2) 12 z21, rI cyI (b1 3) 5 z22, rI cyI (b1 4) 5 z23, rI cyI (b1 5) 5 z24]) [0, 1, 2, 3, 4, 5, 6, 7] (by decide) rfl) hKK (SS_narrow (SS_kept hSS hS.2.1) (va_free (wc := [oX2 a g_length z16 z17, rI cyI (a 1) 150 g_bytes, oX1 b1 y25 z18 y26 y27 z19, rI cyI (b1 1) 12 z20, rI cyI (b1 2) 12 z21, rI cyI (b1 3) 5 z22, rI cyI (b1 4) 5 z23, rI cyI (b1 5) 5 z24]) hD hS hA [0, 1, 2, 3, 4, 5, 6, 7] rfl)) hKR (va_recv hK hP (ci := 1) (q0 := 0) rfl rfl)) rfl rfl hl.1 rfl (lv_room (Nat.le_of_ble_eq_true rfl)) dX2_readInto_49 ⟨Nat.zero_le _, Nat.zero_le _⟩) hP hD hS hA [0, 1, 2, 3, 4, 5, 6, 7] [] [0, 1, 2, 3, 4, 5, 6, 7] rfl rfl (by decide) (by decide) rfl (by decide) (fun H53 L54 hP hD hS => ?_)
            obtain ⟨x55, ex55, h56⟩ := lt_e h52
            refine lv_iinc (v := x55) (lv' := [(2, .int x55), (0, .ref (a 0)), (1, .ref (b1 0))]) hx hb dX2_readInto_52 hl (k := 2) rfl (by rw [ex55]; rfl) (by decide) rfl (fun ls hl => ?_)
            refine lv_aload_n hx hb dX2_readInto_55 rfl (lv_at hl 1 rfl) ?_
            obtain ⟨u57, hu58, h59⟩ := bd_e h56
            refine kw_V (wc := [oX2 a g_length u50.1 u50.2.1, rI cyI (a 1) 150 g_bytes]) (wr := [oX1 b1 y25 u50.2.2.1 y26 y27 u50.2.2.2.1, rI cyI (b1 1) 12 u50.2.2.2.2.1, rI cyI (b1 2) 12 u50.2.2.2.2.2.1, rI cyI (b1 3) 5 u50.2.2.2.2.2.2.1, rI cyI (b1 4) 5 u50.2.2.2.2.2.2.2.1, rI cyI (b1 5) 5 u50.2.2.2.2.2.2.2.2]) (ws' := [oX2 a g_length u57 u50.2.1, rI cyI (a 1) 150 g_bytes, oX1 b1 y25 u50.2.2.1 y26 y27 u50.2.2.2.1, rI cyI (b1 1) 12 u50.2.2.2.2.1, rI cyI (b1 2) 12 u50.2.2.2.2.2.1, rI cyI (b1 3) 5 u50.2.2.2.2.2.2.1, rI cyI (b1 4) 5 u50.2.2.2.2.2.2.2.1, rI cyI (b1 5) 5 u50.2.2.2.2.2.2.2.2]) (va_runV (As := []) (rest := []) ⟨hx, hb, hml, hown, hts⟩ (c_X2_skipBlanks l D cyI cyJ cyS N a g_length u50.1 u50.2.1 g_bytes H53.size u57 hu58) (cwV 0 hts gX2_readInto_X2_skipBlanks rfl rfl rfl (by decide +kernel) ⟨(Nat.le_of_ble_eq_true rfl), (Nat.le_of_ble_eq_true rfl)⟩) (preW_V (hP.sub (ws' := [oX2 a g_length u50.1 u50.2.1, rI cyI (a 1) 150 g_bytes]) [0, 1] rfl) (hD.sub (ws' := [oX2 a g_length u50.1 u50.2.1, rI cyI (a 1) 150 g_bytes]) [0, 1] (by decide) rfl) hKK (va_recv hK hP (ci := 1) (q0 := 0) rfl rfl)) rfl rfl hl.1 rfl (lv_room (Nat.le_of_ble_eq_true rfl)) dX2_readInto_56 ⟨Nat.zero_le _, Nat.zero_le _⟩) hP hD hS hA [0, 1] [2, 3, 4, 5, 6, 7] [6, 7, 0, 1, 2, 3, 4, 5] rfl rfl (by decide) (by decide) rfl (by decide) (fun H60 L61 hP hD hS => ?_)
            refine lv_goto (tgt := 21) hx hb dX2_readInto_59 (by decide) ?_
            exact ih x55 u57 u50.2.1 u50.2.2.1 u50.2.2.2.1 u50.2.2.2.2.1 u50.2.2.2.2.2.1 u50.2.2.2.2.2.2.1 u50.2.2.2.2.2.2.2.1 u50.2.2.2.2.2.2.2.2 _ _ _ h59 hP hD hS (lv_sub hl [1, 2, 0] rfl)
  unfold T_X2_readInto at hT
  refine lv_aload_n hx hb dX2_readInto_0 rfl (lv_at hl 0 rfl) ?_
  refine lv_iconst (v := 0) hx hb dX2_readInto_1 (by decide) ?_
  refine va_put (D := D) (cl := vwCl) (ci := 1) (v := .int 0) (ty := .int) (C := RX2) (T := TX2) (N := 4) hx hb hts inX2 tyX2 tyX2_ok nmX2 hown hK hP hD hS 0 rfl rfl 2 (by decide) (hts (Cond.fieldLink RX2 19 "FrozenIn$Text" "place" "I") (List.mem_of_getElem? (i := 1) rfl)) (fun _ h9 => h9) rfl (by decide +kernel) rfl rfl (Nat.le_of_ble_eq_true rfl) dX2_readInto_2 (fun H1 L2 hP hD hS => ?_)
  have hP : va_P D vwCl [oX2 a g_length 0 g_fault, rI cyI (a 1) 150 g_bytes, oX1 b1 gp1_month gp1_floes gp1_founds gp1_notes gp1_undos, rI cyI (b1 1) 12 gp1_ways, rI cyI (b1 2) 12 gp1_strengths, rI cyI (b1 3) 5 gp1_kinds, rI cyI (b1 4) 5 gp1_cells, rI cyI (b1 5) 5 gp1_foods] H1 := hP
  have hD : va_D A [oX2 a g_length 0 g_fault, rI cyI (a 1) 150 g_bytes, oX1 b1 gp1_month gp1_floes gp1_founds gp1_notes gp1_undos, rI cyI (b1 1) 12 gp1_ways, rI cyI (b1 2) 12 gp1_strengths, rI cyI (b1 3) 5 gp1_kinds, rI cyI (b1 4) 5 gp1_cells, rI cyI (b1 5) 5 gp1_foods] := hD
  refine lv_aload_n hx hb dX2_readInto_5 rfl (lv_at hl 0 rfl) ?_
  refine lv_iconst (v := (-1)) hx hb dX2_readInto_6 (by decide) ?_
  refine va_put (D := D) (cl := vwCl) (ci := 1) (v := .int (-1)) (ty := .int) (C := RX2) (T := TX2) (N := 4) hx hb hts inX2 tyX2 tyX2_ok nmX2 hown hK hP hD hS 0 rfl rfl 3 (by decide) (hts (Cond.fieldLink RX2 22 "FrozenIn$Text" "fault" "I") (List.mem_of_getElem? (i := 2) rfl)) (fun _ h9 => h9) rfl (by decide +kernel) rfl rfl (Nat.le_of_ble_eq_true rfl) dX2_readInto_7 (fun H3 L4 hP hD hS => ?_)
  have hP : va_P D vwCl [oX2 a g_length 0 (-1), rI cyI (a 1) 150 g_bytes, oX1 b1 gp1_month gp1_floes gp1_founds gp1_notes gp1_undos, rI cyI (b1 1) 12 gp1_ways, rI cyI (b1 2) 12 gp1_strengths, rI cyI (b1 3) 5 gp1_kinds, rI cyI (b1 4) 5 gp1_cells, rI cyI (b1 5) 5 gp1_foods] H3 := hP
  have hD : va_D A [oX2 a g_length 0 (-1), rI cyI (a 1) 150 g_bytes, oX1 b1 gp1_month gp1_floes gp1_founds gp1_notes gp1_undos, rI cyI (b1 1) 12 gp1_ways, rI cyI (b1 2) 12 gp1_strengths, rI cyI (b1 3) 5 gp1_kinds, rI cyI (b1 4) 5 gp1_cells, rI cyI (b1 5) 5 gp1_foods] := hD
  refine lv_aload_n hx hb dX2_readInto_10 rfl (lv_at hl 0 rfl) ?_
  refine lv_aload_n hx hb dX2_readInto_11 rfl (lv_at hl 1 rfl) ?_
  obtain ⟨u5, hu6, h7⟩ := bd_e hT
  refine kw_V (wc := [oX2 a g_length 0 (-1), rI cyI (a 1) 150 g_bytes, oX1 b1 gp1_month gp1_floes gp1_founds gp1_notes gp1_undos, rI cyI (b1 1) 12 gp1_ways, rI cyI (b1 2) 12 gp1_strengths]) (wr := [rI cyI (b1 3) 5 gp1_kinds, rI cyI (b1 4) 5 gp1_cells, rI cyI (b1 5) 5 gp1_foods]) (ws' := [oX2 a g_length u5.1 u5.2.1, rI cyI (a 1) 150 g_bytes, oX1 b1 u5.2.2.1 u5.2.2.2.1 u5.2.2.2.2.1 u5.2.2.2.2.2.1 u5.2.2.2.2.2.2.1, rI cyI (b1 1) 12 u5.2.2.2.2.2.2.2.1, rI cyI (b1 2) 12 u5.2.2.2.2.2.2.2.2, rI cyI (b1 3) 5 gp1_kinds, rI cyI (b1 4) 5 gp1_cells, rI cyI (b1 5) 5 gp1_foods]) (va_runV (As := [.ref (b1 0)]) (rest := []) ⟨hx, hb, hml, hown, hts⟩ (c_X2_readSea l D cyI cyJ cyS N a b1 g_length 0 (-1) g_bytes gp1_month gp1_floes gp1_founds gp1_notes gp1_undos gp1_ways gp1_strengths adK adV t0 H3.size u5 hu6) (cwV 1 hts gX2_readInto_X2_readSea rfl rfl rfl (by decide +kernel) ⟨(Nat.le_of_ble_eq_true rfl), (Nat.le_of_ble_eq_true rfl)⟩) (preWS_V (hP.sub (ws' := [oX2 a g_length 0 (-1), rI cyI (a 1) 150 g_bytes, oX1 b1 gp1_month gp1_floes gp1_founds gp1_notes gp1_undos, rI cyI (b1 1) 12 gp1_ways, rI cyI (b1 2) 12 gp1_strengths]) [0, 1, 2, 3, 4] rfl) (hD.sub (ws' := [oX2 a g_length 0 (-1), rI cyI (a 1) 150 g_bytes, oX1 b1 gp1_month gp1_floes gp1_founds gp1_notes gp1_undos, rI cyI (b1 1) 12 gp1_ways, rI cyI (b1 2) 12 gp1_strengths]) [0, 1, 2, 3, 4] (by decide) rfl) hKK (SS_narrow (SS_kept hSS hS.2.1) (va_free (wc := [oX2 a g_length 0 (-1), rI cyI (a 1) 150 g_bytes, oX1 b1 gp1_month gp1_floes gp1_founds gp1_notes gp1_undos, rI cyI (b1 1) 12 gp1_ways, rI cyI (b1 2) 12 gp1_strengths]) hD hS hA [0, 1, 2, 3, 4] rfl)) hKR (va_recv hK hP (ci := 1) (q0 := 0) rfl rfl)) rfl rfl hl.1 rfl (lv_room (Nat.le_of_ble_eq_true rfl)) dX2_readInto_12 ⟨Nat.zero_le _, Nat.zero_le _⟩) hP hD hS hA [0, 1, 2, 3, 4] [5, 6, 7] [3, 4, 5, 6, 7, 0, 1, 2] rfl rfl (by decide) (by decide) rfl (by decide) (fun H8 L9 hP hD hS => ?_)
  refine lv_iconst (v := 1) hx hb dX2_readInto_15 (by decide) ?_
  refine lv_istore_n (lv' := [(2, .int 1), (0, .ref (a 0)), (1, .ref (b1 0))]) hx hb dX2_readInto_16 rfl hl (by decide) rfl (fun ls hl => ?_)
  refine lv_aload_n hx hb dX2_readInto_17 rfl (lv_at hl 1 rfl) ?_
  obtain ⟨u10, hu11, h12⟩ := bd_e h7
  refine kw_V (wc := [oX2 a g_length u5.1 u5.2.1, rI cyI (a 1) 150 g_bytes]) (wr := [oX1 b1 u5.2.2.1 u5.2.2.2.1 u5.2.2.2.2.1 u5.2.2.2.2.2.1 u5.2.2.2.2.2.2.1, rI cyI (b1 1) 12 u5.2.2.2.2.2.2.2.1, rI cyI (b1 2) 12 u5.2.2.2.2.2.2.2.2, rI cyI (b1 3) 5 gp1_kinds, rI cyI (b1 4) 5 gp1_cells, rI cyI (b1 5) 5 gp1_foods]) (ws' := [oX2 a g_length u10 u5.2.1, rI cyI (a 1) 150 g_bytes, oX1 b1 u5.2.2.1 u5.2.2.2.1 u5.2.2.2.2.1 u5.2.2.2.2.2.1 u5.2.2.2.2.2.2.1, rI cyI (b1 1) 12 u5.2.2.2.2.2.2.2.1, rI cyI (b1 2) 12 u5.2.2.2.2.2.2.2.2, rI cyI (b1 3) 5 gp1_kinds, rI cyI (b1 4) 5 gp1_cells, rI cyI (b1 5) 5 gp1_foods]) (va_runV (As := []) (rest := []) ⟨hx, hb, hml, hown, hts⟩ (c_X2_skipBlanks l D cyI cyJ cyS N a g_length u5.1 u5.2.1 g_bytes H8.size u10 hu11) (cwV 0 hts gX2_readInto_X2_skipBlanks rfl rfl rfl (by decide +kernel) ⟨(Nat.le_of_ble_eq_true rfl), (Nat.le_of_ble_eq_true rfl)⟩) (preW_V (hP.sub (ws' := [oX2 a g_length u5.1 u5.2.1, rI cyI (a 1) 150 g_bytes]) [0, 1] rfl) (hD.sub (ws' := [oX2 a g_length u5.1 u5.2.1, rI cyI (a 1) 150 g_bytes]) [0, 1] (by decide) rfl) hKK (va_recv hK hP (ci := 1) (q0 := 0) rfl rfl)) rfl rfl hl.1 rfl (lv_room (Nat.le_of_ble_eq_true rfl)) dX2_readInto_18 ⟨Nat.zero_le _, Nat.zero_le _⟩) hP hD hS hA [0, 1] [2, 3, 4, 5, 6, 7] [6, 7, 0, 1, 2, 3, 4, 5] rfl rfl (by decide) (by decide) rfl (by decide) (fun H13 L14 hP hD hS => ?_)
  refine L21 u5.2.2.1 u5.2.2.2.2.1 u5.2.2.2.2.2.1 _ (fun x62 z63 z64 z65 z66 z67 z68 z69 z70 z71 H73 L74 ls h72 hP hD hS hl => ?_) N 1 u10 u5.2.1 u5.2.2.2.1 u5.2.2.2.2.2.2.1 u5.2.2.2.2.2.2.2.1 u5.2.2.2.2.2.2.2.2 gp1_kinds gp1_cells gp1_foods _ _ _ h12 hP hD hS (lv_sub hl [1, 2, 0] rfl)
  refine lv_aload_n hx hb dX2_readInto_62 rfl (lv_at hl 0 rfl) ?_
  refine va_get (D := D) (cl := vwCl) (ci := 1) (v := .int z64) (C := RX2) (T := TX2) (N := 4) hx hb hts inX2 hown hK hP 0 rfl rfl 3 (by decide) (hts (Cond.fieldLink RX2 22 "FrozenIn$Text" "fault" "I") (List.mem_of_getElem? (i := 2) rfl)) (fun _ h9 => h9) rfl dX2_readInto_63 ?_
  refine lv_iconst (v := (-1)) hx hb dX2_readInto_66 (by decide) ?_
  refine lv_icmp_ne (tgt := 74) hx hb dX2_readInto_67 (by decide) (fun c75 => ?_) (fun c75 => ?_)
  · have h76 := (if_neg c75).symm.trans h72
    refine lv_bipush (v := (-10)) hx hb dX2_readInto_74 (by decide) ?_
    refine lv_aload_n hx hb dX2_readInto_76 rfl (lv_at hl 0 rfl) ?_
    refine va_get (D := D) (cl := vwCl) (ci := 1) (v := .int z64) (C := RX2) (T := TX2) (N := 4) hx hb hts inX2 hown hK hP 0 rfl rfl 3 (by decide) (hts (Cond.fieldLink RX2 22 "FrozenIn$Text" "fault" "I") (List.mem_of_getElem? (i := 2) rfl)) (fun _ h9 => h9) rfl dX2_readInto_77 ?_
    refine lv_isub hx hb dX2_readInto_80 ?_
    rw [← Option.some.inj h76]
    exact W.iret (v := (-10) - z64) hx hb hr (fun t ht hW => ⟨⟨(-10) - z64, (), rfl, rfl, ⟨by rw [ht]; exact hP, hD⟩⟩, hS.F ht⟩) hS.2.2 dX2_readInto_81
  · have h77 := (if_pos c75).symm.trans h72
    refine lv_iload_n hx hb dX2_readInto_70 rfl (lv_at hl 1 rfl) ?_
    refine lv_goto (tgt := 81) hx hb dX2_readInto_71 (by decide) ?_
    rw [← Option.some.inj h77]
    exact W.iret (v := x62) hx hb hr (fun t ht hW => ⟨⟨x62, (), rfl, rfl, ⟨by rw [ht]; exact hP, hD⟩⟩, hS.F ht⟩) hS.2.2 dX2_readInto_81
