def T_X1_begin (N : Nat) (g_month : Int32) (g_floes : Int32) (g_founds : Int32) (g_notes : Int32) (g_undos : Int32) (g_ways : Nat → Int32) (g_strengths : Nat → Int32) (p1 : Int32) : Option (Int32 × Int32 × Int32 × Int32 × Int32 × (Nat → Int32) × (Nat → Int32)) :=
  (Option.bind (T_J7_fill_53178 N 12 g_ways 0) fun u3 => (Option.bind (T_J7_fill_53178 N 12 g_strengths 1) fun u8 => (some (p1, 0, 0, 0, 0, u3, u8))))
abbrev rm_X1_begin : Room := { frames := 1, cells := 0, slots := 0, locals := 23 }
set_option maxHeartbeats 4000000 in
set_option maxRecDepth 100000 in
theorem c_X1_begin (l : Launch) (D : va_G) (cyI cyJ cyS : ClassId) (N : Nat) (a : Nat → Nat) (g_month : Int32) (g_floes : Int32) (g_founds : Int32) (g_notes : Int32) (g_undos : Int32) (g_ways : Nat → Int32) (g_strengths : Nat → Int32) (p1 : Int32) (sz : Nat) (R0 : Int32 × Int32 × Int32 × Int32 × Int32 × (Nat → Int32) × (Nat → Int32)) (hT : T_X1_begin N g_month g_floes g_founds g_notes g_undos g_ways g_strengths p1 = some R0) : Met l yX1_begin wsX1_begin rm_X1_begin (va_Pc [.ref (a 0), .int p1] (preW D (tyS cyI cyJ cyS) [oX1 a g_month g_floes g_founds g_notes g_undos, rI cyI (a 1) 12 g_ways, rI cyI (a 2) 12 g_strengths] sz)) (va_Qv (fun (_ : Unit) => True) (fun _ t => va_P D vwCl [oX1 a R0.1 R0.2.1 R0.2.2.1 R0.2.2.2.1 R0.2.2.2.2.1, rI cyI (a 1) 12 R0.2.2.2.2.2.1, rI cyI (a 2) 12 R0.2.2.2.2.2.2] t.heap ∧ va_D (va_A [oX1 a g_month g_floes g_founds g_notes g_undos, rI cyI (a 1) 12 g_ways, rI cyI (a 2) 12 g_strengths] sz) [oX1 a R0.1 R0.2.1 R0.2.2.1 R0.2.2.2.1 R0.2.2.2.2.1, rI cyI (a 1) 12 R0.2.2.2.2.2.1, rI cyI (a 2) 12 R0.2.2.2.2.2.2]) (va_A [oX1 a g_month g_floes g_founds g_notes g_undos, rI cyI (a 1) 12 g_ways, rI cyI (a 2) 12 g_strengths] sz)) 0 0 (va_A [oX1 a g_month g_floes g_founds g_notes g_undos, rI cyI (a 1) 12 g_ways, rI cyI (a 2) 12 g_strengths] sz) := by
  refine Met.ofW (cc := cX1_begin) (maxL := 2) (ret := none) (by decide) rfl ?_
  intro p e s m args below meth c s₁ B hml hv
  obtain ⟨rfl, hsz, hP, hKK, hD0⟩ := hv
  have hx := B.exec
  have hb := B.bytes
  have hr := B.returns
  have hts := atoms_spec (ws := wsX1_begin) B.pre
  have hown : s.vm.findClass RX1 = some m.cls := findClass_of_methodNamed B.named
  have hlocks := B.notSynchronized
  have hK := hKK.1
  have inX1 : ∀ w ∈ wsX10, w ∈ wsX1_begin := (fun _ h => List.mem_cons_of_mem _ (List.mem_append_right _ h))
  subst hsz
  have hD := hD0.self (sz := s.heap.size)
  generalize hAe : va_A [oX1 a g_month g_floes g_founds g_notes g_undos, rI cyI (a 1) 12 g_ways, rI cyI (a 2) 12 g_strengths] s.heap.size = A at hD ⊢
  have hA : ∀ q : Nat, s.heap.size ≤ q → A q := fun q h => by rw [← hAe]; exact Or.inr h
  have hS : va_S A s.heap s.heap [] := va_S.rf
  have hP : va_P D vwCl [oX1 a g_month g_floes g_founds g_notes g_undos, rI cyI (a 1) 12 g_ways, rI cyI (a 2) 12 g_strengths] s.heap := hP
  have hl := lv_entry [.ref (a 0), .int p1] (n := 2) (Nat.le_of_ble_eq_true rfl)
  rw [lg_entry_eq]
  generalize (lg_sl [.ref (a 0), .int p1] ++ List.replicate (2 - (lg_sl [.ref (a 0), .int p1]).length) Slot.unset).toArray = ls at hl ⊢
  have hl : lv_has ls 2 [(0, .ref (a 0)), (1, .int p1)] := hl
  unfold T_X1_begin at hT
  refine lv_aload_n hx hb dX1_begin_0 rfl (lv_at hl 0 rfl) ?_
  refine lv_iload_n hx hb dX1_begin_1 rfl (lv_at hl 1 rfl) ?_
  refine va_put (D := D) (cl := vwCl) (ci := 0) (v := .int p1) (ty := .int) (C := RX1) (T := TX1) (N := 13) hx hb hts inX1 tyX1 tyX1_ok nmX1 hown hK hP hD hS 0 rfl rfl 0 (by decide) (hts (Cond.fieldLink RX1 42 "FrozenIn$Sea" "month" "I") (List.mem_of_getElem? (i := 1) rfl)) (fun _ h9 => h9) rfl (by decide +kernel) rfl rfl (Nat.le_of_ble_eq_true rfl) dX1_begin_2 (fun H1 L2 hP hD hS => ?_)
  have hP : va_P D vwCl [oX1 a p1 g_floes g_founds g_notes g_undos, rI cyI (a 1) 12 g_ways, rI cyI (a 2) 12 g_strengths] H1 := hP
  have hD : va_D A [oX1 a p1 g_floes g_founds g_notes g_undos, rI cyI (a 1) 12 g_ways, rI cyI (a 2) 12 g_strengths] := hD
  refine lv_aload_n hx hb dX1_begin_5 rfl (lv_at hl 0 rfl) ?_
  refine va_get (D := D) (cl := vwCl) (ci := 0) (v := .ref (a 1)) (C := RX1) (T := TX1) (N := 13) hx hb hts inX1 hown hK hP 0 rfl rfl 1 (by decide) (hts (Cond.fieldLink RX1 9 "FrozenIn$Sea" "ways" "[I") (List.mem_of_getElem? (i := 2) rfl)) (fun _ h9 => h9) rfl dX1_begin_6 ?_
  refine lv_iconst (v := 0) hx hb dX1_begin_9 (by decide) ?_
  obtain ⟨u3, hu4, h5⟩ := bd_e hT
  refine kw_V (wc := [rI cyI (a 1) 12 g_ways]) (wr := [oX1 a p1 g_floes g_founds g_notes g_undos, rI cyI (a 2) 12 g_strengths]) (ws' := [oX1 a p1 g_floes g_founds g_notes g_undos, rI cyI (a 1) 12 u3, rI cyI (a 2) 12 g_strengths]) (va_runS (As := [.ref (a 1), .int 0]) (rest := []) ⟨hx, hb, hml, hown, hts⟩ (c_J7_fill_53178 l D cyI cyJ cyS N (a 1) 12 g_ways 0 H1.size u3 hu4) (va_cwS 2 hts gX1_begin_J7_fill_53178 rfl rfl rfl (by decide +kernel) ⟨(Nat.le_of_ble_eq_true rfl), (Nat.le_of_ble_eq_true rfl)⟩) (preW_S (hP.sub (ws' := [rI cyI (a 1) 12 g_ways]) [1] rfl) (hD.sub (ws' := [rI cyI (a 1) 12 g_ways]) [1] (by decide) rfl) hKK) rfl rfl hl.1 rfl (lv_room (Nat.le_of_ble_eq_true rfl)) dX1_begin_10 ⟨Nat.zero_le _, Nat.zero_le _⟩) hP hD hS hA [1] [0, 2] [0, 2, 1] rfl rfl (by decide) (by decide) rfl (by decide) (fun H6 L7 hP hD hS => ?_)
  refine lv_aload_n hx hb dX1_begin_13 rfl (lv_at hl 0 rfl) ?_
  refine va_get (D := D) (cl := vwCl) (ci := 0) (v := .ref (a 2)) (C := RX1) (T := TX1) (N := 13) hx hb hts inX1 hown hK hP 0 rfl rfl 2 (by decide) (hts (Cond.fieldLink RX1 15 "FrozenIn$Sea" "strengths" "[I") (List.mem_of_getElem? (i := 3) rfl)) (fun _ h9 => h9) rfl dX1_begin_14 ?_
  refine lv_iconst (v := 1) hx hb dX1_begin_17 (by decide) ?_
  obtain ⟨u8, hu9, h10⟩ := bd_e h5
  refine kw_V (wc := [rI cyI (a 2) 12 g_strengths]) (wr := [oX1 a p1 g_floes g_founds g_notes g_undos, rI cyI (a 1) 12 u3]) (ws' := [oX1 a p1 g_floes g_founds g_notes g_undos, rI cyI (a 1) 12 u3, rI cyI (a 2) 12 u8]) (va_runS (As := [.ref (a 2), .int 1]) (rest := []) ⟨hx, hb, hml, hown, hts⟩ (c_J7_fill_53178 l D cyI cyJ cyS N (a 2) 12 g_strengths 1 H6.size u8 hu9) (va_cwS 2 hts gX1_begin_J7_fill_53178 rfl rfl rfl (by decide +kernel) ⟨(Nat.le_of_ble_eq_true rfl), (Nat.le_of_ble_eq_true rfl)⟩) (preW_S (hP.sub (ws' := [rI cyI (a 2) 12 g_strengths]) [2] rfl) (hD.sub (ws' := [rI cyI (a 2) 12 g_strengths]) [2] (by decide) rfl) hKK) rfl rfl hl.1 rfl (lv_room (Nat.le_of_ble_eq_true rfl)) dX1_begin_18 ⟨Nat.zero_le _, Nat.zero_le _⟩) hP hD hS hA [2] [0, 1] [0, 1, 2] rfl rfl (by decide) (by decide) rfl (by decide) (fun H11 L12 hP hD hS => ?_)
  refine lv_aload_n hx hb dX1_begin_21 rfl (lv_at hl 0 rfl) ?_
  refine lv_iconst (v := 0) hx hb dX1_begin_22 (by decide) ?_
  refine va_put (D := D) (cl := vwCl) (ci := 0) (v := .int 0) (ty := .int) (C := RX1) (T := TX1) (N := 13) hx hb hts inX1 tyX1 tyX1_ok nmX1 hown hK hP hD hS 0 rfl rfl 3 (by decide) (hts (Cond.fieldLink RX1 46 "FrozenIn$Sea" "floes" "I") (List.mem_of_getElem? (i := 4) rfl)) (fun _ h9 => h9) rfl (by decide +kernel) rfl rfl (Nat.le_of_ble_eq_true rfl) dX1_begin_23 (fun H13 L14 hP hD hS => ?_)
  have hP : va_P D vwCl [oX1 a p1 0 g_founds g_notes g_undos, rI cyI (a 1) 12 u3, rI cyI (a 2) 12 u8] H13 := hP
  have hD : va_D A [oX1 a p1 0 g_founds g_notes g_undos, rI cyI (a 1) 12 u3, rI cyI (a 2) 12 u8] := hD
  refine lv_aload_n hx hb dX1_begin_26 rfl (lv_at hl 0 rfl) ?_
  refine lv_iconst (v := 0) hx hb dX1_begin_27 (by decide) ?_
  refine va_put (D := D) (cl := vwCl) (ci := 0) (v := .int 0) (ty := .int) (C := RX1) (T := TX1) (N := 13) hx hb hts inX1 tyX1 tyX1_ok nmX1 hown hK hP hD hS 0 rfl rfl 7 (by decide) (hts (Cond.fieldLink RX1 49 "FrozenIn$Sea" "founds" "I") (List.mem_of_getElem? (i := 5) rfl)) (fun _ h9 => h9) rfl (by decide +kernel) rfl rfl (Nat.le_of_ble_eq_true rfl) dX1_begin_28 (fun H15 L16 hP hD hS => ?_)
  have hP : va_P D vwCl [oX1 a p1 0 0 g_notes g_undos, rI cyI (a 1) 12 u3, rI cyI (a 2) 12 u8] H15 := hP
  have hD : va_D A [oX1 a p1 0 0 g_notes g_undos, rI cyI (a 1) 12 u3, rI cyI (a 2) 12 u8] := hD
  refine lv_aload_n hx hb dX1_begin_31 rfl (lv_at hl 0 rfl) ?_
  refine lv_iconst (v := 0) hx hb dX1_begin_32 (by decide) ?_
  refine va_put (D := D) (cl := vwCl) (ci := 0) (v := .int 0) (ty := .int) (C := RX1) (T := TX1) (N := 13) hx hb hts inX1 tyX1 tyX1_ok nmX1 hown hK hP hD hS 0 rfl rfl 9 (by decide) (hts (Cond.fieldLink RX1 52 "FrozenIn$Sea" "notes" "I") (List.mem_of_getElem? (i := 6) rfl)) (fun _ h9 => h9) rfl (by decide +kernel) rfl rfl (Nat.le_of_ble_eq_true rfl) dX1_begin_33 (fun H17 L18 hP hD hS => ?_)
  have hP : va_P D vwCl [oX1 a p1 0 0 0 g_undos, rI cyI (a 1) 12 u3, rI cyI (a 2) 12 u8] H17 := hP
  have hD : va_D A [oX1 a p1 0 0 0 g_undos, rI cyI (a 1) 12 u3, rI cyI (a 2) 12 u8] := hD
  refine lv_aload_n hx hb dX1_begin_36 rfl (lv_at hl 0 rfl) ?_
  refine lv_iconst (v := 0) hx hb dX1_begin_37 (by decide) ?_
  refine va_put (D := D) (cl := vwCl) (ci := 0) (v := .int 0) (ty := .int) (C := RX1) (T := TX1) (N := 13) hx hb hts inX1 tyX1 tyX1_ok nmX1 hown hK hP hD hS 0 rfl rfl 11 (by decide) (hts (Cond.fieldLink RX1 55 "FrozenIn$Sea" "undos" "I") (List.mem_of_getElem? (i := 7) rfl)) (fun _ h9 => h9) rfl (by decide +kernel) rfl rfl (Nat.le_of_ble_eq_true rfl) dX1_begin_38 (fun H19 L20 hP hD hS => ?_)
  have hP : va_P D vwCl [oX1 a p1 0 0 0 0, rI cyI (a 1) 12 u3, rI cyI (a 2) 12 u8] H19 := hP
  have hD : va_D A [oX1 a p1 0 0 0 0, rI cyI (a 1) 12 u3, rI cyI (a 2) 12 u8] := hD
  rw [← Option.some.inj h10]
  exact W.vret hx hb hr (fun t ht hW => ⟨⟨(), rfl, trivial, ⟨by rw [ht]; exact hP, hD⟩⟩, hS.F ht⟩) hS.2.2 dX1_begin_41
def T_X1_takeFrom (N : Nat) (g_month : Int32) (g_floes : Int32) (g_founds : Int32) (g_notes : Int32) (g_undos : Int32) (g_ways : Nat → Int32) (g_strengths : Nat → Int32) (g_kinds : Nat → Int32) (g_cells : Nat → Int32) (g_foods : Nat → Int32) (g_foundRows : Nat → Int32) (g_noteRows : Nat → Int32) (g_undoRows : Nat → Int32) (gp1_month : Int32) (gp1_floes : Int32) (gp1_founds : Int32) (gp1_notes : Int32) (gp1_undos : Int32) (gp1_ways : Nat → Int32) (gp1_strengths : Nat → Int32) (gp1_kinds : Nat → Int32) (gp1_cells : Nat → Int32) (gp1_foods : Nat → Int32) (gp1_foundRows : Nat → Int32) (gp1_noteRows : Nat → Int32) (gp1_undoRows : Nat → Int32) : Option (Int32 × Int32 × Int32 × Int32 × Int32 × (Nat → Int32) × (Nat → Int32) × (Nat → Int32) × (Nat → Int32) × (Nat → Int32) × (Nat → Int32) × (Nat → Int32) × (Nat → Int32)) :=
  (gc 0 0 12 12 12 (gc 0 0 12 12 12 (gc 0 0 5 5 5 (gc 0 0 5 5 5 (gc 0 0 5 5 5 (gc 0 0 12 12 12 (gc 0 0 42 42 42 (gc 0 0 88 88 88 (some (gp1_month, gp1_floes, gp1_founds, gp1_notes, gp1_undos, va_cpy gp1_ways g_ways (0 : Int32).toNatClampNeg (0 : Int32).toNatClampNeg (12 : Int32).toNatClampNeg, va_cpy gp1_strengths g_strengths (0 : Int32).toNatClampNeg (0 : Int32).toNatClampNeg (12 : Int32).toNatClampNeg, va_cpy gp1_kinds g_kinds (0 : Int32).toNatClampNeg (0 : Int32).toNatClampNeg (5 : Int32).toNatClampNeg, va_cpy gp1_cells g_cells (0 : Int32).toNatClampNeg (0 : Int32).toNatClampNeg (5 : Int32).toNatClampNeg, va_cpy gp1_foods g_foods (0 : Int32).toNatClampNeg (0 : Int32).toNatClampNeg (5 : Int32).toNatClampNeg, va_cpy gp1_foundRows g_foundRows (0 : Int32).toNatClampNeg (0 : Int32).toNatClampNeg (12 : Int32).toNatClampNeg, va_cpy gp1_noteRows g_noteRows (0 : Int32).toNatClampNeg (0 : Int32).toNatClampNeg (42 : Int32).toNatClampNeg, va_cpy gp1_undoRows g_undoRows (0 : Int32).toNatClampNeg (0 : Int32).toNatClampNeg (88 : Int32).toNatClampNeg))))))))))
abbrev rm_X1_takeFrom : Room := { frames := 1, cells := 0, slots := 0, locals := 26 }
set_option maxHeartbeats 4000000 in
set_option maxRecDepth 100000 in
theorem c_X1_takeFrom (l : Launch) (D : va_G) (cyI cyJ cyS : ClassId) (N : Nat) (a b1 : Nat → Nat) (g_month : Int32) (g_floes : Int32) (g_founds : Int32) (g_notes : Int32) (g_undos : Int32) (g_ways : Nat → Int32) (g_strengths : Nat → Int32) (g_kinds : Nat → Int32) (g_cells : Nat → Int32) (g_foods : Nat → Int32) (g_foundRows : Nat → Int32) (g_noteRows : Nat → Int32) (g_undoRows : Nat → Int32) (gp1_month : Int32) (gp1_floes : Int32) (gp1_founds : Int32) (gp1_notes : Int32) (gp1_undos : Int32) (gp1_ways : Nat → Int32) (gp1_strengths : Nat → Int32) (gp1_kinds : Nat → Int32) (gp1_cells : Nat → Int32) (gp1_foods : Nat → Int32) (gp1_foundRows : Nat → Int32) (gp1_noteRows : Nat → Int32) (gp1_undoRows : Nat → Int32) (sz : Nat) (R0 : Int32 × Int32 × Int32 × Int32 × Int32 × (Nat → Int32) × (Nat → Int32) × (Nat → Int32) × (Nat → Int32) × (Nat → Int32) × (Nat → Int32) × (Nat → Int32) × (Nat → Int32)) (hT : T_X1_takeFrom N g_month g_floes g_founds g_notes g_undos g_ways g_strengths g_kinds g_cells g_foods g_foundRows g_noteRows g_undoRows gp1_month gp1_floes gp1_founds gp1_notes gp1_undos gp1_ways gp1_strengths gp1_kinds gp1_cells gp1_foods gp1_foundRows gp1_noteRows gp1_undoRows = some R0) : Met l yX1_takeFrom wsX1_takeFrom rm_X1_takeFrom (va_Pc [.ref (a 0), .ref (b1 0)] (preW D (tyS cyI cyJ cyS) [oX1 a g_month g_floes g_founds g_notes g_undos, rI cyI (a 1) 12 g_ways, rI cyI (a 2) 12 g_strengths, rI cyI (a 3) 5 g_kinds, rI cyI (a 4) 5 g_cells, rI cyI (a 5) 5 g_foods, rI cyI (a 6) 12 g_foundRows, rI cyI (a 7) 42 g_noteRows, rI cyI (a 8) 88 g_undoRows, oX1 b1 gp1_month gp1_floes gp1_founds gp1_notes gp1_undos, rI cyI (b1 1) 12 gp1_ways, rI cyI (b1 2) 12 gp1_strengths, rI cyI (b1 3) 5 gp1_kinds, rI cyI (b1 4) 5 gp1_cells, rI cyI (b1 5) 5 gp1_foods, rI cyI (b1 6) 12 gp1_foundRows, rI cyI (b1 7) 42 gp1_noteRows, rI cyI (b1 8) 88 gp1_undoRows] sz)) (va_Qv (fun (_ : Unit) => True) (fun _ t => va_P D vwCl [oX1 a R0.1 R0.2.1 R0.2.2.1 R0.2.2.2.1 R0.2.2.2.2.1, rI cyI (a 1) 12 R0.2.2.2.2.2.1, rI cyI (a 2) 12 R0.2.2.2.2.2.2.1, rI cyI (a 3) 5 R0.2.2.2.2.2.2.2.1, rI cyI (a 4) 5 R0.2.2.2.2.2.2.2.2.1, rI cyI (a 5) 5 R0.2.2.2.2.2.2.2.2.2.1, rI cyI (a 6) 12 R0.2.2.2.2.2.2.2.2.2.2.1, rI cyI (a 7) 42 R0.2.2.2.2.2.2.2.2.2.2.2.1, rI cyI (a 8) 88 R0.2.2.2.2.2.2.2.2.2.2.2.2, oX1 b1 gp1_month gp1_floes gp1_founds gp1_notes gp1_undos, rI cyI (b1 1) 12 gp1_ways, rI cyI (b1 2) 12 gp1_strengths, rI cyI (b1 3) 5 gp1_kinds, rI cyI (b1 4) 5 gp1_cells, rI cyI (b1 5) 5 gp1_foods, rI cyI (b1 6) 12 gp1_foundRows, rI cyI (b1 7) 42 gp1_noteRows, rI cyI (b1 8) 88 gp1_undoRows] t.heap ∧ va_D (va_A [oX1 a g_month g_floes g_founds g_notes g_undos, rI cyI (a 1) 12 g_ways, rI cyI (a 2) 12 g_strengths, rI cyI (a 3) 5 g_kinds, rI cyI (a 4) 5 g_cells, rI cyI (a 5) 5 g_foods, rI cyI (a 6) 12 g_foundRows, rI cyI (a 7) 42 g_noteRows, rI cyI (a 8) 88 g_undoRows, oX1 b1 gp1_month gp1_floes gp1_founds gp1_notes gp1_undos, rI cyI (b1 1) 12 gp1_ways, rI cyI (b1 2) 12 gp1_strengths, rI cyI (b1 3) 5 gp1_kinds, rI cyI (b1 4) 5 gp1_cells, rI cyI (b1 5) 5 gp1_foods, rI cyI (b1 6) 12 gp1_foundRows, rI cyI (b1 7) 42 gp1_noteRows, rI cyI (b1 8) 88 gp1_undoRows] sz) [oX1 a R0.1 R0.2.1 R0.2.2.1 R0.2.2.2.1 R0.2.2.2.2.1, rI cyI (a 1) 12 R0.2.2.2.2.2.1, rI cyI (a 2) 12 R0.2.2.2.2.2.2.1, rI cyI (a 3) 5 R0.2.2.2.2.2.2.2.1, rI cyI (a 4) 5 R0.2.2.2.2.2.2.2.2.1, rI cyI (a 5) 5 R0.2.2.2.2.2.2.2.2.2.1, rI cyI (a 6) 12 R0.2.2.2.2.2.2.2.2.2.2.1, rI cyI (a 7) 42 R0.2.2.2.2.2.2.2.2.2.2.2.1, rI cyI (a 8) 88 R0.2.2.2.2.2.2.2.2.2.2.2.2, oX1 b1 gp1_month gp1_floes gp1_founds gp1_notes gp1_undos, rI cyI (b1 1) 12 gp1_ways, rI cyI (b1 2) 12 gp1_strengths, rI cyI (b1 3) 5 gp1_kinds, rI cyI (b1 4) 5 gp1_cells, rI cyI (b1 5) 5 gp1_foods, rI cyI (b1 6) 12 gp1_foundRows, rI cyI (b1 7) 42 gp1_noteRows, rI cyI (b1 8) 88 gp1_undoRows]) (va_A [oX1 a g_month g_floes g_founds g_notes g_undos, rI cyI (a 1) 12 g_ways, rI cyI (a 2) 12 g_strengths, rI cyI (a 3) 5 g_kinds, rI cyI (a 4) 5 g_cells, rI cyI (a 5) 5 g_foods, rI cyI (a 6) 12 g_foundRows, rI cyI (a 7) 42 g_noteRows, rI cyI (a 8) 88 g_undoRows, oX1 b1 gp1_month gp1_floes gp1_founds gp1_notes gp1_undos, rI cyI (b1 1) 12 gp1_ways, rI cyI (b1 2) 12 gp1_strengths, rI cyI (b1 3) 5 gp1_kinds, rI cyI (b1 4) 5 gp1_cells, rI cyI (b1 5) 5 gp1_foods, rI cyI (b1 6) 12 gp1_foundRows, rI cyI (b1 7) 42 gp1_noteRows, rI cyI (b1 8) 88 gp1_undoRows] sz)) 0 0 (va_A [oX1 a g_month g_floes g_founds g_notes g_undos, rI cyI (a 1) 12 g_ways, rI cyI (a 2) 12 g_strengths, rI cyI (a 3) 5 g_kinds, rI cyI (a 4) 5 g_cells, rI cyI (a 5) 5 g_foods, rI cyI (a 6) 12 g_foundRows, rI cyI (a 7) 42 g_noteRows, rI cyI (a 8) 88 g_undoRows, oX1 b1 gp1_month gp1_floes gp1_founds gp1_notes gp1_undos, rI cyI (b1 1) 12 gp1_ways, rI cyI (b1 2) 12 gp1_strengths, rI cyI (b1 3) 5 gp1_kinds, rI cyI (b1 4) 5 gp1_cells, rI cyI (b1 5) 5 gp1_foods, rI cyI (b1 6) 12 gp1_foundRows, rI cyI (b1 7) 42 gp1_noteRows, rI cyI (b1 8) 88 gp1_undoRows] sz) := by
  refine Met.ofW (cc := cX1_takeFrom) (maxL := 2) (ret := none) (by decide) rfl ?_
  intro p e s m args below meth c s₁ B hml hv
  obtain ⟨rfl, hsz, hP, hKK, hD0⟩ := hv
  have hx := B.exec
  have hb := B.bytes
  have hr := B.returns
  have hts := atoms_spec (ws := wsX1_takeFrom) B.pre
  have hown : s.vm.findClass RX1 = some m.cls := findClass_of_methodNamed B.named
  have hlocks := B.notSynchronized
  have hK := hKK.1
  have inX1 : ∀ w ∈ wsX10, w ∈ wsX1_takeFrom := (fun _ h => List.mem_cons_of_mem _ (List.mem_append_right _ h))
  subst hsz
  have hD := hD0.self (sz := s.heap.size)
  generalize hAe : va_A [oX1 a g_month g_floes g_founds g_notes g_undos, rI cyI (a 1) 12 g_ways, rI cyI (a 2) 12 g_strengths, rI cyI (a 3) 5 g_kinds, rI cyI (a 4) 5 g_cells, rI cyI (a 5) 5 g_foods, rI cyI (a 6) 12 g_foundRows, rI cyI (a 7) 42 g_noteRows, rI cyI (a 8) 88 g_undoRows, oX1 b1 gp1_month gp1_floes gp1_founds gp1_notes gp1_undos, rI cyI (b1 1) 12 gp1_ways, rI cyI (b1 2) 12 gp1_strengths, rI cyI (b1 3) 5 gp1_kinds, rI cyI (b1 4) 5 gp1_cells, rI cyI (b1 5) 5 gp1_foods, rI cyI (b1 6) 12 gp1_foundRows, rI cyI (b1 7) 42 gp1_noteRows, rI cyI (b1 8) 88 gp1_undoRows] s.heap.size = A at hD ⊢
  have hA : ∀ q : Nat, s.heap.size ≤ q → A q := fun q h => by rw [← hAe]; exact Or.inr h
  have hS : va_S A s.heap s.heap [] := va_S.rf
  have hP : va_P D vwCl [oX1 a g_month g_floes g_founds g_notes g_undos, rI cyI (a 1) 12 g_ways, rI cyI (a 2) 12 g_strengths, rI cyI (a 3) 5 g_kinds, rI cyI (a 4) 5 g_cells, rI cyI (a 5) 5 g_foods, rI cyI (a 6) 12 g_foundRows, rI cyI (a 7) 42 g_noteRows, rI cyI (a 8) 88 g_undoRows, oX1 b1 gp1_month gp1_floes gp1_founds gp1_notes gp1_undos, rI cyI (b1 1) 12 gp1_ways, rI cyI (b1 2) 12 gp1_strengths, rI cyI (b1 3) 5 gp1_kinds, rI cyI (b1 4) 5 gp1_cells, rI cyI (b1 5) 5 gp1_foods, rI cyI (b1 6) 12 gp1_foundRows, rI cyI (b1 7) 42 gp1_noteRows, rI cyI (b1 8) 88 gp1_undoRows] s.heap := hP
  have hl := lv_entry [.ref (a 0), .ref (b1 0)] (n := 2) (Nat.le_of_ble_eq_true rfl)
  rw [lg_entry_eq]
  generalize (lg_sl [.ref (a 0), .ref (b1 0)] ++ List.replicate (2 - (lg_sl [.ref (a 0), .ref (b1 0)]).length) Slot.unset).toArray = ls at hl ⊢
  have hl : lv_has ls 2 [(0, .ref (a 0)), (1, .ref (b1 0))] := hl
  unfold T_X1_takeFrom at hT
  refine lv_aload_n hx hb dX1_takeFrom_0 rfl (lv_at hl 0 rfl) ?_
  refine lv_aload_n hx hb dX1_takeFrom_1 rfl (lv_at hl 1 rfl) ?_
  refine va_get (D := D) (cl := vwCl) (ci := 0) (v := .int gp1_month) (C := RX1) (T := TX1) (N := 13) hx hb hts inX1 hown hK hP 9 rfl rfl 0 (by decide) (hts (Cond.fieldLink RX1 42 "FrozenIn$Sea" "month" "I") (List.mem_of_getElem? (i := 1) rfl)) (fun _ h9 => h9) rfl dX1_takeFrom_2 ?_
  refine va_put (D := D) (cl := vwCl) (ci := 0) (v := .int gp1_month) (ty := .int) (C := RX1) (T := TX1) (N := 13) hx hb hts inX1 tyX1 tyX1_ok nmX1 hown hK hP hD hS 0 rfl rfl 0 (by decide) (hts (Cond.fieldLink RX1 42 "FrozenIn$Sea" "month" "I") (List.mem_of_getElem? (i := 1) rfl)) (fun _ h9 => h9) rfl (by decide +kernel) rfl rfl (Nat.le_of_ble_eq_true rfl) dX1_takeFrom_5 (fun H1 L2 hP hD hS => ?_)
  have hP : va_P D vwCl [oX1 a gp1_month g_floes g_founds g_notes g_undos, rI cyI (a 1) 12 g_ways, rI cyI (a 2) 12 g_strengths, rI cyI (a 3) 5 g_kinds, rI cyI (a 4) 5 g_cells, rI cyI (a 5) 5 g_foods, rI cyI (a 6) 12 g_foundRows, rI cyI (a 7) 42 g_noteRows, rI cyI (a 8) 88 g_undoRows, oX1 b1 gp1_month gp1_floes gp1_founds gp1_notes gp1_undos, rI cyI (b1 1) 12 gp1_ways, rI cyI (b1 2) 12 gp1_strengths, rI cyI (b1 3) 5 gp1_kinds, rI cyI (b1 4) 5 gp1_cells, rI cyI (b1 5) 5 gp1_foods, rI cyI (b1 6) 12 gp1_foundRows, rI cyI (b1 7) 42 gp1_noteRows, rI cyI (b1 8) 88 gp1_undoRows] H1 := hP
  have hD : va_D A [oX1 a gp1_month g_floes g_founds g_notes g_undos, rI cyI (a 1) 12 g_ways, rI cyI (a 2) 12 g_strengths, rI cyI (a 3) 5 g_kinds, rI cyI (a 4) 5 g_cells, rI cyI (a 5) 5 g_foods, rI cyI (a 6) 12 g_foundRows, rI cyI (a 7) 42 g_noteRows, rI cyI (a 8) 88 g_undoRows, oX1 b1 gp1_month gp1_floes gp1_founds gp1_notes gp1_undos, rI cyI (b1 1) 12 gp1_ways, rI cyI (b1 2) 12 gp1_strengths, rI cyI (b1 3) 5 gp1_kinds, rI cyI (b1 4) 5 gp1_cells, rI cyI (b1 5) 5 gp1_foods, rI cyI (b1 6) 12 gp1_foundRows, rI cyI (b1 7) 42 gp1_noteRows, rI cyI (b1 8) 88 gp1_undoRows] := hD
  refine lv_aload_n hx hb dX1_takeFrom_8 rfl (lv_at hl 1 rfl) ?_
  refine va_get (D := D) (cl := vwCl) (ci := 0) (v := .ref (b1 1)) (C := RX1) (T := TX1) (N := 13) hx hb hts inX1 hown hK hP 9 rfl rfl 1 (by decide) (hts (Cond.fieldLink RX1 9 "FrozenIn$Sea" "ways" "[I") (List.mem_of_getElem? (i := 2) rfl)) (fun _ h9 => h9) rfl dX1_takeFrom_9 ?_
  refine lv_iconst (v := 0) hx hb dX1_takeFrom_12 (by decide) ?_
  refine lv_aload_n hx hb dX1_takeFrom_13 rfl (lv_at hl 0 rfl) ?_
  refine va_get (D := D) (cl := vwCl) (ci := 0) (v := .ref (a 1)) (C := RX1) (T := TX1) (N := 13) hx hb hts inX1 hown hK hP 0 rfl rfl 1 (by decide) (hts (Cond.fieldLink RX1 9 "FrozenIn$Sea" "ways" "[I") (List.mem_of_getElem? (i := 2) rfl)) (fun _ h9 => h9) rfl dX1_takeFrom_14 ?_
  refine lv_iconst (v := 0) hx hb dX1_takeFrom_17 (by decide) ?_
  refine lv_bipush (v := 12) hx hb dX1_takeFrom_18 (by decide) ?_
  obtain ⟨⟨g4, g5, g6, g7, g8⟩, h3⟩ := gc_e hT
  refine va_copyi hx hb (hml.trans hl.1.symm) hown (hts (Cond.methodLink RX1 58 arraycopyName) (List.mem_of_getElem? (i := 3) rfl)) (hts (Cond.native arraycopyName) (List.mem_of_getElem? (i := 4) rfl)) (hts (Cond.static arraycopyName) (List.mem_of_getElem? (i := 5) rfl)) (hts (Cond.initialized "java/lang/System") (List.mem_of_getElem? (i := 6) rfl)) hK hP hD hS 10 1 0 0 rfl rfl rfl rfl rfl g4 g5 g6 g7 g8 (fun _ _ => rfl) (Nat.le_of_ble_eq_true rfl) (Nat.le_of_ble_eq_true rfl) dX1_takeFrom_20 (fun H9 L10 hP hD hS => ?_)
  have hP : va_P D vwCl [oX1 a gp1_month g_floes g_founds g_notes g_undos, rI cyI (a 1) 12 (va_cpy gp1_ways g_ways (0 : Int32).toNatClampNeg (0 : Int32).toNatClampNeg (12 : Int32).toNatClampNeg), rI cyI (a 2) 12 g_strengths, rI cyI (a 3) 5 g_kinds, rI cyI (a 4) 5 g_cells, rI cyI (a 5) 5 g_foods, rI cyI (a 6) 12 g_foundRows, rI cyI (a 7) 42 g_noteRows, rI cyI (a 8) 88 g_undoRows, oX1 b1 gp1_month gp1_floes gp1_founds gp1_notes gp1_undos, rI cyI (b1 1) 12 gp1_ways, rI cyI (b1 2) 12 gp1_strengths, rI cyI (b1 3) 5 gp1_kinds, rI cyI (b1 4) 5 gp1_cells, rI cyI (b1 5) 5 gp1_foods, rI cyI (b1 6) 12 gp1_foundRows, rI cyI (b1 7) 42 gp1_noteRows, rI cyI (b1 8) 88 gp1_undoRows] H9 := hP
  have hD : va_D A [oX1 a gp1_month g_floes g_founds g_notes g_undos, rI cyI (a 1) 12 (va_cpy gp1_ways g_ways (0 : Int32).toNatClampNeg (0 : Int32).toNatClampNeg (12 : Int32).toNatClampNeg), rI cyI (a 2) 12 g_strengths, rI cyI (a 3) 5 g_kinds, rI cyI (a 4) 5 g_cells, rI cyI (a 5) 5 g_foods, rI cyI (a 6) 12 g_foundRows, rI cyI (a 7) 42 g_noteRows, rI cyI (a 8) 88 g_undoRows, oX1 b1 gp1_month gp1_floes gp1_founds gp1_notes gp1_undos, rI cyI (b1 1) 12 gp1_ways, rI cyI (b1 2) 12 gp1_strengths, rI cyI (b1 3) 5 gp1_kinds, rI cyI (b1 4) 5 gp1_cells, rI cyI (b1 5) 5 gp1_foods, rI cyI (b1 6) 12 gp1_foundRows, rI cyI (b1 7) 42 gp1_noteRows, rI cyI (b1 8) 88 gp1_undoRows] := hD
  refine lv_aload_n hx hb dX1_takeFrom_23 rfl (lv_at hl 1 rfl) ?_
  refine va_get (D := D) (cl := vwCl) (ci := 0) (v := .ref (b1 2)) (C := RX1) (T := TX1) (N := 13) hx hb hts inX1 hown hK hP 9 rfl rfl 2 (by decide) (hts (Cond.fieldLink RX1 15 "FrozenIn$Sea" "strengths" "[I") (List.mem_of_getElem? (i := 7) rfl)) (fun _ h9 => h9) rfl dX1_takeFrom_24 ?_
  refine lv_iconst (v := 0) hx hb dX1_takeFrom_27 (by decide) ?_
  refine lv_aload_n hx hb dX1_takeFrom_28 rfl (lv_at hl 0 rfl) ?_
  refine va_get (D := D) (cl := vwCl) (ci := 0) (v := .ref (a 2)) (C := RX1) (T := TX1) (N := 13) hx hb hts inX1 hown hK hP 0 rfl rfl 2 (by decide) (hts (Cond.fieldLink RX1 15 "FrozenIn$Sea" "strengths" "[I") (List.mem_of_getElem? (i := 7) rfl)) (fun _ h9 => h9) rfl dX1_takeFrom_29 ?_
  refine lv_iconst (v := 0) hx hb dX1_takeFrom_32 (by decide) ?_
  refine lv_bipush (v := 12) hx hb dX1_takeFrom_33 (by decide) ?_
  obtain ⟨⟨g12, g13, g14, g15, g16⟩, h11⟩ := gc_e h3
  refine va_copyi hx hb (hml.trans hl.1.symm) hown (hts (Cond.methodLink RX1 58 arraycopyName) (List.mem_of_getElem? (i := 3) rfl)) (hts (Cond.native arraycopyName) (List.mem_of_getElem? (i := 4) rfl)) (hts (Cond.static arraycopyName) (List.mem_of_getElem? (i := 5) rfl)) (hts (Cond.initialized "java/lang/System") (List.mem_of_getElem? (i := 6) rfl)) hK hP hD hS 11 2 0 0 rfl rfl rfl rfl rfl g12 g13 g14 g15 g16 (fun _ _ => rfl) (Nat.le_of_ble_eq_true rfl) (Nat.le_of_ble_eq_true rfl) dX1_takeFrom_35 (fun H17 L18 hP hD hS => ?_)
  have hP : va_P D vwCl [oX1 a gp1_month g_floes g_founds g_notes g_undos, rI cyI (a 1) 12 (va_cpy gp1_ways g_ways (0 : Int32).toNatClampNeg (0 : Int32).toNatClampNeg (12 : Int32).toNatClampNeg), rI cyI (a 2) 12 (va_cpy gp1_strengths g_strengths (0 : Int32).toNatClampNeg (0 : Int32).toNatClampNeg (12 : Int32).toNatClampNeg), rI cyI (a 3) 5 g_kinds, rI cyI (a 4) 5 g_cells, rI cyI (a 5) 5 g_foods, rI cyI (a 6) 12 g_foundRows, rI cyI (a 7) 42 g_noteRows, rI cyI (a 8) 88 g_undoRows, oX1 b1 gp1_month gp1_floes gp1_founds gp1_notes gp1_undos, rI cyI (b1 1) 12 gp1_ways, rI cyI (b1 2) 12 gp1_strengths, rI cyI (b1 3) 5 gp1_kinds, rI cyI (b1 4) 5 gp1_cells, rI cyI (b1 5) 5 gp1_foods, rI cyI (b1 6) 12 gp1_foundRows, rI cyI (b1 7) 42 gp1_noteRows, rI cyI (b1 8) 88 gp1_undoRows] H17 := hP
  have hD : va_D A [oX1 a gp1_month g_floes g_founds g_notes g_undos, rI cyI (a 1) 12 (va_cpy gp1_ways g_ways (0 : Int32).toNatClampNeg (0 : Int32).toNatClampNeg (12 : Int32).toNatClampNeg), rI cyI (a 2) 12 (va_cpy gp1_strengths g_strengths (0 : Int32).toNatClampNeg (0 : Int32).toNatClampNeg (12 : Int32).toNatClampNeg), rI cyI (a 3) 5 g_kinds, rI cyI (a 4) 5 g_cells, rI cyI (a 5) 5 g_foods, rI cyI (a 6) 12 g_foundRows, rI cyI (a 7) 42 g_noteRows, rI cyI (a 8) 88 g_undoRows, oX1 b1 gp1_month gp1_floes gp1_founds gp1_notes gp1_undos, rI cyI (b1 1) 12 gp1_ways, rI cyI (b1 2) 12 gp1_strengths, rI cyI (b1 3) 5 gp1_kinds, rI cyI (b1 4) 5 gp1_cells, rI cyI (b1 5) 5 gp1_foods, rI cyI (b1 6) 12 gp1_foundRows, rI cyI (b1 7) 42 gp1_noteRows, rI cyI (b1 8) 88 gp1_undoRows] := hD
  refine lv_aload_n hx hb dX1_takeFrom_38 rfl (lv_at hl 0 rfl) ?_
  refine lv_aload_n hx hb dX1_takeFrom_39 rfl (lv_at hl 1 rfl) ?_
  refine va_get (D := D) (cl := vwCl) (ci := 0) (v := .int gp1_floes) (C := RX1) (T := TX1) (N := 13) hx hb hts inX1 hown hK hP 9 rfl rfl 3 (by decide) (hts (Cond.fieldLink RX1 46 "FrozenIn$Sea" "floes" "I") (List.mem_of_getElem? (i := 8) rfl)) (fun _ h9 => h9) rfl dX1_takeFrom_40 ?_
  refine va_put (D := D) (cl := vwCl) (ci := 0) (v := .int gp1_floes) (ty := .int) (C := RX1) (T := TX1) (N := 13) hx hb hts inX1 tyX1 tyX1_ok nmX1 hown hK hP hD hS 0 rfl rfl 3 (by decide) (hts (Cond.fieldLink RX1 46 "FrozenIn$Sea" "floes" "I") (List.mem_of_getElem? (i := 8) rfl)) (fun _ h9 => h9) rfl (by decide +kernel) rfl rfl (Nat.le_of_ble_eq_true rfl) dX1_takeFrom_43 (fun H19 L20 hP hD hS => ?_)
  have hP : va_P D vwCl [oX1 a gp1_month gp1_floes g_founds g_notes g_undos, rI cyI (a 1) 12 (va_cpy gp1_ways g_ways (0 : Int32).toNatClampNeg (0 : Int32).toNatClampNeg (12 : Int32).toNatClampNeg), rI cyI (a 2) 12 (va_cpy gp1_strengths g_strengths (0 : Int32).toNatClampNeg (0 : Int32).toNatClampNeg (12 : Int32).toNatClampNeg), rI cyI (a 3) 5 g_kinds, rI cyI (a 4) 5 g_cells, rI cyI (a 5) 5 g_foods, rI cyI (a 6) 12 g_foundRows, rI cyI (a 7) 42 g_noteRows, rI cyI (a 8) 88 g_undoRows, oX1 b1 gp1_month gp1_floes gp1_founds gp1_notes gp1_undos, rI cyI (b1 1) 12 gp1_ways, rI cyI (b1 2) 12 gp1_strengths, rI cyI (b1 3) 5 gp1_kinds, rI cyI (b1 4) 5 gp1_cells, rI cyI (b1 5) 5 gp1_foods, rI cyI (b1 6) 12 gp1_foundRows, rI cyI (b1 7) 42 gp1_noteRows, rI cyI (b1 8) 88 gp1_undoRows] H19 := hP
  have hD : va_D A [oX1 a gp1_month gp1_floes g_founds g_notes g_undos, rI cyI (a 1) 12 (va_cpy gp1_ways g_ways (0 : Int32).toNatClampNeg (0 : Int32).toNatClampNeg (12 : Int32).toNatClampNeg), rI cyI (a 2) 12 (va_cpy gp1_strengths g_strengths (0 : Int32).toNatClampNeg (0 : Int32).toNatClampNeg (12 : Int32).toNatClampNeg), rI cyI (a 3) 5 g_kinds, rI cyI (a 4) 5 g_cells, rI cyI (a 5) 5 g_foods, rI cyI (a 6) 12 g_foundRows, rI cyI (a 7) 42 g_noteRows, rI cyI (a 8) 88 g_undoRows, oX1 b1 gp1_month gp1_floes gp1_founds gp1_notes gp1_undos, rI cyI (b1 1) 12 gp1_ways, rI cyI (b1 2) 12 gp1_strengths, rI cyI (b1 3) 5 gp1_kinds, rI cyI (b1 4) 5 gp1_cells, rI cyI (b1 5) 5 gp1_foods, rI cyI (b1 6) 12 gp1_foundRows, rI cyI (b1 7) 42 gp1_noteRows, rI cyI (b1 8) 88 gp1_undoRows] := hD
  refine lv_aload_n hx hb dX1_takeFrom_46 rfl (lv_at hl 1 rfl) ?_
  refine va_get (D := D) (cl := vwCl) (ci := 0) (v := .ref (b1 3)) (C := RX1) (T := TX1) (N := 13) hx hb hts inX1 hown hK hP 9 rfl rfl 4 (by decide) (hts (Cond.fieldLink RX1 18 "FrozenIn$Sea" "kinds" "[I") (List.mem_of_getElem? (i := 9) rfl)) (fun _ h9 => h9) rfl dX1_takeFrom_47 ?_
  refine lv_iconst (v := 0) hx hb dX1_takeFrom_50 (by decide) ?_
  refine lv_aload_n hx hb dX1_takeFrom_51 rfl (lv_at hl 0 rfl) ?_
  refine va_get (D := D) (cl := vwCl) (ci := 0) (v := .ref (a 3)) (C := RX1) (T := TX1) (N := 13) hx hb hts inX1 hown hK hP 0 rfl rfl 4 (by decide) (hts (Cond.fieldLink RX1 18 "FrozenIn$Sea" "kinds" "[I") (List.mem_of_getElem? (i := 9) rfl)) (fun _ h9 => h9) rfl dX1_takeFrom_52 ?_
  refine lv_iconst (v := 0) hx hb dX1_takeFrom_55 (by decide) ?_
  refine lv_iconst (v := 5) hx hb dX1_takeFrom_56 (by decide) ?_
  obtain ⟨⟨g22, g23, g24, g25, g26⟩, h21⟩ := gc_e h11
  refine va_copyi hx hb (hml.trans hl.1.symm) hown (hts (Cond.methodLink RX1 58 arraycopyName) (List.mem_of_getElem? (i := 3) rfl)) (hts (Cond.native arraycopyName) (List.mem_of_getElem? (i := 4) rfl)) (hts (Cond.static arraycopyName) (List.mem_of_getElem? (i := 5) rfl)) (hts (Cond.initialized "java/lang/System") (List.mem_of_getElem? (i := 6) rfl)) hK hP hD hS 12 3 0 0 rfl rfl rfl rfl rfl g22 g23 g24 g25 g26 (fun _ _ => rfl) (Nat.le_of_ble_eq_true rfl) (Nat.le_of_ble_eq_true rfl) dX1_takeFrom_57 (fun H27 L28 hP hD hS => ?_)
  have hP : va_P D vwCl [oX1 a gp1_month gp1_floes g_founds g_notes g_undos, rI cyI (a 1) 12 (va_cpy gp1_ways g_ways (0 : Int32).toNatClampNeg (0 : Int32).toNatClampNeg (12 : Int32).toNatClampNeg), rI cyI (a 2) 12 (va_cpy gp1_strengths g_strengths (0 : Int32).toNatClampNeg (0 : Int32).toNatClampNeg (12 : Int32).toNatClampNeg), rI cyI (a 3) 5 (va_cpy gp1_kinds g_kinds (0 : Int32).toNatClampNeg (0 : Int32).toNatClampNeg (5 : Int32).toNatClampNeg), rI cyI (a 4) 5 g_cells, rI cyI (a 5) 5 g_foods, rI cyI (a 6) 12 g_foundRows, rI cyI (a 7) 42 g_noteRows, rI cyI (a 8) 88 g_undoRows, oX1 b1 gp1_month gp1_floes gp1_founds gp1_notes gp1_undos, rI cyI (b1 1) 12 gp1_ways, rI cyI (b1 2) 12 gp1_strengths, rI cyI (b1 3) 5 gp1_kinds, rI cyI (b1 4) 5 gp1_cells, rI cyI (b1 5) 5 gp1_foods, rI cyI (b1 6) 12 gp1_foundRows, rI cyI (b1 7) 42 gp1_noteRows, rI cyI (b1 8) 88 gp1_undoRows] H27 := hP
  have hD : va_D A [oX1 a gp1_month gp1_floes g_founds g_notes g_undos, rI cyI (a 1) 12 (va_cpy gp1_ways g_ways (0 : Int32).toNatClampNeg (0 : Int32).toNatClampNeg (12 : Int32).toNatClampNeg), rI cyI (a 2) 12 (va_cpy gp1_strengths g_strengths (0 : Int32).toNatClampNeg (0 : Int32).toNatClampNeg (12 : Int32).toNatClampNeg), rI cyI (a 3) 5 (va_cpy gp1_kinds g_kinds (0 : Int32).toNatClampNeg (0 : Int32).toNatClampNeg (5 : Int32).toNatClampNeg), rI cyI (a 4) 5 g_cells, rI cyI (a 5) 5 g_foods, rI cyI (a 6) 12 g_foundRows, rI cyI (a 7) 42 g_noteRows, rI cyI (a 8) 88 g_undoRows, oX1 b1 gp1_month gp1_floes gp1_founds gp1_notes gp1_undos, rI cyI (b1 1) 12 gp1_ways, rI cyI (b1 2) 12 gp1_strengths, rI cyI (b1 3) 5 gp1_kinds, rI cyI (b1 4) 5 gp1_cells, rI cyI (b1 5) 5 gp1_foods, rI cyI (b1 6) 12 gp1_foundRows, rI cyI (b1 7) 42 gp1_noteRows, rI cyI (b1 8) 88 gp1_undoRows] := hD
  refine lv_aload_n hx hb dX1_takeFrom_60 rfl (lv_at hl 1 rfl) ?_
  refine va_get (D := D) (cl := vwCl) (ci := 0) (v := .ref (b1 4)) (C := RX1) (T := TX1) (N := 13) hx hb hts inX1 hown hK hP 9 rfl rfl 5 (by decide) (hts (Cond.fieldLink RX1 21 "FrozenIn$Sea" "cells" "[I") (List.mem_of_getElem? (i := 10) rfl)) (fun _ h9 => h9) rfl dX1_takeFrom_61 ?_
  refine lv_iconst (v := 0) hx hb dX1_takeFrom_64 (by decide) ?_
  refine lv_aload_n hx hb dX1_takeFrom_65 rfl (lv_at hl 0 rfl) ?_
  refine va_get (D := D) (cl := vwCl) (ci := 0) (v := .ref (a 4)) (C := RX1) (T := TX1) (N := 13) hx hb hts inX1 hown hK hP 0 rfl rfl 5 (by decide) (hts (Cond.fieldLink RX1 21 "FrozenIn$Sea" "cells" "[I") (List.mem_of_getElem? (i := 10) rfl)) (fun _ h9 => h9) rfl dX1_takeFrom_66 ?_
  refine lv_iconst (v := 0) hx hb dX1_takeFrom_69 (by decide) ?_
  refine lv_iconst (v := 5) hx hb dX1_takeFrom_70 (by decide) ?_
  obtain ⟨⟨g30, g31, g32, g33, g34⟩, h29⟩ := gc_e h21
  refine va_copyi hx hb (hml.trans hl.1.symm) hown (hts (Cond.methodLink RX1 58 arraycopyName) (List.mem_of_getElem? (i := 3) rfl)) (hts (Cond.native arraycopyName) (List.mem_of_getElem? (i := 4) rfl)) (hts (Cond.static arraycopyName) (List.mem_of_getElem? (i := 5) rfl)) (hts (Cond.initialized "java/lang/System") (List.mem_of_getElem? (i := 6) rfl)) hK hP hD hS 13 4 0 0 rfl rfl rfl rfl rfl g30 g31 g32 g33 g34 (fun _ _ => rfl) (Nat.le_of_ble_eq_true rfl) (Nat.le_of_ble_eq_true rfl) dX1_takeFrom_71 (fun H35 L36 hP hD hS => ?_)
  have hP : va_P D vwCl [oX1 a gp1_month gp1_floes g_founds g_notes g_undos, rI cyI (a 1) 12 (va_cpy gp1_ways g_ways (0 : Int32).toNatClampNeg (0 : Int32).toNatClampNeg (12 : Int32).toNatClampNeg), rI cyI (a 2) 12 (va_cpy gp1_strengths g_strengths (0 : Int32).toNatClampNeg (0 : Int32).toNatClampNeg (12 : Int32).toNatClampNeg), rI cyI (a 3) 5 (va_cpy gp1_kinds g_kinds (0 : Int32).toNatClampNeg (0 : Int32).toNatClampNeg (5 : Int32).toNatClampNeg), rI cyI (a 4) 5 (va_cpy gp1_cells g_cells (0 : Int32).toNatClampNeg (0 : Int32).toNatClampNeg (5 : Int32).toNatClampNeg), rI cyI (a 5) 5 g_foods, rI cyI (a 6) 12 g_foundRows, rI cyI (a 7) 42 g_noteRows, rI cyI (a 8) 88 g_undoRows, oX1 b1 gp1_month gp1_floes gp1_founds gp1_notes gp1_undos, rI cyI (b1 1) 12 gp1_ways, rI cyI (b1 2) 12 gp1_strengths, rI cyI (b1 3) 5 gp1_kinds, rI cyI (b1 4) 5 gp1_cells, rI cyI (b1 5) 5 gp1_foods, rI cyI (b1 6) 12 gp1_foundRows, rI cyI (b1 7) 42 gp1_noteRows, rI cyI (b1 8) 88 gp1_undoRows] H35 := hP
  have hD : va_D A [oX1 a gp1_month gp1_floes g_founds g_notes g_undos, rI cyI (a 1) 12 (va_cpy gp1_ways g_ways (0 : Int32).toNatClampNeg (0 : Int32).toNatClampNeg (12 : Int32).toNatClampNeg), rI cyI (a 2) 12 (va_cpy gp1_strengths g_strengths (0 : Int32).toNatClampNeg (0 : Int32).toNatClampNeg (12 : Int32).toNatClampNeg), rI cyI (a 3) 5 (va_cpy gp1_kinds g_kinds (0 : Int32).toNatClampNeg (0 : Int32).toNatClampNeg (5 : Int32).toNatClampNeg), rI cyI (a 4) 5 (va_cpy gp1_cells g_cells (0 : Int32).toNatClampNeg (0 : Int32).toNatClampNeg (5 : Int32).toNatClampNeg), rI cyI (a 5) 5 g_foods, rI cyI (a 6) 12 g_foundRows, rI cyI (a 7) 42 g_noteRows, rI cyI (a 8) 88 g_undoRows, oX1 b1 gp1_month gp1_floes gp1_founds gp1_notes gp1_undos, rI cyI (b1 1) 12 gp1_ways, rI cyI (b1 2) 12 gp1_strengths, rI cyI (b1 3) 5 gp1_kinds, rI cyI (b1 4) 5 gp1_cells, rI cyI (b1 5) 5 gp1_foods, rI cyI (b1 6) 12 gp1_foundRows, rI cyI (b1 7) 42 gp1_noteRows, rI cyI (b1 8) 88 gp1_undoRows] := hD
  refine lv_aload_n hx hb dX1_takeFrom_74 rfl (lv_at hl 1 rfl) ?_
  refine va_get (D := D) (cl := vwCl) (ci := 0) (v := .ref (b1 5)) (C := RX1) (T := TX1) (N := 13) hx hb hts inX1 hown hK hP 9 rfl rfl 6 (by decide) (hts (Cond.fieldLink RX1 24 "FrozenIn$Sea" "foods" "[I") (List.mem_of_getElem? (i := 11) rfl)) (fun _ h9 => h9) rfl dX1_takeFrom_75 ?_
  refine lv_iconst (v := 0) hx hb dX1_takeFrom_78 (by decide) ?_
  refine lv_aload_n hx hb dX1_takeFrom_79 rfl (lv_at hl 0 rfl) ?_
  refine va_get (D := D) (cl := vwCl) (ci := 0) (v := .ref (a 5)) (C := RX1) (T := TX1) (N := 13) hx hb hts inX1 hown hK hP 0 rfl rfl 6 (by decide) (hts (Cond.fieldLink RX1 24 "FrozenIn$Sea" "foods" "[I") (List.mem_of_getElem? (i := 11) rfl)) (fun _ h9 => h9) rfl dX1_takeFrom_80 ?_
  refine lv_iconst (v := 0) hx hb dX1_takeFrom_83 (by decide) ?_
  refine lv_iconst (v := 5) hx hb dX1_takeFrom_84 (by decide) ?_
  obtain ⟨⟨g38, g39, g40, g41, g42⟩, h37⟩ := gc_e h29
  refine va_copyi hx hb (hml.trans hl.1.symm) hown (hts (Cond.methodLink RX1 58 arraycopyName) (List.mem_of_getElem? (i := 3) rfl)) (hts (Cond.native arraycopyName) (List.mem_of_getElem? (i := 4) rfl)) (hts (Cond.static arraycopyName) (List.mem_of_getElem? (i := 5) rfl)) (hts (Cond.initialized "java/lang/System") (List.mem_of_getElem? (i := 6) rfl)) hK hP hD hS 14 5 0 0 rfl rfl rfl rfl rfl g38 g39 g40 g41 g42 (fun _ _ => rfl) (Nat.le_of_ble_eq_true rfl) (Nat.le_of_ble_eq_true rfl) dX1_takeFrom_85 (fun H43 L44 hP hD hS => ?_)
  have hP : va_P D vwCl [oX1 a gp1_month gp1_floes g_founds g_notes g_undos, rI cyI (a 1) 12 (va_cpy gp1_ways g_ways (0 : Int32).toNatClampNeg (0 : Int32).toNatClampNeg (12 : Int32).toNatClampNeg), rI cyI (a 2) 12 (va_cpy gp1_strengths g_strengths (0 : Int32).toNatClampNeg (0 : Int32).toNatClampNeg (12 : Int32).toNatClampNeg), rI cyI (a 3) 5 (va_cpy gp1_kinds g_kinds (0 : Int32).toNatClampNeg (0 : Int32).toNatClampNeg (5 : Int32).toNatClampNeg), rI cyI (a 4) 5 (va_cpy gp1_cells g_cells (0 : Int32).toNatClampNeg (0 : Int32).toNatClampNeg (5 : Int32).toNatClampNeg), rI cyI (a 5) 5 (va_cpy gp1_foods g_foods (0 : Int32).toNatClampNeg (0 : Int32).toNatClampNeg (5 : Int32).toNatClampNeg), rI cyI (a 6) 12 g_foundRows, rI cyI (a 7) 42 g_noteRows, rI cyI (a 8) 88 g_undoRows, oX1 b1 gp1_month gp1_floes gp1_founds gp1_notes gp1_undos, rI cyI (b1 1) 12 gp1_ways, rI cyI (b1 2) 12 gp1_strengths, rI cyI (b1 3) 5 gp1_kinds, rI cyI (b1 4) 5 gp1_cells, rI cyI (b1 5) 5 gp1_foods, rI cyI (b1 6) 12 gp1_foundRows, rI cyI (b1 7) 42 gp1_noteRows, rI cyI (b1 8) 88 gp1_undoRows] H43 := hP
  have hD : va_D A [oX1 a gp1_month gp1_floes g_founds g_notes g_undos, rI cyI (a 1) 12 (va_cpy gp1_ways g_ways (0 : Int32).toNatClampNeg (0 : Int32).toNatClampNeg (12 : Int32).toNatClampNeg), rI cyI (a 2) 12 (va_cpy gp1_strengths g_strengths (0 : Int32).toNatClampNeg (0 : Int32).toNatClampNeg (12 : Int32).toNatClampNeg), rI cyI (a 3) 5 (va_cpy gp1_kinds g_kinds (0 : Int32).toNatClampNeg (0 : Int32).toNatClampNeg (5 : Int32).toNatClampNeg), rI cyI (a 4) 5 (va_cpy gp1_cells g_cells (0 : Int32).toNatClampNeg (0 : Int32).toNatClampNeg (5 : Int32).toNatClampNeg), rI cyI (a 5) 5 (va_cpy gp1_foods g_foods (0 : Int32).toNatClampNeg (0 : Int32).toNatClampNeg (5 : Int32).toNatClampNeg), rI cyI (a 6) 12 g_foundRows, rI cyI (a 7) 42 g_noteRows, rI cyI (a 8) 88 g_undoRows, oX1 b1 gp1_month gp1_floes gp1_founds gp1_notes gp1_undos, rI cyI (b1 1) 12 gp1_ways, rI cyI (b1 2) 12 gp1_strengths, rI cyI (b1 3) 5 gp1_kinds, rI cyI (b1 4) 5 gp1_cells, rI cyI (b1 5) 5 gp1_foods, rI cyI (b1 6) 12 gp1_foundRows, rI cyI (b1 7) 42 gp1_noteRows, rI cyI (b1 8) 88 gp1_undoRows] := hD
  refine lv_aload_n hx hb dX1_takeFrom_88 rfl (lv_at hl 0 rfl) ?_
  refine lv_aload_n hx hb dX1_takeFrom_89 rfl (lv_at hl 1 rfl) ?_
  refine va_get (D := D) (cl := vwCl) (ci := 0) (v := .int gp1_founds) (C := RX1) (T := TX1) (N := 13) hx hb hts inX1 hown hK hP 9 rfl rfl 7 (by decide) (hts (Cond.fieldLink RX1 49 "FrozenIn$Sea" "founds" "I") (List.mem_of_getElem? (i := 12) rfl)) (fun _ h9 => h9) rfl dX1_takeFrom_90 ?_
  refine va_put (D := D) (cl := vwCl) (ci := 0) (v := .int gp1_founds) (ty := .int) (C := RX1) (T := TX1) (N := 13) hx hb hts inX1 tyX1 tyX1_ok nmX1 hown hK hP hD hS 0 rfl rfl 7 (by decide) (hts (Cond.fieldLink RX1 49 "FrozenIn$Sea" "founds" "I") (List.mem_of_getElem? (i := 12) rfl)) (fun _ h9 => h9) rfl (by decide +kernel) rfl rfl (Nat.le_of_ble_eq_true rfl) dX1_takeFrom_93 (fun H45 L46 hP hD hS => ?_)
  have hP : va_P D vwCl [oX1 a gp1_month gp1_floes gp1_founds g_notes g_undos, rI cyI (a 1) 12 (va_cpy gp1_ways g_ways (0 : Int32).toNatClampNeg (0 : Int32).toNatClampNeg (12 : Int32).toNatClampNeg), rI cyI (a 2) 12 (va_cpy gp1_strengths g_strengths (0 : Int32).toNatClampNeg (0 : Int32).toNatClampNeg (12 : Int32).toNatClampNeg), rI cyI (a 3) 5 (va_cpy gp1_kinds g_kinds (0 : Int32).toNatClampNeg (0 : Int32).toNatClampNeg (5 : Int32).toNatClampNeg), rI cyI (a 4) 5 (va_cpy gp1_cells g_cells (0 : Int32).toNatClampNeg (0 : Int32).toNatClampNeg (5 : Int32).toNatClampNeg), rI cyI (a 5) 5 (va_cpy gp1_foods g_foods (0 : Int32).toNatClampNeg (0 : Int32).toNatClampNeg (5 : Int32).toNatClampNeg), rI cyI (a 6) 12 g_foundRows, rI cyI (a 7) 42 g_noteRows, rI cyI (a 8) 88 g_undoRows, oX1 b1 gp1_month gp1_floes gp1_founds gp1_notes gp1_undos, rI cyI (b1 1) 12 gp1_ways, rI cyI (b1 2) 12 gp1_strengths, rI cyI (b1 3) 5 gp1_kinds, rI cyI (b1 4) 5 gp1_cells, rI cyI (b1 5) 5 gp1_foods, rI cyI (b1 6) 12 gp1_foundRows, rI cyI (b1 7) 42 gp1_noteRows, rI cyI (b1 8) 88 gp1_undoRows] H45 := hP
  have hD : va_D A [oX1 a gp1_month gp1_floes gp1_founds g_notes g_undos, rI cyI (a 1) 12 (va_cpy gp1_ways g_ways (0 : Int32).toNatClampNeg (0 : Int32).toNatClampNeg (12 : Int32).toNatClampNeg), rI cyI (a 2) 12 (va_cpy gp1_strengths g_strengths (0 : Int32).toNatClampNeg (0 : Int32).toNatClampNeg (12 : Int32).toNatClampNeg), rI cyI (a 3) 5 (va_cpy gp1_kinds g_kinds (0 : Int32).toNatClampNeg (0 : Int32).toNatClampNeg (5 : Int32).toNatClampNeg), rI cyI (a 4) 5 (va_cpy gp1_cells g_cells (0 : Int32).toNatClampNeg (0 : Int32).toNatClampNeg (5 : Int32).toNatClampNeg), rI cyI (a 5) 5 (va_cpy gp1_foods g_foods (0 : Int32).toNatClampNeg (0 : Int32).toNatClampNeg (5 : Int32).toNatClampNeg), rI cyI (a 6) 12 g_foundRows, rI cyI (a 7) 42 g_noteRows, rI cyI (a 8) 88 g_undoRows, oX1 b1 gp1_month gp1_floes gp1_founds gp1_notes gp1_undos, rI cyI (b1 1) 12 gp1_ways, rI cyI (b1 2) 12 gp1_strengths, rI cyI (b1 3) 5 gp1_kinds, rI cyI (b1 4) 5 gp1_cells, rI cyI (b1 5) 5 gp1_foods, rI cyI (b1 6) 12 gp1_foundRows, rI cyI (b1 7) 42 gp1_noteRows, rI cyI (b1 8) 88 gp1_undoRows] := hD
  refine lv_aload_n hx hb dX1_takeFrom_96 rfl (lv_at hl 1 rfl) ?_
  refine va_get (D := D) (cl := vwCl) (ci := 0) (v := .ref (b1 6)) (C := RX1) (T := TX1) (N := 13) hx hb hts inX1 hown hK hP 9 rfl rfl 8 (by decide) (hts (Cond.fieldLink RX1 27 "FrozenIn$Sea" "foundRows" "[I") (List.mem_of_getElem? (i := 13) rfl)) (fun _ h9 => h9) rfl dX1_takeFrom_97 ?_
  refine lv_iconst (v := 0) hx hb dX1_takeFrom_100 (by decide) ?_
  refine lv_aload_n hx hb dX1_takeFrom_101 rfl (lv_at hl 0 rfl) ?_
  refine va_get (D := D) (cl := vwCl) (ci := 0) (v := .ref (a 6)) (C := RX1) (T := TX1) (N := 13) hx hb hts inX1 hown hK hP 0 rfl rfl 8 (by decide) (hts (Cond.fieldLink RX1 27 "FrozenIn$Sea" "foundRows" "[I") (List.mem_of_getElem? (i := 13) rfl)) (fun _ h9 => h9) rfl dX1_takeFrom_102 ?_
  refine lv_iconst (v := 0) hx hb dX1_takeFrom_105 (by decide) ?_
  refine lv_bipush (v := 12) hx hb dX1_takeFrom_106 (by decide) ?_
  obtain ⟨⟨g48, g49, g50, g51, g52⟩, h47⟩ := gc_e h37
  refine va_copyi hx hb (hml.trans hl.1.symm) hown (hts (Cond.methodLink RX1 58 arraycopyName) (List.mem_of_getElem? (i := 3) rfl)) (hts (Cond.native arraycopyName) (List.mem_of_getElem? (i := 4) rfl)) (hts (Cond.static arraycopyName) (List.mem_of_getElem? (i := 5) rfl)) (hts (Cond.initialized "java/lang/System") (List.mem_of_getElem? (i := 6) rfl)) hK hP hD hS 15 6 0 0 rfl rfl rfl rfl rfl g48 g49 g50 g51 g52 (fun _ _ => rfl) (Nat.le_of_ble_eq_true rfl) (Nat.le_of_ble_eq_true rfl) dX1_takeFrom_108 (fun H53 L54 hP hD hS => ?_)
  have hP : va_P D vwCl [oX1 a gp1_month gp1_floes gp1_founds g_notes g_undos, rI cyI (a 1) 12 (va_cpy gp1_ways g_ways (0 : Int32).toNatClampNeg (0 : Int32).toNatClampNeg (12 : Int32).toNatClampNeg), rI cyI (a 2) 12 (va_cpy gp1_strengths g_strengths (0 : Int32).toNatClampNeg (0 : Int32).toNatClampNeg (12 : Int32).toNatClampNeg), rI cyI (a 3) 5 (va_cpy gp1_kinds g_kinds (0 : Int32).toNatClampNeg (0 : Int32).toNatClampNeg (5 : Int32).toNatClampNeg), rI cyI (a 4) 5 (va_cpy gp1_cells g_cells (0 : Int32).toNatClampNeg (0 : Int32).toNatClampNeg (5 : Int32).toNatClampNeg), rI cyI (a 5) 5 (va_cpy gp1_foods g_foods (0 : Int32).toNatClampNeg (0 : Int32).toNatClampNeg (5 : Int32).toNatClampNeg), rI cyI (a 6) 12 (va_cpy gp1_foundRows g_foundRows (0 : Int32).toNatClampNeg (0 : Int32).toNatClampNeg (12 : Int32).toNatClampNeg), rI cyI (a 7) 42 g_noteRows, rI cyI (a 8) 88 g_undoRows, oX1 b1 gp1_month gp1_floes gp1_founds gp1_notes gp1_undos, rI cyI (b1 1) 12 gp1_ways, rI cyI (b1 2) 12 gp1_strengths, rI cyI (b1 3) 5 gp1_kinds, rI cyI (b1 4) 5 gp1_cells, rI cyI (b1 5) 5 gp1_foods, rI cyI (b1 6) 12 gp1_foundRows, rI cyI (b1 7) 42 gp1_noteRows, rI cyI (b1 8) 88 gp1_undoRows] H53 := hP
  have hD : va_D A [oX1 a gp1_month gp1_floes gp1_founds g_notes g_undos, rI cyI (a 1) 12 (va_cpy gp1_ways g_ways (0 : Int32).toNatClampNeg (0 : Int32).toNatClampNeg (12 : Int32).toNatClampNeg), rI cyI (a 2) 12 (va_cpy gp1_strengths g_strengths (0 : Int32).toNatClampNeg (0 : Int32).toNatClampNeg (12 : Int32).toNatClampNeg), rI cyI (a 3) 5 (va_cpy gp1_kinds g_kinds (0 : Int32).toNatClampNeg (0 : Int32).toNatClampNeg (5 : Int32).toNatClampNeg), rI cyI (a 4) 5 (va_cpy gp1_cells g_cells (0 : Int32).toNatClampNeg (0 : Int32).toNatClampNeg (5 : Int32).toNatClampNeg), rI cyI (a 5) 5 (va_cpy gp1_foods g_foods (0 : Int32).toNatClampNeg (0 : Int32).toNatClampNeg (5 : Int32).toNatClampNeg), rI cyI (a 6) 12 (va_cpy gp1_foundRows g_foundRows (0 : Int32).toNatClampNeg (0 : Int32).toNatClampNeg (12 : Int32).toNatClampNeg), rI cyI (a 7) 42 g_noteRows, rI cyI (a 8) 88 g_undoRows, oX1 b1 gp1_month gp1_floes gp1_founds gp1_notes gp1_undos, rI cyI (b1 1) 12 gp1_ways, rI cyI (b1 2) 12 gp1_strengths, rI cyI (b1 3) 5 gp1_kinds, rI cyI (b1 4) 5 gp1_cells, rI cyI (b1 5) 5 gp1_foods, rI cyI (b1 6) 12 gp1_foundRows, rI cyI (b1 7) 42 gp1_noteRows, rI cyI (b1 8) 88 gp1_undoRows] := hD
  refine lv_aload_n hx hb dX1_takeFrom_111 rfl (lv_at hl 0 rfl) ?_
  refine lv_aload_n hx hb dX1_takeFrom_112 rfl (lv_at hl 1 rfl) ?_
  refine va_get (D := D) (cl := vwCl) (ci := 0) (v := .int gp1_notes) (C := RX1) (T := TX1) (N := 13) hx hb hts inX1 hown hK hP 9 rfl rfl 9 (by decide) (hts (Cond.fieldLink RX1 52 "FrozenIn$Sea" "notes" "I") (List.mem_of_getElem? (i := 14) rfl)) (fun _ h9 => h9) rfl dX1_takeFrom_113 ?_
  refine va_put (D := D) (cl := vwCl) (ci := 0) (v := .int gp1_notes) (ty := .int) (C := RX1) (T := TX1) (N := 13) hx hb hts inX1 tyX1 tyX1_ok nmX1 hown hK hP hD hS 0 rfl rfl 9 (by decide) (hts (Cond.fieldLink RX1 52 "FrozenIn$Sea" "notes" "I") (List.mem_of_getElem? (i := 14) rfl)) (fun _ h9 => h9) rfl (by decide +kernel) rfl rfl (Nat.le_of_ble_eq_true rfl) dX1_takeFrom_116 (fun H55 L56 hP hD hS => ?_)
  have hP : va_P D vwCl [oX1 a gp1_month gp1_floes gp1_founds gp1_notes g_undos, rI cyI (a 1) 12 (va_cpy gp1_ways g_ways (0 : Int32).toNatClampNeg (0 : Int32).toNatClampNeg (12 : Int32).toNatClampNeg), rI cyI (a 2) 12 (va_cpy gp1_strengths g_strengths (0 : Int32).toNatClampNeg (0 : Int32).toNatClampNeg (12 : Int32).toNatClampNeg), rI cyI (a 3) 5 (va_cpy gp1_kinds g_kinds (0 : Int32).toNatClampNeg (0 : Int32).toNatClampNeg (5 : Int32).toNatClampNeg), rI cyI (a 4) 5 (va_cpy gp1_cells g_cells (0 : Int32).toNatClampNeg (0 : Int32).toNatClampNeg (5 : Int32).toNatClampNeg), rI cyI (a 5) 5 (va_cpy gp1_foods g_foods (0 : Int32).toNatClampNeg (0 : Int32).toNatClampNeg (5 : Int32).toNatClampNeg), rI cyI (a 6) 12 (va_cpy gp1_foundRows g_foundRows (0 : Int32).toNatClampNeg (0 : Int32).toNatClampNeg (12 : Int32).toNatClampNeg), rI cyI (a 7) 42 g_noteRows, rI cyI (a 8) 88 g_undoRows, oX1 b1 gp1_month gp1_floes gp1_founds gp1_notes gp1_undos, rI cyI (b1 1) 12 gp1_ways, rI cyI (b1 2) 12 gp1_strengths, rI cyI (b1 3) 5 gp1_kinds, rI cyI (b1 4) 5 gp1_cells, rI cyI (b1 5) 5 gp1_foods, rI cyI (b1 6) 12 gp1_foundRows, rI cyI (b1 7) 42 gp1_noteRows, rI cyI (b1 8) 88 gp1_undoRows] H55 := hP
  have hD : va_D A [oX1 a gp1_month gp1_floes gp1_founds gp1_notes g_undos, rI cyI (a 1) 12 (va_cpy gp1_ways g_ways (0 : Int32).toNatClampNeg (0 : Int32).toNatClampNeg (12 : Int32).toNatClampNeg), rI cyI (a 2) 12 (va_cpy gp1_strengths g_strengths (0 : Int32).toNatClampNeg (0 : Int32).toNatClampNeg (12 : Int32).toNatClampNeg), rI cyI (a 3) 5 (va_cpy gp1_kinds g_kinds (0 : Int32).toNatClampNeg (0 : Int32).toNatClampNeg (5 : Int32).toNatClampNeg), rI cyI (a 4) 5 (va_cpy gp1_cells g_cells (0 : Int32).toNatClampNeg (0 : Int32).toNatClampNeg (5 : Int32).toNatClampNeg), rI cyI (a 5) 5 (va_cpy gp1_foods g_foods (0 : Int32).toNatClampNeg (0 : Int32).toNatClampNeg (5 : Int32).toNatClampNeg), rI cyI (a 6) 12 (va_cpy gp1_foundRows g_foundRows (0 : Int32).toNatClampNeg (0 : Int32).toNatClampNeg (12 : Int32).toNatClampNeg), rI cyI (a 7) 42 g_noteRows, rI cyI (a 8) 88 g_undoRows, oX1 b1 gp1_month gp1_floes gp1_founds gp1_notes gp1_undos, rI cyI (b1 1) 12 gp1_ways, rI cyI (b1 2) 12 gp1_strengths, rI cyI (b1 3) 5 gp1_kinds, rI cyI (b1 4) 5 gp1_cells, rI cyI (b1 5) 5 gp1_foods, rI cyI (b1 6) 12 gp1_foundRows, rI cyI (b1 7) 42 gp1_noteRows, rI cyI (b1 8) 88 gp1_undoRows] := hD
  refine lv_aload_n hx hb dX1_takeFrom_119 rfl (lv_at hl 1 rfl) ?_
  refine va_get (D := D) (cl := vwCl) (ci := 0) (v := .ref (b1 7)) (C := RX1) (T := TX1) (N := 13) hx hb hts inX1 hown hK hP 9 rfl rfl 10 (by decide) (hts (Cond.fieldLink RX1 30 "FrozenIn$Sea" "noteRows" "[I") (List.mem_of_getElem? (i := 15) rfl)) (fun _ h9 => h9) rfl dX1_takeFrom_120 ?_
  refine lv_iconst (v := 0) hx hb dX1_takeFrom_123 (by decide) ?_
  refine lv_aload_n hx hb dX1_takeFrom_124 rfl (lv_at hl 0 rfl) ?_
  refine va_get (D := D) (cl := vwCl) (ci := 0) (v := .ref (a 7)) (C := RX1) (T := TX1) (N := 13) hx hb hts inX1 hown hK hP 0 rfl rfl 10 (by decide) (hts (Cond.fieldLink RX1 30 "FrozenIn$Sea" "noteRows" "[I") (List.mem_of_getElem? (i := 15) rfl)) (fun _ h9 => h9) rfl dX1_takeFrom_125 ?_
  refine lv_iconst (v := 0) hx hb dX1_takeFrom_128 (by decide) ?_
  refine lv_bipush (v := 42) hx hb dX1_takeFrom_129 (by decide) ?_
  obtain ⟨⟨g58, g59, g60, g61, g62⟩, h57⟩ := gc_e h47
  refine va_copyi hx hb (hml.trans hl.1.symm) hown (hts (Cond.methodLink RX1 58 arraycopyName) (List.mem_of_getElem? (i := 3) rfl)) (hts (Cond.native arraycopyName) (List.mem_of_getElem? (i := 4) rfl)) (hts (Cond.static arraycopyName) (List.mem_of_getElem? (i := 5) rfl)) (hts (Cond.initialized "java/lang/System") (List.mem_of_getElem? (i := 6) rfl)) hK hP hD hS 16 7 0 0 rfl rfl rfl rfl rfl g58 g59 g60 g61 g62 (fun _ _ => rfl) (Nat.le_of_ble_eq_true rfl) (Nat.le_of_ble_eq_true rfl) dX1_takeFrom_131 (fun H63 L64 hP hD hS => ?_)
  have hP : va_P D vwCl [oX1 a gp1_month gp1_floes gp1_founds gp1_notes g_undos, rI cyI (a 1) 12 (va_cpy gp1_ways g_ways (0 : Int32).toNatClampNeg (0 : Int32).toNatClampNeg (12 : Int32).toNatClampNeg), rI cyI (a 2) 12 (va_cpy gp1_strengths g_strengths (0 : Int32).toNatClampNeg (0 : Int32).toNatClampNeg (12 : Int32).toNatClampNeg), rI cyI (a 3) 5 (va_cpy gp1_kinds g_kinds (0 : Int32).toNatClampNeg (0 : Int32).toNatClampNeg (5 : Int32).toNatClampNeg), rI cyI (a 4) 5 (va_cpy gp1_cells g_cells (0 : Int32).toNatClampNeg (0 : Int32).toNatClampNeg (5 : Int32).toNatClampNeg), rI cyI (a 5) 5 (va_cpy gp1_foods g_foods (0 : Int32).toNatClampNeg (0 : Int32).toNatClampNeg (5 : Int32).toNatClampNeg), rI cyI (a 6) 12 (va_cpy gp1_foundRows g_foundRows (0 : Int32).toNatClampNeg (0 : Int32).toNatClampNeg (12 : Int32).toNatClampNeg), rI cyI (a 7) 42 (va_cpy gp1_noteRows g_noteRows (0 : Int32).toNatClampNeg (0 : Int32).toNatClampNeg (42 : Int32).toNatClampNeg), rI cyI (a 8) 88 g_undoRows, oX1 b1 gp1_month gp1_floes gp1_founds gp1_notes gp1_undos, rI cyI (b1 1) 12 gp1_ways, rI cyI (b1 2) 12 gp1_strengths, rI cyI (b1 3) 5 gp1_kinds, rI cyI (b1 4) 5 gp1_cells, rI cyI (b1 5) 5 gp1_foods, rI cyI (b1 6) 12 gp1_foundRows, rI cyI (b1 7) 42 gp1_noteRows, rI cyI (b1 8) 88 gp1_undoRows] H63 := hP
  have hD : va_D A [oX1 a gp1_month gp1_floes gp1_founds gp1_notes g_undos, rI cyI (a 1) 12 (va_cpy gp1_ways g_ways (0 : Int32).toNatClampNeg (0 : Int32).toNatClampNeg (12 : Int32).toNatClampNeg), rI cyI (a 2) 12 (va_cpy gp1_strengths g_strengths (0 : Int32).toNatClampNeg (0 : Int32).toNatClampNeg (12 : Int32).toNatClampNeg), rI cyI (a 3) 5 (va_cpy gp1_kinds g_kinds (0 : Int32).toNatClampNeg (0 : Int32).toNatClampNeg (5 : Int32).toNatClampNeg), rI cyI (a 4) 5 (va_cpy gp1_cells g_cells (0 : Int32).toNatClampNeg (0 : Int32).toNatClampNeg (5 : Int32).toNatClampNeg), rI cyI (a 5) 5 (va_cpy gp1_foods g_foods (0 : Int32).toNatClampNeg (0 : Int32).toNatClampNeg (5 : Int32).toNatClampNeg), rI cyI (a 6) 12 (va_cpy gp1_foundRows g_foundRows (0 : Int32).toNatClampNeg (0 : Int32).toNatClampNeg (12 : Int32).toNatClampNeg), rI cyI (a 7) 42 (va_cpy gp1_noteRows g_noteRows (0 : Int32).toNatClampNeg (0 : Int32).toNatClampNeg (42 : Int32).toNatClampNeg), rI cyI (a 8) 88 g_undoRows, oX1 b1 gp1_month gp1_floes gp1_founds gp1_notes gp1_undos, rI cyI (b1 1) 12 gp1_ways, rI cyI (b1 2) 12 gp1_strengths, rI cyI (b1 3) 5 gp1_kinds, rI cyI (b1 4) 5 gp1_cells, rI cyI (b1 5) 5 gp1_foods, rI cyI (b1 6) 12 gp1_foundRows, rI cyI (b1 7) 42 gp1_noteRows, rI cyI (b1 8) 88 gp1_undoRows] := hD
  refine lv_aload_n hx hb dX1_takeFrom_134 rfl (lv_at hl 0 rfl) ?_
  refine lv_aload_n hx hb dX1_takeFrom_135 rfl (lv_at hl 1 rfl) ?_
  refine va_get (D := D) (cl := vwCl) (ci := 0) (v := .int gp1_undos) (C := RX1) (T := TX1) (N := 13) hx hb hts inX1 hown hK hP 9 rfl rfl 11 (by decide) (hts (Cond.fieldLink RX1 55 "FrozenIn$Sea" "undos" "I") (List.mem_of_getElem? (i := 16) rfl)) (fun _ h9 => h9) rfl dX1_takeFrom_136 ?_
  refine va_put (D := D) (cl := vwCl) (ci := 0) (v := .int gp1_undos) (ty := .int) (C := RX1) (T := TX1) (N := 13) hx hb hts inX1 tyX1 tyX1_ok nmX1 hown hK hP hD hS 0 rfl rfl 11 (by decide) (hts (Cond.fieldLink RX1 55 "FrozenIn$Sea" "undos" "I") (List.mem_of_getElem? (i := 16) rfl)) (fun _ h9 => h9) rfl (by decide +kernel) rfl rfl (Nat.le_of_ble_eq_true rfl) dX1_takeFrom_139 (fun H65 L66 hP hD hS => ?_)
  have hP : va_P D vwCl [oX1 a gp1_month gp1_floes gp1_founds gp1_notes gp1_undos, rI cyI (a 1) 12 (va_cpy gp1_ways g_ways (0 : Int32).toNatClampNeg (0 : Int32).toNatClampNeg (12 : Int32).toNatClampNeg), rI cyI (a 2) 12 (va_cpy gp1_strengths g_strengths (0 : Int32).toNatClampNeg (0 : Int32).toNatClampNeg (12 : Int32).toNatClampNeg), rI cyI (a 3) 5 (va_cpy gp1_kinds g_kinds (0 : Int32).toNatClampNeg (0 : Int32).toNatClampNeg (5 : Int32).toNatClampNeg), rI cyI (a 4) 5 (va_cpy gp1_cells g_cells (0 : Int32).toNatClampNeg (0 : Int32).toNatClampNeg (5 : Int32).toNatClampNeg), rI cyI (a 5) 5 (va_cpy gp1_foods g_foods (0 : Int32).toNatClampNeg (0 : Int32).toNatClampNeg (5 : Int32).toNatClampNeg), rI cyI (a 6) 12 (va_cpy gp1_foundRows g_foundRows (0 : Int32).toNatClampNeg (0 : Int32).toNatClampNeg (12 : Int32).toNatClampNeg), rI cyI (a 7) 42 (va_cpy gp1_noteRows g_noteRows (0 : Int32).toNatClampNeg (0 : Int32).toNatClampNeg (42 : Int32).toNatClampNeg), rI cyI (a 8) 88 g_undoRows, oX1 b1 gp1_month gp1_floes gp1_founds gp1_notes gp1_undos, rI cyI (b1 1) 12 gp1_ways, rI cyI (b1 2) 12 gp1_strengths, rI cyI (b1 3) 5 gp1_kinds, rI cyI (b1 4) 5 gp1_cells, rI cyI (b1 5) 5 gp1_foods, rI cyI (b1 6) 12 gp1_foundRows, rI cyI (b1 7) 42 gp1_noteRows, rI cyI (b1 8) 88 gp1_undoRows] H65 := hP
  have hD : va_D A [oX1 a gp1_month gp1_floes gp1_founds gp1_notes gp1_undos, rI cyI (a 1) 12 (va_cpy gp1_ways g_ways (0 : Int32).toNatClampNeg (0 : Int32).toNatClampNeg (12 : Int32).toNatClampNeg), rI cyI (a 2) 12 (va_cpy gp1_strengths g_strengths (0 : Int32).toNatClampNeg (0 : Int32).toNatClampNeg (12 : Int32).toNatClampNeg), rI cyI (a 3) 5 (va_cpy gp1_kinds g_kinds (0 : Int32).toNatClampNeg (0 : Int32).toNatClampNeg (5 : Int32).toNatClampNeg), rI cyI (a 4) 5 (va_cpy gp1_cells g_cells (0 : Int32).toNatClampNeg (0 : Int32).toNatClampNeg (5 : Int32).toNatClampNeg), rI cyI (a 5) 5 (va_cpy gp1_foods g_foods (0 : Int32).toNatClampNeg (0 : Int32).toNatClampNeg (5 : Int32).toNatClampNeg), rI cyI (a 6) 12 (va_cpy gp1_foundRows g_foundRows (0 : Int32).toNatClampNeg (0 : Int32).toNatClampNeg (12 : Int32).toNatClampNeg), rI cyI (a 7) 42 (va_cpy gp1_noteRows g_noteRows (0 : Int32).toNatClampNeg (0 : Int32).toNatClampNeg (42 : Int32).toNatClampNeg), rI cyI (a 8) 88 g_undoRows, oX1 b1 gp1_month gp1_floes gp1_founds gp1_notes gp1_undos, rI cyI (b1 1) 12 gp1_ways, rI cyI (b1 2) 12 gp1_strengths, rI cyI (b1 3) 5 gp1_kinds, rI cyI (b1 4) 5 gp1_cells, rI cyI (b1 5) 5 gp1_foods, rI cyI (b1 6) 12 gp1_foundRows, rI cyI (b1 7) 42 gp1_noteRows, rI cyI (b1 8) 88 gp1_undoRows] := hD
  refine lv_aload_n hx hb dX1_takeFrom_142 rfl (lv_at hl 1 rfl) ?_
  refine va_get (D := D) (cl := vwCl) (ci := 0) (v := .ref (b1 8)) (C := RX1) (T := TX1) (N := 13) hx hb hts inX1 hown hK hP 9 rfl rfl 12 (by decide) (hts (Cond.fieldLink RX1 33 "FrozenIn$Sea" "undoRows" "[I") (List.mem_of_getElem? (i := 17) rfl)) (fun _ h9 => h9) rfl dX1_takeFrom_143 ?_
  refine lv_iconst (v := 0) hx hb dX1_takeFrom_146 (by decide) ?_
  refine lv_aload_n hx hb dX1_takeFrom_147 rfl (lv_at hl 0 rfl) ?_
  refine va_get (D := D) (cl := vwCl) (ci := 0) (v := .ref (a 8)) (C := RX1) (T := TX1) (N := 13) hx hb hts inX1 hown hK hP 0 rfl rfl 12 (by decide) (hts (Cond.fieldLink RX1 33 "FrozenIn$Sea" "undoRows" "[I") (List.mem_of_getElem? (i := 17) rfl)) (fun _ h9 => h9) rfl dX1_takeFrom_148 ?_
  refine lv_iconst (v := 0) hx hb dX1_takeFrom_151 (by decide) ?_
  refine lv_bipush (v := 88) hx hb dX1_takeFrom_152 (by decide) ?_
  obtain ⟨⟨g68, g69, g70, g71, g72⟩, h67⟩ := gc_e h57
  refine va_copyi hx hb (hml.trans hl.1.symm) hown (hts (Cond.methodLink RX1 58 arraycopyName) (List.mem_of_getElem? (i := 3) rfl)) (hts (Cond.native arraycopyName) (List.mem_of_getElem? (i := 4) rfl)) (hts (Cond.static arraycopyName) (List.mem_of_getElem? (i := 5) rfl)) (hts (Cond.initialized "java/lang/System") (List.mem_of_getElem? (i := 6) rfl)) hK hP hD hS 17 8 0 0 rfl rfl rfl rfl rfl g68 g69 g70 g71 g72 (fun _ _ => rfl) (Nat.le_of_ble_eq_true rfl) (Nat.le_of_ble_eq_true rfl) dX1_takeFrom_154 (fun H73 L74 hP hD hS => ?_)
  have hP : va_P D vwCl [oX1 a gp1_month gp1_floes gp1_founds gp1_notes gp1_undos, rI cyI (a 1) 12 (va_cpy gp1_ways g_ways (0 : Int32).toNatClampNeg (0 : Int32).toNatClampNeg (12 : Int32).toNatClampNeg), rI cyI (a 2) 12 (va_cpy gp1_strengths g_strengths (0 : Int32).toNatClampNeg (0 : Int32).toNatClampNeg (12 : Int32).toNatClampNeg), rI cyI (a 3) 5 (va_cpy gp1_kinds g_kinds (0 : Int32).toNatClampNeg (0 : Int32).toNatClampNeg (5 : Int32).toNatClampNeg), rI cyI (a 4) 5 (va_cpy gp1_cells g_cells (0 : Int32).toNatClampNeg (0 : Int32).toNatClampNeg (5 : Int32).toNatClampNeg), rI cyI (a 5) 5 (va_cpy gp1_foods g_foods (0 : Int32).toNatClampNeg (0 : Int32).toNatClampNeg (5 : Int32).toNatClampNeg), rI cyI (a 6) 12 (va_cpy gp1_foundRows g_foundRows (0 : Int32).toNatClampNeg (0 : Int32).toNatClampNeg (12 : Int32).toNatClampNeg), rI cyI (a 7) 42 (va_cpy gp1_noteRows g_noteRows (0 : Int32).toNatClampNeg (0 : Int32).toNatClampNeg (42 : Int32).toNatClampNeg), rI cyI (a 8) 88 (va_cpy gp1_undoRows g_undoRows (0 : Int32).toNatClampNeg (0 : Int32).toNatClampNeg (88 : Int32).toNatClampNeg), oX1 b1 gp1_month gp1_floes gp1_founds gp1_notes gp1_undos, rI cyI (b1 1) 12 gp1_ways, rI cyI (b1 2) 12 gp1_strengths, rI cyI (b1 3) 5 gp1_kinds, rI cyI (b1 4) 5 gp1_cells, rI cyI (b1 5) 5 gp1_foods, rI cyI (b1 6) 12 gp1_foundRows, rI cyI (b1 7) 42 gp1_noteRows, rI cyI (b1 8) 88 gp1_undoRows] H73 := hP
  have hD : va_D A [oX1 a gp1_month gp1_floes gp1_founds gp1_notes gp1_undos, rI cyI (a 1) 12 (va_cpy gp1_ways g_ways (0 : Int32).toNatClampNeg (0 : Int32).toNatClampNeg (12 : Int32).toNatClampNeg), rI cyI (a 2) 12 (va_cpy gp1_strengths g_strengths (0 : Int32).toNatClampNeg (0 : Int32).toNatClampNeg (12 : Int32).toNatClampNeg), rI cyI (a 3) 5 (va_cpy gp1_kinds g_kinds (0 : Int32).toNatClampNeg (0 : Int32).toNatClampNeg (5 : Int32).toNatClampNeg), rI cyI (a 4) 5 (va_cpy gp1_cells g_cells (0 : Int32).toNatClampNeg (0 : Int32).toNatClampNeg (5 : Int32).toNatClampNeg), rI cyI (a 5) 5 (va_cpy gp1_foods g_foods (0 : Int32).toNatClampNeg (0 : Int32).toNatClampNeg (5 : Int32).toNatClampNeg), rI cyI (a 6) 12 (va_cpy gp1_foundRows g_foundRows (0 : Int32).toNatClampNeg (0 : Int32).toNatClampNeg (12 : Int32).toNatClampNeg), rI cyI (a 7) 42 (va_cpy gp1_noteRows g_noteRows (0 : Int32).toNatClampNeg (0 : Int32).toNatClampNeg (42 : Int32).toNatClampNeg), rI cyI (a 8) 88 (va_cpy gp1_undoRows g_undoRows (0 : Int32).toNatClampNeg (0 : Int32).toNatClampNeg (88 : Int32).toNatClampNeg), oX1 b1 gp1_month gp1_floes gp1_founds gp1_notes gp1_undos, rI cyI (b1 1) 12 gp1_ways, rI cyI (b1 2) 12 gp1_strengths, rI cyI (b1 3) 5 gp1_kinds, rI cyI (b1 4) 5 gp1_cells, rI cyI (b1 5) 5 gp1_foods, rI cyI (b1 6) 12 gp1_foundRows, rI cyI (b1 7) 42 gp1_noteRows, rI cyI (b1 8) 88 gp1_undoRows] := hD
  rw [← Option.some.inj h67]
  exact W.vret hx hb hr (fun t ht hW => ⟨⟨(), rfl, trivial, ⟨by rw [ht]; exact hP, hD⟩⟩, hS.F ht⟩) hS.2.2 dX1_takeFrom_157
def T_X1_tellWind (N : Nat) (g_undos : Int32) (g_ways : Nat → Int32) (g_strengths : Nat → Int32) (p1 : Int32) (p2 : Int32) (p3 : Int32) : Option (Int32 × (Nat → Int32) × (Nat → Int32)) :=
  (ob p1 12 (ob p1 12 (some (0, upd g_ways p1.toNatClampNeg p2, upd g_strengths p1.toNatClampNeg p3))))
abbrev rm_X1_tellWind : Room := { frames := 0, cells := 0, slots := 0, locals := 0 }
set_option maxHeartbeats 4000000 in
set_option maxRecDepth 100000 in
theorem c_X1_tellWind (l : Launch) (D : va_G) (cyI cyJ cyS : ClassId) (N : Nat) (a : Nat → Nat) (g_month : Int32) (g_floes : Int32) (g_founds : Int32) (g_notes : Int32) (g_undos : Int32) (g_ways : Nat → Int32) (g_strengths : Nat → Int32) (p1 : Int32) (p2 : Int32) (p3 : Int32) (sz : Nat) (R0 : Int32 × (Nat → Int32) × (Nat → Int32)) (hT : T_X1_tellWind N g_undos g_ways g_strengths p1 p2 p3 = some R0) : Met l yX1_tellWind wsX1_tellWind rm_X1_tellWind (va_Pc [.ref (a 0), .int p1, .int p2, .int p3] (preW D (tyS cyI cyJ cyS) [oX1 a g_month g_floes g_founds g_notes g_undos, rI cyI (a 1) 12 g_ways, rI cyI (a 2) 12 g_strengths] sz)) (va_Qv (fun (_ : Unit) => True) (fun _ t => va_P D vwCl [oX1 a g_month g_floes g_founds g_notes R0.1, rI cyI (a 1) 12 R0.2.1, rI cyI (a 2) 12 R0.2.2] t.heap ∧ va_D (va_A [oX1 a g_month g_floes g_founds g_notes g_undos, rI cyI (a 1) 12 g_ways, rI cyI (a 2) 12 g_strengths] sz) [oX1 a g_month g_floes g_founds g_notes R0.1, rI cyI (a 1) 12 R0.2.1, rI cyI (a 2) 12 R0.2.2]) (va_A [oX1 a g_month g_floes g_founds g_notes g_undos, rI cyI (a 1) 12 g_ways, rI cyI (a 2) 12 g_strengths] sz)) 0 0 (va_A [oX1 a g_month g_floes g_founds g_notes g_undos, rI cyI (a 1) 12 g_ways, rI cyI (a 2) 12 g_strengths] sz) := by
  refine Met.ofW (cc := cX1_tellWind) (maxL := 4) (ret := none) (by decide) rfl ?_
  intro p e s m args below meth c s₁ B hml hv
  obtain ⟨rfl, hsz, hP, hKK, hD0⟩ := hv
  have hx := B.exec
  have hb := B.bytes
  have hr := B.returns
  have hts := atoms_spec (ws := wsX1_tellWind) B.pre
  have hown : s.vm.findClass RX1 = some m.cls := findClass_of_methodNamed B.named
  have hlocks := B.notSynchronized
  have hK := hKK.1
  have inX1 : ∀ w ∈ wsX10, w ∈ wsX1_tellWind := (fun _ h => List.mem_cons_of_mem _ (List.mem_append_right _ h))
  subst hsz
  have hD := hD0.self (sz := s.heap.size)
  generalize hAe : va_A [oX1 a g_month g_floes g_founds g_notes g_undos, rI cyI (a 1) 12 g_ways, rI cyI (a 2) 12 g_strengths] s.heap.size = A at hD ⊢
  have hA : ∀ q : Nat, s.heap.size ≤ q → A q := fun q h => by rw [← hAe]; exact Or.inr h
  have hS : va_S A s.heap s.heap [] := va_S.rf
  have hP : va_P D vwCl [oX1 a g_month g_floes g_founds g_notes g_undos, rI cyI (a 1) 12 g_ways, rI cyI (a 2) 12 g_strengths] s.heap := hP
  have hl := lv_entry [.ref (a 0), .int p1, .int p2, .int p3] (n := 4) (Nat.le_of_ble_eq_true rfl)
  rw [lg_entry_eq]
  generalize (lg_sl [.ref (a 0), .int p1, .int p2, .int p3] ++ List.replicate (4 - (lg_sl [.ref (a 0), .int p1, .int p2, .int p3]).length) Slot.unset).toArray = ls at hl ⊢
  have hl : lv_has ls 4 [(0, .ref (a 0)), (1, .int p1), (2, .int p2), (3, .int p3)] := hl
  unfold T_X1_tellWind at hT
  refine lv_aload_n hx hb dX1_tellWind_0 rfl (lv_at hl 0 rfl) ?_
  refine va_get (D := D) (cl := vwCl) (ci := 0) (v := .ref (a 1)) (C := RX1) (T := TX1) (N := 13) hx hb hts inX1 hown hK hP 0 rfl rfl 1 (by decide) (hts (Cond.fieldLink RX1 9 "FrozenIn$Sea" "ways" "[I") (List.mem_of_getElem? (i := 1) rfl)) (fun _ h9 => h9) rfl dX1_tellWind_1 ?_
  refine lv_iload_n hx hb dX1_tellWind_4 rfl (lv_at hl 1 rfl) ?_
  refine lv_iload_n hx hb dX1_tellWind_5 rfl (lv_at hl 2 rfl) ?_
  obtain ⟨hi2, h1⟩ := ob_e hT
  refine va_iast hx hb hK hP hD hS 1 0 rfl rfl hi2 dX1_tellWind_6 (fun H3 L4 hP hD hS => ?_)
  have hP : va_P D vwCl [oX1 a g_month g_floes g_founds g_notes g_undos, rI cyI (a 1) 12 (upd g_ways p1.toNatClampNeg p2), rI cyI (a 2) 12 g_strengths] H3 := hP
  have hD : va_D A [oX1 a g_month g_floes g_founds g_notes g_undos, rI cyI (a 1) 12 (upd g_ways p1.toNatClampNeg p2), rI cyI (a 2) 12 g_strengths] := hD
  refine lv_aload_n hx hb dX1_tellWind_7 rfl (lv_at hl 0 rfl) ?_
  refine va_get (D := D) (cl := vwCl) (ci := 0) (v := .ref (a 2)) (C := RX1) (T := TX1) (N := 13) hx hb hts inX1 hown hK hP 0 rfl rfl 2 (by decide) (hts (Cond.fieldLink RX1 15 "FrozenIn$Sea" "strengths" "[I") (List.mem_of_getElem? (i := 2) rfl)) (fun _ h9 => h9) rfl dX1_tellWind_8 ?_
  refine lv_iload_n hx hb dX1_tellWind_11 rfl (lv_at hl 1 rfl) ?_
  refine lv_iload_n hx hb dX1_tellWind_12 rfl (lv_at hl 3 rfl) ?_
  obtain ⟨hi6, h5⟩ := ob_e h1
  refine va_iast hx hb hK hP hD hS 2 0 rfl rfl hi6 dX1_tellWind_13 (fun H7 L8 hP hD hS => ?_)
  have hP : va_P D vwCl [oX1 a g_month g_floes g_founds g_notes g_undos, rI cyI (a 1) 12 (upd g_ways p1.toNatClampNeg p2), rI cyI (a 2) 12 (upd g_strengths p1.toNatClampNeg p3)] H7 := hP
  have hD : va_D A [oX1 a g_month g_floes g_founds g_notes g_undos, rI cyI (a 1) 12 (upd g_ways p1.toNatClampNeg p2), rI cyI (a 2) 12 (upd g_strengths p1.toNatClampNeg p3)] := hD
  refine lv_aload_n hx hb dX1_tellWind_14 rfl (lv_at hl 0 rfl) ?_
  refine lv_iconst (v := 0) hx hb dX1_tellWind_15 (by decide) ?_
  refine va_put (D := D) (cl := vwCl) (ci := 0) (v := .int 0) (ty := .int) (C := RX1) (T := TX1) (N := 13) hx hb hts inX1 tyX1 tyX1_ok nmX1 hown hK hP hD hS 0 rfl rfl 11 (by decide) (hts (Cond.fieldLink RX1 55 "FrozenIn$Sea" "undos" "I") (List.mem_of_getElem? (i := 3) rfl)) (fun _ h9 => h9) rfl (by decide +kernel) rfl rfl (Nat.le_of_ble_eq_true rfl) dX1_tellWind_16 (fun H9 L10 hP hD hS => ?_)
  have hP : va_P D vwCl [oX1 a g_month g_floes g_founds g_notes 0, rI cyI (a 1) 12 (upd g_ways p1.toNatClampNeg p2), rI cyI (a 2) 12 (upd g_strengths p1.toNatClampNeg p3)] H9 := hP
  have hD : va_D A [oX1 a g_month g_floes g_founds g_notes 0, rI cyI (a 1) 12 (upd g_ways p1.toNatClampNeg p2), rI cyI (a 2) 12 (upd g_strengths p1.toNatClampNeg p3)] := hD
  rw [← Option.some.inj h5]
  exact W.vret hx hb hr (fun t ht hW => ⟨⟨(), rfl, trivial, ⟨by rw [ht]; exact hP, hD⟩⟩, hS.F ht⟩) hS.2.2 dX1_tellWind_19
def T_X1_addFloe (N : Nat) (g_floes : Int32) (g_undos : Int32) (g_kinds : Nat → Int32) (g_cells : Nat → Int32) (g_foods : Nat → Int32) (p1 : Int32) (p2 : Int32) (p3 : Int32) : Option (Int32 × Int32 × (Nat → Int32) × (Nat → Int32) × (Nat → Int32)) :=
  (ob g_floes 5 (ob g_floes 5 (ob g_floes 5 (some (g_floes + 1, 0, upd g_kinds g_floes.toNatClampNeg p1, upd g_cells g_floes.toNatClampNeg p2, upd g_foods g_floes.toNatClampNeg p3)))))
abbrev rm_X1_addFloe : Room := { frames := 0, cells := 0, slots := 0, locals := 0 }
set_option maxHeartbeats 4000000 in
set_option maxRecDepth 100000 in
theorem c_X1_addFloe (l : Launch) (D : va_G) (cyI cyJ cyS : ClassId) (N : Nat) (a : Nat → Nat) (g_month : Int32) (g_floes : Int32) (g_founds : Int32) (g_notes : Int32) (g_undos : Int32) (g_kinds : Nat → Int32) (g_cells : Nat → Int32) (g_foods : Nat → Int32) (p1 : Int32) (p2 : Int32) (p3 : Int32) (sz : Nat) (R0 : Int32 × Int32 × (Nat → Int32) × (Nat → Int32) × (Nat → Int32)) (hT : T_X1_addFloe N g_floes g_undos g_kinds g_cells g_foods p1 p2 p3 = some R0) : Met l yX1_addFloe wsX1_addFloe rm_X1_addFloe (va_Pc [.ref (a 0), .int p1, .int p2, .int p3] (preW D (tyS cyI cyJ cyS) [oX1 a g_month g_floes g_founds g_notes g_undos, rI cyI (a 3) 5 g_kinds, rI cyI (a 4) 5 g_cells, rI cyI (a 5) 5 g_foods] sz)) (va_Qv (fun (_ : Unit) => True) (fun _ t => va_P D vwCl [oX1 a g_month R0.1 g_founds g_notes R0.2.1, rI cyI (a 3) 5 R0.2.2.1, rI cyI (a 4) 5 R0.2.2.2.1, rI cyI (a 5) 5 R0.2.2.2.2] t.heap ∧ va_D (va_A [oX1 a g_month g_floes g_founds g_notes g_undos, rI cyI (a 3) 5 g_kinds, rI cyI (a 4) 5 g_cells, rI cyI (a 5) 5 g_foods] sz) [oX1 a g_month R0.1 g_founds g_notes R0.2.1, rI cyI (a 3) 5 R0.2.2.1, rI cyI (a 4) 5 R0.2.2.2.1, rI cyI (a 5) 5 R0.2.2.2.2]) (va_A [oX1 a g_month g_floes g_founds g_notes g_undos, rI cyI (a 3) 5 g_kinds, rI cyI (a 4) 5 g_cells, rI cyI (a 5) 5 g_foods] sz)) 0 0 (va_A [oX1 a g_month g_floes g_founds g_notes g_undos, rI cyI (a 3) 5 g_kinds, rI cyI (a 4) 5 g_cells, rI cyI (a 5) 5 g_foods] sz) := by
  refine Met.ofW (cc := cX1_addFloe) (maxL := 4) (ret := none) (by decide) rfl ?_
  intro p e s m args below meth c s₁ B hml hv
  obtain ⟨rfl, hsz, hP, hKK, hD0⟩ := hv
  have hx := B.exec
  have hb := B.bytes
  have hr := B.returns
  have hts := atoms_spec (ws := wsX1_addFloe) B.pre
  have hown : s.vm.findClass RX1 = some m.cls := findClass_of_methodNamed B.named
  have hlocks := B.notSynchronized
  have hK := hKK.1
  have inX1 : ∀ w ∈ wsX10, w ∈ wsX1_addFloe := (fun _ h => List.mem_cons_of_mem _ (List.mem_append_right _ h))
  subst hsz
  have hD := hD0.self (sz := s.heap.size)
  generalize hAe : va_A [oX1 a g_month g_floes g_founds g_notes g_undos, rI cyI (a 3) 5 g_kinds, rI cyI (a 4) 5 g_cells, rI cyI (a 5) 5 g_foods] s.heap.size = A at hD ⊢
  have hA : ∀ q : Nat, s.heap.size ≤ q → A q := fun q h => by rw [← hAe]; exact Or.inr h
  have hS : va_S A s.heap s.heap [] := va_S.rf
  have hP : va_P D vwCl [oX1 a g_month g_floes g_founds g_notes g_undos, rI cyI (a 3) 5 g_kinds, rI cyI (a 4) 5 g_cells, rI cyI (a 5) 5 g_foods] s.heap := hP
  have hl := lv_entry [.ref (a 0), .int p1, .int p2, .int p3] (n := 4) (Nat.le_of_ble_eq_true rfl)
  rw [lg_entry_eq]
  generalize (lg_sl [.ref (a 0), .int p1, .int p2, .int p3] ++ List.replicate (4 - (lg_sl [.ref (a 0), .int p1, .int p2, .int p3]).length) Slot.unset).toArray = ls at hl ⊢
  have hl : lv_has ls 4 [(0, .ref (a 0)), (1, .int p1), (2, .int p2), (3, .int p3)] := hl
  unfold T_X1_addFloe at hT
  refine lv_aload_n hx hb dX1_addFloe_0 rfl (lv_at hl 0 rfl) ?_
  refine va_get (D := D) (cl := vwCl) (ci := 0) (v := .ref (a 3)) (C := RX1) (T := TX1) (N := 13) hx hb hts inX1 hown hK hP 0 rfl rfl 4 (by decide) (hts (Cond.fieldLink RX1 18 "FrozenIn$Sea" "kinds" "[I") (List.mem_of_getElem? (i := 1) rfl)) (fun _ h9 => h9) rfl dX1_addFloe_1 ?_
  refine lv_aload_n hx hb dX1_addFloe_4 rfl (lv_at hl 0 rfl) ?_
  refine va_get (D := D) (cl := vwCl) (ci := 0) (v := .int g_floes) (C := RX1) (T := TX1) (N := 13) hx hb hts inX1 hown hK hP 0 rfl rfl 3 (by decide) (hts (Cond.fieldLink RX1 46 "FrozenIn$Sea" "floes" "I") (List.mem_of_getElem? (i := 2) rfl)) (fun _ h9 => h9) rfl dX1_addFloe_5 ?_
  refine lv_iload_n hx hb dX1_addFloe_8 rfl (lv_at hl 1 rfl) ?_
  obtain ⟨hi2, h1⟩ := ob_e hT
  refine va_iast hx hb hK hP hD hS 1 0 rfl rfl hi2 dX1_addFloe_9 (fun H3 L4 hP hD hS => ?_)
  have hP : va_P D vwCl [oX1 a g_month g_floes g_founds g_notes g_undos, rI cyI (a 3) 5 (upd g_kinds g_floes.toNatClampNeg p1), rI cyI (a 4) 5 g_cells, rI cyI (a 5) 5 g_foods] H3 := hP
  have hD : va_D A [oX1 a g_month g_floes g_founds g_notes g_undos, rI cyI (a 3) 5 (upd g_kinds g_floes.toNatClampNeg p1), rI cyI (a 4) 5 g_cells, rI cyI (a 5) 5 g_foods] := hD
  refine lv_aload_n hx hb dX1_addFloe_10 rfl (lv_at hl 0 rfl) ?_
  refine va_get (D := D) (cl := vwCl) (ci := 0) (v := .ref (a 4)) (C := RX1) (T := TX1) (N := 13) hx hb hts inX1 hown hK hP 0 rfl rfl 5 (by decide) (hts (Cond.fieldLink RX1 21 "FrozenIn$Sea" "cells" "[I") (List.mem_of_getElem? (i := 3) rfl)) (fun _ h9 => h9) rfl dX1_addFloe_11 ?_
  refine lv_aload_n hx hb dX1_addFloe_14 rfl (lv_at hl 0 rfl) ?_
  refine va_get (D := D) (cl := vwCl) (ci := 0) (v := .int g_floes) (C := RX1) (T := TX1) (N := 13) hx hb hts inX1 hown hK hP 0 rfl rfl 3 (by decide) (hts (Cond.fieldLink RX1 46 "FrozenIn$Sea" "floes" "I") (List.mem_of_getElem? (i := 2) rfl)) (fun _ h9 => h9) rfl dX1_addFloe_15 ?_
  refine lv_iload_n hx hb dX1_addFloe_18 rfl (lv_at hl 2 rfl) ?_
  obtain ⟨hi6, h5⟩ := ob_e h1
  refine va_iast hx hb hK hP hD hS 2 0 rfl rfl hi6 dX1_addFloe_19 (fun H7 L8 hP hD hS => ?_)
  have hP : va_P D vwCl [oX1 a g_month g_floes g_founds g_notes g_undos, rI cyI (a 3) 5 (upd g_kinds g_floes.toNatClampNeg p1), rI cyI (a 4) 5 (upd g_cells g_floes.toNatClampNeg p2), rI cyI (a 5) 5 g_foods] H7 := hP
  have hD : va_D A [oX1 a g_month g_floes g_founds g_notes g_undos, rI cyI (a 3) 5 (upd g_kinds g_floes.toNatClampNeg p1), rI cyI (a 4) 5 (upd g_cells g_floes.toNatClampNeg p2), rI cyI (a 5) 5 g_foods] := hD
  refine lv_aload_n hx hb dX1_addFloe_20 rfl (lv_at hl 0 rfl) ?_
  refine va_get (D := D) (cl := vwCl) (ci := 0) (v := .ref (a 5)) (C := RX1) (T := TX1) (N := 13) hx hb hts inX1 hown hK hP 0 rfl rfl 6 (by decide) (hts (Cond.fieldLink RX1 24 "FrozenIn$Sea" "foods" "[I") (List.mem_of_getElem? (i := 4) rfl)) (fun _ h9 => h9) rfl dX1_addFloe_21 ?_
  refine lv_aload_n hx hb dX1_addFloe_24 rfl (lv_at hl 0 rfl) ?_
  refine va_get (D := D) (cl := vwCl) (ci := 0) (v := .int g_floes) (C := RX1) (T := TX1) (N := 13) hx hb hts inX1 hown hK hP 0 rfl rfl 3 (by decide) (hts (Cond.fieldLink RX1 46 "FrozenIn$Sea" "floes" "I") (List.mem_of_getElem? (i := 2) rfl)) (fun _ h9 => h9) rfl dX1_addFloe_25 ?_
  refine lv_iload_n hx hb dX1_addFloe_28 rfl (lv_at hl 3 rfl) ?_
  obtain ⟨hi10, h9⟩ := ob_e h5
  refine va_iast hx hb hK hP hD hS 3 0 rfl rfl hi10 dX1_addFloe_29 (fun H11 L12 hP hD hS => ?_)
  have hP : va_P D vwCl [oX1 a g_month g_floes g_founds g_notes g_undos, rI cyI (a 3) 5 (upd g_kinds g_floes.toNatClampNeg p1), rI cyI (a 4) 5 (upd g_cells g_floes.toNatClampNeg p2), rI cyI (a 5) 5 (upd g_foods g_floes.toNatClampNeg p3)] H11 := hP
  have hD : va_D A [oX1 a g_month g_floes g_founds g_notes g_undos, rI cyI (a 3) 5 (upd g_kinds g_floes.toNatClampNeg p1), rI cyI (a 4) 5 (upd g_cells g_floes.toNatClampNeg p2), rI cyI (a 5) 5 (upd g_foods g_floes.toNatClampNeg p3)] := hD
  refine lv_aload_n hx hb dX1_addFloe_30 rfl (lv_at hl 0 rfl) ?_
  refine lv_dup hx hb dX1_addFloe_31 rfl ?_
  refine va_get (D := D) (cl := vwCl) (ci := 0) (v := .int g_floes) (C := RX1) (T := TX1) (N := 13) hx hb hts inX1 hown hK hP 0 rfl rfl 3 (by decide) (hts (Cond.fieldLink RX1 46 "FrozenIn$Sea" "floes" "I") (List.mem_of_getElem? (i := 2) rfl)) (fun _ h9 => h9) rfl dX1_addFloe_32 ?_
  refine lv_iconst (v := 1) hx hb dX1_addFloe_35 (by decide) ?_
  refine lv_iadd hx hb dX1_addFloe_36 ?_
  refine va_put (D := D) (cl := vwCl) (ci := 0) (v := .int (g_floes + 1)) (ty := .int) (C := RX1) (T := TX1) (N := 13) hx hb hts inX1 tyX1 tyX1_ok nmX1 hown hK hP hD hS 0 rfl rfl 3 (by decide) (hts (Cond.fieldLink RX1 46 "FrozenIn$Sea" "floes" "I") (List.mem_of_getElem? (i := 2) rfl)) (fun _ h9 => h9) rfl (by decide +kernel) rfl rfl (Nat.le_of_ble_eq_true rfl) dX1_addFloe_37 (fun H13 L14 hP hD hS => ?_)
  have hP : va_P D vwCl [oX1 a g_month (g_floes + 1) g_founds g_notes g_undos, rI cyI (a 3) 5 (upd g_kinds g_floes.toNatClampNeg p1), rI cyI (a 4) 5 (upd g_cells g_floes.toNatClampNeg p2), rI cyI (a 5) 5 (upd g_foods g_floes.toNatClampNeg p3)] H13 := hP
  have hD : va_D A [oX1 a g_month (g_floes + 1) g_founds g_notes g_undos, rI cyI (a 3) 5 (upd g_kinds g_floes.toNatClampNeg p1), rI cyI (a 4) 5 (upd g_cells g_floes.toNatClampNeg p2), rI cyI (a 5) 5 (upd g_foods g_floes.toNatClampNeg p3)] := hD
  refine lv_aload_n hx hb dX1_addFloe_40 rfl (lv_at hl 0 rfl) ?_
  refine lv_iconst (v := 0) hx hb dX1_addFloe_41 (by decide) ?_
  refine va_put (D := D) (cl := vwCl) (ci := 0) (v := .int 0) (ty := .int) (C := RX1) (T := TX1) (N := 13) hx hb hts inX1 tyX1 tyX1_ok nmX1 hown hK hP hD hS 0 rfl rfl 11 (by decide) (hts (Cond.fieldLink RX1 55 "FrozenIn$Sea" "undos" "I") (List.mem_of_getElem? (i := 5) rfl)) (fun _ h9 => h9) rfl (by decide +kernel) rfl rfl (Nat.le_of_ble_eq_true rfl) dX1_addFloe_42 (fun H15 L16 hP hD hS => ?_)
  have hP : va_P D vwCl [oX1 a g_month (g_floes + 1) g_founds g_notes 0, rI cyI (a 3) 5 (upd g_kinds g_floes.toNatClampNeg p1), rI cyI (a 4) 5 (upd g_cells g_floes.toNatClampNeg p2), rI cyI (a 5) 5 (upd g_foods g_floes.toNatClampNeg p3)] H15 := hP
  have hD : va_D A [oX1 a g_month (g_floes + 1) g_founds g_notes 0, rI cyI (a 3) 5 (upd g_kinds g_floes.toNatClampNeg p1), rI cyI (a 4) 5 (upd g_cells g_floes.toNatClampNeg p2), rI cyI (a 5) 5 (upd g_foods g_floes.toNatClampNeg p3)] := hD
  rw [← Option.some.inj h9]
  exact W.vret hx hb hr (fun t ht hW => ⟨⟨(), rfl, trivial, ⟨by rw [ht]; exact hP, hD⟩⟩, hS.F ht⟩) hS.2.2 dX1_addFloe_45
def T_X1_addFound (N : Nat) (g_founds : Int32) (g_foundRows : Nat → Int32) (p1 : Int32) (p2 : Int32) (p3 : Int32) : Option (Int32 × (Nat → Int32)) :=
  (lt' (3 * g_founds) fun x1 => (ob x1 12 (ob (x1 + 1) 12 (ob (x1 + 2) 12 (some (g_founds + 1, upd (upd (upd g_foundRows x1.toNatClampNeg p1) (x1 + 1).toNatClampNeg p2) (x1 + 2).toNatClampNeg p3))))))
abbrev rm_X1_addFound : Room := { frames := 0, cells := 0, slots := 0, locals := 0 }
set_option maxHeartbeats 4000000 in
set_option maxRecDepth 100000 in
theorem c_X1_addFound (l : Launch) (D : va_G) (cyI cyJ cyS : ClassId) (N : Nat) (a : Nat → Nat) (g_month : Int32) (g_floes : Int32) (g_founds : Int32) (g_notes : Int32) (g_undos : Int32) (g_foundRows : Nat → Int32) (p1 : Int32) (p2 : Int32) (p3 : Int32) (sz : Nat) (R0 : Int32 × (Nat → Int32)) (hT : T_X1_addFound N g_founds g_foundRows p1 p2 p3 = some R0) : Met l yX1_addFound wsX1_addFound rm_X1_addFound (va_Pc [.ref (a 0), .int p1, .int p2, .int p3] (preW D (tyS cyI cyJ cyS) [oX1 a g_month g_floes g_founds g_notes g_undos, rI cyI (a 6) 12 g_foundRows] sz)) (va_Qv (fun (_ : Unit) => True) (fun _ t => va_P D vwCl [oX1 a g_month g_floes R0.1 g_notes g_undos, rI cyI (a 6) 12 R0.2] t.heap ∧ va_D (va_A [oX1 a g_month g_floes g_founds g_notes g_undos, rI cyI (a 6) 12 g_foundRows] sz) [oX1 a g_month g_floes R0.1 g_notes g_undos, rI cyI (a 6) 12 R0.2]) (va_A [oX1 a g_month g_floes g_founds g_notes g_undos, rI cyI (a 6) 12 g_foundRows] sz)) 0 0 (va_A [oX1 a g_month g_floes g_founds g_notes g_undos, rI cyI (a 6) 12 g_foundRows] sz) := by
  refine Met.ofW (cc := cX1_addFound) (maxL := 5) (ret := none) (by decide) rfl ?_
  intro p e s m args below meth c s₁ B hml hv
  obtain ⟨rfl, hsz, hP, hKK, hD0⟩ := hv
  have hx := B.exec
  have hb := B.bytes
  have hr := B.returns
  have hts := atoms_spec (ws := wsX1_addFound) B.pre
  have hown : s.vm.findClass RX1 = some m.cls := findClass_of_methodNamed B.named
  have hlocks := B.notSynchronized
  have hK := hKK.1
  have inX1 : ∀ w ∈ wsX10, w ∈ wsX1_addFound := (fun _ h => List.mem_cons_of_mem _ (List.mem_append_right _ h))
  subst hsz
  have hD := hD0.self (sz := s.heap.size)
  generalize hAe : va_A [oX1 a g_month g_floes g_founds g_notes g_undos, rI cyI (a 6) 12 g_foundRows] s.heap.size = A at hD ⊢
  have hA : ∀ q : Nat, s.heap.size ≤ q → A q := fun q h => by rw [← hAe]; exact Or.inr h
  have hS : va_S A s.heap s.heap [] := va_S.rf
  have hP : va_P D vwCl [oX1 a g_month g_floes g_founds g_notes g_undos, rI cyI (a 6) 12 g_foundRows] s.heap := hP
  have hl := lv_entry [.ref (a 0), .int p1, .int p2, .int p3] (n := 5) (Nat.le_of_ble_eq_true rfl)
  rw [lg_entry_eq]
  generalize (lg_sl [.ref (a 0), .int p1, .int p2, .int p3] ++ List.replicate (5 - (lg_sl [.ref (a 0), .int p1, .int p2, .int p3]).length) Slot.unset).toArray = ls at hl ⊢
  have hl : lv_has ls 5 [(0, .ref (a 0)), (1, .int p1), (2, .int p2), (3, .int p3)] := hl
  unfold T_X1_addFound at hT
  refine lv_iconst (v := 3) hx hb dX1_addFound_0 (by decide) ?_
  refine lv_aload_n hx hb dX1_addFound_1 rfl (lv_at hl 0 rfl) ?_
  refine va_get (D := D) (cl := vwCl) (ci := 0) (v := .int g_founds) (C := RX1) (T := TX1) (N := 13) hx hb hts inX1 hown hK hP 0 rfl rfl 7 (by decide) (hts (Cond.fieldLink RX1 49 "FrozenIn$Sea" "founds" "I") (List.mem_of_getElem? (i := 1) rfl)) (fun _ h9 => h9) rfl dX1_addFound_2 ?_
  refine lv_imul hx hb dX1_addFound_5 ?_
  obtain ⟨x1, ex1, h2⟩ := lt_e hT
  refine lv_nm ex1 ?_
  refine lv_istore (lv' := [(4, .int x1), (0, .ref (a 0)), (1, .int p1), (2, .int p2), (3, .int p3)]) hx hb dX1_addFound_6 hl (by decide) rfl (fun ls hl => ?_)
  refine lv_aload_n hx hb dX1_addFound_8 rfl (lv_at hl 1 rfl) ?_
  refine va_get (D := D) (cl := vwCl) (ci := 0) (v := .ref (a 6)) (C := RX1) (T := TX1) (N := 13) hx hb hts inX1 hown hK hP 0 rfl rfl 8 (by decide) (hts (Cond.fieldLink RX1 27 "FrozenIn$Sea" "foundRows" "[I") (List.mem_of_getElem? (i := 2) rfl)) (fun _ h9 => h9) rfl dX1_addFound_9 ?_
  refine lv_iload hx hb dX1_addFound_12 (lv_at hl 0 rfl) ?_
  refine lv_iload_n hx hb dX1_addFound_14 rfl (lv_at hl 2 rfl) ?_
  obtain ⟨hi4, h3⟩ := ob_e h2
  refine va_iast hx hb hK hP hD hS 1 0 rfl rfl hi4 dX1_addFound_15 (fun H5 L6 hP hD hS => ?_)
  have hP : va_P D vwCl [oX1 a g_month g_floes g_founds g_notes g_undos, rI cyI (a 6) 12 (upd g_foundRows x1.toNatClampNeg p1)] H5 := hP
  have hD : va_D A [oX1 a g_month g_floes g_founds g_notes g_undos, rI cyI (a 6) 12 (upd g_foundRows x1.toNatClampNeg p1)] := hD
  refine lv_aload_n hx hb dX1_addFound_16 rfl (lv_at hl 1 rfl) ?_
  refine va_get (D := D) (cl := vwCl) (ci := 0) (v := .ref (a 6)) (C := RX1) (T := TX1) (N := 13) hx hb hts inX1 hown hK hP 0 rfl rfl 8 (by decide) (hts (Cond.fieldLink RX1 27 "FrozenIn$Sea" "foundRows" "[I") (List.mem_of_getElem? (i := 2) rfl)) (fun _ h9 => h9) rfl dX1_addFound_17 ?_
  refine lv_iload hx hb dX1_addFound_20 (lv_at hl 0 rfl) ?_
  refine lv_iconst (v := 1) hx hb dX1_addFound_22 (by decide) ?_
  refine lv_iadd hx hb dX1_addFound_23 ?_
  refine lv_iload_n hx hb dX1_addFound_24 rfl (lv_at hl 3 rfl) ?_
  obtain ⟨hi8, h7⟩ := ob_e h3
  refine va_iast hx hb hK hP hD hS 1 0 rfl rfl hi8 dX1_addFound_25 (fun H9 L10 hP hD hS => ?_)
  have hP : va_P D vwCl [oX1 a g_month g_floes g_founds g_notes g_undos, rI cyI (a 6) 12 (upd (upd g_foundRows x1.toNatClampNeg p1) (x1 + 1).toNatClampNeg p2)] H9 := hP
  have hD : va_D A [oX1 a g_month g_floes g_founds g_notes g_undos, rI cyI (a 6) 12 (upd (upd g_foundRows x1.toNatClampNeg p1) (x1 + 1).toNatClampNeg p2)] := hD
  refine lv_aload_n hx hb dX1_addFound_26 rfl (lv_at hl 1 rfl) ?_
  refine va_get (D := D) (cl := vwCl) (ci := 0) (v := .ref (a 6)) (C := RX1) (T := TX1) (N := 13) hx hb hts inX1 hown hK hP 0 rfl rfl 8 (by decide) (hts (Cond.fieldLink RX1 27 "FrozenIn$Sea" "foundRows" "[I") (List.mem_of_getElem? (i := 2) rfl)) (fun _ h9 => h9) rfl dX1_addFound_27 ?_
  refine lv_iload hx hb dX1_addFound_30 (lv_at hl 0 rfl) ?_
  refine lv_iconst (v := 2) hx hb dX1_addFound_32 (by decide) ?_
  refine lv_iadd hx hb dX1_addFound_33 ?_
  refine lv_iload_n hx hb dX1_addFound_34 rfl (lv_at hl 4 rfl) ?_
  obtain ⟨hi12, h11⟩ := ob_e h7
  refine va_iast hx hb hK hP hD hS 1 0 rfl rfl hi12 dX1_addFound_35 (fun H13 L14 hP hD hS => ?_)
  have hP : va_P D vwCl [oX1 a g_month g_floes g_founds g_notes g_undos, rI cyI (a 6) 12 (upd (upd (upd g_foundRows x1.toNatClampNeg p1) (x1 + 1).toNatClampNeg p2) (x1 + 2).toNatClampNeg p3)] H13 := hP
  have hD : va_D A [oX1 a g_month g_floes g_founds g_notes g_undos, rI cyI (a 6) 12 (upd (upd (upd g_foundRows x1.toNatClampNeg p1) (x1 + 1).toNatClampNeg p2) (x1 + 2).toNatClampNeg p3)] := hD
  refine lv_aload_n hx hb dX1_addFound_36 rfl (lv_at hl 1 rfl) ?_
  refine lv_dup hx hb dX1_addFound_37 rfl ?_
  refine va_get (D := D) (cl := vwCl) (ci := 0) (v := .int g_founds) (C := RX1) (T := TX1) (N := 13) hx hb hts inX1 hown hK hP 0 rfl rfl 7 (by decide) (hts (Cond.fieldLink RX1 49 "FrozenIn$Sea" "founds" "I") (List.mem_of_getElem? (i := 1) rfl)) (fun _ h9 => h9) rfl dX1_addFound_38 ?_
  refine lv_iconst (v := 1) hx hb dX1_addFound_41 (by decide) ?_
  refine lv_iadd hx hb dX1_addFound_42 ?_
  refine va_put (D := D) (cl := vwCl) (ci := 0) (v := .int (g_founds + 1)) (ty := .int) (C := RX1) (T := TX1) (N := 13) hx hb hts inX1 tyX1 tyX1_ok nmX1 hown hK hP hD hS 0 rfl rfl 7 (by decide) (hts (Cond.fieldLink RX1 49 "FrozenIn$Sea" "founds" "I") (List.mem_of_getElem? (i := 1) rfl)) (fun _ h9 => h9) rfl (by decide +kernel) rfl rfl (Nat.le_of_ble_eq_true rfl) dX1_addFound_43 (fun H15 L16 hP hD hS => ?_)
  have hP : va_P D vwCl [oX1 a g_month g_floes (g_founds + 1) g_notes g_undos, rI cyI (a 6) 12 (upd (upd (upd g_foundRows x1.toNatClampNeg p1) (x1 + 1).toNatClampNeg p2) (x1 + 2).toNatClampNeg p3)] H15 := hP
  have hD : va_D A [oX1 a g_month g_floes (g_founds + 1) g_notes g_undos, rI cyI (a 6) 12 (upd (upd (upd g_foundRows x1.toNatClampNeg p1) (x1 + 1).toNatClampNeg p2) (x1 + 2).toNatClampNeg p3)] := hD
  rw [← Option.some.inj h11]
  exact W.vret hx hb hr (fun t ht hW => ⟨⟨(), rfl, trivial, ⟨by rw [ht]; exact hP, hD⟩⟩, hS.F ht⟩) hS.2.2 dX1_addFound_46
def T_X1_addNote (N : Nat) (g_notes : Int32) (g_noteRows : Nat → Int32) (p1 : Int32) (p2 : Int32) (p3 : Int32) (p4 : Int32) (p5 : Int32) (p6 : Int32) (p7 : Int32) : Option (Int32 × (Nat → Int32)) :=
  (lt' (7 * g_notes) fun x1 => (ob x1 42 (ob (x1 + 1) 42 (ob (x1 + 2) 42 (ob (x1 + 3) 42 (ob (x1 + 4) 42 (ob (x1 + 5) 42 (ob (x1 + 6) 42 (some (g_notes + 1, upd (upd (upd (upd (upd (upd (upd g_noteRows x1.toNatClampNeg p1) (x1 + 1).toNatClampNeg p2) (x1 + 2).toNatClampNeg p3) (x1 + 3).toNatClampNeg p4) (x1 + 4).toNatClampNeg p5) (x1 + 5).toNatClampNeg p6) (x1 + 6).toNatClampNeg p7))))))))))
abbrev rm_X1_addNote : Room := { frames := 0, cells := 0, slots := 0, locals := 0 }
set_option maxHeartbeats 4000000 in
set_option maxRecDepth 100000 in
theorem c_X1_addNote (l : Launch) (D : va_G) (cyI cyJ cyS : ClassId) (N : Nat) (a : Nat → Nat) (g_month : Int32) (g_floes : Int32) (g_founds : Int32) (g_notes : Int32) (g_undos : Int32) (g_noteRows : Nat → Int32) (p1 : Int32) (p2 : Int32) (p3 : Int32) (p4 : Int32) (p5 : Int32) (p6 : Int32) (p7 : Int32) (sz : Nat) (R0 : Int32 × (Nat → Int32)) (hT : T_X1_addNote N g_notes g_noteRows p1 p2 p3 p4 p5 p6 p7 = some R0) : Met l yX1_addNote wsX1_addNote rm_X1_addNote (va_Pc [.ref (a 0), .int p1, .int p2, .int p3, .int p4, .int p5, .int p6, .int p7] (preW D (tyS cyI cyJ cyS) [oX1 a g_month g_floes g_founds g_notes g_undos, rI cyI (a 7) 42 g_noteRows] sz)) (va_Qv (fun (_ : Unit) => True) (fun _ t => va_P D vwCl [oX1 a g_month g_floes g_founds R0.1 g_undos, rI cyI (a 7) 42 R0.2] t.heap ∧ va_D (va_A [oX1 a g_month g_floes g_founds g_notes g_undos, rI cyI (a 7) 42 g_noteRows] sz) [oX1 a g_month g_floes g_founds R0.1 g_undos, rI cyI (a 7) 42 R0.2]) (va_A [oX1 a g_month g_floes g_founds g_notes g_undos, rI cyI (a 7) 42 g_noteRows] sz)) 0 0 (va_A [oX1 a g_month g_floes g_founds g_notes g_undos, rI cyI (a 7) 42 g_noteRows] sz) := by
  refine Met.ofW (cc := cX1_addNote) (maxL := 9) (ret := none) (by decide) rfl ?_
  intro p e s m args below meth c s₁ B hml hv
  obtain ⟨rfl, hsz, hP, hKK, hD0⟩ := hv
  have hx := B.exec
  have hb := B.bytes
  have hr := B.returns
  have hts := atoms_spec (ws := wsX1_addNote) B.pre
  have hown : s.vm.findClass RX1 = some m.cls := findClass_of_methodNamed B.named
  have hlocks := B.notSynchronized
  have hK := hKK.1
  have inX1 : ∀ w ∈ wsX10, w ∈ wsX1_addNote := (fun _ h => List.mem_cons_of_mem _ (List.mem_append_right _ h))
  subst hsz
  have hD := hD0.self (sz := s.heap.size)
  generalize hAe : va_A [oX1 a g_month g_floes g_founds g_notes g_undos, rI cyI (a 7) 42 g_noteRows] s.heap.size = A at hD ⊢
  have hA : ∀ q : Nat, s.heap.size ≤ q → A q := fun q h => by rw [← hAe]; exact Or.inr h
  have hS : va_S A s.heap s.heap [] := va_S.rf
  have hP : va_P D vwCl [oX1 a g_month g_floes g_founds g_notes g_undos, rI cyI (a 7) 42 g_noteRows] s.heap := hP
  have hl := lv_entry [.ref (a 0), .int p1, .int p2, .int p3, .int p4, .int p5, .int p6, .int p7] (n := 9) (Nat.le_of_ble_eq_true rfl)
  rw [lg_entry_eq]
  generalize (lg_sl [.ref (a 0), .int p1, .int p2, .int p3, .int p4, .int p5, .int p6, .int p7] ++ List.replicate (9 - (lg_sl [.ref (a 0), .int p1, .int p2, .int p3, .int p4, .int p5, .int p6, .int p7]).length) Slot.unset).toArray = ls at hl ⊢
  have hl : lv_has ls 9 [(0, .ref (a 0)), (1, .int p1), (2, .int p2), (3, .int p3), (4, .int p4), (5, .int p5), (6, .int p6), (7, .int p7)] := hl
  unfold T_X1_addNote at hT
  refine lv_bipush (v := 7) hx hb dX1_addNote_0 (by decide) ?_
  refine lv_aload_n hx hb dX1_addNote_2 rfl (lv_at hl 0 rfl) ?_
  refine va_get (D := D) (cl := vwCl) (ci := 0) (v := .int g_notes) (C := RX1) (T := TX1) (N := 13) hx hb hts inX1 hown hK hP 0 rfl rfl 9 (by decide) (hts (Cond.fieldLink RX1 52 "FrozenIn$Sea" "notes" "I") (List.mem_of_getElem? (i := 1) rfl)) (fun _ h9 => h9) rfl dX1_addNote_3 ?_
  refine lv_imul hx hb dX1_addNote_6 ?_
  obtain ⟨x1, ex1, h2⟩ := lt_e hT
  refine lv_nm ex1 ?_
  refine lv_istore (lv' := [(8, .int x1), (0, .ref (a 0)), (1, .int p1), (2, .int p2), (3, .int p3), (4, .int p4), (5, .int p5), (6, .int p6), (7, .int p7)]) hx hb dX1_addNote_7 hl (by decide) rfl (fun ls hl => ?_)
  refine lv_aload_n hx hb dX1_addNote_9 rfl (lv_at hl 1 rfl) ?_
  refine va_get (D := D) (cl := vwCl) (ci := 0) (v := .ref (a 7)) (C := RX1) (T := TX1) (N := 13) hx hb hts inX1 hown hK hP 0 rfl rfl 10 (by decide) (hts (Cond.fieldLink RX1 30 "FrozenIn$Sea" "noteRows" "[I") (List.mem_of_getElem? (i := 2) rfl)) (fun _ h9 => h9) rfl dX1_addNote_10 ?_
  refine lv_iload hx hb dX1_addNote_13 (lv_at hl 0 rfl) ?_
  refine lv_iload_n hx hb dX1_addNote_15 rfl (lv_at hl 2 rfl) ?_
  obtain ⟨hi4, h3⟩ := ob_e h2
  refine va_iast hx hb hK hP hD hS 1 0 rfl rfl hi4 dX1_addNote_16 (fun H5 L6 hP hD hS => ?_)
  have hP : va_P D vwCl [oX1 a g_month g_floes g_founds g_notes g_undos, rI cyI (a 7) 42 (upd g_noteRows x1.toNatClampNeg p1)] H5 := hP
  have hD : va_D A [oX1 a g_month g_floes g_founds g_notes g_undos, rI cyI (a 7) 42 (upd g_noteRows x1.toNatClampNeg p1)] := hD
  refine lv_aload_n hx hb dX1_addNote_17 rfl (lv_at hl 1 rfl) ?_
  refine va_get (D := D) (cl := vwCl) (ci := 0) (v := .ref (a 7)) (C := RX1) (T := TX1) (N := 13) hx hb hts inX1 hown hK hP 0 rfl rfl 10 (by decide) (hts (Cond.fieldLink RX1 30 "FrozenIn$Sea" "noteRows" "[I") (List.mem_of_getElem? (i := 2) rfl)) (fun _ h9 => h9) rfl dX1_addNote_18 ?_
  refine lv_iload hx hb dX1_addNote_21 (lv_at hl 0 rfl) ?_
  refine lv_iconst (v := 1) hx hb dX1_addNote_23 (by decide) ?_
  refine lv_iadd hx hb dX1_addNote_24 ?_
  refine lv_iload_n hx hb dX1_addNote_25 rfl (lv_at hl 3 rfl) ?_
  obtain ⟨hi8, h7⟩ := ob_e h3
  refine va_iast hx hb hK hP hD hS 1 0 rfl rfl hi8 dX1_addNote_26 (fun H9 L10 hP hD hS => ?_)
  have hP : va_P D vwCl [oX1 a g_month g_floes g_founds g_notes g_undos, rI cyI (a 7) 42 (upd (upd g_noteRows x1.toNatClampNeg p1) (x1 + 1).toNatClampNeg p2)] H9 := hP
  have hD : va_D A [oX1 a g_month g_floes g_founds g_notes g_undos, rI cyI (a 7) 42 (upd (upd g_noteRows x1.toNatClampNeg p1) (x1 + 1).toNatClampNeg p2)] := hD
  refine lv_aload_n hx hb dX1_addNote_27 rfl (lv_at hl 1 rfl) ?_
  refine va_get (D := D) (cl := vwCl) (ci := 0) (v := .ref (a 7)) (C := RX1) (T := TX1) (N := 13) hx hb hts inX1 hown hK hP 0 rfl rfl 10 (by decide) (hts (Cond.fieldLink RX1 30 "FrozenIn$Sea" "noteRows" "[I") (List.mem_of_getElem? (i := 2) rfl)) (fun _ h9 => h9) rfl dX1_addNote_28 ?_
  refine lv_iload hx hb dX1_addNote_31 (lv_at hl 0 rfl) ?_
  refine lv_iconst (v := 2) hx hb dX1_addNote_33 (by decide) ?_
  refine lv_iadd hx hb dX1_addNote_34 ?_
  refine lv_iload_n hx hb dX1_addNote_35 rfl (lv_at hl 4 rfl) ?_
  obtain ⟨hi12, h11⟩ := ob_e h7
  refine va_iast hx hb hK hP hD hS 1 0 rfl rfl hi12 dX1_addNote_36 (fun H13 L14 hP hD hS => ?_)
  have hP : va_P D vwCl [oX1 a g_month g_floes g_founds g_notes g_undos, rI cyI (a 7) 42 (upd (upd (upd g_noteRows x1.toNatClampNeg p1) (x1 + 1).toNatClampNeg p2) (x1 + 2).toNatClampNeg p3)] H13 := hP
  have hD : va_D A [oX1 a g_month g_floes g_founds g_notes g_undos, rI cyI (a 7) 42 (upd (upd (upd g_noteRows x1.toNatClampNeg p1) (x1 + 1).toNatClampNeg p2) (x1 + 2).toNatClampNeg p3)] := hD
  refine lv_aload_n hx hb dX1_addNote_37 rfl (lv_at hl 1 rfl) ?_
  refine va_get (D := D) (cl := vwCl) (ci := 0) (v := .ref (a 7)) (C := RX1) (T := TX1) (N := 13) hx hb hts inX1 hown hK hP 0 rfl rfl 10 (by decide) (hts (Cond.fieldLink RX1 30 "FrozenIn$Sea" "noteRows" "[I") (List.mem_of_getElem? (i := 2) rfl)) (fun _ h9 => h9) rfl dX1_addNote_38 ?_
  refine lv_iload hx hb dX1_addNote_41 (lv_at hl 0 rfl) ?_
  refine lv_iconst (v := 3) hx hb dX1_addNote_43 (by decide) ?_
  refine lv_iadd hx hb dX1_addNote_44 ?_
  refine lv_iload hx hb dX1_addNote_45 (lv_at hl 5 rfl) ?_
  obtain ⟨hi16, h15⟩ := ob_e h11
  refine va_iast hx hb hK hP hD hS 1 0 rfl rfl hi16 dX1_addNote_47 (fun H17 L18 hP hD hS => ?_)
  have hP : va_P D vwCl [oX1 a g_month g_floes g_founds g_notes g_undos, rI cyI (a 7) 42 (upd (upd (upd (upd g_noteRows x1.toNatClampNeg p1) (x1 + 1).toNatClampNeg p2) (x1 + 2).toNatClampNeg p3) (x1 + 3).toNatClampNeg p4)] H17 := hP
  have hD : va_D A [oX1 a g_month g_floes g_founds g_notes g_undos, rI cyI (a 7) 42 (upd (upd (upd (upd g_noteRows x1.toNatClampNeg p1) (x1 + 1).toNatClampNeg p2) (x1 + 2).toNatClampNeg p3) (x1 + 3).toNatClampNeg p4)] := hD
  refine lv_aload_n hx hb dX1_addNote_48 rfl (lv_at hl 1 rfl) ?_
  refine va_get (D := D) (cl := vwCl) (ci := 0) (v := .ref (a 7)) (C := RX1) (T := TX1) (N := 13) hx hb hts inX1 hown hK hP 0 rfl rfl 10 (by decide) (hts (Cond.fieldLink RX1 30 "FrozenIn$Sea" "noteRows" "[I") (List.mem_of_getElem? (i := 2) rfl)) (fun _ h9 => h9) rfl dX1_addNote_49 ?_
  refine lv_iload hx hb dX1_addNote_52 (lv_at hl 0 rfl) ?_
  refine lv_iconst (v := 4) hx hb dX1_addNote_54 (by decide) ?_
  refine lv_iadd hx hb dX1_addNote_55 ?_
  refine lv_iload hx hb dX1_addNote_56 (lv_at hl 6 rfl) ?_
  obtain ⟨hi20, h19⟩ := ob_e h15
  refine va_iast hx hb hK hP hD hS 1 0 rfl rfl hi20 dX1_addNote_58 (fun H21 L22 hP hD hS => ?_)
  have hP : va_P D vwCl [oX1 a g_month g_floes g_founds g_notes g_undos, rI cyI (a 7) 42 (upd (upd (upd (upd (upd g_noteRows x1.toNatClampNeg p1) (x1 + 1).toNatClampNeg p2) (x1 + 2).toNatClampNeg p3) (x1 + 3).toNatClampNeg p4) (x1 + 4).toNatClampNeg p5)] H21 := hP
  have hD : va_D A [oX1 a g_month g_floes g_founds g_notes g_undos, rI cyI (a 7) 42 (upd (upd (upd (upd (upd g_noteRows x1.toNatClampNeg p1) (x1 + 1).toNatClampNeg p2) (x1 + 2).toNatClampNeg p3) (x1 + 3).toNatClampNeg p4) (x1 + 4).toNatClampNeg p5)] := hD
  refine lv_aload_n hx hb dX1_addNote_59 rfl (lv_at hl 1 rfl) ?_
  refine va_get (D := D) (cl := vwCl) (ci := 0) (v := .ref (a 7)) (C := RX1) (T := TX1) (N := 13) hx hb hts inX1 hown hK hP 0 rfl rfl 10 (by decide) (hts (Cond.fieldLink RX1 30 "FrozenIn$Sea" "noteRows" "[I") (List.mem_of_getElem? (i := 2) rfl)) (fun _ h9 => h9) rfl dX1_addNote_60 ?_
  refine lv_iload hx hb dX1_addNote_63 (lv_at hl 0 rfl) ?_
  refine lv_iconst (v := 5) hx hb dX1_addNote_65 (by decide) ?_
  refine lv_iadd hx hb dX1_addNote_66 ?_
  refine lv_iload hx hb dX1_addNote_67 (lv_at hl 7 rfl) ?_
  obtain ⟨hi24, h23⟩ := ob_e h19
  refine va_iast hx hb hK hP hD hS 1 0 rfl rfl hi24 dX1_addNote_69 (fun H25 L26 hP hD hS => ?_)
  have hP : va_P D vwCl [oX1 a g_month g_floes g_founds g_notes g_undos, rI cyI (a 7) 42 (upd (upd (upd (upd (upd (upd g_noteRows x1.toNatClampNeg p1) (x1 + 1).toNatClampNeg p2) (x1 + 2).toNatClampNeg p3) (x1 + 3).toNatClampNeg p4) (x1 + 4).toNatClampNeg p5) (x1 + 5).toNatClampNeg p6)] H25 := hP
  have hD : va_D A [oX1 a g_month g_floes g_founds g_notes g_undos, rI cyI (a 7) 42 (upd (upd (upd (upd (upd (upd g_noteRows x1.toNatClampNeg p1) (x1 + 1).toNatClampNeg p2) (x1 + 2).toNatClampNeg p3) (x1 + 3).toNatClampNeg p4) (x1 + 4).toNatClampNeg p5) (x1 + 5).toNatClampNeg p6)] := hD
  refine lv_aload_n hx hb dX1_addNote_70 rfl (lv_at hl 1 rfl) ?_
  refine va_get (D := D) (cl := vwCl) (ci := 0) (v := .ref (a 7)) (C := RX1) (T := TX1) (N := 13) hx hb hts inX1 hown hK hP 0 rfl rfl 10 (by decide) (hts (Cond.fieldLink RX1 30 "FrozenIn$Sea" "noteRows" "[I") (List.mem_of_getElem? (i := 2) rfl)) (fun _ h9 => h9) rfl dX1_addNote_71 ?_
  refine lv_iload hx hb dX1_addNote_74 (lv_at hl 0 rfl) ?_
  refine lv_bipush (v := 6) hx hb dX1_addNote_76 (by decide) ?_
  refine lv_iadd hx hb dX1_addNote_78 ?_
  refine lv_iload hx hb dX1_addNote_79 (lv_at hl 8 rfl) ?_
  obtain ⟨hi28, h27⟩ := ob_e h23
  refine va_iast hx hb hK hP hD hS 1 0 rfl rfl hi28 dX1_addNote_81 (fun H29 L30 hP hD hS => ?_)
  have hP : va_P D vwCl [oX1 a g_month g_floes g_founds g_notes g_undos, rI cyI (a 7) 42 (upd (upd (upd (upd (upd (upd (upd g_noteRows x1.toNatClampNeg p1) (x1 + 1).toNatClampNeg p2) (x1 + 2).toNatClampNeg p3) (x1 + 3).toNatClampNeg p4) (x1 + 4).toNatClampNeg p5) (x1 + 5).toNatClampNeg p6) (x1 + 6).toNatClampNeg p7)] H29 := hP
  have hD : va_D A [oX1 a g_month g_floes g_founds g_notes g_undos, rI cyI (a 7) 42 (upd (upd (upd (upd (upd (upd (upd g_noteRows x1.toNatClampNeg p1) (x1 + 1).toNatClampNeg p2) (x1 + 2).toNatClampNeg p3) (x1 + 3).toNatClampNeg p4) (x1 + 4).toNatClampNeg p5) (x1 + 5).toNatClampNeg p6) (x1 + 6).toNatClampNeg p7)] := hD
  refine lv_aload_n hx hb dX1_addNote_82 rfl (lv_at hl 1 rfl) ?_
  refine lv_dup hx hb dX1_addNote_83 rfl ?_
  refine va_get (D := D) (cl := vwCl) (ci := 0) (v := .int g_notes) (C := RX1) (T := TX1) (N := 13) hx hb hts inX1 hown hK hP 0 rfl rfl 9 (by decide) (hts (Cond.fieldLink RX1 52 "FrozenIn$Sea" "notes" "I") (List.mem_of_getElem? (i := 1) rfl)) (fun _ h9 => h9) rfl dX1_addNote_84 ?_
  refine lv_iconst (v := 1) hx hb dX1_addNote_87 (by decide) ?_
  refine lv_iadd hx hb dX1_addNote_88 ?_
  refine va_put (D := D) (cl := vwCl) (ci := 0) (v := .int (g_notes + 1)) (ty := .int) (C := RX1) (T := TX1) (N := 13) hx hb hts inX1 tyX1 tyX1_ok nmX1 hown hK hP hD hS 0 rfl rfl 9 (by decide) (hts (Cond.fieldLink RX1 52 "FrozenIn$Sea" "notes" "I") (List.mem_of_getElem? (i := 1) rfl)) (fun _ h9 => h9) rfl (by decide +kernel) rfl rfl (Nat.le_of_ble_eq_true rfl) dX1_addNote_89 (fun H31 L32 hP hD hS => ?_)
  have hP : va_P D vwCl [oX1 a g_month g_floes g_founds (g_notes + 1) g_undos, rI cyI (a 7) 42 (upd (upd (upd (upd (upd (upd (upd g_noteRows x1.toNatClampNeg p1) (x1 + 1).toNatClampNeg p2) (x1 + 2).toNatClampNeg p3) (x1 + 3).toNatClampNeg p4) (x1 + 4).toNatClampNeg p5) (x1 + 5).toNatClampNeg p6) (x1 + 6).toNatClampNeg p7)] H31 := hP
  have hD : va_D A [oX1 a g_month g_floes g_founds (g_notes + 1) g_undos, rI cyI (a 7) 42 (upd (upd (upd (upd (upd (upd (upd g_noteRows x1.toNatClampNeg p1) (x1 + 1).toNatClampNeg p2) (x1 + 2).toNatClampNeg p3) (x1 + 3).toNatClampNeg p4) (x1 + 4).toNatClampNeg p5) (x1 + 5).toNatClampNeg p6) (x1 + 6).toNatClampNeg p7)] := hD
  rw [← Option.some.inj h27]
  exact W.vret hx hb hr (fun t ht hW => ⟨⟨(), rfl, trivial, ⟨by rw [ht]; exact hP, hD⟩⟩, hS.F ht⟩) hS.2.2 dX1_addNote_92
def T_X1_nextCell (N : Nat) (g_ways : Nat → Int32) (g_strengths : Nat → Int32) (p1 : Int32) (p2 : Int32) (p3 : Int32) : Option Int32 :=
  (lt' (p3 - p3 / 12 * 12) fun x1 => (ob x1 12 (ob x1 12 (some (T_X0_cellBy p1 p2 p3 (g_ways x1.toNatClampNeg) (g_strengths x1.toNatClampNeg))))))
abbrev rm_X1_nextCell : Room := { frames := 2, cells := 0, slots := 0, locals := 51 }
set_option maxHeartbeats 4000000 in
set_option maxRecDepth 100000 in
theorem c_X1_nextCell (l : Launch) (D : va_G) (cyI cyJ cyS : ClassId) (N : Nat) (a : Nat → Nat) (g_month : Int32) (g_floes : Int32) (g_founds : Int32) (g_notes : Int32) (g_undos : Int32) (g_ways : Nat → Int32) (g_strengths : Nat → Int32) (p1 : Int32) (p2 : Int32) (p3 : Int32) (R0 : Int32) (hT : T_X1_nextCell N g_ways g_strengths p1 p2 p3 = some R0) : Met l yX1_nextCell wsX1_nextCell rm_X1_nextCell (va_Pc [.ref (a 0), .int p1, .int p2, .int p3] (preR D (tyS cyI cyJ cyS) [oX1 a g_month g_floes g_founds g_notes g_undos, rI cyI (a 1) 12 g_ways, rI cyI (a 2) 12 g_strengths])) (vp_Si (fun r => r = R0)) 0 0 (fun _ => False) := by
  refine Met.ofW (cc := cX1_nextCell) (maxL := 5) (ret := (some .int)) (by decide) rfl ?_
  intro p e s m args below meth c s₁ B hml hv
  obtain ⟨rfl, hP, hKK⟩ := hv
  have hx := B.exec
  have hb := B.bytes
  have hr := B.returns
  have hts := atoms_spec (ws := wsX1_nextCell) B.pre
  have hown : s.vm.findClass RX1 = some m.cls := findClass_of_methodNamed B.named
  have hlocks := B.notSynchronized
  have hK := hKK.1
  have inX1 : ∀ w ∈ wsX10, w ∈ wsX1_nextCell := (fun _ h => List.mem_cons_of_mem _ (List.mem_append_right _ h))
  have hP : va_P D vwCl [oX1 a g_month g_floes g_founds g_notes g_undos, rI cyI (a 1) 12 g_ways, rI cyI (a 2) 12 g_strengths] s.heap := hP
  have hl := lv_entry [.ref (a 0), .int p1, .int p2, .int p3] (n := 5) (Nat.le_of_ble_eq_true rfl)
  rw [lg_entry_eq]
  generalize (lg_sl [.ref (a 0), .int p1, .int p2, .int p3] ++ List.replicate (5 - (lg_sl [.ref (a 0), .int p1, .int p2, .int p3]).length) Slot.unset).toArray = ls at hl ⊢
  have hl : lv_has ls 5 [(0, .ref (a 0)), (1, .int p1), (2, .int p2), (3, .int p3)] := hl
  unfold T_X1_nextCell at hT
  refine lv_iload_n hx hb dX1_nextCell_0 rfl (lv_at hl 3 rfl) ?_
  refine lv_bipush (v := 12) hx hb dX1_nextCell_1 (by decide) ?_
  refine lv_irem hx hb dX1_nextCell_3 (by decide) ?_
  obtain ⟨x1, ex1, h2⟩ := lt_e hT
  refine lv_nm ex1 ?_
  refine lv_istore (lv' := [(4, .int x1), (0, .ref (a 0)), (1, .int p1), (2, .int p2), (3, .int p3)]) hx hb dX1_nextCell_4 hl (by decide) rfl (fun ls hl => ?_)
  refine lv_iload_n hx hb dX1_nextCell_6 rfl (lv_at hl 2 rfl) ?_
  refine lv_iload_n hx hb dX1_nextCell_7 rfl (lv_at hl 3 rfl) ?_
  refine lv_iload_n hx hb dX1_nextCell_8 rfl (lv_at hl 4 rfl) ?_
  refine lv_aload_n hx hb dX1_nextCell_9 rfl (lv_at hl 1 rfl) ?_
  refine va_get (D := D) (cl := vwCl) (ci := 0) (v := .ref (a 1)) (C := RX1) (T := TX1) (N := 13) hx hb hts inX1 hown hK hP 0 rfl rfl 1 (by decide) (hts (Cond.fieldLink RX1 9 "FrozenIn$Sea" "ways" "[I") (List.mem_of_getElem? (i := 1) rfl)) (fun _ h9 => h9) rfl dX1_nextCell_10 ?_
  refine lv_iload hx hb dX1_nextCell_13 (lv_at hl 0 rfl) ?_
  obtain ⟨hi4, h3⟩ := ob_e h2
  refine va_iald hx hb hK hP 1 0 rfl rfl hi4 dX1_nextCell_15 ?_
  refine lv_aload_n hx hb dX1_nextCell_16 rfl (lv_at hl 1 rfl) ?_
  refine va_get (D := D) (cl := vwCl) (ci := 0) (v := .ref (a 2)) (C := RX1) (T := TX1) (N := 13) hx hb hts inX1 hown hK hP 0 rfl rfl 2 (by decide) (hts (Cond.fieldLink RX1 15 "FrozenIn$Sea" "strengths" "[I") (List.mem_of_getElem? (i := 2) rfl)) (fun _ h9 => h9) rfl dX1_nextCell_17 ?_
  refine lv_iload hx hb dX1_nextCell_20 (lv_at hl 0 rfl) ?_
  obtain ⟨hi6, h5⟩ := ob_e h3
  refine va_iald hx hb hK hP 2 0 rfl rfl hi6 dX1_nextCell_22 ?_
  refine kc_I (W.runS (As := [.int p1, .int p2, .int p3, .int (g_ways x1.toNatClampNeg), .int (g_strengths x1.toNatClampNeg)]) (rest := []) ⟨hx, hb, hml, hown, hts⟩ (c_X0_cellBy l p1 p2 p3 (g_ways x1.toNatClampNeg) (g_strengths x1.toNatClampNeg) (T_X0_cellBy p1 p2 p3 (g_ways x1.toNatClampNeg) (g_strengths x1.toNatClampNeg)) rfl) (va_cwS 5 hts gX1_nextCell_X0_cellBy rfl rfl rfl (by decide +kernel) ⟨(Nat.le_of_ble_eq_true rfl), (Nat.le_of_ble_eq_true rfl)⟩) preT_S rfl rfl hl.1 rfl (lv_room (Nat.le_of_ble_eq_true rfl)) dX1_nextCell_23 ⟨Nat.zero_le _, Nat.zero_le _⟩) ?_
  exact W.iret (v := (T_X0_cellBy p1 p2 p3 (g_ways x1.toNatClampNeg) (g_strengths x1.toNatClampNeg))) hx hb hr (fun t ht hW => ⟨(T_X0_cellBy p1 p2 p3 (g_ways x1.toNatClampNeg) (g_strengths x1.toNatClampNeg)), rfl, (Option.some.inj h5), ht⟩) (fun q hq => by cases hq) dX1_nextCell_26
def T_X1_passMonth_L13 (N : Nat) (g_month : Int32) (g_floes : Int32) (g_ways : Nat → Int32) (g_strengths : Nat → Int32) (g_kinds : Nat → Int32) (k71 : (Nat → Int32) → (Nat → Int32) → Option (Int32 × (Nat → Int32) × (Nat → Int32))) : Nat → Int32 → (Nat → Int32) → (Nat → Int32) → Option (Int32 × (Nat → Int32) × (Nat → Int32))
  | 0, _, _, _ => none
  | n + 1, x3, z4, z5 => (if g_floes ≤ x3 then (k71 z4 z5) else (ob x3 5 (ob x3 5 (Option.bind (T_X1_nextCell N g_ways g_strengths (g_kinds x3.toNatClampNeg) (z4 x3.toNatClampNeg) g_month) fun u18 => (ob x3 5 (ob x3 5 (ob x3 5 (lt' (x3 + 1) fun x31 => (T_X1_passMonth_L13 N g_month g_floes g_ways g_strengths g_kinds k71 n x31 (upd z4 x3.toNatClampNeg u18) (upd z5 x3.toNatClampNeg (if 0 < ((z5 x3.toNatClampNeg) - 1) then ((z5 x3.toNatClampNeg) - 1) else 0)))))))))))
theorem T_X1_passMonth_L13_s (N : Nat) (g_month : Int32) (g_floes : Int32) (g_ways : Nat → Int32) (g_strengths : Nat → Int32) (g_kinds : Nat → Int32) (k71 : (Nat → Int32) → (Nat → Int32) → Option (Int32 × (Nat → Int32) × (Nat → Int32))) (n : Nat) (x3 : Int32) (z4 : Nat → Int32) (z5 : Nat → Int32) : T_X1_passMonth_L13 N g_month g_floes g_ways g_strengths g_kinds k71 (n + 1) x3 z4 z5 = (if g_floes ≤ x3 then (k71 z4 z5) else (ob x3 5 (ob x3 5 (Option.bind (T_X1_nextCell N g_ways g_strengths (g_kinds x3.toNatClampNeg) (z4 x3.toNatClampNeg) g_month) fun u18 => (ob x3 5 (ob x3 5 (ob x3 5 (lt' (x3 + 1) fun x31 => (T_X1_passMonth_L13 N g_month g_floes g_ways g_strengths g_kinds k71 n x31 (upd z4 x3.toNatClampNeg u18) (upd z5 x3.toNatClampNeg (if 0 < ((z5 x3.toNatClampNeg) - 1) then ((z5 x3.toNatClampNeg) - 1) else 0))))))))))) := rfl
def T_X1_passMonth (N : Nat) (g_month : Int32) (g_floes : Int32) (g_ways : Nat → Int32) (g_strengths : Nat → Int32) (g_kinds : Nat → Int32) (g_cells : Nat → Int32) (g_foods : Nat → Int32) : Option (Int32 × (Nat → Int32) × (Nat → Int32)) :=
  (if g_month < 999 then (T_X1_passMonth_L13 N g_month g_floes g_ways g_strengths g_kinds (fun (z33 : Nat → Int32) (z34 : Nat → Int32) => (some (g_month + 1, z33, z34))) N 0 g_cells g_foods) else (some (g_month, g_cells, g_foods)))
abbrev rm_X1_passMonth : Room := { frames := 3, cells := 0, slots := 0, locals := 75 }
set_option maxHeartbeats 4000000 in
set_option maxRecDepth 100000 in
theorem c_X1_passMonth (l : Launch) (D : va_G) (cyI cyJ cyS : ClassId) (N : Nat) (a : Nat → Nat) (g_month : Int32) (g_floes : Int32) (g_founds : Int32) (g_notes : Int32) (g_undos : Int32) (g_ways : Nat → Int32) (g_strengths : Nat → Int32) (g_kinds : Nat → Int32) (g_cells : Nat → Int32) (g_foods : Nat → Int32) (sz : Nat) (R0 : Int32 × (Nat → Int32) × (Nat → Int32)) (hT : T_X1_passMonth N g_month g_floes g_ways g_strengths g_kinds g_cells g_foods = some R0) : Met l yX1_passMonth wsX1_passMonth rm_X1_passMonth (va_Pc [.ref (a 0)] (preW D (tyS cyI cyJ cyS) [oX1 a g_month g_floes g_founds g_notes g_undos, rI cyI (a 1) 12 g_ways, rI cyI (a 2) 12 g_strengths, rI cyI (a 3) 5 g_kinds, rI cyI (a 4) 5 g_cells, rI cyI (a 5) 5 g_foods] sz)) (va_Qv (fun (_ : Unit) => True) (fun _ t => va_P D vwCl [oX1 a R0.1 g_floes g_founds g_notes g_undos, rI cyI (a 1) 12 g_ways, rI cyI (a 2) 12 g_strengths, rI cyI (a 3) 5 g_kinds, rI cyI (a 4) 5 R0.2.1, rI cyI (a 5) 5 R0.2.2] t.heap ∧ va_D (va_A [oX1 a g_month g_floes g_founds g_notes g_undos, rI cyI (a 1) 12 g_ways, rI cyI (a 2) 12 g_strengths, rI cyI (a 3) 5 g_kinds, rI cyI (a 4) 5 g_cells, rI cyI (a 5) 5 g_foods] sz) [oX1 a R0.1 g_floes g_founds g_notes g_undos, rI cyI (a 1) 12 g_ways, rI cyI (a 2) 12 g_strengths, rI cyI (a 3) 5 g_kinds, rI cyI (a 4) 5 R0.2.1, rI cyI (a 5) 5 R0.2.2]) (va_A [oX1 a g_month g_floes g_founds g_notes g_undos, rI cyI (a 1) 12 g_ways, rI cyI (a 2) 12 g_strengths, rI cyI (a 3) 5 g_kinds, rI cyI (a 4) 5 g_cells, rI cyI (a 5) 5 g_foods] sz)) 0 0 (va_A [oX1 a g_month g_floes g_founds g_notes g_undos, rI cyI (a 1) 12 g_ways, rI cyI (a 2) 12 g_strengths, rI cyI (a 3) 5 g_kinds, rI cyI (a 4) 5 g_cells, rI cyI (a 5) 5 g_foods] sz) := by
  refine Met.ofW (cc := cX1_passMonth) (maxL := 2) (ret := none) (by decide) rfl ?_
  intro p e s m args below meth c s₁ B hml hv
  obtain ⟨rfl, hsz, hP, hKK, hD0⟩ := hv
  have hx := B.exec
  have hb := B.bytes
  have hr := B.returns
  have hts := atoms_spec (ws := wsX1_passMonth) B.pre
  have hown : s.vm.findClass RX1 = some m.cls := findClass_of_methodNamed B.named
  have hlocks := B.notSynchronized
  have hK := hKK.1
  have inX1 : ∀ w ∈ wsX10, w ∈ wsX1_passMonth := (fun _ h => List.mem_cons_of_mem _ (List.mem_append_right _ h))
  subst hsz
  have hD := hD0.self (sz := s.heap.size)
  generalize hAe : va_A [oX1 a g_month g_floes g_founds g_notes g_undos, rI cyI (a 1) 12 g_ways, rI cyI (a 2) 12 g_strengths, rI cyI (a 3) 5 g_kinds, rI cyI (a 4) 5 g_cells, rI cyI (a 5) 5 g_foods] s.heap.size = A at hD ⊢
  have hA : ∀ q : Nat, s.heap.size ≤ q → A q := fun q h => by rw [← hAe]; exact Or.inr h
  have hS : va_S A s.heap s.heap [] := va_S.rf
  have hP : va_P D vwCl [oX1 a g_month g_floes g_founds g_notes g_undos, rI cyI (a 1) 12 g_ways, rI cyI (a 2) 12 g_strengths, rI cyI (a 3) 5 g_kinds, rI cyI (a 4) 5 g_cells, rI cyI (a 5) 5 g_foods] s.heap := hP
  have hl := lv_entry [.ref (a 0)] (n := 2) (Nat.le_of_ble_eq_true rfl)
  rw [lg_entry_eq]
  generalize (lg_sl [.ref (a 0)] ++ List.replicate (2 - (lg_sl [.ref (a 0)]).length) Slot.unset).toArray = ls at hl ⊢
  have hl : lv_has ls 2 [(0, .ref (a 0))] := hl
  have L13 : ∀ (k71 : (Nat → Int32) → (Nat → Int32) → Option (Int32 × (Nat → Int32) × (Nat → Int32))) (hk71 : ∀ (z6 : Nat → Int32) (z7 : Nat → Int32) (H : Heap) (locs : List Loc) (ls : Array Slot), k71 z6 z7 = some R0 → va_P D vwCl [oX1 a g_month g_floes g_founds g_notes g_undos, rI cyI (a 1) 12 g_ways, rI cyI (a 2) 12 g_strengths, rI cyI (a 3) 5 g_kinds, rI cyI (a 4) 5 z6, rI cyI (a 5) 5 z7] H → va_D A [oX1 a g_month g_floes g_founds g_notes g_undos, rI cyI (a 1) 12 g_ways, rI cyI (a 2) 12 g_strengths, rI cyI (a 3) 5 g_kinds, rI cyI (a 4) 5 z6, rI cyI (a 5) 5 z7] → va_S A s.heap H locs → lv_has ls 2 [(0, .ref (a 0))] → W p l e (headSpec wsX1_passMonth rm_X1_passMonth).room s m ([.ref (a 0)] : List Value).toArray below meth c H locs 0 0 (MQ below (va_Qv (fun (_ : Unit) => True) (fun _ t => va_P D vwCl [oX1 a R0.1 g_floes g_founds g_notes g_undos, rI cyI (a 1) 12 g_ways, rI cyI (a 2) 12 g_strengths, rI cyI (a 3) 5 g_kinds, rI cyI (a 4) 5 R0.2.1, rI cyI (a 5) 5 R0.2.2] t.heap ∧ va_D A [oX1 a R0.1 g_floes g_founds g_notes g_undos, rI cyI (a 1) 12 g_ways, rI cyI (a 2) 12 g_strengths, rI cyI (a 3) 5 g_kinds, rI cyI (a 4) 5 R0.2.1, rI cyI (a 5) 5 R0.2.2]) A) ([.ref (a 0)] : List Value).toArray s 0 0 A) (F0 m 71 ls [])) (n : Nat), ∀ (x3 : Int32) (z4 : Nat → Int32) (z5 : Nat → Int32) (H : Heap) (locs : List Loc) (ls : Array Slot), T_X1_passMonth_L13 N g_month g_floes g_ways g_strengths g_kinds k71 n x3 z4 z5 = some R0 → va_P D vwCl [oX1 a g_month g_floes g_founds g_notes g_undos, rI cyI (a 1) 12 g_ways, rI cyI (a 2) 12 g_strengths, rI cyI (a 3) 5 g_kinds, rI cyI (a 4) 5 z4, rI cyI (a 5) 5 z5] H → va_D A [oX1 a g_month g_floes g_founds g_notes g_undos, rI cyI (a 1) 12 g_ways, rI cyI (a 2) 12 g_strengths, rI cyI (a 3) 5 g_kinds, rI cyI (a 4) 5 z4, rI cyI (a 5) 5 z5] → va_S A s.heap H locs → lv_has ls 2 [(0, .ref (a 0)), (1, .int x3)] → W p l e (headSpec wsX1_passMonth rm_X1_passMonth).room s m ([.ref (a 0)] : List Value).toArray below meth c H locs 0 0 (MQ below (va_Qv (fun (_ : Unit) => True) (fun _ t => va_P D vwCl [oX1 a R0.1 g_floes g_founds g_notes g_undos, rI cyI (a 1) 12 g_ways, rI cyI (a 2) 12 g_strengths, rI cyI (a 3) 5 g_kinds, rI cyI (a 4) 5 R0.2.1, rI cyI (a 5) 5 R0.2.2] t.heap ∧ va_D A [oX1 a R0.1 g_floes g_founds g_notes g_undos, rI cyI (a 1) 12 g_ways, rI cyI (a 2) 12 g_strengths, rI cyI (a 3) 5 g_kinds, rI cyI (a 4) 5 R0.2.1, rI cyI (a 5) 5 R0.2.2]) A) ([.ref (a 0)] : List Value).toArray s 0 0 A) (F0 m 13 ls []) := by
    intro k71 hk71 n
    induction n with
    | zero => intro _ _ _ _ _ _ h; exact absurd h (fun z => by cases z)
    | succ n ih =>
      intro x3 z4 z5 H9 L10 ls h8 hP hD hS hl
      rw [T_X1_passMonth_L13_s] at h8
      refine lv_iload_n hx hb dX1_passMonth_13 rfl (lv_at hl 1 rfl) ?_
      refine lv_aload_n hx hb dX1_passMonth_14 rfl (lv_at hl 0 rfl) ?_
      refine va_get (D := D) (cl := vwCl) (ci := 0) (v := .int g_floes) (C := RX1) (T := TX1) (N := 13) hx hb hts inX1 hown hK hP 0 rfl rfl 3 (by decide) (hts (Cond.fieldLink RX1 46 "FrozenIn$Sea" "floes" "I") (List.mem_of_getElem? (i := 2) rfl)) (fun _ h9 => h9) rfl dX1_passMonth_15 ?_
      refine lv_icmp_ge (tgt := 71) hx hb dX1_passMonth_18 (by decide) (fun c11 => ?_) (fun c11 => ?_)
      · have h12 := (if_pos c11).symm.trans h8
        exact hk71 z4 z5 _ _ _ h12 hP hD hS (lv_sub hl [0] rfl)
      · have h13 := (if_neg c11).symm.trans h8
        refine lv_aload_n hx hb dX1_passMonth_21 rfl (lv_at hl 0 rfl) ?_
        refine va_get (D := D) (cl := vwCl) (ci := 0) (v := .ref (a 4)) (C := RX1) (T := TX1) (N := 13) hx hb hts inX1 hown hK hP 0 rfl rfl 5 (by decide) (hts (Cond.fieldLink RX1 21 "FrozenIn$Sea" "cells" "[I") (List.mem_of_getElem? (i := 3) rfl)) (fun _ h9 => h9) rfl dX1_passMonth_22 ?_
        refine lv_iload_n hx hb dX1_passMonth_25 rfl (lv_at hl 1 rfl) ?_
        refine lv_aload_n hx hb dX1_passMonth_26 rfl (lv_at hl 0 rfl) ?_
        refine lv_aload_n hx hb dX1_passMonth_27 rfl (lv_at hl 0 rfl) ?_
        refine va_get (D := D) (cl := vwCl) (ci := 0) (v := .ref (a 3)) (C := RX1) (T := TX1) (N := 13) hx hb hts inX1 hown hK hP 0 rfl rfl 4 (by decide) (hts (Cond.fieldLink RX1 18 "FrozenIn$Sea" "kinds" "[I") (List.mem_of_getElem? (i := 4) rfl)) (fun _ h9 => h9) rfl dX1_passMonth_28 ?_
        refine lv_iload_n hx hb dX1_passMonth_31 rfl (lv_at hl 1 rfl) ?_
        obtain ⟨hi15, h14⟩ := ob_e h13
        refine va_iald hx hb hK hP 3 0 rfl rfl hi15 dX1_passMonth_32 ?_
        refine lv_aload_n hx hb dX1_passMonth_33 rfl (lv_at hl 0 rfl) ?_
        refine va_get (D := D) (cl := vwCl) (ci := 0) (v := .ref (a 4)) (C := RX1) (T := TX1) (N := 13) hx hb hts inX1 hown hK hP 0 rfl rfl 5 (by decide) (hts (Cond.fieldLink RX1 21 "FrozenIn$Sea" "cells" "[I") (List.mem_of_getElem? (i := 3) rfl)) (fun _ h9 => h9) rfl dX1_passMonth_34 ?_
        refine lv_iload_n hx hb dX1_passMonth_37 rfl (lv_at hl 1 rfl) ?_
        obtain ⟨hi17, h16⟩ := ob_e h14
        refine va_iald hx hb hK hP 4 0 rfl rfl hi17 dX1_passMonth_38 ?_
        refine lv_aload_n hx hb dX1_passMonth_39 rfl (lv_at hl 0 rfl) ?_
        refine va_get (D := D) (cl := vwCl) (ci := 0) (v := .int g_month) (C := RX1) (T := TX1) (N := 13) hx hb hts inX1 hown hK hP 0 rfl rfl 0 (by decide) (hts (Cond.fieldLink RX1 42 "FrozenIn$Sea" "month" "I") (List.mem_of_getElem? (i := 1) rfl)) (fun _ h9 => h9) rfl dX1_passMonth_40 ?_
        obtain ⟨u18, hu19, h20⟩ := bd_e h16
        refine kc_I (W.runV (As := [.int (g_kinds x3.toNatClampNeg), .int (z4 x3.toNatClampNeg), .int g_month]) (rest := [.int x3, .ref (a 4)]) ⟨hx, hb, hml, hown, hts⟩ (c_X1_nextCell l D cyI cyJ cyS N a g_month g_floes g_founds g_notes g_undos g_ways g_strengths (g_kinds x3.toNatClampNeg) (z4 x3.toNatClampNeg) g_month u18 hu19) (cwV 3 hts gX1_passMonth_X1_nextCell rfl rfl rfl (by decide +kernel) ⟨(Nat.le_of_ble_eq_true rfl), (Nat.le_of_ble_eq_true rfl)⟩) (preR_V (hP.sub (ws' := [oX1 a g_month g_floes g_founds g_notes g_undos, rI cyI (a 1) 12 g_ways, rI cyI (a 2) 12 g_strengths]) [0, 1, 2] rfl) hKK (va_recv hK hP (ci := 0) (q0 := 0) rfl rfl)) rfl rfl hl.1 rfl (lv_room (Nat.le_of_ble_eq_true rfl)) dX1_passMonth_43 ⟨Nat.zero_le _, Nat.zero_le _⟩) ?_
        obtain ⟨hi22, h21⟩ := ob_e h20
        refine va_iast hx hb hK hP hD hS 4 0 rfl rfl hi22 dX1_passMonth_46 (fun H23 L24 hP hD hS => ?_)
        have hP : va_P D vwCl [oX1 a g_month g_floes g_founds g_notes g_undos, rI cyI (a 1) 12 g_ways, rI cyI (a 2) 12 g_strengths, rI cyI (a 3) 5 g_kinds, rI cyI (a 4) 5 (upd z4 x3.toNatClampNeg u18), rI cyI (a 5) 5 z5] H23 := hP
        have hD : va_D A [oX1 a g_month g_floes g_founds g_notes g_undos, rI cyI (a 1) 12 g_ways, rI cyI (a 2) 12 g_strengths, rI cyI (a 3) 5 g_kinds, rI cyI (a 4) 5 (upd z4 x3.toNatClampNeg u18), rI cyI (a 5) 5 z5] := hD
        refine lv_aload_n hx hb dX1_passMonth_47 rfl (lv_at hl 0 rfl) ?_
        refine va_get (D := D) (cl := vwCl) (ci := 0) (v := .ref (a 5)) (C := RX1) (T := TX1) (N := 13) hx hb hts inX1 hown hK hP 0 rfl rfl 6 (by decide) (hts (Cond.fieldLink RX1 24 "FrozenIn$Sea" "foods" "[I") (List.mem_of_getElem? (i := 5) rfl)) (fun _ h9 => h9) rfl dX1_passMonth_48 ?_
        refine lv_iload_n hx hb dX1_passMonth_51 rfl (lv_at hl 1 rfl) ?_
        refine lv_iconst (v := 0) hx hb dX1_passMonth_52 (by decide) ?_
        refine lv_aload_n hx hb dX1_passMonth_53 rfl (lv_at hl 0 rfl) ?_
        refine va_get (D := D) (cl := vwCl) (ci := 0) (v := .ref (a 5)) (C := RX1) (T := TX1) (N := 13) hx hb hts inX1 hown hK hP 0 rfl rfl 6 (by decide) (hts (Cond.fieldLink RX1 24 "FrozenIn$Sea" "foods" "[I") (List.mem_of_getElem? (i := 5) rfl)) (fun _ h9 => h9) rfl dX1_passMonth_54 ?_
        refine lv_iload_n hx hb dX1_passMonth_57 rfl (lv_at hl 1 rfl) ?_
        obtain ⟨hi26, h25⟩ := ob_e h21
        refine va_iald hx hb hK hP 5 0 rfl rfl hi26 dX1_passMonth_58 ?_
        refine lv_iconst (v := 1) hx hb dX1_passMonth_59 (by decide) ?_
        refine lv_isub hx hb dX1_passMonth_60 ?_
        refine va_mmax hx hb (hml.trans hl.1.symm) hown (hts (Cond.methodLink RX1 68 Lib.Math.max.name) (List.mem_of_getElem? (i := 6) rfl)) (hts (Cond.static Lib.Math.max.name) (List.mem_of_getElem? (i := 7) rfl)) (hts (Cond.initialized "java/lang/Math") (List.mem_of_getElem? (i := 8) rfl)) (hts (Cond.code Lib.Math.max.name Lib.Math.max.code 2 (some .int)) (List.mem_of_getElem? (i := 9) rfl)) (Nat.le_of_ble_eq_true rfl) (Nat.le_of_ble_eq_true rfl) (Nat.zero_le _) (Nat.zero_le _) dX1_passMonth_61 ?_
        obtain ⟨hi28, h27⟩ := ob_e h25
        refine va_iast hx hb hK hP hD hS 5 0 rfl rfl hi28 dX1_passMonth_64 (fun H29 L30 hP hD hS => ?_)
        have hP : va_P D vwCl [oX1 a g_month g_floes g_founds g_notes g_undos, rI cyI (a 1) 12 g_ways, rI cyI (a 2) 12 g_strengths, rI cyI (a 3) 5 g_kinds, rI cyI (a 4) 5 (upd z4 x3.toNatClampNeg u18), rI cyI (a 5) 5 (upd z5 x3.toNatClampNeg (if 0 < ((z5 x3.toNatClampNeg) - 1) then ((z5 x3.toNatClampNeg) - 1) else 0))] H29 := hP
        have hD : va_D A [oX1 a g_month g_floes g_founds g_notes g_undos, rI cyI (a 1) 12 g_ways, rI cyI (a 2) 12 g_strengths, rI cyI (a 3) 5 g_kinds, rI cyI (a 4) 5 (upd z4 x3.toNatClampNeg u18), rI cyI (a 5) 5 (upd z5 x3.toNatClampNeg (if 0 < ((z5 x3.toNatClampNeg) - 1) then ((z5 x3.toNatClampNeg) - 1) else 0))] := hD
        obtain ⟨x31, ex31, h32⟩ := lt_e h27
        refine lv_iinc (v := x31) (lv' := [(1, .int x31), (0, .ref (a 0))]) hx hb dX1_passMonth_65 hl (k := 1) rfl (by rw [ex31]; rfl) (by decide) rfl (fun ls hl => ?_)
        refine lv_goto (tgt := 13) hx hb dX1_passMonth_68 (by decide) ?_
        exact ih x31 (upd z4 x3.toNatClampNeg u18) (upd z5 x3.toNatClampNeg (if 0 < ((z5 x3.toNatClampNeg) - 1) then ((z5 x3.toNatClampNeg) - 1) else 0)) _ _ _ h32 hP hD hS (lv_sub hl [1, 0] rfl)
  unfold T_X1_passMonth at hT
  refine lv_aload_n hx hb dX1_passMonth_0 rfl (lv_at hl 0 rfl) ?_
  refine va_get (D := D) (cl := vwCl) (ci := 0) (v := .int g_month) (C := RX1) (T := TX1) (N := 13) hx hb hts inX1 hown hK hP 0 rfl rfl 0 (by decide) (hts (Cond.fieldLink RX1 42 "FrozenIn$Sea" "month" "I") (List.mem_of_getElem? (i := 1) rfl)) (fun _ h9 => h9) rfl dX1_passMonth_1 ?_
  refine lv_sipush (v := 999) hx hb dX1_passMonth_4 (by decide) ?_
  refine lv_icmp_lt (tgt := 11) hx hb dX1_passMonth_7 (by decide) (fun c1 => ?_) (fun c1 => ?_)
  · have h2 := (if_pos c1).symm.trans hT
    refine lv_iconst (v := 0) hx hb dX1_passMonth_11 (by decide) ?_
    refine lv_istore_n (lv' := [(1, .int 0), (0, .ref (a 0))]) hx hb dX1_passMonth_12 rfl hl (by decide) rfl (fun ls hl => ?_)
    refine L13 _ (fun z33 z34 H36 L37 ls h35 hP hD hS hl => ?_) N 0 g_cells g_foods _ _ _ h2 hP hD hS (lv_sub hl [1, 0] rfl)
    refine lv_aload_n hx hb dX1_passMonth_71 rfl (lv_at hl 0 rfl) ?_
    refine lv_dup hx hb dX1_passMonth_72 rfl ?_
    refine va_get (D := D) (cl := vwCl) (ci := 0) (v := .int g_month) (C := RX1) (T := TX1) (N := 13) hx hb hts inX1 hown hK hP 0 rfl rfl 0 (by decide) (hts (Cond.fieldLink RX1 42 "FrozenIn$Sea" "month" "I") (List.mem_of_getElem? (i := 1) rfl)) (fun _ h9 => h9) rfl dX1_passMonth_73 ?_
    refine lv_iconst (v := 1) hx hb dX1_passMonth_76 (by decide) ?_
    refine lv_iadd hx hb dX1_passMonth_77 ?_
    refine va_put (D := D) (cl := vwCl) (ci := 0) (v := .int (g_month + 1)) (ty := .int) (C := RX1) (T := TX1) (N := 13) hx hb hts inX1 tyX1 tyX1_ok nmX1 hown hK hP hD hS 0 rfl rfl 0 (by decide) (hts (Cond.fieldLink RX1 42 "FrozenIn$Sea" "month" "I") (List.mem_of_getElem? (i := 1) rfl)) (fun _ h9 => h9) rfl (by decide +kernel) rfl rfl (Nat.le_of_ble_eq_true rfl) dX1_passMonth_78 (fun H38 L39 hP hD hS => ?_)
    have hP : va_P D vwCl [oX1 a (g_month + 1) g_floes g_founds g_notes g_undos, rI cyI (a 1) 12 g_ways, rI cyI (a 2) 12 g_strengths, rI cyI (a 3) 5 g_kinds, rI cyI (a 4) 5 z33, rI cyI (a 5) 5 z34] H38 := hP
    have hD : va_D A [oX1 a (g_month + 1) g_floes g_founds g_notes g_undos, rI cyI (a 1) 12 g_ways, rI cyI (a 2) 12 g_strengths, rI cyI (a 3) 5 g_kinds, rI cyI (a 4) 5 z33, rI cyI (a 5) 5 z34] := hD
    rw [← Option.some.inj h35]
    exact W.vret hx hb hr (fun t ht hW => ⟨⟨(), rfl, trivial, ⟨by rw [ht]; exact hP, hD⟩⟩, hS.F ht⟩) hS.2.2 dX1_passMonth_81
  · have h40 := (if_neg c1).symm.trans hT
    rw [← Option.some.inj h40]
    exact W.vret hx hb hr (fun t ht hW => ⟨⟨(), rfl, trivial, ⟨by rw [ht]; exact hP, hD⟩⟩, hS.F ht⟩) hS.2.2 dX1_passMonth_10
def T_X1_keepToUndo (N : Nat) (g_month : Int32) (g_undos : Int32) (g_cells : Nat → Int32) (g_foods : Nat → Int32) (g_undoRows : Nat → Int32) : Option (Int32 × (Nat → Int32)) :=
  (jn (fun (z1 : Int32) (z2 : Nat → Int32) => (lt' (11 * z1) fun x9 => (ob x9 88 (gc 0 (x9 + 1) 5 5 88 (gc 0 ((x9 + 1) + 5) 5 5 88 (some (z1 + 1, va_cpy g_foods (va_cpy g_cells (upd z2 x9.toNatClampNeg g_month) (0 : Int32).toNatClampNeg ((x9 + 1) : Int32).toNatClampNeg (5 : Int32).toNatClampNeg) (0 : Int32).toNatClampNeg (((x9 + 1) + 5) : Int32).toNatClampNeg (5 : Int32).toNatClampNeg))))))) fun j3 => (if g_undos = 8 then (gc 11 0 77 88 88 (j3 (g_undos - 1) (va_cpy g_undoRows g_undoRows (11 : Int32).toNatClampNeg (0 : Int32).toNatClampNeg (77 : Int32).toNatClampNeg))) else (j3 g_undos g_undoRows)))
abbrev rm_X1_keepToUndo : Room := { frames := 1, cells := 0, slots := 0, locals := 26 }
set_option maxHeartbeats 4000000 in
set_option maxRecDepth 100000 in
theorem c_X1_keepToUndo (l : Launch) (D : va_G) (cyI cyJ cyS : ClassId) (N : Nat) (a : Nat → Nat) (g_month : Int32) (g_floes : Int32) (g_founds : Int32) (g_notes : Int32) (g_undos : Int32) (g_cells : Nat → Int32) (g_foods : Nat → Int32) (g_undoRows : Nat → Int32) (sz : Nat) (R0 : Int32 × (Nat → Int32)) (hT : T_X1_keepToUndo N g_month g_undos g_cells g_foods g_undoRows = some R0) : Met l yX1_keepToUndo wsX1_keepToUndo rm_X1_keepToUndo (va_Pc [.ref (a 0)] (preW D (tyS cyI cyJ cyS) [oX1 a g_month g_floes g_founds g_notes g_undos, rI cyI (a 4) 5 g_cells, rI cyI (a 5) 5 g_foods, rI cyI (a 8) 88 g_undoRows] sz)) (va_Qv (fun (_ : Unit) => True) (fun _ t => va_P D vwCl [oX1 a g_month g_floes g_founds g_notes R0.1, rI cyI (a 4) 5 g_cells, rI cyI (a 5) 5 g_foods, rI cyI (a 8) 88 R0.2] t.heap ∧ va_D (va_A [oX1 a g_month g_floes g_founds g_notes g_undos, rI cyI (a 4) 5 g_cells, rI cyI (a 5) 5 g_foods, rI cyI (a 8) 88 g_undoRows] sz) [oX1 a g_month g_floes g_founds g_notes R0.1, rI cyI (a 4) 5 g_cells, rI cyI (a 5) 5 g_foods, rI cyI (a 8) 88 R0.2]) (va_A [oX1 a g_month g_floes g_founds g_notes g_undos, rI cyI (a 4) 5 g_cells, rI cyI (a 5) 5 g_foods, rI cyI (a 8) 88 g_undoRows] sz)) 0 0 (va_A [oX1 a g_month g_floes g_founds g_notes g_undos, rI cyI (a 4) 5 g_cells, rI cyI (a 5) 5 g_foods, rI cyI (a 8) 88 g_undoRows] sz) := by
  refine Met.ofW (cc := cX1_keepToUndo) (maxL := 2) (ret := none) (by decide) rfl ?_
  intro p e s m args below meth c s₁ B hml hv
  obtain ⟨rfl, hsz, hP, hKK, hD0⟩ := hv
  have hx := B.exec
  have hb := B.bytes
  have hr := B.returns
  have hts := atoms_spec (ws := wsX1_keepToUndo) B.pre
  have hown : s.vm.findClass RX1 = some m.cls := findClass_of_methodNamed B.named
  have hlocks := B.notSynchronized
  have hK := hKK.1
  have inX1 : ∀ w ∈ wsX10, w ∈ wsX1_keepToUndo := (fun _ h => List.mem_cons_of_mem _ (List.mem_append_right _ h))
  subst hsz
  have hD := hD0.self (sz := s.heap.size)
  generalize hAe : va_A [oX1 a g_month g_floes g_founds g_notes g_undos, rI cyI (a 4) 5 g_cells, rI cyI (a 5) 5 g_foods, rI cyI (a 8) 88 g_undoRows] s.heap.size = A at hD ⊢
  have hA : ∀ q : Nat, s.heap.size ≤ q → A q := fun q h => by rw [← hAe]; exact Or.inr h
  have hS : va_S A s.heap s.heap [] := va_S.rf
  have hP : va_P D vwCl [oX1 a g_month g_floes g_founds g_notes g_undos, rI cyI (a 4) 5 g_cells, rI cyI (a 5) 5 g_foods, rI cyI (a 8) 88 g_undoRows] s.heap := hP
  have hl := lv_entry [.ref (a 0)] (n := 2) (Nat.le_of_ble_eq_true rfl)
  rw [lg_entry_eq]
  generalize (lg_sl [.ref (a 0)] ++ List.replicate (2 - (lg_sl [.ref (a 0)]).length) Slot.unset).toArray = ls at hl ⊢
  have hl : lv_has ls 2 [(0, .ref (a 0))] := hl
  unfold T_X1_keepToUndo at hT
  refine lv_aload_n hx hb dX1_keepToUndo_0 rfl (lv_at hl 0 rfl) ?_
  refine va_get (D := D) (cl := vwCl) (ci := 0) (v := .int g_undos) (C := RX1) (T := TX1) (N := 13) hx hb hts inX1 hown hK hP 0 rfl rfl 11 (by decide) (hts (Cond.fieldLink RX1 55 "FrozenIn$Sea" "undos" "I") (List.mem_of_getElem? (i := 1) rfl)) (fun _ h9 => h9) rfl dX1_keepToUndo_1 ?_
  refine lv_bipush (v := 8) hx hb dX1_keepToUndo_4 (by decide) ?_
  obtain ⟨j3, hj4, h5⟩ := jn_e hT
  have Jj3 : ∀ (z1 : Int32) (z2 : Nat → Int32) (H : Heap) (locs : List Loc) (ls : Array Slot), j3 z1 z2 = some R0 → va_P D vwCl [oX1 a g_month g_floes g_founds g_notes z1, rI cyI (a 4) 5 g_cells, rI cyI (a 5) 5 g_foods, rI cyI (a 8) 88 z2] H → va_D A [oX1 a g_month g_floes g_founds g_notes z1, rI cyI (a 4) 5 g_cells, rI cyI (a 5) 5 g_foods, rI cyI (a 8) 88 z2] → va_S A s.heap H locs → lv_has ls 2 [(0, .ref (a 0))] → W p l e (headSpec wsX1_keepToUndo rm_X1_keepToUndo).room s m ([.ref (a 0)] : List Value).toArray below meth c H locs 0 0 (MQ below (va_Qv (fun (_ : Unit) => True) (fun _ t => va_P D vwCl [oX1 a g_month g_floes g_founds g_notes R0.1, rI cyI (a 4) 5 g_cells, rI cyI (a 5) 5 g_foods, rI cyI (a 8) 88 R0.2] t.heap ∧ va_D A [oX1 a g_month g_floes g_founds g_notes R0.1, rI cyI (a 4) 5 g_cells, rI cyI (a 5) 5 g_foods, rI cyI (a 8) 88 R0.2]) A) ([.ref (a 0)] : List Value).toArray s 0 0 A) (F0 m 35 ls []) := by
    intro z1 z2 H7 L8 ls h6 hP hD hS hl
    rw [hj4] at h6
    refine lv_bipush (v := 11) hx hb dX1_keepToUndo_35 (by decide) ?_
    refine lv_aload_n hx hb dX1_keepToUndo_37 rfl (lv_at hl 0 rfl) ?_
    refine va_get (D := D) (cl := vwCl) (ci := 0) (v := .int z1) (C := RX1) (T := TX1) (N := 13) hx hb hts inX1 hown hK hP 0 rfl rfl 11 (by decide) (hts (Cond.fieldLink RX1 55 "FrozenIn$Sea" "undos" "I") (List.mem_of_getElem? (i := 1) rfl)) (fun _ h9 => h9) rfl dX1_keepToUndo_38 ?_
    refine lv_imul hx hb dX1_keepToUndo_41 ?_
    obtain ⟨x9, ex9, h10⟩ := lt_e h6
    refine lv_nm ex9 ?_
    refine lv_istore_n (lv' := [(1, .int x9), (0, .ref (a 0))]) hx hb dX1_keepToUndo_42 rfl hl (by decide) rfl (fun ls hl => ?_)
    refine lv_aload_n hx hb dX1_keepToUndo_43 rfl (lv_at hl 1 rfl) ?_
    refine va_get (D := D) (cl := vwCl) (ci := 0) (v := .ref (a 8)) (C := RX1) (T := TX1) (N := 13) hx hb hts inX1 hown hK hP 0 rfl rfl 12 (by decide) (hts (Cond.fieldLink RX1 33 "FrozenIn$Sea" "undoRows" "[I") (List.mem_of_getElem? (i := 2) rfl)) (fun _ h9 => h9) rfl dX1_keepToUndo_44 ?_
    refine lv_iload_n hx hb dX1_keepToUndo_47 rfl (lv_at hl 0 rfl) ?_
    refine lv_aload_n hx hb dX1_keepToUndo_48 rfl (lv_at hl 1 rfl) ?_
    refine va_get (D := D) (cl := vwCl) (ci := 0) (v := .int g_month) (C := RX1) (T := TX1) (N := 13) hx hb hts inX1 hown hK hP 0 rfl rfl 0 (by decide) (hts (Cond.fieldLink RX1 42 "FrozenIn$Sea" "month" "I") (List.mem_of_getElem? (i := 7) rfl)) (fun _ h9 => h9) rfl dX1_keepToUndo_49 ?_
    obtain ⟨hi12, h11⟩ := ob_e h10
    refine va_iast hx hb hK hP hD hS 3 0 rfl rfl hi12 dX1_keepToUndo_52 (fun H13 L14 hP hD hS => ?_)
    have hP : va_P D vwCl [oX1 a g_month g_floes g_founds g_notes z1, rI cyI (a 4) 5 g_cells, rI cyI (a 5) 5 g_foods, rI cyI (a 8) 88 (upd z2 x9.toNatClampNeg g_month)] H13 := hP
    have hD : va_D A [oX1 a g_month g_floes g_founds g_notes z1, rI cyI (a 4) 5 g_cells, rI cyI (a 5) 5 g_foods, rI cyI (a 8) 88 (upd z2 x9.toNatClampNeg g_month)] := hD
    refine lv_aload_n hx hb dX1_keepToUndo_53 rfl (lv_at hl 1 rfl) ?_
    refine va_get (D := D) (cl := vwCl) (ci := 0) (v := .ref (a 4)) (C := RX1) (T := TX1) (N := 13) hx hb hts inX1 hown hK hP 0 rfl rfl 5 (by decide) (hts (Cond.fieldLink RX1 21 "FrozenIn$Sea" "cells" "[I") (List.mem_of_getElem? (i := 8) rfl)) (fun _ h9 => h9) rfl dX1_keepToUndo_54 ?_
    refine lv_iconst (v := 0) hx hb dX1_keepToUndo_57 (by decide) ?_
    refine lv_aload_n hx hb dX1_keepToUndo_58 rfl (lv_at hl 1 rfl) ?_
    refine va_get (D := D) (cl := vwCl) (ci := 0) (v := .ref (a 8)) (C := RX1) (T := TX1) (N := 13) hx hb hts inX1 hown hK hP 0 rfl rfl 12 (by decide) (hts (Cond.fieldLink RX1 33 "FrozenIn$Sea" "undoRows" "[I") (List.mem_of_getElem? (i := 2) rfl)) (fun _ h9 => h9) rfl dX1_keepToUndo_59 ?_
    refine lv_iload_n hx hb dX1_keepToUndo_62 rfl (lv_at hl 0 rfl) ?_
    refine lv_iconst (v := 1) hx hb dX1_keepToUndo_63 (by decide) ?_
    refine lv_iadd hx hb dX1_keepToUndo_64 ?_
    refine lv_iconst (v := 5) hx hb dX1_keepToUndo_65 (by decide) ?_
    obtain ⟨⟨g16, g17, g18, g19, g20⟩, h15⟩ := gc_e h11
    refine va_copyi hx hb (hml.trans hl.1.symm) hown (hts (Cond.methodLink RX1 58 arraycopyName) (List.mem_of_getElem? (i := 3) rfl)) (hts (Cond.native arraycopyName) (List.mem_of_getElem? (i := 4) rfl)) (hts (Cond.static arraycopyName) (List.mem_of_getElem? (i := 5) rfl)) (hts (Cond.initialized "java/lang/System") (List.mem_of_getElem? (i := 6) rfl)) hK hP hD hS 1 3 0 0 rfl rfl rfl rfl rfl g16 g17 g18 g19 g20 (fun _ _ => rfl) (Nat.le_of_ble_eq_true rfl) (Nat.le_of_ble_eq_true rfl) dX1_keepToUndo_66 (fun H21 L22 hP hD hS => ?_)
    have hP : va_P D vwCl [oX1 a g_month g_floes g_founds g_notes z1, rI cyI (a 4) 5 g_cells, rI cyI (a 5) 5 g_foods, rI cyI (a 8) 88 (va_cpy g_cells (upd z2 x9.toNatClampNeg g_month) (0 : Int32).toNatClampNeg ((x9 + 1) : Int32).toNatClampNeg (5 : Int32).toNatClampNeg)] H21 := hP
    have hD : va_D A [oX1 a g_month g_floes g_founds g_notes z1, rI cyI (a 4) 5 g_cells, rI cyI (a 5) 5 g_foods, rI cyI (a 8) 88 (va_cpy g_cells (upd z2 x9.toNatClampNeg g_month) (0 : Int32).toNatClampNeg ((x9 + 1) : Int32).toNatClampNeg (5 : Int32).toNatClampNeg)] := hD
    refine lv_aload_n hx hb dX1_keepToUndo_69 rfl (lv_at hl 1 rfl) ?_
    refine va_get (D := D) (cl := vwCl) (ci := 0) (v := .ref (a 5)) (C := RX1) (T := TX1) (N := 13) hx hb hts inX1 hown hK hP 0 rfl rfl 6 (by decide) (hts (Cond.fieldLink RX1 24 "FrozenIn$Sea" "foods" "[I") (List.mem_of_getElem? (i := 9) rfl)) (fun _ h9 => h9) rfl dX1_keepToUndo_70 ?_
    refine lv_iconst (v := 0) hx hb dX1_keepToUndo_73 (by decide) ?_
    refine lv_aload_n hx hb dX1_keepToUndo_74 rfl (lv_at hl 1 rfl) ?_
    refine va_get (D := D) (cl := vwCl) (ci := 0) (v := .ref (a 8)) (C := RX1) (T := TX1) (N := 13) hx hb hts inX1 hown hK hP 0 rfl rfl 12 (by decide) (hts (Cond.fieldLink RX1 33 "FrozenIn$Sea" "undoRows" "[I") (List.mem_of_getElem? (i := 2) rfl)) (fun _ h9 => h9) rfl dX1_keepToUndo_75 ?_
    refine lv_iload_n hx hb dX1_keepToUndo_78 rfl (lv_at hl 0 rfl) ?_
    refine lv_iconst (v := 1) hx hb dX1_keepToUndo_79 (by decide) ?_
    refine lv_iadd hx hb dX1_keepToUndo_80 ?_
    refine lv_iconst (v := 5) hx hb dX1_keepToUndo_81 (by decide) ?_
    refine lv_iadd hx hb dX1_keepToUndo_82 ?_
    refine lv_iconst (v := 5) hx hb dX1_keepToUndo_83 (by decide) ?_
    obtain ⟨⟨g24, g25, g26, g27, g28⟩, h23⟩ := gc_e h15
    refine va_copyi hx hb (hml.trans hl.1.symm) hown (hts (Cond.methodLink RX1 58 arraycopyName) (List.mem_of_getElem? (i := 3) rfl)) (hts (Cond.native arraycopyName) (List.mem_of_getElem? (i := 4) rfl)) (hts (Cond.static arraycopyName) (List.mem_of_getElem? (i := 5) rfl)) (hts (Cond.initialized "java/lang/System") (List.mem_of_getElem? (i := 6) rfl)) hK hP hD hS 2 3 0 0 rfl rfl rfl rfl rfl g24 g25 g26 g27 g28 (fun _ _ => rfl) (Nat.le_of_ble_eq_true rfl) (Nat.le_of_ble_eq_true rfl) dX1_keepToUndo_84 (fun H29 L30 hP hD hS => ?_)
    have hP : va_P D vwCl [oX1 a g_month g_floes g_founds g_notes z1, rI cyI (a 4) 5 g_cells, rI cyI (a 5) 5 g_foods, rI cyI (a 8) 88 (va_cpy g_foods (va_cpy g_cells (upd z2 x9.toNatClampNeg g_month) (0 : Int32).toNatClampNeg ((x9 + 1) : Int32).toNatClampNeg (5 : Int32).toNatClampNeg) (0 : Int32).toNatClampNeg (((x9 + 1) + 5) : Int32).toNatClampNeg (5 : Int32).toNatClampNeg)] H29 := hP
    have hD : va_D A [oX1 a g_month g_floes g_founds g_notes z1, rI cyI (a 4) 5 g_cells, rI cyI (a 5) 5 g_foods, rI cyI (a 8) 88 (va_cpy g_foods (va_cpy g_cells (upd z2 x9.toNatClampNeg g_month) (0 : Int32).toNatClampNeg ((x9 + 1) : Int32).toNatClampNeg (5 : Int32).toNatClampNeg) (0 : Int32).toNatClampNeg (((x9 + 1) + 5) : Int32).toNatClampNeg (5 : Int32).toNatClampNeg)] := hD
    refine lv_aload_n hx hb dX1_keepToUndo_87 rfl (lv_at hl 1 rfl) ?_
    refine lv_dup hx hb dX1_keepToUndo_88 rfl ?_
    refine va_get (D := D) (cl := vwCl) (ci := 0) (v := .int z1) (C := RX1) (T := TX1) (N := 13) hx hb hts inX1 hown hK hP 0 rfl rfl 11 (by decide) (hts (Cond.fieldLink RX1 55 "FrozenIn$Sea" "undos" "I") (List.mem_of_getElem? (i := 1) rfl)) (fun _ h9 => h9) rfl dX1_keepToUndo_89 ?_
    refine lv_iconst (v := 1) hx hb dX1_keepToUndo_92 (by decide) ?_
    refine lv_iadd hx hb dX1_keepToUndo_93 ?_
    refine va_put (D := D) (cl := vwCl) (ci := 0) (v := .int (z1 + 1)) (ty := .int) (C := RX1) (T := TX1) (N := 13) hx hb hts inX1 tyX1 tyX1_ok nmX1 hown hK hP hD hS 0 rfl rfl 11 (by decide) (hts (Cond.fieldLink RX1 55 "FrozenIn$Sea" "undos" "I") (List.mem_of_getElem? (i := 1) rfl)) (fun _ h9 => h9) rfl (by decide +kernel) rfl rfl (Nat.le_of_ble_eq_true rfl) dX1_keepToUndo_94 (fun H31 L32 hP hD hS => ?_)
    have hP : va_P D vwCl [oX1 a g_month g_floes g_founds g_notes (z1 + 1), rI cyI (a 4) 5 g_cells, rI cyI (a 5) 5 g_foods, rI cyI (a 8) 88 (va_cpy g_foods (va_cpy g_cells (upd z2 x9.toNatClampNeg g_month) (0 : Int32).toNatClampNeg ((x9 + 1) : Int32).toNatClampNeg (5 : Int32).toNatClampNeg) (0 : Int32).toNatClampNeg (((x9 + 1) + 5) : Int32).toNatClampNeg (5 : Int32).toNatClampNeg)] H31 := hP
    have hD : va_D A [oX1 a g_month g_floes g_founds g_notes (z1 + 1), rI cyI (a 4) 5 g_cells, rI cyI (a 5) 5 g_foods, rI cyI (a 8) 88 (va_cpy g_foods (va_cpy g_cells (upd z2 x9.toNatClampNeg g_month) (0 : Int32).toNatClampNeg ((x9 + 1) : Int32).toNatClampNeg (5 : Int32).toNatClampNeg) (0 : Int32).toNatClampNeg (((x9 + 1) + 5) : Int32).toNatClampNeg (5 : Int32).toNatClampNeg)] := hD
    rw [← Option.some.inj h23]
    exact W.vret hx hb hr (fun t ht hW => ⟨⟨(), rfl, trivial, ⟨by rw [ht]; exact hP, hD⟩⟩, hS.F ht⟩) hS.2.2 dX1_keepToUndo_97
  refine lv_icmp_ne (tgt := 35) hx hb dX1_keepToUndo_6 (by decide) (fun c33 => ?_) (fun c33 => ?_)
  · have h34 := (if_neg c33).symm.trans h5
    exact Jj3 g_undos g_undoRows _ _ _ h34 hP hD hS (lv_sub hl [0] rfl)
  · have h35 := (if_pos c33).symm.trans h5
    refine lv_aload_n hx hb dX1_keepToUndo_9 rfl (lv_at hl 0 rfl) ?_
    refine va_get (D := D) (cl := vwCl) (ci := 0) (v := .ref (a 8)) (C := RX1) (T := TX1) (N := 13) hx hb hts inX1 hown hK hP 0 rfl rfl 12 (by decide) (hts (Cond.fieldLink RX1 33 "FrozenIn$Sea" "undoRows" "[I") (List.mem_of_getElem? (i := 2) rfl)) (fun _ h9 => h9) rfl dX1_keepToUndo_10 ?_
    refine lv_bipush (v := 11) hx hb dX1_keepToUndo_13 (by decide) ?_
    refine lv_aload_n hx hb dX1_keepToUndo_15 rfl (lv_at hl 0 rfl) ?_
    refine va_get (D := D) (cl := vwCl) (ci := 0) (v := .ref (a 8)) (C := RX1) (T := TX1) (N := 13) hx hb hts inX1 hown hK hP 0 rfl rfl 12 (by decide) (hts (Cond.fieldLink RX1 33 "FrozenIn$Sea" "undoRows" "[I") (List.mem_of_getElem? (i := 2) rfl)) (fun _ h9 => h9) rfl dX1_keepToUndo_16 ?_
    refine lv_iconst (v := 0) hx hb dX1_keepToUndo_19 (by decide) ?_
    refine lv_bipush (v := 77) hx hb dX1_keepToUndo_20 (by decide) ?_
    obtain ⟨⟨g37, g38, g39, g40, g41⟩, h36⟩ := gc_e h35
    refine va_copyi hx hb (hml.trans hl.1.symm) hown (hts (Cond.methodLink RX1 58 arraycopyName) (List.mem_of_getElem? (i := 3) rfl)) (hts (Cond.native arraycopyName) (List.mem_of_getElem? (i := 4) rfl)) (hts (Cond.static arraycopyName) (List.mem_of_getElem? (i := 5) rfl)) (hts (Cond.initialized "java/lang/System") (List.mem_of_getElem? (i := 6) rfl)) hK hP hD hS 3 3 0 0 rfl rfl rfl rfl rfl g37 g38 g39 g40 g41 (fun _ _ => rfl) (Nat.le_of_ble_eq_true rfl) (Nat.le_of_ble_eq_true rfl) dX1_keepToUndo_22 (fun H42 L43 hP hD hS => ?_)
    have hP : va_P D vwCl [oX1 a g_month g_floes g_founds g_notes g_undos, rI cyI (a 4) 5 g_cells, rI cyI (a 5) 5 g_foods, rI cyI (a 8) 88 (va_cpy g_undoRows g_undoRows (11 : Int32).toNatClampNeg (0 : Int32).toNatClampNeg (77 : Int32).toNatClampNeg)] H42 := hP
    have hD : va_D A [oX1 a g_month g_floes g_founds g_notes g_undos, rI cyI (a 4) 5 g_cells, rI cyI (a 5) 5 g_foods, rI cyI (a 8) 88 (va_cpy g_undoRows g_undoRows (11 : Int32).toNatClampNeg (0 : Int32).toNatClampNeg (77 : Int32).toNatClampNeg)] := hD
    refine lv_aload_n hx hb dX1_keepToUndo_25 rfl (lv_at hl 0 rfl) ?_
    refine lv_dup hx hb dX1_keepToUndo_26 rfl ?_
    refine va_get (D := D) (cl := vwCl) (ci := 0) (v := .int g_undos) (C := RX1) (T := TX1) (N := 13) hx hb hts inX1 hown hK hP 0 rfl rfl 11 (by decide) (hts (Cond.fieldLink RX1 55 "FrozenIn$Sea" "undos" "I") (List.mem_of_getElem? (i := 1) rfl)) (fun _ h9 => h9) rfl dX1_keepToUndo_27 ?_
    refine lv_iconst (v := 1) hx hb dX1_keepToUndo_30 (by decide) ?_
    refine lv_isub hx hb dX1_keepToUndo_31 ?_
    refine va_put (D := D) (cl := vwCl) (ci := 0) (v := .int (g_undos - 1)) (ty := .int) (C := RX1) (T := TX1) (N := 13) hx hb hts inX1 tyX1 tyX1_ok nmX1 hown hK hP hD hS 0 rfl rfl 11 (by decide) (hts (Cond.fieldLink RX1 55 "FrozenIn$Sea" "undos" "I") (List.mem_of_getElem? (i := 1) rfl)) (fun _ h9 => h9) rfl (by decide +kernel) rfl rfl (Nat.le_of_ble_eq_true rfl) dX1_keepToUndo_32 (fun H44 L45 hP hD hS => ?_)
    have hP : va_P D vwCl [oX1 a g_month g_floes g_founds g_notes (g_undos - 1), rI cyI (a 4) 5 g_cells, rI cyI (a 5) 5 g_foods, rI cyI (a 8) 88 (va_cpy g_undoRows g_undoRows (11 : Int32).toNatClampNeg (0 : Int32).toNatClampNeg (77 : Int32).toNatClampNeg)] H44 := hP
    have hD : va_D A [oX1 a g_month g_floes g_founds g_notes (g_undos - 1), rI cyI (a 4) 5 g_cells, rI cyI (a 5) 5 g_foods, rI cyI (a 8) 88 (va_cpy g_undoRows g_undoRows (11 : Int32).toNatClampNeg (0 : Int32).toNatClampNeg (77 : Int32).toNatClampNeg)] := hD
    exact Jj3 (g_undos - 1) (va_cpy g_undoRows g_undoRows (11 : Int32).toNatClampNeg (0 : Int32).toNatClampNeg (77 : Int32).toNatClampNeg) _ _ _ h36 hP hD hS (lv_sub hl [0] rfl)
def T_X1_takeBack (N : Nat) (g_month : Int32) (g_undos : Int32) (g_cells : Nat → Int32) (g_foods : Nat → Int32) (g_undoRows : Nat → Int32) : Option (Int32 × Int32 × (Nat → Int32) × (Nat → Int32)) :=
  (lt' (11 * (g_undos - 1)) fun x3 => (ob x3 88 (gc (x3 + 1) 0 5 88 5 (gc ((x3 + 1) + 5) 0 5 88 5 (some (g_undoRows x3.toNatClampNeg, g_undos - 1, va_cpy g_undoRows g_cells ((x3 + 1) : Int32).toNatClampNeg (0 : Int32).toNatClampNeg (5 : Int32).toNatClampNeg, va_cpy g_undoRows g_foods (((x3 + 1) + 5) : Int32).toNatClampNeg (0 : Int32).toNatClampNeg (5 : Int32).toNatClampNeg))))))
abbrev rm_X1_takeBack : Room := { frames := 1, cells := 0, slots := 0, locals := 26 }
set_option maxHeartbeats 4000000 in
set_option maxRecDepth 100000 in
theorem c_X1_takeBack (l : Launch) (D : va_G) (cyI cyJ cyS : ClassId) (N : Nat) (a : Nat → Nat) (g_month : Int32) (g_floes : Int32) (g_founds : Int32) (g_notes : Int32) (g_undos : Int32) (g_cells : Nat → Int32) (g_foods : Nat → Int32) (g_undoRows : Nat → Int32) (sz : Nat) (R0 : Int32 × Int32 × (Nat → Int32) × (Nat → Int32)) (hT : T_X1_takeBack N g_month g_undos g_cells g_foods g_undoRows = some R0) : Met l yX1_takeBack wsX1_takeBack rm_X1_takeBack (va_Pc [.ref (a 0)] (preW D (tyS cyI cyJ cyS) [oX1 a g_month g_floes g_founds g_notes g_undos, rI cyI (a 4) 5 g_cells, rI cyI (a 5) 5 g_foods, rI cyI (a 8) 88 g_undoRows] sz)) (va_Qv (fun (_ : Unit) => True) (fun _ t => va_P D vwCl [oX1 a R0.1 g_floes g_founds g_notes R0.2.1, rI cyI (a 4) 5 R0.2.2.1, rI cyI (a 5) 5 R0.2.2.2, rI cyI (a 8) 88 g_undoRows] t.heap ∧ va_D (va_A [oX1 a g_month g_floes g_founds g_notes g_undos, rI cyI (a 4) 5 g_cells, rI cyI (a 5) 5 g_foods, rI cyI (a 8) 88 g_undoRows] sz) [oX1 a R0.1 g_floes g_founds g_notes R0.2.1, rI cyI (a 4) 5 R0.2.2.1, rI cyI (a 5) 5 R0.2.2.2, rI cyI (a 8) 88 g_undoRows]) (va_A [oX1 a g_month g_floes g_founds g_notes g_undos, rI cyI (a 4) 5 g_cells, rI cyI (a 5) 5 g_foods, rI cyI (a 8) 88 g_undoRows] sz)) 0 0 (va_A [oX1 a g_month g_floes g_founds g_notes g_undos, rI cyI (a 4) 5 g_cells, rI cyI (a 5) 5 g_foods, rI cyI (a 8) 88 g_undoRows] sz) := by
  refine Met.ofW (cc := cX1_takeBack) (maxL := 2) (ret := none) (by decide) rfl ?_
  intro p e s m args below meth c s₁ B hml hv
  obtain ⟨rfl, hsz, hP, hKK, hD0⟩ := hv
  have hx := B.exec
  have hb := B.bytes
  have hr := B.returns
  have hts := atoms_spec (ws := wsX1_takeBack) B.pre
  have hown : s.vm.findClass RX1 = some m.cls := findClass_of_methodNamed B.named
  have hlocks := B.notSynchronized
  have hK := hKK.1
  have inX1 : ∀ w ∈ wsX10, w ∈ wsX1_takeBack := (fun _ h => List.mem_cons_of_mem _ (List.mem_append_right _ h))
  subst hsz
  have hD := hD0.self (sz := s.heap.size)
  generalize hAe : va_A [oX1 a g_month g_floes g_founds g_notes g_undos, rI cyI (a 4) 5 g_cells, rI cyI (a 5) 5 g_foods, rI cyI (a 8) 88 g_undoRows] s.heap.size = A at hD ⊢
  have hA : ∀ q : Nat, s.heap.size ≤ q → A q := fun q h => by rw [← hAe]; exact Or.inr h
  have hS : va_S A s.heap s.heap [] := va_S.rf
  have hP : va_P D vwCl [oX1 a g_month g_floes g_founds g_notes g_undos, rI cyI (a 4) 5 g_cells, rI cyI (a 5) 5 g_foods, rI cyI (a 8) 88 g_undoRows] s.heap := hP
  have hl := lv_entry [.ref (a 0)] (n := 2) (Nat.le_of_ble_eq_true rfl)
  rw [lg_entry_eq]
  generalize (lg_sl [.ref (a 0)] ++ List.replicate (2 - (lg_sl [.ref (a 0)]).length) Slot.unset).toArray = ls at hl ⊢
  have hl : lv_has ls 2 [(0, .ref (a 0))] := hl
  unfold T_X1_takeBack at hT
  refine lv_aload_n hx hb dX1_takeBack_0 rfl (lv_at hl 0 rfl) ?_
  refine lv_dup hx hb dX1_takeBack_1 rfl ?_
  refine va_get (D := D) (cl := vwCl) (ci := 0) (v := .int g_undos) (C := RX1) (T := TX1) (N := 13) hx hb hts inX1 hown hK hP 0 rfl rfl 11 (by decide) (hts (Cond.fieldLink RX1 55 "FrozenIn$Sea" "undos" "I") (List.mem_of_getElem? (i := 1) rfl)) (fun _ h9 => h9) rfl dX1_takeBack_2 ?_
  refine lv_iconst (v := 1) hx hb dX1_takeBack_5 (by decide) ?_
  refine lv_isub hx hb dX1_takeBack_6 ?_
  refine va_put (D := D) (cl := vwCl) (ci := 0) (v := .int (g_undos - 1)) (ty := .int) (C := RX1) (T := TX1) (N := 13) hx hb hts inX1 tyX1 tyX1_ok nmX1 hown hK hP hD hS 0 rfl rfl 11 (by decide) (hts (Cond.fieldLink RX1 55 "FrozenIn$Sea" "undos" "I") (List.mem_of_getElem? (i := 1) rfl)) (fun _ h9 => h9) rfl (by decide +kernel) rfl rfl (Nat.le_of_ble_eq_true rfl) dX1_takeBack_7 (fun H1 L2 hP hD hS => ?_)
  have hP : va_P D vwCl [oX1 a g_month g_floes g_founds g_notes (g_undos - 1), rI cyI (a 4) 5 g_cells, rI cyI (a 5) 5 g_foods, rI cyI (a 8) 88 g_undoRows] H1 := hP
  have hD : va_D A [oX1 a g_month g_floes g_founds g_notes (g_undos - 1), rI cyI (a 4) 5 g_cells, rI cyI (a 5) 5 g_foods, rI cyI (a 8) 88 g_undoRows] := hD
  refine lv_bipush (v := 11) hx hb dX1_takeBack_10 (by decide) ?_
  refine lv_aload_n hx hb dX1_takeBack_12 rfl (lv_at hl 0 rfl) ?_
  refine va_get (D := D) (cl := vwCl) (ci := 0) (v := .int (g_undos - 1)) (C := RX1) (T := TX1) (N := 13) hx hb hts inX1 hown hK hP 0 rfl rfl 11 (by decide) (hts (Cond.fieldLink RX1 55 "FrozenIn$Sea" "undos" "I") (List.mem_of_getElem? (i := 1) rfl)) (fun _ h9 => h9) rfl dX1_takeBack_13 ?_
  refine lv_imul hx hb dX1_takeBack_16 ?_
  obtain ⟨x3, ex3, h4⟩ := lt_e hT
  refine lv_nm ex3 ?_
  refine lv_istore_n (lv' := [(1, .int x3), (0, .ref (a 0))]) hx hb dX1_takeBack_17 rfl hl (by decide) rfl (fun ls hl => ?_)
  refine lv_aload_n hx hb dX1_takeBack_18 rfl (lv_at hl 1 rfl) ?_
  refine lv_aload_n hx hb dX1_takeBack_19 rfl (lv_at hl 1 rfl) ?_
  refine va_get (D := D) (cl := vwCl) (ci := 0) (v := .ref (a 8)) (C := RX1) (T := TX1) (N := 13) hx hb hts inX1 hown hK hP 0 rfl rfl 12 (by decide) (hts (Cond.fieldLink RX1 33 "FrozenIn$Sea" "undoRows" "[I") (List.mem_of_getElem? (i := 2) rfl)) (fun _ h9 => h9) rfl dX1_takeBack_20 ?_
  refine lv_iload_n hx hb dX1_takeBack_23 rfl (lv_at hl 0 rfl) ?_
  obtain ⟨hi6, h5⟩ := ob_e h4
  refine va_iald hx hb hK hP 3 0 rfl rfl hi6 dX1_takeBack_24 ?_
  refine va_put (D := D) (cl := vwCl) (ci := 0) (v := .int (g_undoRows x3.toNatClampNeg)) (ty := .int) (C := RX1) (T := TX1) (N := 13) hx hb hts inX1 tyX1 tyX1_ok nmX1 hown hK hP hD hS 0 rfl rfl 0 (by decide) (hts (Cond.fieldLink RX1 42 "FrozenIn$Sea" "month" "I") (List.mem_of_getElem? (i := 3) rfl)) (fun _ h9 => h9) rfl (by decide +kernel) rfl rfl (Nat.le_of_ble_eq_true rfl) dX1_takeBack_25 (fun H7 L8 hP hD hS => ?_)
  have hP : va_P D vwCl [oX1 a (g_undoRows x3.toNatClampNeg) g_floes g_founds g_notes (g_undos - 1), rI cyI (a 4) 5 g_cells, rI cyI (a 5) 5 g_foods, rI cyI (a 8) 88 g_undoRows] H7 := hP
  have hD : va_D A [oX1 a (g_undoRows x3.toNatClampNeg) g_floes g_founds g_notes (g_undos - 1), rI cyI (a 4) 5 g_cells, rI cyI (a 5) 5 g_foods, rI cyI (a 8) 88 g_undoRows] := hD
  refine lv_aload_n hx hb dX1_takeBack_28 rfl (lv_at hl 1 rfl) ?_
  refine va_get (D := D) (cl := vwCl) (ci := 0) (v := .ref (a 8)) (C := RX1) (T := TX1) (N := 13) hx hb hts inX1 hown hK hP 0 rfl rfl 12 (by decide) (hts (Cond.fieldLink RX1 33 "FrozenIn$Sea" "undoRows" "[I") (List.mem_of_getElem? (i := 2) rfl)) (fun _ h9 => h9) rfl dX1_takeBack_29 ?_
  refine lv_iload_n hx hb dX1_takeBack_32 rfl (lv_at hl 0 rfl) ?_
  refine lv_iconst (v := 1) hx hb dX1_takeBack_33 (by decide) ?_
  refine lv_iadd hx hb dX1_takeBack_34 ?_
  refine lv_aload_n hx hb dX1_takeBack_35 rfl (lv_at hl 1 rfl) ?_
  refine va_get (D := D) (cl := vwCl) (ci := 0) (v := .ref (a 4)) (C := RX1) (T := TX1) (N := 13) hx hb hts inX1 hown hK hP 0 rfl rfl 5 (by decide) (hts (Cond.fieldLink RX1 21 "FrozenIn$Sea" "cells" "[I") (List.mem_of_getElem? (i := 4) rfl)) (fun _ h9 => h9) rfl dX1_takeBack_36 ?_
  refine lv_iconst (v := 0) hx hb dX1_takeBack_39 (by decide) ?_
  refine lv_iconst (v := 5) hx hb dX1_takeBack_40 (by decide) ?_
  obtain ⟨⟨g10, g11, g12, g13, g14⟩, h9⟩ := gc_e h5
  refine va_copyi hx hb (hml.trans hl.1.symm) hown (hts (Cond.methodLink RX1 58 arraycopyName) (List.mem_of_getElem? (i := 5) rfl)) (hts (Cond.native arraycopyName) (List.mem_of_getElem? (i := 6) rfl)) (hts (Cond.static arraycopyName) (List.mem_of_getElem? (i := 7) rfl)) (hts (Cond.initialized "java/lang/System") (List.mem_of_getElem? (i := 8) rfl)) hK hP hD hS 3 1 0 0 rfl rfl rfl rfl rfl g10 g11 g12 g13 g14 (fun _ _ => rfl) (Nat.le_of_ble_eq_true rfl) (Nat.le_of_ble_eq_true rfl) dX1_takeBack_41 (fun H15 L16 hP hD hS => ?_)
  have hP : va_P D vwCl [oX1 a (g_undoRows x3.toNatClampNeg) g_floes g_founds g_notes (g_undos - 1), rI cyI (a 4) 5 (va_cpy g_undoRows g_cells ((x3 + 1) : Int32).toNatClampNeg (0 : Int32).toNatClampNeg (5 : Int32).toNatClampNeg), rI cyI (a 5) 5 g_foods, rI cyI (a 8) 88 g_undoRows] H15 := hP
  have hD : va_D A [oX1 a (g_undoRows x3.toNatClampNeg) g_floes g_founds g_notes (g_undos - 1), rI cyI (a 4) 5 (va_cpy g_undoRows g_cells ((x3 + 1) : Int32).toNatClampNeg (0 : Int32).toNatClampNeg (5 : Int32).toNatClampNeg), rI cyI (a 5) 5 g_foods, rI cyI (a 8) 88 g_undoRows] := hD
  refine lv_aload_n hx hb dX1_takeBack_44 rfl (lv_at hl 1 rfl) ?_
  refine va_get (D := D) (cl := vwCl) (ci := 0) (v := .ref (a 8)) (C := RX1) (T := TX1) (N := 13) hx hb hts inX1 hown hK hP 0 rfl rfl 12 (by decide) (hts (Cond.fieldLink RX1 33 "FrozenIn$Sea" "undoRows" "[I") (List.mem_of_getElem? (i := 2) rfl)) (fun _ h9 => h9) rfl dX1_takeBack_45 ?_
  refine lv_iload_n hx hb dX1_takeBack_48 rfl (lv_at hl 0 rfl) ?_
  refine lv_iconst (v := 1) hx hb dX1_takeBack_49 (by decide) ?_
  refine lv_iadd hx hb dX1_takeBack_50 ?_
  refine lv_iconst (v := 5) hx hb dX1_takeBack_51 (by decide) ?_
  refine lv_iadd hx hb dX1_takeBack_52 ?_
  refine lv_aload_n hx hb dX1_takeBack_53 rfl (lv_at hl 1 rfl) ?_
  refine va_get (D := D) (cl := vwCl) (ci := 0) (v := .ref (a 5)) (C := RX1) (T := TX1) (N := 13) hx hb hts inX1 hown hK hP 0 rfl rfl 6 (by decide) (hts (Cond.fieldLink RX1 24 "FrozenIn$Sea" "foods" "[I") (List.mem_of_getElem? (i := 9) rfl)) (fun _ h9 => h9) rfl dX1_takeBack_54 ?_
  refine lv_iconst (v := 0) hx hb dX1_takeBack_57 (by decide) ?_
  refine lv_iconst (v := 5) hx hb dX1_takeBack_58 (by decide) ?_
  obtain ⟨⟨g18, g19, g20, g21, g22⟩, h17⟩ := gc_e h9
  refine va_copyi hx hb (hml.trans hl.1.symm) hown (hts (Cond.methodLink RX1 58 arraycopyName) (List.mem_of_getElem? (i := 5) rfl)) (hts (Cond.native arraycopyName) (List.mem_of_getElem? (i := 6) rfl)) (hts (Cond.static arraycopyName) (List.mem_of_getElem? (i := 7) rfl)) (hts (Cond.initialized "java/lang/System") (List.mem_of_getElem? (i := 8) rfl)) hK hP hD hS 3 2 0 0 rfl rfl rfl rfl rfl g18 g19 g20 g21 g22 (fun _ _ => rfl) (Nat.le_of_ble_eq_true rfl) (Nat.le_of_ble_eq_true rfl) dX1_takeBack_59 (fun H23 L24 hP hD hS => ?_)
  have hP : va_P D vwCl [oX1 a (g_undoRows x3.toNatClampNeg) g_floes g_founds g_notes (g_undos - 1), rI cyI (a 4) 5 (va_cpy g_undoRows g_cells ((x3 + 1) : Int32).toNatClampNeg (0 : Int32).toNatClampNeg (5 : Int32).toNatClampNeg), rI cyI (a 5) 5 (va_cpy g_undoRows g_foods (((x3 + 1) + 5) : Int32).toNatClampNeg (0 : Int32).toNatClampNeg (5 : Int32).toNatClampNeg), rI cyI (a 8) 88 g_undoRows] H23 := hP
  have hD : va_D A [oX1 a (g_undoRows x3.toNatClampNeg) g_floes g_founds g_notes (g_undos - 1), rI cyI (a 4) 5 (va_cpy g_undoRows g_cells ((x3 + 1) : Int32).toNatClampNeg (0 : Int32).toNatClampNeg (5 : Int32).toNatClampNeg), rI cyI (a 5) 5 (va_cpy g_undoRows g_foods (((x3 + 1) + 5) : Int32).toNatClampNeg (0 : Int32).toNatClampNeg (5 : Int32).toNatClampNeg), rI cyI (a 8) 88 g_undoRows] := hD
  rw [← Option.some.inj h17]
  exact W.vret hx hb hr (fun t ht hW => ⟨⟨(), rfl, trivial, ⟨by rw [ht]; exact hP, hD⟩⟩, hS.F ht⟩) hS.2.2 dX1_takeBack_62
def T_X1_floesOut_L4 (N : Nat) (g_floes : Int32) (g_cells : Nat → Int32)  : Nat → Int32 → Int32 → Option Int32
  | 0, _, _ => none
  | n + 1, x1, x2 => (if g_floes ≤ x2 then (some x1) else (ob x2 5 (jn (fun (x12 : Int32) => (lt' (x2 + 1) fun x17 => (T_X1_floesOut_L4 N g_floes g_cells n x12 x17))) fun j13 => (if (T_X3_isOut (g_cells x2.toNatClampNeg)) = 0 then (j13 x1) else (lt' (x1 + 1) fun x22 => (j13 x22))))))
theorem T_X1_floesOut_L4_s (N : Nat) (g_floes : Int32) (g_cells : Nat → Int32)  (n : Nat) (x1 : Int32) (x2 : Int32) : T_X1_floesOut_L4 N g_floes g_cells  (n + 1) x1 x2 = (if g_floes ≤ x2 then (some x1) else (ob x2 5 (jn (fun (x12 : Int32) => (lt' (x2 + 1) fun x17 => (T_X1_floesOut_L4 N g_floes g_cells n x12 x17))) fun j13 => (if (T_X3_isOut (g_cells x2.toNatClampNeg)) = 0 then (j13 x1) else (lt' (x1 + 1) fun x22 => (j13 x22)))))) := rfl
def T_X1_floesOut (N : Nat) (g_floes : Int32) (g_cells : Nat → Int32) : Option Int32 :=
  (T_X1_floesOut_L4 N g_floes g_cells N 0 0)
abbrev rm_X1_floesOut : Room := { frames := 1, cells := 0, slots := 0, locals := 20 }
set_option maxHeartbeats 4000000 in
set_option maxRecDepth 100000 in
theorem c_X1_floesOut (l : Launch) (D : va_G) (cyI cyJ cyS : ClassId) (N : Nat) (a : Nat → Nat) (g_month : Int32) (g_floes : Int32) (g_founds : Int32) (g_notes : Int32) (g_undos : Int32) (g_cells : Nat → Int32) (R0 : Int32) (hT : T_X1_floesOut N g_floes g_cells = some R0) : Met l yX1_floesOut wsX1_floesOut rm_X1_floesOut (va_Pc [.ref (a 0)] (preR D (tyS cyI cyJ cyS) [oX1 a g_month g_floes g_founds g_notes g_undos, rI cyI (a 4) 5 g_cells])) (vp_Si (fun r => r = R0)) 0 0 (fun _ => False) := by
  refine Met.ofW (cc := cX1_floesOut) (maxL := 3) (ret := (some .int)) (by decide) rfl ?_
  intro p e s m args below meth c s₁ B hml hv
  obtain ⟨rfl, hP, hKK⟩ := hv
  have hx := B.exec
  have hb := B.bytes
  have hr := B.returns
  have hts := atoms_spec (ws := wsX1_floesOut) B.pre
  have hown : s.vm.findClass RX1 = some m.cls := findClass_of_methodNamed B.named
  have hlocks := B.notSynchronized
  have hK := hKK.1
  have inX1 : ∀ w ∈ wsX10, w ∈ wsX1_floesOut := (fun _ h => List.mem_cons_of_mem _ (List.mem_append_right _ h))
  have hP : va_P D vwCl [oX1 a g_month g_floes g_founds g_notes g_undos, rI cyI (a 4) 5 g_cells] s.heap := hP
  have hl := lv_entry [.ref (a 0)] (n := 3) (Nat.le_of_ble_eq_true rfl)
  rw [lg_entry_eq]
  generalize (lg_sl [.ref (a 0)] ++ List.replicate (3 - (lg_sl [.ref (a 0)]).length) Slot.unset).toArray = ls at hl ⊢
  have hl : lv_has ls 3 [(0, .ref (a 0))] := hl
  have L4 : ∀ (n : Nat), ∀ (x1 : Int32) (x2 : Int32) (ls : Array Slot), T_X1_floesOut_L4 N g_floes g_cells n x1 x2 = some R0 → lv_has ls 3 [(0, .ref (a 0)), (1, .int x1), (2, .int x2)] → W p l e (headSpec wsX1_floesOut rm_X1_floesOut).room s m ([.ref (a 0)] : List Value).toArray below meth c s.heap [] 0 0 (MQ below (vp_Si (fun r => r = R0)) ([.ref (a 0)] : List Value).toArray s 0 0 (fun _ => False)) (F0 m 4 ls []) := by
    intro n
    induction n with
    | zero => intro _ _ _ h; exact absurd h (fun z => by cases z)
    | succ n ih =>
      intro x1 x2 ls h3 hl
      rw [T_X1_floesOut_L4_s] at h3
      refine lv_iload_n hx hb dX1_floesOut_4 rfl (lv_at hl 2 rfl) ?_
      refine lv_aload_n hx hb dX1_floesOut_5 rfl (lv_at hl 0 rfl) ?_
      refine va_get (D := D) (cl := vwCl) (ci := 0) (v := .int g_floes) (C := RX1) (T := TX1) (N := 13) hx hb hts inX1 hown hK hP 0 rfl rfl 3 (by decide) (hts (Cond.fieldLink RX1 46 "FrozenIn$Sea" "floes" "I") (List.mem_of_getElem? (i := 1) rfl)) (fun _ h9 => h9) rfl dX1_floesOut_6 ?_
      refine lv_icmp_ge (tgt := 33) hx hb dX1_floesOut_9 (by decide) (fun c6 => ?_) (fun c6 => ?_)
      · have h7 := (if_pos c6).symm.trans h3
        refine lv_iload_n hx hb dX1_floesOut_33 rfl (lv_at hl 1 rfl) ?_
        exact W.iret (v := x1) hx hb hr (fun t ht hW => ⟨x1, rfl, (Option.some.inj h7), ht⟩) (fun q hq => by cases hq) dX1_floesOut_34
      · have h8 := (if_neg c6).symm.trans h3
        refine lv_aload_n hx hb dX1_floesOut_12 rfl (lv_at hl 0 rfl) ?_
        refine va_get (D := D) (cl := vwCl) (ci := 0) (v := .ref (a 4)) (C := RX1) (T := TX1) (N := 13) hx hb hts inX1 hown hK hP 0 rfl rfl 5 (by decide) (hts (Cond.fieldLink RX1 21 "FrozenIn$Sea" "cells" "[I") (List.mem_of_getElem? (i := 2) rfl)) (fun _ h9 => h9) rfl dX1_floesOut_13 ?_
        refine lv_iload_n hx hb dX1_floesOut_16 rfl (lv_at hl 2 rfl) ?_
        obtain ⟨hi10, h9⟩ := ob_e h8
        refine va_iald hx hb hK hP 1 0 rfl rfl hi10 dX1_floesOut_17 ?_
        refine kc_Z (va_runSN (As := [.int (g_cells x2.toNatClampNeg)]) (rest := []) ⟨hx, hb, hml, hown, hts⟩ (c_X3_isOut l (g_cells x2.toNatClampNeg) (T_X3_isOut (g_cells x2.toNatClampNeg)) rfl) ⟨va_cnB 1 hts gX1_floesOut_X3_isOut_n74 rfl rfl rfl hKK.2.2.1 (hts (Cond.initialized RX3) (List.mem_of_getElem? (i := 4) rfl)) (by decide +kernel) ⟨(Nat.le_of_ble_eq_true rfl), (Nat.le_of_ble_eq_true rfl)⟩, (hts (Cond.static yX3_isOut) (List.mem_of_getElem? (i := 3) rfl)), trivial⟩ preT_S rfl rfl hl.1 rfl (lv_room (Nat.le_of_ble_eq_true rfl)) dX1_floesOut_18 ⟨Nat.zero_le _, Nat.zero_le _⟩).run (fun hn11 => ?_)
        obtain ⟨j13, hj14, h15⟩ := jn_e h9
        have Jj13 : ∀ (x12 : Int32) (ls : Array Slot), j13 x12 = some R0 → lv_has ls 3 [(0, .ref (a 0)), (1, .int x12), (2, .int x2)] → W p l e (headSpec wsX1_floesOut rm_X1_floesOut).room s m ([.ref (a 0)] : List Value).toArray below meth c s.heap [] 0 0 (MQ below (vp_Si (fun r => r = R0)) ([.ref (a 0)] : List Value).toArray s 0 0 (fun _ => False)) (F0 m 27 ls []) := by
          intro x12 ls h16 hl
          rw [hj14] at h16
          obtain ⟨x17, ex17, h18⟩ := lt_e h16
          refine lv_iinc (v := x17) (lv' := [(2, .int x17), (0, .ref (a 0)), (1, .int x12)]) hx hb dX1_floesOut_27 hl (k := 2) rfl (by rw [ex17]; rfl) (by decide) rfl (fun ls hl => ?_)
          refine lv_goto (tgt := 4) hx hb dX1_floesOut_30 (by decide) ?_
          exact ih x12 x17 _ h18 (lv_sub hl [1, 2, 0] rfl)
        refine lv_if_eq (tgt := 27) hx hb dX1_floesOut_21 (by decide) (fun c19 => ?_) (fun c19 => ?_)
        · have h20 := (if_pos c19).symm.trans h15
          exact Jj13 x1 _ h20 (lv_sub hl [0, 1, 2] rfl)
        · have h21 := (if_neg c19).symm.trans h15
          obtain ⟨x22, ex22, h23⟩ := lt_e h21
          refine lv_iinc (v := x22) (lv' := [(1, .int x22), (0, .ref (a 0)), (2, .int x2)]) hx hb dX1_floesOut_24 hl (k := 1) rfl (by rw [ex22]; rfl) (by decide) rfl (fun ls hl => ?_)
          exact Jj13 x22 _ h23 (lv_sub hl [1, 0, 2] rfl)
  unfold T_X1_floesOut at hT
  refine lv_iconst (v := 0) hx hb dX1_floesOut_0 (by decide) ?_
  refine lv_istore_n (lv' := [(1, .int 0), (0, .ref (a 0))]) hx hb dX1_floesOut_1 rfl hl (by decide) rfl (fun ls hl => ?_)
  refine lv_iconst (v := 0) hx hb dX1_floesOut_2 (by decide) ?_
  refine lv_istore_n (lv' := [(2, .int 0), (1, .int 0), (0, .ref (a 0))]) hx hb dX1_floesOut_3 rfl hl (by decide) rfl (fun ls hl => ?_)
  refine L4  N 0 0 _ hT (lv_sub hl [2, 1, 0] rfl)
def T_X1_drifted_L6 (N : Nat) (p1 : Int32) (p3 : Int32) (p4 : Int32) (g_ways : Nat → Int32) (g_strengths : Nat → Int32)  : Nat → Int32 → Int32 → Option Int32
  | 0, _, _ => none
  | n + 1, x1, x2 => (if p4 ≤ x2 then (some x1) else (Option.bind (T_X1_nextCell N g_ways g_strengths p1 x1 (p3 + x2)) fun u9 => (lt' (x2 + 1) fun x12 => (T_X1_drifted_L6 N p1 p3 p4 g_ways g_strengths n u9 x12))))
theorem T_X1_drifted_L6_s (N : Nat) (p1 : Int32) (p3 : Int32) (p4 : Int32) (g_ways : Nat → Int32) (g_strengths : Nat → Int32)  (n : Nat) (x1 : Int32) (x2 : Int32) : T_X1_drifted_L6 N p1 p3 p4 g_ways g_strengths  (n + 1) x1 x2 = (if p4 ≤ x2 then (some x1) else (Option.bind (T_X1_nextCell N g_ways g_strengths p1 x1 (p3 + x2)) fun u9 => (lt' (x2 + 1) fun x12 => (T_X1_drifted_L6 N p1 p3 p4 g_ways g_strengths n u9 x12)))) := rfl
def T_X1_drifted (N : Nat) (g_ways : Nat → Int32) (g_strengths : Nat → Int32) (p1 : Int32) (p2 : Int32) (p3 : Int32) (p4 : Int32) : Option Int32 :=
  (T_X1_drifted_L6 N p1 p3 p4 g_ways g_strengths N p2 0)
abbrev rm_X1_drifted : Room := { frames := 3, cells := 0, slots := 0, locals := 75 }
set_option maxHeartbeats 4000000 in
set_option maxRecDepth 100000 in
theorem c_X1_drifted (l : Launch) (D : va_G) (cyI cyJ cyS : ClassId) (N : Nat) (a : Nat → Nat) (g_month : Int32) (g_floes : Int32) (g_founds : Int32) (g_notes : Int32) (g_undos : Int32) (g_ways : Nat → Int32) (g_strengths : Nat → Int32) (p1 : Int32) (p2 : Int32) (p3 : Int32) (p4 : Int32) (R0 : Int32) (hT : T_X1_drifted N g_ways g_strengths p1 p2 p3 p4 = some R0) : Met l yX1_drifted wsX1_drifted rm_X1_drifted (va_Pc [.ref (a 0), .int p1, .int p2, .int p3, .int p4] (preR D (tyS cyI cyJ cyS) [oX1 a g_month g_floes g_founds g_notes g_undos, rI cyI (a 1) 12 g_ways, rI cyI (a 2) 12 g_strengths])) (vp_Si (fun r => r = R0)) 0 0 (fun _ => False) := by
  refine Met.ofW (cc := cX1_drifted) (maxL := 7) (ret := (some .int)) (by decide) rfl ?_
  intro p e s m args below meth c s₁ B hml hv
  obtain ⟨rfl, hP, hKK⟩ := hv
  have hx := B.exec
  have hb := B.bytes
  have hr := B.returns
  have hts := atoms_spec (ws := wsX1_drifted) B.pre
  have hown : s.vm.findClass RX1 = some m.cls := findClass_of_methodNamed B.named
  have hlocks := B.notSynchronized
  have hK := hKK.1
  have inX1 : ∀ w ∈ wsX10, w ∈ wsX1_drifted := (fun _ h => List.mem_cons_of_mem _ (List.mem_append_right _ h))
  have hP : va_P D vwCl [oX1 a g_month g_floes g_founds g_notes g_undos, rI cyI (a 1) 12 g_ways, rI cyI (a 2) 12 g_strengths] s.heap := hP
  have hl := lv_entry [.ref (a 0), .int p1, .int p2, .int p3, .int p4] (n := 7) (Nat.le_of_ble_eq_true rfl)
  rw [lg_entry_eq]
  generalize (lg_sl [.ref (a 0), .int p1, .int p2, .int p3, .int p4] ++ List.replicate (7 - (lg_sl [.ref (a 0), .int p1, .int p2, .int p3, .int p4]).length) Slot.unset).toArray = ls at hl ⊢
  have hl : lv_has ls 7 [(0, .ref (a 0)), (1, .int p1), (2, .int p2), (3, .int p3), (4, .int p4)] := hl
  have L6 : ∀ (n : Nat), ∀ (x1 : Int32) (x2 : Int32) (ls : Array Slot), T_X1_drifted_L6 N p1 p3 p4 g_ways g_strengths n x1 x2 = some R0 → lv_has ls 7 [(0, .ref (a 0)), (1, .int p1), (3, .int p3), (4, .int p4), (5, .int x1), (6, .int x2)] → W p l e (headSpec wsX1_drifted rm_X1_drifted).room s m ([.ref (a 0), .int p1, .int p2, .int p3, .int p4] : List Value).toArray below meth c s.heap [] 0 0 (MQ below (vp_Si (fun r => r = R0)) ([.ref (a 0), .int p1, .int p2, .int p3, .int p4] : List Value).toArray s 0 0 (fun _ => False)) (F0 m 6 ls []) := by
    intro n
    induction n with
    | zero => intro _ _ _ h; exact absurd h (fun z => by cases z)
    | succ n ih =>
      intro x1 x2 ls h3 hl
      rw [T_X1_drifted_L6_s] at h3
      refine lv_iload hx hb dX1_drifted_6 (lv_at hl 5 rfl) ?_
      refine lv_iload hx hb dX1_drifted_8 (lv_at hl 3 rfl) ?_
      refine lv_icmp_ge (tgt := 32) hx hb dX1_drifted_10 (by decide) (fun c6 => ?_) (fun c6 => ?_)
      · have h7 := (if_pos c6).symm.trans h3
        refine lv_iload hx hb dX1_drifted_32 (lv_at hl 4 rfl) ?_
        exact W.iret (v := x1) hx hb hr (fun t ht hW => ⟨x1, rfl, (Option.some.inj h7), ht⟩) (fun q hq => by cases hq) dX1_drifted_34
      · have h8 := (if_neg c6).symm.trans h3
        refine lv_aload_n hx hb dX1_drifted_13 rfl (lv_at hl 0 rfl) ?_
        refine lv_iload_n hx hb dX1_drifted_14 rfl (lv_at hl 1 rfl) ?_
        refine lv_iload hx hb dX1_drifted_15 (lv_at hl 4 rfl) ?_
        refine lv_iload_n hx hb dX1_drifted_17 rfl (lv_at hl 2 rfl) ?_
        refine lv_iload hx hb dX1_drifted_18 (lv_at hl 5 rfl) ?_
        refine lv_iadd hx hb dX1_drifted_20 ?_
        obtain ⟨u9, hu10, h11⟩ := bd_e h8
        refine kc_I (W.runV (As := [.int p1, .int x1, .int (p3 + x2)]) (rest := []) ⟨hx, hb, hml, hown, hts⟩ (c_X1_nextCell l D cyI cyJ cyS N a g_month g_floes g_founds g_notes g_undos g_ways g_strengths p1 x1 (p3 + x2) u9 hu10) (cwV 3 hts gX1_drifted_X1_nextCell rfl rfl rfl (by decide +kernel) ⟨(Nat.le_of_ble_eq_true rfl), (Nat.le_of_ble_eq_true rfl)⟩) (preR_V (hP.sub (ws' := [oX1 a g_month g_floes g_founds g_notes g_undos, rI cyI (a 1) 12 g_ways, rI cyI (a 2) 12 g_strengths]) [0, 1, 2] rfl) hKK (va_recv hK hP (ci := 0) (q0 := 0) rfl rfl)) rfl rfl hl.1 rfl (lv_room (Nat.le_of_ble_eq_true rfl)) dX1_drifted_21 ⟨Nat.zero_le _, Nat.zero_le _⟩) ?_
        refine lv_istore (lv' := [(5, .int u9), (0, .ref (a 0)), (1, .int p1), (3, .int p3), (4, .int p4), (6, .int x2)]) hx hb dX1_drifted_24 hl (by decide) rfl (fun ls hl => ?_)
        obtain ⟨x12, ex12, h13⟩ := lt_e h11
        refine lv_iinc (v := x12) (lv' := [(6, .int x12), (5, .int u9), (0, .ref (a 0)), (1, .int p1), (3, .int p3), (4, .int p4)]) hx hb dX1_drifted_26 hl (k := 5) rfl (by rw [ex12]; rfl) (by decide) rfl (fun ls hl => ?_)
        refine lv_goto (tgt := 6) hx hb dX1_drifted_29 (by decide) ?_
        exact ih u9 x12 _ h13 (lv_sub hl [2, 3, 4, 5, 1, 0] rfl)
  unfold T_X1_drifted at hT
  refine lv_iload_n hx hb dX1_drifted_0 rfl (lv_at hl 2 rfl) ?_
  refine lv_istore (lv' := [(5, .int p2), (0, .ref (a 0)), (1, .int p1), (2, .int p2), (3, .int p3), (4, .int p4)]) hx hb dX1_drifted_1 hl (by decide) rfl (fun ls hl => ?_)
  refine lv_iconst (v := 0) hx hb dX1_drifted_3 (by decide) ?_
  refine lv_istore (lv' := [(6, .int 0), (5, .int p2), (0, .ref (a 0)), (1, .int p1), (2, .int p2), (3, .int p3), (4, .int p4)]) hx hb dX1_drifted_4 hl (by decide) rfl (fun ls hl => ?_)
  refine L6  N p2 0 _ hT (lv_sub hl [2, 3, 5, 6, 1, 0] rfl)
def T_X1_cellBehind (N : Nat) (g_month : Int32) (g_ways : Nat → Int32) (g_strengths : Nat → Int32) (g_kinds : Nat → Int32) (g_cells : Nat → Int32) (p1 : Int32) (p2 : Int32) : Option Int32 :=
  (ob p1 5 (ob p1 5 (Option.bind (T_X1_drifted N g_ways g_strengths (g_kinds p1.toNatClampNeg) (g_cells p1.toNatClampNeg) g_month p2) fun u5 => (some u5))))
abbrev rm_X1_cellBehind : Room := { frames := 4, cells := 0, slots := 0, locals := 101 }
set_option maxHeartbeats 4000000 in
set_option maxRecDepth 100000 in
theorem c_X1_cellBehind (l : Launch) (D : va_G) (cyI cyJ cyS : ClassId) (N : Nat) (a : Nat → Nat) (g_month : Int32) (g_floes : Int32) (g_founds : Int32) (g_notes : Int32) (g_undos : Int32) (g_ways : Nat → Int32) (g_strengths : Nat → Int32) (g_kinds : Nat → Int32) (g_cells : Nat → Int32) (p1 : Int32) (p2 : Int32) (R0 : Int32) (hT : T_X1_cellBehind N g_month g_ways g_strengths g_kinds g_cells p1 p2 = some R0) : Met l yX1_cellBehind wsX1_cellBehind rm_X1_cellBehind (va_Pc [.ref (a 0), .int p1, .int p2] (preR D (tyS cyI cyJ cyS) [oX1 a g_month g_floes g_founds g_notes g_undos, rI cyI (a 1) 12 g_ways, rI cyI (a 2) 12 g_strengths, rI cyI (a 3) 5 g_kinds, rI cyI (a 4) 5 g_cells])) (vp_Si (fun r => r = R0)) 0 0 (fun _ => False) := by
  refine Met.ofW (cc := cX1_cellBehind) (maxL := 3) (ret := (some .int)) (by decide) rfl ?_
  intro p e s m args below meth c s₁ B hml hv
  obtain ⟨rfl, hP, hKK⟩ := hv
  have hx := B.exec
  have hb := B.bytes
  have hr := B.returns
  have hts := atoms_spec (ws := wsX1_cellBehind) B.pre
  have hown : s.vm.findClass RX1 = some m.cls := findClass_of_methodNamed B.named
  have hlocks := B.notSynchronized
  have hK := hKK.1
  have inX1 : ∀ w ∈ wsX10, w ∈ wsX1_cellBehind := (fun _ h => List.mem_cons_of_mem _ (List.mem_append_right _ h))
  have hP : va_P D vwCl [oX1 a g_month g_floes g_founds g_notes g_undos, rI cyI (a 1) 12 g_ways, rI cyI (a 2) 12 g_strengths, rI cyI (a 3) 5 g_kinds, rI cyI (a 4) 5 g_cells] s.heap := hP
  have hl := lv_entry [.ref (a 0), .int p1, .int p2] (n := 3) (Nat.le_of_ble_eq_true rfl)
  rw [lg_entry_eq]
  generalize (lg_sl [.ref (a 0), .int p1, .int p2] ++ List.replicate (3 - (lg_sl [.ref (a 0), .int p1, .int p2]).length) Slot.unset).toArray = ls at hl ⊢
  have hl : lv_has ls 3 [(0, .ref (a 0)), (1, .int p1), (2, .int p2)] := hl
  unfold T_X1_cellBehind at hT
  refine lv_aload_n hx hb dX1_cellBehind_0 rfl (lv_at hl 0 rfl) ?_
  refine lv_aload_n hx hb dX1_cellBehind_1 rfl (lv_at hl 0 rfl) ?_
  refine va_get (D := D) (cl := vwCl) (ci := 0) (v := .ref (a 3)) (C := RX1) (T := TX1) (N := 13) hx hb hts inX1 hown hK hP 0 rfl rfl 4 (by decide) (hts (Cond.fieldLink RX1 18 "FrozenIn$Sea" "kinds" "[I") (List.mem_of_getElem? (i := 1) rfl)) (fun _ h9 => h9) rfl dX1_cellBehind_2 ?_
  refine lv_iload_n hx hb dX1_cellBehind_5 rfl (lv_at hl 1 rfl) ?_
  obtain ⟨hi2, h1⟩ := ob_e hT
  refine va_iald hx hb hK hP 3 0 rfl rfl hi2 dX1_cellBehind_6 ?_
  refine lv_aload_n hx hb dX1_cellBehind_7 rfl (lv_at hl 0 rfl) ?_
  refine va_get (D := D) (cl := vwCl) (ci := 0) (v := .ref (a 4)) (C := RX1) (T := TX1) (N := 13) hx hb hts inX1 hown hK hP 0 rfl rfl 5 (by decide) (hts (Cond.fieldLink RX1 21 "FrozenIn$Sea" "cells" "[I") (List.mem_of_getElem? (i := 2) rfl)) (fun _ h9 => h9) rfl dX1_cellBehind_8 ?_
  refine lv_iload_n hx hb dX1_cellBehind_11 rfl (lv_at hl 1 rfl) ?_
  obtain ⟨hi4, h3⟩ := ob_e h1
  refine va_iald hx hb hK hP 4 0 rfl rfl hi4 dX1_cellBehind_12 ?_
  refine lv_aload_n hx hb dX1_cellBehind_13 rfl (lv_at hl 0 rfl) ?_
  refine va_get (D := D) (cl := vwCl) (ci := 0) (v := .int g_month) (C := RX1) (T := TX1) (N := 13) hx hb hts inX1 hown hK hP 0 rfl rfl 0 (by decide) (hts (Cond.fieldLink RX1 42 "FrozenIn$Sea" "month" "I") (List.mem_of_getElem? (i := 3) rfl)) (fun _ h9 => h9) rfl dX1_cellBehind_14 ?_
  refine lv_iload_n hx hb dX1_cellBehind_17 rfl (lv_at hl 2 rfl) ?_
  obtain ⟨u5, hu6, h7⟩ := bd_e h3
  refine kc_I (W.runV (As := [.int (g_kinds p1.toNatClampNeg), .int (g_cells p1.toNatClampNeg), .int g_month, .int p2]) (rest := []) ⟨hx, hb, hml, hown, hts⟩ (c_X1_drifted l D cyI cyJ cyS N a g_month g_floes g_founds g_notes g_undos g_ways g_strengths (g_kinds p1.toNatClampNeg) (g_cells p1.toNatClampNeg) g_month p2 u5 hu6) (cwV 4 hts gX1_cellBehind_X1_drifted rfl rfl rfl (by decide +kernel) ⟨(Nat.le_of_ble_eq_true rfl), (Nat.le_of_ble_eq_true rfl)⟩) (preR_V (hP.sub (ws' := [oX1 a g_month g_floes g_founds g_notes g_undos, rI cyI (a 1) 12 g_ways, rI cyI (a 2) 12 g_strengths]) [0, 1, 2] rfl) hKK (va_recv hK hP (ci := 0) (q0 := 0) rfl rfl)) rfl rfl hl.1 rfl (lv_room (Nat.le_of_ble_eq_true rfl)) dX1_cellBehind_18 ⟨Nat.zero_le _, Nat.zero_le _⟩) ?_
  exact W.iret (v := u5) hx hb hr (fun t ht hW => ⟨u5, rfl, (Option.some.inj h7), ht⟩) (fun q hq => by cases hq) dX1_cellBehind_21
def T_X1_foodBehind (N : Nat) (g_foods : Nat → Int32) (p1 : Int32) (p2 : Int32) : Option Int32 :=
  (ob p1 5 (some (if 0 < ((g_foods p1.toNatClampNeg) - p2) then ((g_foods p1.toNatClampNeg) - p2) else 0)))
abbrev rm_X1_foodBehind : Room := { frames := 1, cells := 0, slots := 0, locals := 21 }
set_option maxHeartbeats 4000000 in
set_option maxRecDepth 100000 in
theorem c_X1_foodBehind (l : Launch) (D : va_G) (cyI cyJ cyS : ClassId) (N : Nat) (a : Nat → Nat) (g_month : Int32) (g_floes : Int32) (g_founds : Int32) (g_notes : Int32) (g_undos : Int32) (g_foods : Nat → Int32) (p1 : Int32) (p2 : Int32) (R0 : Int32) (hT : T_X1_foodBehind N g_foods p1 p2 = some R0) : Met l yX1_foodBehind wsX1_foodBehind rm_X1_foodBehind (va_Pc [.ref (a 0), .int p1, .int p2] (preR D (tyS cyI cyJ cyS) [oX1 a g_month g_floes g_founds g_notes g_undos, rI cyI (a 5) 5 g_foods])) (vp_Si (fun r => r = R0)) 0 0 (fun _ => False) := by
  refine Met.ofW (cc := cX1_foodBehind) (maxL := 3) (ret := (some .int)) (by decide) rfl ?_
  intro p e s m args below meth c s₁ B hml hv
  obtain ⟨rfl, hP, hKK⟩ := hv
  have hx := B.exec
  have hb := B.bytes
  have hr := B.returns
  have hts := atoms_spec (ws := wsX1_foodBehind) B.pre
  have hown : s.vm.findClass RX1 = some m.cls := findClass_of_methodNamed B.named
  have hlocks := B.notSynchronized
  have hK := hKK.1
  have inX1 : ∀ w ∈ wsX10, w ∈ wsX1_foodBehind := (fun _ h => List.mem_cons_of_mem _ (List.mem_append_right _ h))
  have hP : va_P D vwCl [oX1 a g_month g_floes g_founds g_notes g_undos, rI cyI (a 5) 5 g_foods] s.heap := hP
  have hl := lv_entry [.ref (a 0), .int p1, .int p2] (n := 3) (Nat.le_of_ble_eq_true rfl)
  rw [lg_entry_eq]
  generalize (lg_sl [.ref (a 0), .int p1, .int p2] ++ List.replicate (3 - (lg_sl [.ref (a 0), .int p1, .int p2]).length) Slot.unset).toArray = ls at hl ⊢
  have hl : lv_has ls 3 [(0, .ref (a 0)), (1, .int p1), (2, .int p2)] := hl
  unfold T_X1_foodBehind at hT
  refine lv_iconst (v := 0) hx hb dX1_foodBehind_0 (by decide) ?_
  refine lv_aload_n hx hb dX1_foodBehind_1 rfl (lv_at hl 0 rfl) ?_
  refine va_get (D := D) (cl := vwCl) (ci := 0) (v := .ref (a 5)) (C := RX1) (T := TX1) (N := 13) hx hb hts inX1 hown hK hP 0 rfl rfl 6 (by decide) (hts (Cond.fieldLink RX1 24 "FrozenIn$Sea" "foods" "[I") (List.mem_of_getElem? (i := 1) rfl)) (fun _ h9 => h9) rfl dX1_foodBehind_2 ?_
  refine lv_iload_n hx hb dX1_foodBehind_5 rfl (lv_at hl 1 rfl) ?_
  obtain ⟨hi2, h1⟩ := ob_e hT
  refine va_iald hx hb hK hP 1 0 rfl rfl hi2 dX1_foodBehind_6 ?_
  refine lv_iload_n hx hb dX1_foodBehind_7 rfl (lv_at hl 2 rfl) ?_
  refine lv_isub hx hb dX1_foodBehind_8 ?_
  refine va_mmax hx hb (hml.trans hl.1.symm) hown (hts (Cond.methodLink RX1 68 Lib.Math.max.name) (List.mem_of_getElem? (i := 2) rfl)) (hts (Cond.static Lib.Math.max.name) (List.mem_of_getElem? (i := 3) rfl)) (hts (Cond.initialized "java/lang/Math") (List.mem_of_getElem? (i := 4) rfl)) (hts (Cond.code Lib.Math.max.name Lib.Math.max.code 2 (some .int)) (List.mem_of_getElem? (i := 5) rfl)) (Nat.le_of_ble_eq_true rfl) (Nat.le_of_ble_eq_true rfl) (Nat.zero_le _) (Nat.zero_le _) dX1_foodBehind_9 ?_
  exact W.iret (v := (if 0 < ((g_foods p1.toNatClampNeg) - p2) then ((g_foods p1.toNatClampNeg) - p2) else 0)) hx hb hr (fun t ht hW => ⟨(if 0 < ((g_foods p1.toNatClampNeg) - p2) then ((g_foods p1.toNatClampNeg) - p2) else 0), rfl, (Option.some.inj h1), ht⟩) (fun q hq => by cases hq) dX1_foodBehind_12
def T_X1_firstOut_L5 (N : Nat) (p1 : Int32) (g_month : Int32) (g_ways : Nat → Int32) (g_strengths : Nat → Int32)  : Nat → Int32 → Int32 → Option Int32
  | 0, _, _ => none
  | n + 1, x1, x2 => (if 60 < x2 then (some (-1)) else (if (T_X3_isOut x1) = 0 then (Option.bind (T_X1_nextCell N g_ways g_strengths p1 x1 (g_month + x2)) fun u12 => (lt' (x2 + 1) fun x15 => (T_X1_firstOut_L5 N p1 g_month g_ways g_strengths n u12 x15))) else (some x2)))
theorem T_X1_firstOut_L5_s (N : Nat) (p1 : Int32) (g_month : Int32) (g_ways : Nat → Int32) (g_strengths : Nat → Int32)  (n : Nat) (x1 : Int32) (x2 : Int32) : T_X1_firstOut_L5 N p1 g_month g_ways g_strengths  (n + 1) x1 x2 = (if 60 < x2 then (some (-1)) else (if (T_X3_isOut x1) = 0 then (Option.bind (T_X1_nextCell N g_ways g_strengths p1 x1 (g_month + x2)) fun u12 => (lt' (x2 + 1) fun x15 => (T_X1_firstOut_L5 N p1 g_month g_ways g_strengths n u12 x15))) else (some x2))) := rfl
def T_X1_firstOut (N : Nat) (g_month : Int32) (g_ways : Nat → Int32) (g_strengths : Nat → Int32) (p1 : Int32) (p2 : Int32) : Option Int32 :=
  (T_X1_firstOut_L5 N p1 g_month g_ways g_strengths N p2 0)
abbrev rm_X1_firstOut : Room := { frames := 3, cells := 0, slots := 0, locals := 75 }
set_option maxHeartbeats 4000000 in
set_option maxRecDepth 100000 in
theorem c_X1_firstOut (l : Launch) (D : va_G) (cyI cyJ cyS : ClassId) (N : Nat) (a : Nat → Nat) (g_month : Int32) (g_floes : Int32) (g_founds : Int32) (g_notes : Int32) (g_undos : Int32) (g_ways : Nat → Int32) (g_strengths : Nat → Int32) (p1 : Int32) (p2 : Int32) (R0 : Int32) (hT : T_X1_firstOut N g_month g_ways g_strengths p1 p2 = some R0) : Met l yX1_firstOut wsX1_firstOut rm_X1_firstOut (va_Pc [.ref (a 0), .int p1, .int p2] (preR D (tyS cyI cyJ cyS) [oX1 a g_month g_floes g_founds g_notes g_undos, rI cyI (a 1) 12 g_ways, rI cyI (a 2) 12 g_strengths])) (vp_Si (fun r => r = R0)) 0 0 (fun _ => False) := by
  refine Met.ofW (cc := cX1_firstOut) (maxL := 5) (ret := (some .int)) (by decide) rfl ?_
  intro p e s m args below meth c s₁ B hml hv
  obtain ⟨rfl, hP, hKK⟩ := hv
  have hx := B.exec
  have hb := B.bytes
  have hr := B.returns
  have hts := atoms_spec (ws := wsX1_firstOut) B.pre
  have hown : s.vm.findClass RX1 = some m.cls := findClass_of_methodNamed B.named
  have hlocks := B.notSynchronized
  have hK := hKK.1
  have inX1 : ∀ w ∈ wsX10, w ∈ wsX1_firstOut := (fun _ h => List.mem_cons_of_mem _ (List.mem_append_right _ h))
  have hP : va_P D vwCl [oX1 a g_month g_floes g_founds g_notes g_undos, rI cyI (a 1) 12 g_ways, rI cyI (a 2) 12 g_strengths] s.heap := hP
  have hl := lv_entry [.ref (a 0), .int p1, .int p2] (n := 5) (Nat.le_of_ble_eq_true rfl)
  rw [lg_entry_eq]
  generalize (lg_sl [.ref (a 0), .int p1, .int p2] ++ List.replicate (5 - (lg_sl [.ref (a 0), .int p1, .int p2]).length) Slot.unset).toArray = ls at hl ⊢
  have hl : lv_has ls 5 [(0, .ref (a 0)), (1, .int p1), (2, .int p2)] := hl
  have L5 : ∀ (n : Nat), ∀ (x1 : Int32) (x2 : Int32) (ls : Array Slot), T_X1_firstOut_L5 N p1 g_month g_ways g_strengths n x1 x2 = some R0 → lv_has ls 5 [(0, .ref (a 0)), (1, .int p1), (3, .int x1), (4, .int x2)] → W p l e (headSpec wsX1_firstOut rm_X1_firstOut).room s m ([.ref (a 0), .int p1, .int p2] : List Value).toArray below meth c s.heap [] 0 0 (MQ below (vp_Si (fun r => r = R0)) ([.ref (a 0), .int p1, .int p2] : List Value).toArray s 0 0 (fun _ => False)) (F0 m 5 ls []) := by
    intro n
    induction n with
    | zero => intro _ _ _ h; exact absurd h (fun z => by cases z)
    | succ n ih =>
      intro x1 x2 ls h3 hl
      rw [T_X1_firstOut_L5_s] at h3
      refine lv_iload hx hb dX1_firstOut_5 (lv_at hl 3 rfl) ?_
      refine lv_bipush (v := 60) hx hb dX1_firstOut_7 (by decide) ?_
      refine lv_icmp_gt (tgt := 42) hx hb dX1_firstOut_9 (by decide) (fun c6 => ?_) (fun c6 => ?_)
      · have h7 := (if_pos c6).symm.trans h3
        refine lv_iconst (v := (-1)) hx hb dX1_firstOut_42 (by decide) ?_
        exact W.iret (v := (-1)) hx hb hr (fun t ht hW => ⟨(-1), rfl, (Option.some.inj h7), ht⟩) (fun q hq => by cases hq) dX1_firstOut_43
      · have h8 := (if_neg c6).symm.trans h3
        refine lv_iload_n hx hb dX1_firstOut_12 rfl (lv_at hl 2 rfl) ?_
        refine kc_Z (va_runSN (As := [.int x1]) (rest := []) ⟨hx, hb, hml, hown, hts⟩ (c_X3_isOut l x1 (T_X3_isOut x1) rfl) ⟨va_cnB 1 hts gX1_firstOut_X3_isOut_n74 rfl rfl rfl hKK.2.2.1 (hts (Cond.initialized RX3) (List.mem_of_getElem? (i := 3) rfl)) (by decide +kernel) ⟨(Nat.le_of_ble_eq_true rfl), (Nat.le_of_ble_eq_true rfl)⟩, (hts (Cond.static yX3_isOut) (List.mem_of_getElem? (i := 2) rfl)), trivial⟩ preT_S rfl rfl hl.1 rfl (lv_room (Nat.le_of_ble_eq_true rfl)) dX1_firstOut_13 ⟨Nat.zero_le _, Nat.zero_le _⟩).run (fun hn9 => ?_)
        refine lv_if_eq (tgt := 22) hx hb dX1_firstOut_16 (by decide) (fun c10 => ?_) (fun c10 => ?_)
        · have h11 := (if_pos c10).symm.trans h8
          refine lv_aload_n hx hb dX1_firstOut_22 rfl (lv_at hl 0 rfl) ?_
          refine lv_iload_n hx hb dX1_firstOut_23 rfl (lv_at hl 1 rfl) ?_
          refine lv_iload_n hx hb dX1_firstOut_24 rfl (lv_at hl 2 rfl) ?_
          refine lv_aload_n hx hb dX1_firstOut_25 rfl (lv_at hl 0 rfl) ?_
          refine va_get (D := D) (cl := vwCl) (ci := 0) (v := .int g_month) (C := RX1) (T := TX1) (N := 13) hx hb hts inX1 hown hK hP 0 rfl rfl 0 (by decide) (hts (Cond.fieldLink RX1 42 "FrozenIn$Sea" "month" "I") (List.mem_of_getElem? (i := 1) rfl)) (fun _ h9 => h9) rfl dX1_firstOut_26 ?_
          refine lv_iload hx hb dX1_firstOut_29 (lv_at hl 3 rfl) ?_
          refine lv_iadd hx hb dX1_firstOut_31 ?_
          obtain ⟨u12, hu13, h14⟩ := bd_e h11
          refine kc_I (W.runV (As := [.int p1, .int x1, .int (g_month + x2)]) (rest := []) ⟨hx, hb, hml, hown, hts⟩ (c_X1_nextCell l D cyI cyJ cyS N a g_month g_floes g_founds g_notes g_undos g_ways g_strengths p1 x1 (g_month + x2) u12 hu13) (cwV 3 hts gX1_firstOut_X1_nextCell rfl rfl rfl (by decide +kernel) ⟨(Nat.le_of_ble_eq_true rfl), (Nat.le_of_ble_eq_true rfl)⟩) (preR_V (hP.sub (ws' := [oX1 a g_month g_floes g_founds g_notes g_undos, rI cyI (a 1) 12 g_ways, rI cyI (a 2) 12 g_strengths]) [0, 1, 2] rfl) hKK (va_recv hK hP (ci := 0) (q0 := 0) rfl rfl)) rfl rfl hl.1 rfl (lv_room (Nat.le_of_ble_eq_true rfl)) dX1_firstOut_32 ⟨Nat.zero_le _, Nat.zero_le _⟩) ?_
          refine lv_istore_n (lv' := [(3, .int u12), (0, .ref (a 0)), (1, .int p1), (4, .int x2)]) hx hb dX1_firstOut_35 rfl hl (by decide) rfl (fun ls hl => ?_)
          obtain ⟨x15, ex15, h16⟩ := lt_e h14
          refine lv_iinc (v := x15) (lv' := [(4, .int x15), (3, .int u12), (0, .ref (a 0)), (1, .int p1)]) hx hb dX1_firstOut_36 hl (k := 3) rfl (by rw [ex15]; rfl) (by decide) rfl (fun ls hl => ?_)
          refine lv_goto (tgt := 5) hx hb dX1_firstOut_39 (by decide) ?_
          exact ih u12 x15 _ h16 (lv_sub hl [2, 3, 1, 0] rfl)
        · have h17 := (if_neg c10).symm.trans h8
          refine lv_iload hx hb dX1_firstOut_19 (lv_at hl 3 rfl) ?_
          exact W.iret (v := x2) hx hb hr (fun t ht hW => ⟨x2, rfl, (Option.some.inj h17), ht⟩) (fun q hq => by cases hq) dX1_firstOut_21
  unfold T_X1_firstOut at hT
  refine lv_iload_n hx hb dX1_firstOut_0 rfl (lv_at hl 2 rfl) ?_
  refine lv_istore_n (lv' := [(3, .int p2), (0, .ref (a 0)), (1, .int p1), (2, .int p2)]) hx hb dX1_firstOut_1 rfl hl (by decide) rfl (fun ls hl => ?_)
  refine lv_iconst (v := 0) hx hb dX1_firstOut_2 (by decide) ?_
  refine lv_istore (lv' := [(4, .int 0), (3, .int p2), (0, .ref (a 0)), (1, .int p1), (2, .int p2)]) hx hb dX1_firstOut_3 hl (by decide) rfl (fun ls hl => ?_)
  refine L5  N p2 0 _ hT (lv_sub hl [2, 3, 1, 0] rfl)
def T_X1_cellBySeed_L15 (N : Nat) (p1 : Int32) (p3 : Int32) (g_month : Int32) (g_kinds : Nat → Int32)  : Nat → Int32 → Int64 → Int32 → Option Int32
  | 0, _, _, _ => none
  | n + 1, x7, x8, x9 => (if p3 ≤ x9 then (some x7) else (lt' (((x8 * 1103515245) + 12345) - ((x8 * 1103515245) + 12345) / 2147483648 * 2147483648) fun x16 => (lt' (((x16 / 65536) - (x16 / 65536) / 4 * 4).toInt32) fun x18 => (lt' (((x16 / 1048576) - (x16 / 1048576) / 4 * 4).toInt32) fun x20 => (ob p1 5 (lt' (T_X0_cellBy (g_kinds p1.toNatClampNeg) x7 (g_month + x9) x18 x20) fun x24 => (lt' (x9 + 1) fun x26 => (T_X1_cellBySeed_L15 N p1 p3 g_month g_kinds n x24 x16 x26))))))))
theorem T_X1_cellBySeed_L15_s (N : Nat) (p1 : Int32) (p3 : Int32) (g_month : Int32) (g_kinds : Nat → Int32)  (n : Nat) (x7 : Int32) (x8 : Int64) (x9 : Int32) : T_X1_cellBySeed_L15 N p1 p3 g_month g_kinds  (n + 1) x7 x8 x9 = (if p3 ≤ x9 then (some x7) else (lt' (((x8 * 1103515245) + 12345) - ((x8 * 1103515245) + 12345) / 2147483648 * 2147483648) fun x16 => (lt' (((x16 / 65536) - (x16 / 65536) / 4 * 4).toInt32) fun x18 => (lt' (((x16 / 1048576) - (x16 / 1048576) / 4 * 4).toInt32) fun x20 => (ob p1 5 (lt' (T_X0_cellBy (g_kinds p1.toNatClampNeg) x7 (g_month + x9) x18 x20) fun x24 => (lt' (x9 + 1) fun x26 => (T_X1_cellBySeed_L15 N p1 p3 g_month g_kinds n x24 x16 x26)))))))) := rfl
def T_X1_cellBySeed (N : Nat) (g_month : Int32) (g_kinds : Nat → Int32) (g_cells : Nat → Int32) (p1 : Int32) (p2 : Int32) (p3 : Int32) : Option Int32 :=
  (ob p1 5 (lt' (g_cells p1.toNatClampNeg) fun x3 => (lt' p2.toInt64 fun x5 => (T_X1_cellBySeed_L15 N p1 p3 g_month g_kinds N x3 x5 0))))
abbrev rm_X1_cellBySeed : Room := { frames := 2, cells := 0, slots := 0, locals := 51 }
set_option maxHeartbeats 4000000 in
set_option maxRecDepth 100000 in
theorem c_X1_cellBySeed (l : Launch) (D : va_G) (cyI cyJ cyS : ClassId) (N : Nat) (a : Nat → Nat) (g_month : Int32) (g_floes : Int32) (g_founds : Int32) (g_notes : Int32) (g_undos : Int32) (g_kinds : Nat → Int32) (g_cells : Nat → Int32) (p1 : Int32) (p2 : Int32) (p3 : Int32) (R0 : Int32) (hT : T_X1_cellBySeed N g_month g_kinds g_cells p1 p2 p3 = some R0) : Met l yX1_cellBySeed wsX1_cellBySeed rm_X1_cellBySeed (va_Pc [.ref (a 0), .int p1, .int p2, .int p3] (preR D (tyS cyI cyJ cyS) [oX1 a g_month g_floes g_founds g_notes g_undos, rI cyI (a 3) 5 g_kinds, rI cyI (a 4) 5 g_cells])) (vp_Si (fun r => r = R0)) 0 0 (fun _ => False) := by
  refine Met.ofW (cc := cX1_cellBySeed) (maxL := 10) (ret := (some .int)) (by decide) rfl ?_
  intro p e s m args below meth c s₁ B hml hv
  obtain ⟨rfl, hP, hKK⟩ := hv
  have hx := B.exec
  have hb := B.bytes
  have hr := B.returns
  have hts := atoms_spec (ws := wsX1_cellBySeed) B.pre
  have hown : s.vm.findClass RX1 = some m.cls := findClass_of_methodNamed B.named
  have hlocks := B.notSynchronized
  have hK := hKK.1
  have inX1 : ∀ w ∈ wsX10, w ∈ wsX1_cellBySeed := (fun _ h => List.mem_cons_of_mem _ (List.mem_append_right _ h))
  have hP : va_P D vwCl [oX1 a g_month g_floes g_founds g_notes g_undos, rI cyI (a 3) 5 g_kinds, rI cyI (a 4) 5 g_cells] s.heap := hP
  have hl := lv_entry [.ref (a 0), .int p1, .int p2, .int p3] (n := 10) (Nat.le_of_ble_eq_true rfl)
  rw [lg_entry_eq]
  generalize (lg_sl [.ref (a 0), .int p1, .int p2, .int p3] ++ List.replicate (10 - (lg_sl [.ref (a 0), .int p1, .int p2, .int p3]).length) Slot.unset).toArray = ls at hl ⊢
  have hl : lv_has ls 10 [(0, .ref (a 0)), (1, .int p1), (2, .int p2), (3, .int p3)] := hl
  have L15 : ∀ (n : Nat), ∀ (x7 : Int32) (x8 : Int64) (x9 : Int32) (ls : Array Slot), T_X1_cellBySeed_L15 N p1 p3 g_month g_kinds n x7 x8 x9 = some R0 → lv_has ls 10 [(0, .ref (a 0)), (1, .int p1), (3, .int p3), (4, .int x7), (5, .long x8), (7, .int x9)] → W p l e (headSpec wsX1_cellBySeed rm_X1_cellBySeed).room s m ([.ref (a 0), .int p1, .int p2, .int p3] : List Value).toArray below meth c s.heap [] 0 0 (MQ below (vp_Si (fun r => r = R0)) ([.ref (a 0), .int p1, .int p2, .int p3] : List Value).toArray s 0 0 (fun _ => False)) (F0 m 15 ls []) := by
    intro n
    induction n with
    | zero => intro _ _ _ _ h; exact absurd h (fun z => by cases z)
    | succ n ih =>
      intro x7 x8 x9 ls h10 hl
      rw [T_X1_cellBySeed_L15_s] at h10
      refine lv_iload hx hb dX1_cellBySeed_15 (lv_at hl 5 rfl) ?_
      refine lv_iload_n hx hb dX1_cellBySeed_17 rfl (lv_at hl 2 rfl) ?_
      refine lv_icmp_ge (tgt := 93) hx hb dX1_cellBySeed_18 (by decide) (fun c13 => ?_) (fun c13 => ?_)
      · have h14 := (if_pos c13).symm.trans h10
        refine lv_iload hx hb dX1_cellBySeed_93 (lv_at hl 3 rfl) ?_
        exact W.iret (v := x7) hx hb hr (fun t ht hW => ⟨x7, rfl, (Option.some.inj h14), ht⟩) (fun q hq => by cases hq) dX1_cellBySeed_95
      · have h15 := (if_neg c13).symm.trans h10
        refine lv_lload hx hb dX1_cellBySeed_21 (lv_at hl 4 rfl) ?_
        refine lv_ldc2 (v := 1103515245) hx hb hown (hts (Cond.constantLong RX1 88 (1103515245)) (List.mem_of_getElem? (i := 2) rfl)) dX1_cellBySeed_23 ?_
        refine lv_lmul hx hb dX1_cellBySeed_26 ?_
        refine lv_ldc2 (v := 12345) hx hb hown (hts (Cond.constantLong RX1 90 (12345)) (List.mem_of_getElem? (i := 3) rfl)) dX1_cellBySeed_27 ?_
        refine lv_ladd hx hb dX1_cellBySeed_30 ?_
        refine lv_ldc2 (v := 2147483648) hx hb hown (hts (Cond.constantLong RX1 92 (2147483648)) (List.mem_of_getElem? (i := 4) rfl)) dX1_cellBySeed_31 ?_
        refine lv_lrem hx hb dX1_cellBySeed_34 (by decide) ?_
        obtain ⟨x16, ex16, h17⟩ := lt_e h15
        refine lv_nml ex16 ?_
        refine lv_lstore (lv' := [(5, .long x16), (0, .ref (a 0)), (1, .int p1), (3, .int p3), (4, .int x7), (7, .int x9)]) hx hb dX1_cellBySeed_35 hl (by decide) rfl (fun ls hl => ?_)
        refine lv_lload hx hb dX1_cellBySeed_37 (lv_at hl 0 rfl) ?_
        refine lv_ldc2 (v := 65536) hx hb hown (hts (Cond.constantLong RX1 94 (65536)) (List.mem_of_getElem? (i := 5) rfl)) dX1_cellBySeed_39 ?_
        refine lv_ldiv hx hb dX1_cellBySeed_42 (by decide) ?_
        refine lv_ldc2 (v := 4) hx hb hown (hts (Cond.constantLong RX1 96 (4)) (List.mem_of_getElem? (i := 6) rfl)) dX1_cellBySeed_43 ?_
        refine lv_lrem hx hb dX1_cellBySeed_46 (by decide) ?_
        refine lv_l2i (v := ((x16 / 65536) - (x16 / 65536) / 4 * 4).toInt32) hx hb dX1_cellBySeed_47 rfl ?_
        obtain ⟨x18, ex18, h19⟩ := lt_e h17
        refine lv_nm ex18 ?_
        refine lv_istore (lv' := [(8, .int x18), (5, .long x16), (0, .ref (a 0)), (1, .int p1), (3, .int p3), (4, .int x7), (7, .int x9)]) hx hb dX1_cellBySeed_48 hl (by decide) rfl (fun ls hl => ?_)
        refine lv_lload hx hb dX1_cellBySeed_50 (lv_at hl 1 rfl) ?_
        refine lv_ldc2 (v := 1048576) hx hb hown (hts (Cond.constantLong RX1 98 (1048576)) (List.mem_of_getElem? (i := 7) rfl)) dX1_cellBySeed_52 ?_
        refine lv_ldiv hx hb dX1_cellBySeed_55 (by decide) ?_
        refine lv_ldc2 (v := 4) hx hb hown (hts (Cond.constantLong RX1 96 (4)) (List.mem_of_getElem? (i := 6) rfl)) dX1_cellBySeed_56 ?_
        refine lv_lrem hx hb dX1_cellBySeed_59 (by decide) ?_
        refine lv_l2i (v := ((x16 / 1048576) - (x16 / 1048576) / 4 * 4).toInt32) hx hb dX1_cellBySeed_60 rfl ?_
        obtain ⟨x20, ex20, h21⟩ := lt_e h19
        refine lv_nm ex20 ?_
        refine lv_istore (lv' := [(9, .int x20), (8, .int x18), (5, .long x16), (0, .ref (a 0)), (1, .int p1), (3, .int p3), (4, .int x7), (7, .int x9)]) hx hb dX1_cellBySeed_61 hl (by decide) rfl (fun ls hl => ?_)
        refine lv_aload_n hx hb dX1_cellBySeed_63 rfl (lv_at hl 3 rfl) ?_
        refine va_get (D := D) (cl := vwCl) (ci := 0) (v := .ref (a 3)) (C := RX1) (T := TX1) (N := 13) hx hb hts inX1 hown hK hP 0 rfl rfl 4 (by decide) (hts (Cond.fieldLink RX1 18 "FrozenIn$Sea" "kinds" "[I") (List.mem_of_getElem? (i := 8) rfl)) (fun _ h9 => h9) rfl dX1_cellBySeed_64 ?_
        refine lv_iload_n hx hb dX1_cellBySeed_67 rfl (lv_at hl 4 rfl) ?_
        obtain ⟨hi23, h22⟩ := ob_e h21
        refine va_iald hx hb hK hP 1 0 rfl rfl hi23 dX1_cellBySeed_68 ?_
        refine lv_iload hx hb dX1_cellBySeed_69 (lv_at hl 6 rfl) ?_
        refine lv_aload_n hx hb dX1_cellBySeed_71 rfl (lv_at hl 3 rfl) ?_
        refine va_get (D := D) (cl := vwCl) (ci := 0) (v := .int g_month) (C := RX1) (T := TX1) (N := 13) hx hb hts inX1 hown hK hP 0 rfl rfl 0 (by decide) (hts (Cond.fieldLink RX1 42 "FrozenIn$Sea" "month" "I") (List.mem_of_getElem? (i := 9) rfl)) (fun _ h9 => h9) rfl dX1_cellBySeed_72 ?_
        refine lv_iload hx hb dX1_cellBySeed_75 (lv_at hl 7 rfl) ?_
        refine lv_iadd hx hb dX1_cellBySeed_77 ?_
        refine lv_iload hx hb dX1_cellBySeed_78 (lv_at hl 1 rfl) ?_
        refine lv_iload hx hb dX1_cellBySeed_80 (lv_at hl 0 rfl) ?_
        refine kc_I (W.runS (As := [.int (g_kinds p1.toNatClampNeg), .int x7, .int (g_month + x9), .int x18, .int x20]) (rest := []) ⟨hx, hb, hml, hown, hts⟩ (c_X0_cellBy l (g_kinds p1.toNatClampNeg) x7 (g_month + x9) x18 x20 (T_X0_cellBy (g_kinds p1.toNatClampNeg) x7 (g_month + x9) x18 x20) rfl) (va_cwS 5 hts gX1_cellBySeed_X0_cellBy rfl rfl rfl (by decide +kernel) ⟨(Nat.le_of_ble_eq_true rfl), (Nat.le_of_ble_eq_true rfl)⟩) preT_S rfl rfl hl.1 rfl (lv_room (Nat.le_of_ble_eq_true rfl)) dX1_cellBySeed_82 ⟨Nat.zero_le _, Nat.zero_le _⟩) ?_
        obtain ⟨x24, ex24, h25⟩ := lt_e h22
        refine lv_nm ex24 ?_
        refine lv_istore (lv' := [(4, .int x24), (9, .int x20), (8, .int x18), (5, .long x16), (0, .ref (a 0)), (1, .int p1), (3, .int p3), (7, .int x9)]) hx hb dX1_cellBySeed_85 hl (by decide) rfl (fun ls hl => ?_)
        obtain ⟨x26, ex26, h27⟩ := lt_e h25
        refine lv_iinc (v := x26) (lv' := [(7, .int x26), (4, .int x24), (9, .int x20), (8, .int x18), (5, .long x16), (0, .ref (a 0)), (1, .int p1), (3, .int p3)]) hx hb dX1_cellBySeed_87 hl (k := 7) rfl (by rw [ex26]; rfl) (by decide) rfl (fun ls hl => ?_)
        refine lv_goto (tgt := 15) hx hb dX1_cellBySeed_90 (by decide) ?_
        exact ih x24 x16 x26 _ h27 (lv_sub hl [5, 6, 7, 1, 4, 0] rfl)
  unfold T_X1_cellBySeed at hT
  refine lv_aload_n hx hb dX1_cellBySeed_0 rfl (lv_at hl 0 rfl) ?_
  refine va_get (D := D) (cl := vwCl) (ci := 0) (v := .ref (a 4)) (C := RX1) (T := TX1) (N := 13) hx hb hts inX1 hown hK hP 0 rfl rfl 5 (by decide) (hts (Cond.fieldLink RX1 21 "FrozenIn$Sea" "cells" "[I") (List.mem_of_getElem? (i := 1) rfl)) (fun _ h9 => h9) rfl dX1_cellBySeed_1 ?_
  refine lv_iload_n hx hb dX1_cellBySeed_4 rfl (lv_at hl 1 rfl) ?_
  obtain ⟨hi2, h1⟩ := ob_e hT
  refine va_iald hx hb hK hP 2 0 rfl rfl hi2 dX1_cellBySeed_5 ?_
  obtain ⟨x3, ex3, h4⟩ := lt_e h1
  refine lv_nm ex3 ?_
  refine lv_istore (lv' := [(4, .int x3), (0, .ref (a 0)), (1, .int p1), (2, .int p2), (3, .int p3)]) hx hb dX1_cellBySeed_6 hl (by decide) rfl (fun ls hl => ?_)
  refine lv_iload_n hx hb dX1_cellBySeed_8 rfl (lv_at hl 3 rfl) ?_
  refine lv_i2l (v := p2.toInt64) hx hb dX1_cellBySeed_9 rfl ?_
  obtain ⟨x5, ex5, h6⟩ := lt_e h4
  refine lv_nml ex5 ?_
  refine lv_lstore (lv' := [(5, .long x5), (4, .int x3), (0, .ref (a 0)), (1, .int p1), (2, .int p2), (3, .int p3)]) hx hb dX1_cellBySeed_10 hl (by decide) rfl (fun ls hl => ?_)
  refine lv_iconst (v := 0) hx hb dX1_cellBySeed_12 (by decide) ?_
  refine lv_istore (lv' := [(7, .int 0), (5, .long x5), (4, .int x3), (0, .ref (a 0)), (1, .int p1), (2, .int p2), (3, .int p3)]) hx hb dX1_cellBySeed_13 hl (by decide) rfl (fun ls hl => ?_)
  refine L15  N x3 x5 0 _ h6 (lv_sub hl [3, 4, 6, 2, 1, 0] rfl)
def T_X1_allFoundFrom_L2 (N : Nat) (p1 : Int32) (g_founds : Int32) (g_ways : Nat → Int32) (g_strengths : Nat → Int32) (g_foundRows : Nat → Int32)  : Nat → Int32 → Option Int32
  | 0, _ => none
  | n + 1, x1 => (if g_founds ≤ x1 then (some 1) else (lt' (3 * x1) fun x8 => (ob x8 12 (ob (x8 + 1) 12 (Option.bind (T_X1_drifted N g_ways g_strengths (g_foundRows x8.toNatClampNeg) p1 0 (g_foundRows (x8 + 1).toNatClampNeg)) fun u14 => (ob (x8 + 2) 12 (if u14 = (g_foundRows (x8 + 2).toNatClampNeg) then (lt' (x1 + 1) fun x21 => (T_X1_allFoundFrom_L2 N p1 g_founds g_ways g_strengths g_foundRows n x21)) else (some 0))))))))
theorem T_X1_allFoundFrom_L2_s (N : Nat) (p1 : Int32) (g_founds : Int32) (g_ways : Nat → Int32) (g_strengths : Nat → Int32) (g_foundRows : Nat → Int32)  (n : Nat) (x1 : Int32) : T_X1_allFoundFrom_L2 N p1 g_founds g_ways g_strengths g_foundRows  (n + 1) x1 = (if g_founds ≤ x1 then (some 1) else (lt' (3 * x1) fun x8 => (ob x8 12 (ob (x8 + 1) 12 (Option.bind (T_X1_drifted N g_ways g_strengths (g_foundRows x8.toNatClampNeg) p1 0 (g_foundRows (x8 + 1).toNatClampNeg)) fun u14 => (ob (x8 + 2) 12 (if u14 = (g_foundRows (x8 + 2).toNatClampNeg) then (lt' (x1 + 1) fun x21 => (T_X1_allFoundFrom_L2 N p1 g_founds g_ways g_strengths g_foundRows n x21)) else (some 0)))))))) := rfl
def T_X1_allFoundFrom (N : Nat) (g_founds : Int32) (g_ways : Nat → Int32) (g_strengths : Nat → Int32) (g_foundRows : Nat → Int32) (p1 : Int32) : Option Int32 :=
  (T_X1_allFoundFrom_L2 N p1 g_founds g_ways g_strengths g_foundRows N 0)
abbrev rm_X1_allFoundFrom : Room := { frames := 4, cells := 0, slots := 0, locals := 101 }
set_option maxHeartbeats 4000000 in
set_option maxRecDepth 100000 in
theorem c_X1_allFoundFrom (l : Launch) (D : va_G) (cyI cyJ cyS : ClassId) (N : Nat) (a : Nat → Nat) (g_month : Int32) (g_floes : Int32) (g_founds : Int32) (g_notes : Int32) (g_undos : Int32) (g_ways : Nat → Int32) (g_strengths : Nat → Int32) (g_foundRows : Nat → Int32) (p1 : Int32) (R0 : Int32) (hT : T_X1_allFoundFrom N g_founds g_ways g_strengths g_foundRows p1 = some R0) : Met l yX1_allFoundFrom wsX1_allFoundFrom rm_X1_allFoundFrom (va_Pc [.ref (a 0), .int p1] (preR D (tyS cyI cyJ cyS) [oX1 a g_month g_floes g_founds g_notes g_undos, rI cyI (a 1) 12 g_ways, rI cyI (a 2) 12 g_strengths, rI cyI (a 6) 12 g_foundRows])) (vp_Si (fun r => r = R0 ∧ nb r)) 0 0 (fun _ => False) := by
  refine Met.ofW (cc := cX1_allFoundFrom) (maxL := 4) (ret := (some .boolean)) (by decide) rfl ?_
  intro p e s m args below meth c s₁ B hml hv
  obtain ⟨rfl, hP, hKK⟩ := hv
  have hx := B.exec
  have hb := B.bytes
  have hr := B.returns
  have hts := atoms_spec (ws := wsX1_allFoundFrom) B.pre
  have hown : s.vm.findClass RX1 = some m.cls := findClass_of_methodNamed B.named
  have hlocks := B.notSynchronized
  have hK := hKK.1
  have inX1 : ∀ w ∈ wsX10, w ∈ wsX1_allFoundFrom := (fun _ h => List.mem_cons_of_mem _ (List.mem_append_right _ h))
  have hP : va_P D vwCl [oX1 a g_month g_floes g_founds g_notes g_undos, rI cyI (a 1) 12 g_ways, rI cyI (a 2) 12 g_strengths, rI cyI (a 6) 12 g_foundRows] s.heap := hP
  have hl := lv_entry [.ref (a 0), .int p1] (n := 4) (Nat.le_of_ble_eq_true rfl)
  rw [lg_entry_eq]
  generalize (lg_sl [.ref (a 0), .int p1] ++ List.replicate (4 - (lg_sl [.ref (a 0), .int p1]).length) Slot.unset).toArray = ls at hl ⊢
  have hl : lv_has ls 4 [(0, .ref (a 0)), (1, .int p1)] := hl
  have L2 : ∀ (n : Nat), ∀ (x1 : Int32) (ls : Array Slot), T_X1_allFoundFrom_L2 N p1 g_founds g_ways g_strengths g_foundRows n x1 = some R0 → lv_has ls 4 [(0, .ref (a 0)), (1, .int p1), (2, .int x1)] → W p l e (headSpec wsX1_allFoundFrom rm_X1_allFoundFrom).room s m ([.ref (a 0), .int p1] : List Value).toArray below meth c s.heap [] 0 0 (MQ below (vp_Si (fun r => r = R0 ∧ nb r)) ([.ref (a 0), .int p1] : List Value).toArray s 0 0 (fun _ => False)) (F0 m 2 ls []) := by
    intro n
    induction n with
    | zero => intro _ _ h; exact absurd h (fun z => by cases z)
    | succ n ih =>
      intro x1 ls h2 hl
      rw [T_X1_allFoundFrom_L2_s] at h2
      refine lv_iload_n hx hb dX1_allFoundFrom_2 rfl (lv_at hl 2 rfl) ?_
      refine lv_aload_n hx hb dX1_allFoundFrom_3 rfl (lv_at hl 0 rfl) ?_
      refine va_get (D := D) (cl := vwCl) (ci := 0) (v := .int g_founds) (C := RX1) (T := TX1) (N := 13) hx hb hts inX1 hown hK hP 0 rfl rfl 7 (by decide) (hts (Cond.fieldLink RX1 49 "FrozenIn$Sea" "founds" "I") (List.mem_of_getElem? (i := 1) rfl)) (fun _ h9 => h9) rfl dX1_allFoundFrom_4 ?_
      refine lv_icmp_ge (tgt := 53) hx hb dX1_allFoundFrom_7 (by decide) (fun c5 => ?_) (fun c5 => ?_)
      · have h6 := (if_pos c5).symm.trans h2
        refine lv_iconst (v := 1) hx hb dX1_allFoundFrom_53 (by decide) ?_
        exact W.zret (v := 1) hx hb hr (nb_n nb_1) (fun t ht hW => ⟨1, rfl, ⟨Option.some.inj h6, nb_1⟩, ht⟩) (fun q hq => by cases hq) dX1_allFoundFrom_54
      · have h7 := (if_neg c5).symm.trans h2
        refine lv_iconst (v := 3) hx hb dX1_allFoundFrom_10 (by decide) ?_
        refine lv_iload_n hx hb dX1_allFoundFrom_11 rfl (lv_at hl 2 rfl) ?_
        refine lv_imul hx hb dX1_allFoundFrom_12 ?_
        obtain ⟨x8, ex8, h9⟩ := lt_e h7
        refine lv_nm ex8 ?_
        refine lv_istore_n (lv' := [(3, .int x8), (0, .ref (a 0)), (1, .int p1), (2, .int x1)]) hx hb dX1_allFoundFrom_13 rfl hl (by decide) rfl (fun ls hl => ?_)
        refine lv_aload_n hx hb dX1_allFoundFrom_14 rfl (lv_at hl 1 rfl) ?_
        refine lv_aload_n hx hb dX1_allFoundFrom_15 rfl (lv_at hl 1 rfl) ?_
        refine va_get (D := D) (cl := vwCl) (ci := 0) (v := .ref (a 6)) (C := RX1) (T := TX1) (N := 13) hx hb hts inX1 hown hK hP 0 rfl rfl 8 (by decide) (hts (Cond.fieldLink RX1 27 "FrozenIn$Sea" "foundRows" "[I") (List.mem_of_getElem? (i := 2) rfl)) (fun _ h9 => h9) rfl dX1_allFoundFrom_16 ?_
        refine lv_iload_n hx hb dX1_allFoundFrom_19 rfl (lv_at hl 0 rfl) ?_
        obtain ⟨hi11, h10⟩ := ob_e h9
        refine va_iald hx hb hK hP 3 0 rfl rfl hi11 dX1_allFoundFrom_20 ?_
        refine lv_iload_n hx hb dX1_allFoundFrom_21 rfl (lv_at hl 2 rfl) ?_
        refine lv_iconst (v := 0) hx hb dX1_allFoundFrom_22 (by decide) ?_
        refine lv_aload_n hx hb dX1_allFoundFrom_23 rfl (lv_at hl 1 rfl) ?_
        refine va_get (D := D) (cl := vwCl) (ci := 0) (v := .ref (a 6)) (C := RX1) (T := TX1) (N := 13) hx hb hts inX1 hown hK hP 0 rfl rfl 8 (by decide) (hts (Cond.fieldLink RX1 27 "FrozenIn$Sea" "foundRows" "[I") (List.mem_of_getElem? (i := 2) rfl)) (fun _ h9 => h9) rfl dX1_allFoundFrom_24 ?_
        refine lv_iload_n hx hb dX1_allFoundFrom_27 rfl (lv_at hl 0 rfl) ?_
        refine lv_iconst (v := 1) hx hb dX1_allFoundFrom_28 (by decide) ?_
        refine lv_iadd hx hb dX1_allFoundFrom_29 ?_
        obtain ⟨hi13, h12⟩ := ob_e h10
        refine va_iald hx hb hK hP 3 0 rfl rfl hi13 dX1_allFoundFrom_30 ?_
        obtain ⟨u14, hu15, h16⟩ := bd_e h12
        refine kc_I (W.runV (As := [.int (g_foundRows x8.toNatClampNeg), .int p1, .int 0, .int (g_foundRows (x8 + 1).toNatClampNeg)]) (rest := []) ⟨hx, hb, hml, hown, hts⟩ (c_X1_drifted l D cyI cyJ cyS N a g_month g_floes g_founds g_notes g_undos g_ways g_strengths (g_foundRows x8.toNatClampNeg) p1 0 (g_foundRows (x8 + 1).toNatClampNeg) u14 hu15) (cwV 4 hts gX1_allFoundFrom_X1_drifted rfl rfl rfl (by decide +kernel) ⟨(Nat.le_of_ble_eq_true rfl), (Nat.le_of_ble_eq_true rfl)⟩) (preR_V (hP.sub (ws' := [oX1 a g_month g_floes g_founds g_notes g_undos, rI cyI (a 1) 12 g_ways, rI cyI (a 2) 12 g_strengths]) [0, 1, 2] rfl) hKK (va_recv hK hP (ci := 0) (q0 := 0) rfl rfl)) rfl rfl hl.1 rfl (lv_room (Nat.le_of_ble_eq_true rfl)) dX1_allFoundFrom_31 ⟨Nat.zero_le _, Nat.zero_le _⟩) ?_
        refine lv_aload_n hx hb dX1_allFoundFrom_34 rfl (lv_at hl 1 rfl) ?_
        refine va_get (D := D) (cl := vwCl) (ci := 0) (v := .ref (a 6)) (C := RX1) (T := TX1) (N := 13) hx hb hts inX1 hown hK hP 0 rfl rfl 8 (by decide) (hts (Cond.fieldLink RX1 27 "FrozenIn$Sea" "foundRows" "[I") (List.mem_of_getElem? (i := 2) rfl)) (fun _ h9 => h9) rfl dX1_allFoundFrom_35 ?_
        refine lv_iload_n hx hb dX1_allFoundFrom_38 rfl (lv_at hl 0 rfl) ?_
        refine lv_iconst (v := 2) hx hb dX1_allFoundFrom_39 (by decide) ?_
        refine lv_iadd hx hb dX1_allFoundFrom_40 ?_
        obtain ⟨hi18, h17⟩ := ob_e h16
        refine va_iald hx hb hK hP 3 0 rfl rfl hi18 dX1_allFoundFrom_41 ?_
        refine lv_icmp_eq (tgt := 47) hx hb dX1_allFoundFrom_42 (by decide) (fun c19 => ?_) (fun c19 => ?_)
        · have h20 := (if_pos c19).symm.trans h17
          obtain ⟨x21, ex21, h22⟩ := lt_e h20
          refine lv_iinc (v := x21) (lv' := [(2, .int x21), (3, .int x8), (0, .ref (a 0)), (1, .int p1)]) hx hb dX1_allFoundFrom_47 hl (k := 3) rfl (by rw [ex21]; rfl) (by decide) rfl (fun ls hl => ?_)
          refine lv_goto (tgt := 2) hx hb dX1_allFoundFrom_50 (by decide) ?_
          exact ih x21 _ h22 (lv_sub hl [2, 3, 0] rfl)
        · have h23 := (if_neg c19).symm.trans h17
          refine lv_iconst (v := 0) hx hb dX1_allFoundFrom_45 (by decide) ?_
          exact W.zret (v := 0) hx hb hr (nb_n nb_0) (fun t ht hW => ⟨0, rfl, ⟨Option.some.inj h23, nb_0⟩, ht⟩) (fun q hq => by cases hq) dX1_allFoundFrom_46
  unfold T_X1_allFoundFrom at hT
  refine lv_iconst (v := 0) hx hb dX1_allFoundFrom_0 (by decide) ?_
  refine lv_istore_n (lv' := [(2, .int 0), (0, .ref (a 0)), (1, .int p1)]) hx hb dX1_allFoundFrom_1 rfl hl (by decide) rfl (fun ls hl => ?_)
  refine L2  N 0 _ hT (lv_sub hl [1, 2, 0] rfl)
def T_X1_noteBy (N : Nat) (g_noteRows : Nat → Int32) (p1 : Int32) (p2 : Int32) : Option Int32 :=
  (ob (p2 + 1) 42 (lt' (g_noteRows (p2 + 1).toNatClampNeg) fun x3 => (ob (p2 + 2) 42 (lt' (g_noteRows (p2 + 2).toNatClampNeg) fun x7 => (ob (p2 + 3) 42 (lt' (g_noteRows (p2 + 3).toNatClampNeg) fun x11 => (ob (p2 + 4) 42 (lt' (g_noteRows (p2 + 4).toNatClampNeg) fun x15 => (ob (p2 + 5) 42 (lt' (g_noteRows (p2 + 5).toNatClampNeg) fun x19 => (ob (p2 + 6) 42 (lt' (g_noteRows (p2 + 6).toNatClampNeg) fun x23 => (jn (some 0) fun j25 => (if (T_X0_cellsOf p1 x11 x15) = x23 then (jn (some 1) fun j32 => (if x23 = 0 then j32 else (if (T_X0_wayOf p1 x3 x7) = x19 then j32 else j25))) else j25))))))))))))))
abbrev rm_X1_noteBy : Room := { frames := 1, cells := 0, slots := 0, locals := 24 }
set_option maxHeartbeats 4000000 in
set_option maxRecDepth 100000 in
theorem c_X1_noteBy (l : Launch) (D : va_G) (cyI cyJ cyS : ClassId) (N : Nat) (a : Nat → Nat) (g_month : Int32) (g_floes : Int32) (g_founds : Int32) (g_notes : Int32) (g_undos : Int32) (g_noteRows : Nat → Int32) (p1 : Int32) (p2 : Int32) (R0 : Int32) (hT : T_X1_noteBy N g_noteRows p1 p2 = some R0) : Met l yX1_noteBy wsX1_noteBy rm_X1_noteBy (va_Pc [.ref (a 0), .int p1, .int p2] (preR D (tyS cyI cyJ cyS) [oX1 a g_month g_floes g_founds g_notes g_undos, rI cyI (a 7) 42 g_noteRows])) (vp_Si (fun r => r = R0 ∧ nb r)) 0 0 (fun _ => False) := by
  refine Met.ofW (cc := cX1_noteBy) (maxL := 9) (ret := (some .boolean)) (by decide) rfl ?_
  intro p e s m args below meth c s₁ B hml hv
  obtain ⟨rfl, hP, hKK⟩ := hv
  have hx := B.exec
  have hb := B.bytes
  have hr := B.returns
  have hts := atoms_spec (ws := wsX1_noteBy) B.pre
  have hown : s.vm.findClass RX1 = some m.cls := findClass_of_methodNamed B.named
  have hlocks := B.notSynchronized
  have hK := hKK.1
  have inX1 : ∀ w ∈ wsX10, w ∈ wsX1_noteBy := (fun _ h => List.mem_cons_of_mem _ (List.mem_append_right _ h))
  have hP : va_P D vwCl [oX1 a g_month g_floes g_founds g_notes g_undos, rI cyI (a 7) 42 g_noteRows] s.heap := hP
  have hl := lv_entry [.ref (a 0), .int p1, .int p2] (n := 9) (Nat.le_of_ble_eq_true rfl)
  rw [lg_entry_eq]
  generalize (lg_sl [.ref (a 0), .int p1, .int p2] ++ List.replicate (9 - (lg_sl [.ref (a 0), .int p1, .int p2]).length) Slot.unset).toArray = ls at hl ⊢
  have hl : lv_has ls 9 [(0, .ref (a 0)), (1, .int p1), (2, .int p2)] := hl
  unfold T_X1_noteBy at hT
  refine lv_aload_n hx hb dX1_noteBy_0 rfl (lv_at hl 0 rfl) ?_
  refine va_get (D := D) (cl := vwCl) (ci := 0) (v := .ref (a 7)) (C := RX1) (T := TX1) (N := 13) hx hb hts inX1 hown hK hP 0 rfl rfl 10 (by decide) (hts (Cond.fieldLink RX1 30 "FrozenIn$Sea" "noteRows" "[I") (List.mem_of_getElem? (i := 1) rfl)) (fun _ h9 => h9) rfl dX1_noteBy_1 ?_
  refine lv_iload_n hx hb dX1_noteBy_4 rfl (lv_at hl 2 rfl) ?_
  refine lv_iconst (v := 1) hx hb dX1_noteBy_5 (by decide) ?_
  refine lv_iadd hx hb dX1_noteBy_6 ?_
  obtain ⟨hi2, h1⟩ := ob_e hT
  refine va_iald hx hb hK hP 1 0 rfl rfl hi2 dX1_noteBy_7 ?_
  obtain ⟨x3, ex3, h4⟩ := lt_e h1
  refine lv_nm ex3 ?_
  refine lv_istore_n (lv' := [(3, .int x3), (0, .ref (a 0)), (1, .int p1), (2, .int p2)]) hx hb dX1_noteBy_8 rfl hl (by decide) rfl (fun ls hl => ?_)
  refine lv_aload_n hx hb dX1_noteBy_9 rfl (lv_at hl 1 rfl) ?_
  refine va_get (D := D) (cl := vwCl) (ci := 0) (v := .ref (a 7)) (C := RX1) (T := TX1) (N := 13) hx hb hts inX1 hown hK hP 0 rfl rfl 10 (by decide) (hts (Cond.fieldLink RX1 30 "FrozenIn$Sea" "noteRows" "[I") (List.mem_of_getElem? (i := 1) rfl)) (fun _ h9 => h9) rfl dX1_noteBy_10 ?_
  refine lv_iload_n hx hb dX1_noteBy_13 rfl (lv_at hl 3 rfl) ?_
  refine lv_iconst (v := 2) hx hb dX1_noteBy_14 (by decide) ?_
  refine lv_iadd hx hb dX1_noteBy_15 ?_
  obtain ⟨hi6, h5⟩ := ob_e h4
  refine va_iald hx hb hK hP 1 0 rfl rfl hi6 dX1_noteBy_16 ?_
  obtain ⟨x7, ex7, h8⟩ := lt_e h5
  refine lv_nm ex7 ?_
  refine lv_istore (lv' := [(4, .int x7), (3, .int x3), (0, .ref (a 0)), (1, .int p1), (2, .int p2)]) hx hb dX1_noteBy_17 hl (by decide) rfl (fun ls hl => ?_)
  refine lv_aload_n hx hb dX1_noteBy_19 rfl (lv_at hl 2 rfl) ?_
  refine va_get (D := D) (cl := vwCl) (ci := 0) (v := .ref (a 7)) (C := RX1) (T := TX1) (N := 13) hx hb hts inX1 hown hK hP 0 rfl rfl 10 (by decide) (hts (Cond.fieldLink RX1 30 "FrozenIn$Sea" "noteRows" "[I") (List.mem_of_getElem? (i := 1) rfl)) (fun _ h9 => h9) rfl dX1_noteBy_20 ?_
  refine lv_iload_n hx hb dX1_noteBy_23 rfl (lv_at hl 4 rfl) ?_
  refine lv_iconst (v := 3) hx hb dX1_noteBy_24 (by decide) ?_
  refine lv_iadd hx hb dX1_noteBy_25 ?_
  obtain ⟨hi10, h9⟩ := ob_e h8
  refine va_iald hx hb hK hP 1 0 rfl rfl hi10 dX1_noteBy_26 ?_
  obtain ⟨x11, ex11, h12⟩ := lt_e h9
  refine lv_nm ex11 ?_
  refine lv_istore (lv' := [(5, .int x11), (4, .int x7), (3, .int x3), (0, .ref (a 0)), (1, .int p1), (2, .int p2)]) hx hb dX1_noteBy_27 hl (by decide) rfl (fun ls hl => ?_)
  refine lv_aload_n hx hb dX1_noteBy_29 rfl (lv_at hl 3 rfl) ?_
  refine va_get (D := D) (cl := vwCl) (ci := 0) (v := .ref (a 7)) (C := RX1) (T := TX1) (N := 13) hx hb hts inX1 hown hK hP 0 rfl rfl 10 (by decide) (hts (Cond.fieldLink RX1 30 "FrozenIn$Sea" "noteRows" "[I") (List.mem_of_getElem? (i := 1) rfl)) (fun _ h9 => h9) rfl dX1_noteBy_30 ?_
  refine lv_iload_n hx hb dX1_noteBy_33 rfl (lv_at hl 5 rfl) ?_
  refine lv_iconst (v := 4) hx hb dX1_noteBy_34 (by decide) ?_
  refine lv_iadd hx hb dX1_noteBy_35 ?_
  obtain ⟨hi14, h13⟩ := ob_e h12
  refine va_iald hx hb hK hP 1 0 rfl rfl hi14 dX1_noteBy_36 ?_
  obtain ⟨x15, ex15, h16⟩ := lt_e h13
  refine lv_nm ex15 ?_
  refine lv_istore (lv' := [(6, .int x15), (5, .int x11), (4, .int x7), (3, .int x3), (0, .ref (a 0)), (1, .int p1), (2, .int p2)]) hx hb dX1_noteBy_37 hl (by decide) rfl (fun ls hl => ?_)
  refine lv_aload_n hx hb dX1_noteBy_39 rfl (lv_at hl 4 rfl) ?_
  refine va_get (D := D) (cl := vwCl) (ci := 0) (v := .ref (a 7)) (C := RX1) (T := TX1) (N := 13) hx hb hts inX1 hown hK hP 0 rfl rfl 10 (by decide) (hts (Cond.fieldLink RX1 30 "FrozenIn$Sea" "noteRows" "[I") (List.mem_of_getElem? (i := 1) rfl)) (fun _ h9 => h9) rfl dX1_noteBy_40 ?_
  refine lv_iload_n hx hb dX1_noteBy_43 rfl (lv_at hl 6 rfl) ?_
  refine lv_iconst (v := 5) hx hb dX1_noteBy_44 (by decide) ?_
  refine lv_iadd hx hb dX1_noteBy_45 ?_
  obtain ⟨hi18, h17⟩ := ob_e h16
  refine va_iald hx hb hK hP 1 0 rfl rfl hi18 dX1_noteBy_46 ?_
  obtain ⟨x19, ex19, h20⟩ := lt_e h17
  refine lv_nm ex19 ?_
  refine lv_istore (lv' := [(7, .int x19), (6, .int x15), (5, .int x11), (4, .int x7), (3, .int x3), (0, .ref (a 0)), (1, .int p1), (2, .int p2)]) hx hb dX1_noteBy_47 hl (by decide) rfl (fun ls hl => ?_)
  refine lv_aload_n hx hb dX1_noteBy_49 rfl (lv_at hl 5 rfl) ?_
  refine va_get (D := D) (cl := vwCl) (ci := 0) (v := .ref (a 7)) (C := RX1) (T := TX1) (N := 13) hx hb hts inX1 hown hK hP 0 rfl rfl 10 (by decide) (hts (Cond.fieldLink RX1 30 "FrozenIn$Sea" "noteRows" "[I") (List.mem_of_getElem? (i := 1) rfl)) (fun _ h9 => h9) rfl dX1_noteBy_50 ?_
  refine lv_iload_n hx hb dX1_noteBy_53 rfl (lv_at hl 7 rfl) ?_
  refine lv_bipush (v := 6) hx hb dX1_noteBy_54 (by decide) ?_
  refine lv_iadd hx hb dX1_noteBy_56 ?_
  obtain ⟨hi22, h21⟩ := ob_e h20
  refine va_iald hx hb hK hP 1 0 rfl rfl hi22 dX1_noteBy_57 ?_
  obtain ⟨x23, ex23, h24⟩ := lt_e h21
  refine lv_nm ex23 ?_
  refine lv_istore (lv' := [(8, .int x23), (7, .int x19), (6, .int x15), (5, .int x11), (4, .int x7), (3, .int x3), (0, .ref (a 0)), (1, .int p1), (2, .int p2)]) hx hb dX1_noteBy_58 hl (by decide) rfl (fun ls hl => ?_)
  refine lv_iload_n hx hb dX1_noteBy_60 rfl (lv_at hl 7 rfl) ?_
  refine lv_iload hx hb dX1_noteBy_61 (lv_at hl 3 rfl) ?_
  refine lv_iload hx hb dX1_noteBy_63 (lv_at hl 2 rfl) ?_
  refine kc_I (W.runS (As := [.int p1, .int x11, .int x15]) (rest := []) ⟨hx, hb, hml, hown, hts⟩ (c_X0_cellsOf l p1 x11 x15 (T_X0_cellsOf p1 x11 x15) rfl) (va_cwS 3 hts gX1_noteBy_X0_cellsOf rfl rfl rfl (by decide +kernel) ⟨(Nat.le_of_ble_eq_true rfl), (Nat.le_of_ble_eq_true rfl)⟩) preT_S rfl rfl hl.1 rfl (lv_room (Nat.le_of_ble_eq_true rfl)) dX1_noteBy_65 ⟨Nat.zero_le _, Nat.zero_le _⟩) ?_
  refine lv_iload hx hb dX1_noteBy_68 (lv_at hl 0 rfl) ?_
  obtain ⟨j25, hj26, h27⟩ := jn_e h24
  have Jj25 : ∀ (ls : Array Slot), j25 = some R0 → lv_has ls 9 [] → W p l e (headSpec wsX1_noteBy rm_X1_noteBy).room s m ([.ref (a 0), .int p1, .int p2] : List Value).toArray below meth c s.heap [] 0 0 (MQ below (vp_Si (fun r => r = R0 ∧ nb r)) ([.ref (a 0), .int p1, .int p2] : List Value).toArray s 0 0 (fun _ => False)) (F0 m 94 ls []) := by
    intro ls h28 hl
    rw [hj26] at h28
    refine lv_iconst (v := 0) hx hb dX1_noteBy_94 (by decide) ?_
    exact W.zret (v := 0) hx hb hr (nb_n nb_0) (fun t ht hW => ⟨0, rfl, ⟨Option.some.inj h28, nb_0⟩, ht⟩) (fun q hq => by cases hq) dX1_noteBy_95
  refine lv_icmp_ne (tgt := 94) hx hb dX1_noteBy_70 (by decide) (fun c29 => ?_) (fun c29 => ?_)
  · have h30 := (if_neg c29).symm.trans h27
    exact Jj25  _ h30 (lv_sub hl [] rfl)
  · have h31 := (if_pos c29).symm.trans h27
    refine lv_iload hx hb dX1_noteBy_73 (lv_at hl 0 rfl) ?_
    obtain ⟨j32, hj33, h34⟩ := jn_e h31
    have Jj32 : ∀ (ls : Array Slot), j32 = some R0 → lv_has ls 9 [] → W p l e (headSpec wsX1_noteBy rm_X1_noteBy).room s m ([.ref (a 0), .int p1, .int p2] : List Value).toArray below meth c s.heap [] 0 0 (MQ below (vp_Si (fun r => r = R0 ∧ nb r)) ([.ref (a 0), .int p1, .int p2] : List Value).toArray s 0 0 (fun _ => False)) (F0 m 90 ls []) := by
      intro ls h35 hl
      rw [hj33] at h35
      refine lv_iconst (v := 1) hx hb dX1_noteBy_90 (by decide) ?_
      refine lv_goto (tgt := 95) hx hb dX1_noteBy_91 (by decide) ?_
      exact W.zret (v := 1) hx hb hr (nb_n nb_1) (fun t ht hW => ⟨1, rfl, ⟨Option.some.inj h35, nb_1⟩, ht⟩) (fun q hq => by cases hq) dX1_noteBy_95
    refine lv_if_eq (tgt := 90) hx hb dX1_noteBy_75 (by decide) (fun c36 => ?_) (fun c36 => ?_)
    · have h37 := (if_pos c36).symm.trans h34
      exact Jj32  _ h37 (lv_sub hl [] rfl)
    · have h38 := (if_neg c36).symm.trans h34
      refine lv_iload_n hx hb dX1_noteBy_78 rfl (lv_at hl 7 rfl) ?_
      refine lv_iload_n hx hb dX1_noteBy_79 rfl (lv_at hl 5 rfl) ?_
      refine lv_iload hx hb dX1_noteBy_80 (lv_at hl 4 rfl) ?_
      refine kc_I (W.runS (As := [.int p1, .int x3, .int x7]) (rest := []) ⟨hx, hb, hml, hown, hts⟩ (c_X0_wayOf l p1 x3 x7 (T_X0_wayOf p1 x3 x7) rfl) (va_cwS 3 hts gX1_noteBy_X0_wayOf rfl rfl rfl (by decide +kernel) ⟨(Nat.le_of_ble_eq_true rfl), (Nat.le_of_ble_eq_true rfl)⟩) preT_S rfl rfl hl.1 rfl (lv_room (Nat.le_of_ble_eq_true rfl)) dX1_noteBy_82 ⟨Nat.zero_le _, Nat.zero_le _⟩) ?_
      refine lv_iload hx hb dX1_noteBy_85 (lv_at hl 1 rfl) ?_
      refine lv_icmp_ne (tgt := 94) hx hb dX1_noteBy_87 (by decide) (fun c39 => ?_) (fun c39 => ?_)
      · have h40 := (if_neg c39).symm.trans h38
        exact Jj25  _ h40 (lv_sub hl [] rfl)
      · have h41 := (if_pos c39).symm.trans h38
        exact Jj32  _ h41 (lv_sub hl [] rfl)
def T_X1_allNotesBy_L2 (N : Nat) (p1 : Int32) (p2 : Int32) (g_notes : Int32) (g_noteRows : Nat → Int32)  : Nat → Int32 → Option Int32
  | 0, _ => none
  | n + 1, x1 => (if g_notes ≤ x1 then (some 1) else (ob (7 * x1) 42 (jn (lt' (x1 + 1) fun x14 => (T_X1_allNotesBy_L2 N p1 p2 g_notes g_noteRows n x14)) fun j10 => (if (g_noteRows (7 * x1).toNatClampNeg) = p2 then (Option.bind (T_X1_noteBy N g_noteRows p1 (7 * x1)) fun u19 => (if u19 = 0 then (some 0) else j10)) else j10))))
theorem T_X1_allNotesBy_L2_s (N : Nat) (p1 : Int32) (p2 : Int32) (g_notes : Int32) (g_noteRows : Nat → Int32)  (n : Nat) (x1 : Int32) : T_X1_allNotesBy_L2 N p1 p2 g_notes g_noteRows  (n + 1) x1 = (if g_notes ≤ x1 then (some 1) else (ob (7 * x1) 42 (jn (lt' (x1 + 1) fun x14 => (T_X1_allNotesBy_L2 N p1 p2 g_notes g_noteRows n x14)) fun j10 => (if (g_noteRows (7 * x1).toNatClampNeg) = p2 then (Option.bind (T_X1_noteBy N g_noteRows p1 (7 * x1)) fun u19 => (if u19 = 0 then (some 0) else j10)) else j10)))) := rfl
def T_X1_allNotesBy (N : Nat) (g_notes : Int32) (g_noteRows : Nat → Int32) (p1 : Int32) (p2 : Int32) : Option Int32 :=
  (T_X1_allNotesBy_L2 N p1 p2 g_notes g_noteRows N 0)
abbrev rm_X1_allNotesBy : Room := { frames := 2, cells := 0, slots := 0, locals := 52 }
set_option maxHeartbeats 4000000 in
set_option maxRecDepth 100000 in
theorem c_X1_allNotesBy (l : Launch) (D : va_G) (cyI cyJ cyS : ClassId) (N : Nat) (a : Nat → Nat) (g_month : Int32) (g_floes : Int32) (g_founds : Int32) (g_notes : Int32) (g_undos : Int32) (g_noteRows : Nat → Int32) (p1 : Int32) (p2 : Int32) (R0 : Int32) (hT : T_X1_allNotesBy N g_notes g_noteRows p1 p2 = some R0) : Met l yX1_allNotesBy wsX1_allNotesBy rm_X1_allNotesBy (va_Pc [.ref (a 0), .int p1, .int p2] (preR D (tyS cyI cyJ cyS) [oX1 a g_month g_floes g_founds g_notes g_undos, rI cyI (a 7) 42 g_noteRows])) (vp_Si (fun r => r = R0 ∧ nb r)) 0 0 (fun _ => False) := by
  refine Met.ofW (cc := cX1_allNotesBy) (maxL := 4) (ret := (some .boolean)) (by decide) rfl ?_
  intro p e s m args below meth c s₁ B hml hv
  obtain ⟨rfl, hP, hKK⟩ := hv
  have hx := B.exec
  have hb := B.bytes
  have hr := B.returns
  have hts := atoms_spec (ws := wsX1_allNotesBy) B.pre
  have hown : s.vm.findClass RX1 = some m.cls := findClass_of_methodNamed B.named
  have hlocks := B.notSynchronized
  have hK := hKK.1
  have inX1 : ∀ w ∈ wsX10, w ∈ wsX1_allNotesBy := (fun _ h => List.mem_cons_of_mem _ (List.mem_append_right _ h))
  have hP : va_P D vwCl [oX1 a g_month g_floes g_founds g_notes g_undos, rI cyI (a 7) 42 g_noteRows] s.heap := hP
  have hl := lv_entry [.ref (a 0), .int p1, .int p2] (n := 4) (Nat.le_of_ble_eq_true rfl)
  rw [lg_entry_eq]
  generalize (lg_sl [.ref (a 0), .int p1, .int p2] ++ List.replicate (4 - (lg_sl [.ref (a 0), .int p1, .int p2]).length) Slot.unset).toArray = ls at hl ⊢
  have hl : lv_has ls 4 [(0, .ref (a 0)), (1, .int p1), (2, .int p2)] := hl
  have L2 : ∀ (n : Nat), ∀ (x1 : Int32) (ls : Array Slot), T_X1_allNotesBy_L2 N p1 p2 g_notes g_noteRows n x1 = some R0 → lv_has ls 4 [(0, .ref (a 0)), (1, .int p1), (2, .int p2), (3, .int x1)] → W p l e (headSpec wsX1_allNotesBy rm_X1_allNotesBy).room s m ([.ref (a 0), .int p1, .int p2] : List Value).toArray below meth c s.heap [] 0 0 (MQ below (vp_Si (fun r => r = R0 ∧ nb r)) ([.ref (a 0), .int p1, .int p2] : List Value).toArray s 0 0 (fun _ => False)) (F0 m 2 ls []) := by
    intro n
    induction n with
    | zero => intro _ _ h; exact absurd h (fun z => by cases z)
    | succ n ih =>
      intro x1 ls h2 hl
      rw [T_X1_allNotesBy_L2_s] at h2
      refine lv_iload_n hx hb dX1_allNotesBy_2 rfl (lv_at hl 3 rfl) ?_
      refine lv_aload_n hx hb dX1_allNotesBy_3 rfl (lv_at hl 0 rfl) ?_
      refine va_get (D := D) (cl := vwCl) (ci := 0) (v := .int g_notes) (C := RX1) (T := TX1) (N := 13) hx hb hts inX1 hown hK hP 0 rfl rfl 9 (by decide) (hts (Cond.fieldLink RX1 52 "FrozenIn$Sea" "notes" "I") (List.mem_of_getElem? (i := 1) rfl)) (fun _ h9 => h9) rfl dX1_allNotesBy_4 ?_
      refine lv_icmp_ge (tgt := 43) hx hb dX1_allNotesBy_7 (by decide) (fun c5 => ?_) (fun c5 => ?_)
      · have h6 := (if_pos c5).symm.trans h2
        refine lv_iconst (v := 1) hx hb dX1_allNotesBy_43 (by decide) ?_
        exact W.zret (v := 1) hx hb hr (nb_n nb_1) (fun t ht hW => ⟨1, rfl, ⟨Option.some.inj h6, nb_1⟩, ht⟩) (fun q hq => by cases hq) dX1_allNotesBy_44
      · have h7 := (if_neg c5).symm.trans h2
        refine lv_aload_n hx hb dX1_allNotesBy_10 rfl (lv_at hl 0 rfl) ?_
        refine va_get (D := D) (cl := vwCl) (ci := 0) (v := .ref (a 7)) (C := RX1) (T := TX1) (N := 13) hx hb hts inX1 hown hK hP 0 rfl rfl 10 (by decide) (hts (Cond.fieldLink RX1 30 "FrozenIn$Sea" "noteRows" "[I") (List.mem_of_getElem? (i := 2) rfl)) (fun _ h9 => h9) rfl dX1_allNotesBy_11 ?_
        refine lv_bipush (v := 7) hx hb dX1_allNotesBy_14 (by decide) ?_
        refine lv_iload_n hx hb dX1_allNotesBy_16 rfl (lv_at hl 3 rfl) ?_
        refine lv_imul hx hb dX1_allNotesBy_17 ?_
        obtain ⟨hi9, h8⟩ := ob_e h7
        refine va_iald hx hb hK hP 1 0 rfl rfl hi9 dX1_allNotesBy_18 ?_
        refine lv_iload_n hx hb dX1_allNotesBy_19 rfl (lv_at hl 2 rfl) ?_
        obtain ⟨j10, hj11, h12⟩ := jn_e h8
        have Jj10 : ∀ (ls : Array Slot), j10 = some R0 → lv_has ls 4 [(0, .ref (a 0)), (1, .int p1), (2, .int p2), (3, .int x1)] → W p l e (headSpec wsX1_allNotesBy rm_X1_allNotesBy).room s m ([.ref (a 0), .int p1, .int p2] : List Value).toArray below meth c s.heap [] 0 0 (MQ below (vp_Si (fun r => r = R0 ∧ nb r)) ([.ref (a 0), .int p1, .int p2] : List Value).toArray s 0 0 (fun _ => False)) (F0 m 37 ls []) := by
          intro ls h13 hl
          rw [hj11] at h13
          obtain ⟨x14, ex14, h15⟩ := lt_e h13
          refine lv_iinc (v := x14) (lv' := [(3, .int x14), (0, .ref (a 0)), (1, .int p1), (2, .int p2)]) hx hb dX1_allNotesBy_37 hl (k := 3) rfl (by rw [ex14]; rfl) (by decide) rfl (fun ls hl => ?_)
          refine lv_goto (tgt := 2) hx hb dX1_allNotesBy_40 (by decide) ?_
          exact ih x14 _ h15 (lv_sub hl [1, 2, 3, 0] rfl)
        refine lv_icmp_ne (tgt := 37) hx hb dX1_allNotesBy_20 (by decide) (fun c16 => ?_) (fun c16 => ?_)
        · have h17 := (if_neg c16).symm.trans h12
          exact Jj10  _ h17 (lv_sub hl [0, 1, 2, 3] rfl)
        · have h18 := (if_pos c16).symm.trans h12
          refine lv_aload_n hx hb dX1_allNotesBy_23 rfl (lv_at hl 0 rfl) ?_
          refine lv_iload_n hx hb dX1_allNotesBy_24 rfl (lv_at hl 1 rfl) ?_
          refine lv_bipush (v := 7) hx hb dX1_allNotesBy_25 (by decide) ?_
          refine lv_iload_n hx hb dX1_allNotesBy_27 rfl (lv_at hl 3 rfl) ?_
          refine lv_imul hx hb dX1_allNotesBy_28 ?_
          obtain ⟨u19, hu20, h21⟩ := bd_e h18
          refine kc_Z (W.runV (As := [.int p1, .int (7 * x1)]) (rest := []) ⟨hx, hb, hml, hown, hts⟩ (c_X1_noteBy l D cyI cyJ cyS N a g_month g_floes g_founds g_notes g_undos g_noteRows p1 (7 * x1) u19 hu20) (cwV 2 hts gX1_allNotesBy_X1_noteBy rfl rfl rfl (by decide +kernel) ⟨(Nat.le_of_ble_eq_true rfl), (Nat.le_of_ble_eq_true rfl)⟩) (preR_V (hP.sub (ws' := [oX1 a g_month g_floes g_founds g_notes g_undos, rI cyI (a 7) 42 g_noteRows]) [0, 1] rfl) hKK (va_recv hK hP (ci := 0) (q0 := 0) rfl rfl)) rfl rfl hl.1 rfl (lv_room (Nat.le_of_ble_eq_true rfl)) dX1_allNotesBy_29 ⟨Nat.zero_le _, Nat.zero_le _⟩) (fun hn22 => ?_)
          refine lv_if_ne (tgt := 37) hx hb dX1_allNotesBy_32 (by decide) (fun c23 => ?_) (fun c23 => ?_)
          · have h24 := (if_neg c23).symm.trans h21
            exact Jj10  _ h24 (lv_sub hl [0, 1, 2, 3] rfl)
          · have h25 := (if_pos c23).symm.trans h21
            refine lv_iconst (v := 0) hx hb dX1_allNotesBy_35 (by decide) ?_
            exact W.zret (v := 0) hx hb hr (nb_n nb_0) (fun t ht hW => ⟨0, rfl, ⟨Option.some.inj h25, nb_0⟩, ht⟩) (fun q hq => by cases hq) dX1_allNotesBy_36
  unfold T_X1_allNotesBy at hT
  refine lv_iconst (v := 0) hx hb dX1_allNotesBy_0 (by decide) ?_
  refine lv_istore_n (lv' := [(3, .int 0), (0, .ref (a 0)), (1, .int p1), (2, .int p2)]) hx hb dX1_allNotesBy_1 rfl hl (by decide) rfl (fun ls hl => ?_)
  refine L2  N 0 _ hT (lv_sub hl [1, 2, 3, 0] rfl)
def T_X1_kindsByNotes_L4 (N : Nat) (p1 : Int32) (g_notes : Int32) (g_noteRows : Nat → Int32)  : Nat → Int32 → Int32 → Option Int32
  | 0, _, _ => none
  | n + 1, x1, x2 => (if 6 ≤ x2 then (some x1) else (Option.bind (T_X1_allNotesBy N g_notes g_noteRows x2 p1) fun u9 => (jn (fun (x13 : Int32) => (lt' (x2 + 1) fun x18 => (T_X1_kindsByNotes_L4 N p1 g_notes g_noteRows n x13 x18))) fun j14 => (if u9 = 0 then (j14 x1) else (lt' (x1 ||| (1 <<< (x2 &&& 31))) fun x23 => (j14 x23))))))
theorem T_X1_kindsByNotes_L4_s (N : Nat) (p1 : Int32) (g_notes : Int32) (g_noteRows : Nat → Int32)  (n : Nat) (x1 : Int32) (x2 : Int32) : T_X1_kindsByNotes_L4 N p1 g_notes g_noteRows  (n + 1) x1 x2 = (if 6 ≤ x2 then (some x1) else (Option.bind (T_X1_allNotesBy N g_notes g_noteRows x2 p1) fun u9 => (jn (fun (x13 : Int32) => (lt' (x2 + 1) fun x18 => (T_X1_kindsByNotes_L4 N p1 g_notes g_noteRows n x13 x18))) fun j14 => (if u9 = 0 then (j14 x1) else (lt' (x1 ||| (1 <<< (x2 &&& 31))) fun x23 => (j14 x23)))))) := rfl
def T_X1_kindsByNotes (N : Nat) (g_notes : Int32) (g_noteRows : Nat → Int32) (p1 : Int32) : Option Int32 :=
  (T_X1_kindsByNotes_L4 N p1 g_notes g_noteRows N 0 0)
abbrev rm_X1_kindsByNotes : Room := { frames := 3, cells := 0, slots := 0, locals := 75 }
set_option maxHeartbeats 4000000 in
set_option maxRecDepth 100000 in
theorem c_X1_kindsByNotes (l : Launch) (D : va_G) (cyI cyJ cyS : ClassId) (N : Nat) (a : Nat → Nat) (g_month : Int32) (g_floes : Int32) (g_founds : Int32) (g_notes : Int32) (g_undos : Int32) (g_noteRows : Nat → Int32) (p1 : Int32) (R0 : Int32) (hT : T_X1_kindsByNotes N g_notes g_noteRows p1 = some R0) : Met l yX1_kindsByNotes wsX1_kindsByNotes rm_X1_kindsByNotes (va_Pc [.ref (a 0), .int p1] (preR D (tyS cyI cyJ cyS) [oX1 a g_month g_floes g_founds g_notes g_undos, rI cyI (a 7) 42 g_noteRows])) (vp_Si (fun r => r = R0)) 0 0 (fun _ => False) := by
  refine Met.ofW (cc := cX1_kindsByNotes) (maxL := 4) (ret := (some .int)) (by decide) rfl ?_
  intro p e s m args below meth c s₁ B hml hv
  obtain ⟨rfl, hP, hKK⟩ := hv
  have hx := B.exec
  have hb := B.bytes
  have hr := B.returns
  have hts := atoms_spec (ws := wsX1_kindsByNotes) B.pre
  have hown : s.vm.findClass RX1 = some m.cls := findClass_of_methodNamed B.named
  have hlocks := B.notSynchronized
  have hK := hKK.1
  have inX1 : ∀ w ∈ wsX10, w ∈ wsX1_kindsByNotes := (fun _ h => List.mem_cons_of_mem _ (List.mem_append_right _ h))
  have hP : va_P D vwCl [oX1 a g_month g_floes g_founds g_notes g_undos, rI cyI (a 7) 42 g_noteRows] s.heap := hP
  have hl := lv_entry [.ref (a 0), .int p1] (n := 4) (Nat.le_of_ble_eq_true rfl)
  rw [lg_entry_eq]
  generalize (lg_sl [.ref (a 0), .int p1] ++ List.replicate (4 - (lg_sl [.ref (a 0), .int p1]).length) Slot.unset).toArray = ls at hl ⊢
  have hl : lv_has ls 4 [(0, .ref (a 0)), (1, .int p1)] := hl
  have L4 : ∀ (n : Nat), ∀ (x1 : Int32) (x2 : Int32) (ls : Array Slot), T_X1_kindsByNotes_L4 N p1 g_notes g_noteRows n x1 x2 = some R0 → lv_has ls 4 [(0, .ref (a 0)), (1, .int p1), (2, .int x1), (3, .int x2)] → W p l e (headSpec wsX1_kindsByNotes rm_X1_kindsByNotes).room s m ([.ref (a 0), .int p1] : List Value).toArray below meth c s.heap [] 0 0 (MQ below (vp_Si (fun r => r = R0)) ([.ref (a 0), .int p1] : List Value).toArray s 0 0 (fun _ => False)) (F0 m 4 ls []) := by
    intro n
    induction n with
    | zero => intro _ _ _ h; exact absurd h (fun z => by cases z)
    | succ n ih =>
      intro x1 x2 ls h3 hl
      rw [T_X1_kindsByNotes_L4_s] at h3
      refine lv_iload_n hx hb dX1_kindsByNotes_4 rfl (lv_at hl 3 rfl) ?_
      refine lv_bipush (v := 6) hx hb dX1_kindsByNotes_5 (by decide) ?_
      refine lv_icmp_ge (tgt := 31) hx hb dX1_kindsByNotes_7 (by decide) (fun c6 => ?_) (fun c6 => ?_)
      · have h7 := (if_pos c6).symm.trans h3
        refine lv_iload_n hx hb dX1_kindsByNotes_31 rfl (lv_at hl 2 rfl) ?_
        exact W.iret (v := x1) hx hb hr (fun t ht hW => ⟨x1, rfl, (Option.some.inj h7), ht⟩) (fun q hq => by cases hq) dX1_kindsByNotes_32
      · have h8 := (if_neg c6).symm.trans h3
        refine lv_aload_n hx hb dX1_kindsByNotes_10 rfl (lv_at hl 0 rfl) ?_
        refine lv_iload_n hx hb dX1_kindsByNotes_11 rfl (lv_at hl 3 rfl) ?_
        refine lv_iload_n hx hb dX1_kindsByNotes_12 rfl (lv_at hl 1 rfl) ?_
        obtain ⟨u9, hu10, h11⟩ := bd_e h8
        refine kc_Z (W.runV (As := [.int x2, .int p1]) (rest := []) ⟨hx, hb, hml, hown, hts⟩ (c_X1_allNotesBy l D cyI cyJ cyS N a g_month g_floes g_founds g_notes g_undos g_noteRows x2 p1 u9 hu10) (cwV 2 hts gX1_kindsByNotes_X1_allNotesBy rfl rfl rfl (by decide +kernel) ⟨(Nat.le_of_ble_eq_true rfl), (Nat.le_of_ble_eq_true rfl)⟩) (preR_V (hP.sub (ws' := [oX1 a g_month g_floes g_founds g_notes g_undos, rI cyI (a 7) 42 g_noteRows]) [0, 1] rfl) hKK (va_recv hK hP (ci := 0) (q0 := 0) rfl rfl)) rfl rfl hl.1 rfl (lv_room (Nat.le_of_ble_eq_true rfl)) dX1_kindsByNotes_13 ⟨Nat.zero_le _, Nat.zero_le _⟩) (fun hn12 => ?_)
        obtain ⟨j14, hj15, h16⟩ := jn_e h11
        have Jj14 : ∀ (x13 : Int32) (ls : Array Slot), j14 x13 = some R0 → lv_has ls 4 [(0, .ref (a 0)), (1, .int p1), (2, .int x13), (3, .int x2)] → W p l e (headSpec wsX1_kindsByNotes rm_X1_kindsByNotes).room s m ([.ref (a 0), .int p1] : List Value).toArray below meth c s.heap [] 0 0 (MQ below (vp_Si (fun r => r = R0)) ([.ref (a 0), .int p1] : List Value).toArray s 0 0 (fun _ => False)) (F0 m 25 ls []) := by
          intro x13 ls h17 hl
          rw [hj15] at h17
          obtain ⟨x18, ex18, h19⟩ := lt_e h17
          refine lv_iinc (v := x18) (lv' := [(3, .int x18), (0, .ref (a 0)), (1, .int p1), (2, .int x13)]) hx hb dX1_kindsByNotes_25 hl (k := 3) rfl (by rw [ex18]; rfl) (by decide) rfl (fun ls hl => ?_)
          refine lv_goto (tgt := 4) hx hb dX1_kindsByNotes_28 (by decide) ?_
          exact ih x13 x18 _ h19 (lv_sub hl [1, 2, 3, 0] rfl)
        refine lv_if_eq (tgt := 25) hx hb dX1_kindsByNotes_16 (by decide) (fun c20 => ?_) (fun c20 => ?_)
        · have h21 := (if_pos c20).symm.trans h16
          exact Jj14 x1 _ h21 (lv_sub hl [0, 1, 2, 3] rfl)
        · have h22 := (if_neg c20).symm.trans h16
          refine lv_iload_n hx hb dX1_kindsByNotes_19 rfl (lv_at hl 2 rfl) ?_
          refine lv_iconst (v := 1) hx hb dX1_kindsByNotes_20 (by decide) ?_
          refine lv_iload_n hx hb dX1_kindsByNotes_21 rfl (lv_at hl 3 rfl) ?_
          refine lv_ishl hx hb dX1_kindsByNotes_22 ?_
          refine lv_ior hx hb dX1_kindsByNotes_23 ?_
          obtain ⟨x23, ex23, h24⟩ := lt_e h22
          refine lv_nm ex23 ?_
          refine lv_istore_n (lv' := [(2, .int x23), (0, .ref (a 0)), (1, .int p1), (3, .int x2)]) hx hb dX1_kindsByNotes_24 rfl hl (by decide) rfl (fun ls hl => ?_)
          exact Jj14 x23 _ h24 (lv_sub hl [1, 2, 0, 3] rfl)
  unfold T_X1_kindsByNotes at hT
  refine lv_iconst (v := 0) hx hb dX1_kindsByNotes_0 (by decide) ?_
  refine lv_istore_n (lv' := [(2, .int 0), (0, .ref (a 0)), (1, .int p1)]) hx hb dX1_kindsByNotes_1 rfl hl (by decide) rfl (fun ls hl => ?_)
  refine lv_iconst (v := 0) hx hb dX1_kindsByNotes_2 (by decide) ?_
  refine lv_istore_n (lv' := [(3, .int 0), (2, .int 0), (0, .ref (a 0)), (1, .int p1)]) hx hb dX1_kindsByNotes_3 rfl hl (by decide) rfl (fun ls hl => ?_)
  refine L4  N 0 0 _ hT (lv_sub hl [2, 3, 1, 0] rfl)
def T_X1_alikeTo_L41 (N : Nat) (p2 : Int32) (p3 : Int32) (p4 : Int32) (y13 : Int32) (y14 : Int32) (y15 : Int32)  : Nat → Int32 → Int32 → Option Int32
  | 0, _, _ => none
  | n + 1, x11, x12 => (if 6 ≤ x12 then (some x11) else (jn (fun (x22 : Int32) => (lt' (x12 + 1) fun x27 => (T_X1_alikeTo_L41 N p2 p3 p4 y13 y14 y15 n x22 x27))) fun j23 => (if ((p2 >>> (x12 &&& 31)) &&& 1) = 1 then (if (T_X0_tracks x12 p3 y13 y14 p4) = y15 then (lt' (x11 + 1) fun x35 => (j23 x35)) else (j23 x11)) else (j23 x11))))
theorem T_X1_alikeTo_L41_s (N : Nat) (p2 : Int32) (p3 : Int32) (p4 : Int32) (y13 : Int32) (y14 : Int32) (y15 : Int32)  (n : Nat) (x11 : Int32) (x12 : Int32) : T_X1_alikeTo_L41 N p2 p3 p4 y13 y14 y15  (n + 1) x11 x12 = (if 6 ≤ x12 then (some x11) else (jn (fun (x22 : Int32) => (lt' (x12 + 1) fun x27 => (T_X1_alikeTo_L41 N p2 p3 p4 y13 y14 y15 n x22 x27))) fun j23 => (if ((p2 >>> (x12 &&& 31)) &&& 1) = 1 then (if (T_X0_tracks x12 p3 y13 y14 p4) = y15 then (lt' (x11 + 1) fun x35 => (j23 x35)) else (j23 x11)) else (j23 x11)))) := rfl
def T_X1_alikeTo (N : Nat) (g_ways : Nat → Int32) (g_strengths : Nat → Int32) (p1 : Int32) (p2 : Int32) (p3 : Int32) (p4 : Int32) : Option Int32 :=
  (ob (p3 - p3 / 12 * 12) 12 (lt' (g_ways (p3 - p3 / 12 * 12).toNatClampNeg) fun x3 => (ob (p3 - p3 / 12 * 12) 12 (lt' (g_strengths (p3 - p3 / 12 * 12).toNatClampNeg) fun x7 => (lt' (T_X0_tracks p1 p3 x3 x7 p4) fun x9 => (T_X1_alikeTo_L41 N p2 p3 p4 x3 x7 x9 N 0 0))))))
abbrev rm_X1_alikeTo : Room := { frames := 2, cells := 0, slots := 0, locals := 49 }
set_option maxHeartbeats 4000000 in
set_option maxRecDepth 100000 in
theorem c_X1_alikeTo (l : Launch) (D : va_G) (cyI cyJ cyS : ClassId) (N : Nat) (a : Nat → Nat) (g_month : Int32) (g_floes : Int32) (g_founds : Int32) (g_notes : Int32) (g_undos : Int32) (g_ways : Nat → Int32) (g_strengths : Nat → Int32) (p1 : Int32) (p2 : Int32) (p3 : Int32) (p4 : Int32) (R0 : Int32) (hT : T_X1_alikeTo N g_ways g_strengths p1 p2 p3 p4 = some R0) : Met l yX1_alikeTo wsX1_alikeTo rm_X1_alikeTo (va_Pc [.ref (a 0), .int p1, .int p2, .int p3, .int p4] (preR D (tyS cyI cyJ cyS) [oX1 a g_month g_floes g_founds g_notes g_undos, rI cyI (a 1) 12 g_ways, rI cyI (a 2) 12 g_strengths])) (vp_Si (fun r => r = R0)) 0 0 (fun _ => False) := by
  refine Met.ofW (cc := cX1_alikeTo) (maxL := 10) (ret := (some .int)) (by decide) rfl ?_
  intro p e s m args below meth c s₁ B hml hv
  obtain ⟨rfl, hP, hKK⟩ := hv
  have hx := B.exec
  have hb := B.bytes
  have hr := B.returns
  have hts := atoms_spec (ws := wsX1_alikeTo) B.pre
  have hown : s.vm.findClass RX1 = some m.cls := findClass_of_methodNamed B.named
  have hlocks := B.notSynchronized
  have hK := hKK.1
  have inX1 : ∀ w ∈ wsX10, w ∈ wsX1_alikeTo := (fun _ h => List.mem_cons_of_mem _ (List.mem_append_right _ h))
  have hP : va_P D vwCl [oX1 a g_month g_floes g_founds g_notes g_undos, rI cyI (a 1) 12 g_ways, rI cyI (a 2) 12 g_strengths] s.heap := hP
  have hl := lv_entry [.ref (a 0), .int p1, .int p2, .int p3, .int p4] (n := 10) (Nat.le_of_ble_eq_true rfl)
  rw [lg_entry_eq]
  generalize (lg_sl [.ref (a 0), .int p1, .int p2, .int p3, .int p4] ++ List.replicate (10 - (lg_sl [.ref (a 0), .int p1, .int p2, .int p3, .int p4]).length) Slot.unset).toArray = ls at hl ⊢
  have hl : lv_has ls 10 [(0, .ref (a 0)), (1, .int p1), (2, .int p2), (3, .int p3), (4, .int p4)] := hl
  have L41 : ∀ (y13 : Int32) (y14 : Int32) (y15 : Int32) (n : Nat), ∀ (x11 : Int32) (x12 : Int32) (ls : Array Slot), T_X1_alikeTo_L41 N p2 p3 p4 y13 y14 y15 n x11 x12 = some R0 → lv_has ls 10 [(2, .int p2), (3, .int p3), (4, .int p4), (5, .int y13), (6, .int y14), (7, .int y15), (8, .int x11), (9, .int x12)] → W p l e (headSpec wsX1_alikeTo rm_X1_alikeTo).room s m ([.ref (a 0), .int p1, .int p2, .int p3, .int p4] : List Value).toArray below meth c s.heap [] 0 0 (MQ below (vp_Si (fun r => r = R0)) ([.ref (a 0), .int p1, .int p2, .int p3, .int p4] : List Value).toArray s 0 0 (fun _ => False)) (F0 m 41 ls []) := by
    intro y13 y14 y15 n
    induction n with
    | zero => intro _ _ _ h; exact absurd h (fun z => by cases z)
    | succ n ih =>
      intro x11 x12 ls h16 hl
      rw [T_X1_alikeTo_L41_s] at h16
      refine lv_iload hx hb dX1_alikeTo_41 (lv_at hl 7 rfl) ?_
      refine lv_bipush (v := 6) hx hb dX1_alikeTo_43 (by decide) ?_
      refine lv_icmp_ge (tgt := 84) hx hb dX1_alikeTo_45 (by decide) (fun c19 => ?_) (fun c19 => ?_)
      · have h20 := (if_pos c19).symm.trans h16
        refine lv_iload hx hb dX1_alikeTo_84 (lv_at hl 6 rfl) ?_
        exact W.iret (v := x11) hx hb hr (fun t ht hW => ⟨x11, rfl, (Option.some.inj h20), ht⟩) (fun q hq => by cases hq) dX1_alikeTo_86
      · have h21 := (if_neg c19).symm.trans h16
        refine lv_iload_n hx hb dX1_alikeTo_48 rfl (lv_at hl 0 rfl) ?_
        refine lv_iload hx hb dX1_alikeTo_49 (lv_at hl 7 rfl) ?_
        refine lv_ishr hx hb dX1_alikeTo_51 ?_
        refine lv_iconst (v := 1) hx hb dX1_alikeTo_52 (by decide) ?_
        refine lv_iand hx hb dX1_alikeTo_53 ?_
        refine lv_iconst (v := 1) hx hb dX1_alikeTo_54 (by decide) ?_
        obtain ⟨j23, hj24, h25⟩ := jn_e h21
        have Jj23 : ∀ (x22 : Int32) (ls : Array Slot), j23 x22 = some R0 → lv_has ls 10 [(2, .int p2), (3, .int p3), (4, .int p4), (5, .int y13), (6, .int y14), (7, .int y15), (8, .int x22), (9, .int x12)] → W p l e (headSpec wsX1_alikeTo rm_X1_alikeTo).room s m ([.ref (a 0), .int p1, .int p2, .int p3, .int p4] : List Value).toArray below meth c s.heap [] 0 0 (MQ below (vp_Si (fun r => r = R0)) ([.ref (a 0), .int p1, .int p2, .int p3, .int p4] : List Value).toArray s 0 0 (fun _ => False)) (F0 m 78 ls []) := by
          intro x22 ls h26 hl
          rw [hj24] at h26
          obtain ⟨x27, ex27, h28⟩ := lt_e h26
          refine lv_iinc (v := x27) (lv' := [(9, .int x27), (2, .int p2), (3, .int p3), (4, .int p4), (5, .int y13), (6, .int y14), (7, .int y15), (8, .int x22)]) hx hb dX1_alikeTo_78 hl (k := 7) rfl (by rw [ex27]; rfl) (by decide) rfl (fun ls hl => ?_)
          refine lv_goto (tgt := 41) hx hb dX1_alikeTo_81 (by decide) ?_
          exact ih x22 x27 _ h28 (lv_sub hl [1, 2, 3, 4, 5, 6, 7, 0] rfl)
        refine lv_icmp_ne (tgt := 78) hx hb dX1_alikeTo_55 (by decide) (fun c29 => ?_) (fun c29 => ?_)
        · have h30 := (if_neg c29).symm.trans h25
          exact Jj23 x11 _ h30 (lv_sub hl [0, 1, 2, 3, 4, 5, 6, 7] rfl)
        · have h31 := (if_pos c29).symm.trans h25
          refine lv_iload hx hb dX1_alikeTo_58 (lv_at hl 7 rfl) ?_
          refine lv_iload_n hx hb dX1_alikeTo_60 rfl (lv_at hl 1 rfl) ?_
          refine lv_iload hx hb dX1_alikeTo_61 (lv_at hl 3 rfl) ?_
          refine lv_iload hx hb dX1_alikeTo_63 (lv_at hl 4 rfl) ?_
          refine lv_iload hx hb dX1_alikeTo_65 (lv_at hl 2 rfl) ?_
          refine kc_I (W.runS (As := [.int x12, .int p3, .int y13, .int y14, .int p4]) (rest := []) ⟨hx, hb, hml, hown, hts⟩ (c_X0_tracks l x12 p3 y13 y14 p4 (T_X0_tracks x12 p3 y13 y14 p4) rfl) (va_cwS 5 hts gX1_alikeTo_X0_tracks rfl rfl rfl (by decide +kernel) ⟨(Nat.le_of_ble_eq_true rfl), (Nat.le_of_ble_eq_true rfl)⟩) preT_S rfl rfl hl.1 rfl (lv_room (Nat.le_of_ble_eq_true rfl)) dX1_alikeTo_67 ⟨Nat.zero_le _, Nat.zero_le _⟩) ?_
          refine lv_iload hx hb dX1_alikeTo_70 (lv_at hl 5 rfl) ?_
          refine lv_icmp_ne (tgt := 78) hx hb dX1_alikeTo_72 (by decide) (fun c32 => ?_) (fun c32 => ?_)
          · have h33 := (if_neg c32).symm.trans h31
            exact Jj23 x11 _ h33 (lv_sub hl [0, 1, 2, 3, 4, 5, 6, 7] rfl)
          · have h34 := (if_pos c32).symm.trans h31
            obtain ⟨x35, ex35, h36⟩ := lt_e h34
            refine lv_iinc (v := x35) (lv' := [(8, .int x35), (2, .int p2), (3, .int p3), (4, .int p4), (5, .int y13), (6, .int y14), (7, .int y15), (9, .int x12)]) hx hb dX1_alikeTo_75 hl (k := 6) rfl (by rw [ex35]; rfl) (by decide) rfl (fun ls hl => ?_)
            exact Jj23 x35 _ h36 (lv_sub hl [1, 2, 3, 4, 5, 6, 0, 7] rfl)
  unfold T_X1_alikeTo at hT
  refine lv_aload_n hx hb dX1_alikeTo_0 rfl (lv_at hl 0 rfl) ?_
  refine va_get (D := D) (cl := vwCl) (ci := 0) (v := .ref (a 1)) (C := RX1) (T := TX1) (N := 13) hx hb hts inX1 hown hK hP 0 rfl rfl 1 (by decide) (hts (Cond.fieldLink RX1 9 "FrozenIn$Sea" "ways" "[I") (List.mem_of_getElem? (i := 1) rfl)) (fun _ h9 => h9) rfl dX1_alikeTo_1 ?_
  refine lv_iload_n hx hb dX1_alikeTo_4 rfl (lv_at hl 3 rfl) ?_
  refine lv_bipush (v := 12) hx hb dX1_alikeTo_5 (by decide) ?_
  refine lv_irem hx hb dX1_alikeTo_7 (by decide) ?_
  obtain ⟨hi2, h1⟩ := ob_e hT
  refine va_iald hx hb hK hP 1 0 rfl rfl hi2 dX1_alikeTo_8 ?_
  obtain ⟨x3, ex3, h4⟩ := lt_e h1
  refine lv_nm ex3 ?_
  refine lv_istore (lv' := [(5, .int x3), (0, .ref (a 0)), (1, .int p1), (2, .int p2), (3, .int p3), (4, .int p4)]) hx hb dX1_alikeTo_9 hl (by decide) rfl (fun ls hl => ?_)
  refine lv_aload_n hx hb dX1_alikeTo_11 rfl (lv_at hl 1 rfl) ?_
  refine va_get (D := D) (cl := vwCl) (ci := 0) (v := .ref (a 2)) (C := RX1) (T := TX1) (N := 13) hx hb hts inX1 hown hK hP 0 rfl rfl 2 (by decide) (hts (Cond.fieldLink RX1 15 "FrozenIn$Sea" "strengths" "[I") (List.mem_of_getElem? (i := 2) rfl)) (fun _ h9 => h9) rfl dX1_alikeTo_12 ?_
  refine lv_iload_n hx hb dX1_alikeTo_15 rfl (lv_at hl 4 rfl) ?_
  refine lv_bipush (v := 12) hx hb dX1_alikeTo_16 (by decide) ?_
  refine lv_irem hx hb dX1_alikeTo_18 (by decide) ?_
  obtain ⟨hi6, h5⟩ := ob_e h4
  refine va_iald hx hb hK hP 2 0 rfl rfl hi6 dX1_alikeTo_19 ?_
  obtain ⟨x7, ex7, h8⟩ := lt_e h5
  refine lv_nm ex7 ?_
  refine lv_istore (lv' := [(6, .int x7), (5, .int x3), (0, .ref (a 0)), (1, .int p1), (2, .int p2), (3, .int p3), (4, .int p4)]) hx hb dX1_alikeTo_20 hl (by decide) rfl (fun ls hl => ?_)
  refine lv_iload_n hx hb dX1_alikeTo_22 rfl (lv_at hl 3 rfl) ?_
  refine lv_iload_n hx hb dX1_alikeTo_23 rfl (lv_at hl 5 rfl) ?_
  refine lv_iload hx hb dX1_alikeTo_24 (lv_at hl 1 rfl) ?_
  refine lv_iload hx hb dX1_alikeTo_26 (lv_at hl 0 rfl) ?_
  refine lv_iload hx hb dX1_alikeTo_28 (lv_at hl 6 rfl) ?_
  refine kc_I (W.runS (As := [.int p1, .int p3, .int x3, .int x7, .int p4]) (rest := []) ⟨hx, hb, hml, hown, hts⟩ (c_X0_tracks l p1 p3 x3 x7 p4 (T_X0_tracks p1 p3 x3 x7 p4) rfl) (va_cwS 5 hts gX1_alikeTo_X0_tracks rfl rfl rfl (by decide +kernel) ⟨(Nat.le_of_ble_eq_true rfl), (Nat.le_of_ble_eq_true rfl)⟩) preT_S rfl rfl hl.1 rfl (lv_room (Nat.le_of_ble_eq_true rfl)) dX1_alikeTo_30 ⟨Nat.zero_le _, Nat.zero_le _⟩) ?_
  obtain ⟨x9, ex9, h10⟩ := lt_e h8
  refine lv_nm ex9 ?_
  refine lv_istore (lv' := [(7, .int x9), (6, .int x7), (5, .int x3), (0, .ref (a 0)), (1, .int p1), (2, .int p2), (3, .int p3), (4, .int p4)]) hx hb dX1_alikeTo_33 hl (by decide) rfl (fun ls hl => ?_)
  refine lv_iconst (v := 0) hx hb dX1_alikeTo_35 (by decide) ?_
  refine lv_istore (lv' := [(8, .int 0), (7, .int x9), (6, .int x7), (5, .int x3), (0, .ref (a 0)), (1, .int p1), (2, .int p2), (3, .int p3), (4, .int p4)]) hx hb dX1_alikeTo_36 hl (by decide) rfl (fun ls hl => ?_)
  refine lv_iconst (v := 0) hx hb dX1_alikeTo_38 (by decide) ?_
  refine lv_istore (lv' := [(9, .int 0), (8, .int 0), (7, .int x9), (6, .int x7), (5, .int x3), (0, .ref (a 0)), (1, .int p1), (2, .int p2), (3, .int p3), (4, .int p4)]) hx hb dX1_alikeTo_39 hl (by decide) rfl (fun ls hl => ?_)
  refine L41 x3 x7 x9 N 0 0 _ h10 (lv_sub hl [7, 8, 9, 4, 3, 2, 1, 0] rfl)
def T_X1_mostAlike_L6 (N : Nat) (p1 : Int32) (p2 : Int32) (p3 : Int32) (g_ways : Nat → Int32) (g_strengths : Nat → Int32)  : Nat → Int32 → Int32 → Option Int32
  | 0, _, _ => none
  | n + 1, x1, x2 => (if 6 ≤ x2 then (some x1) else (jn (fun (x9 : Int32) => (lt' (x2 + 1) fun x14 => (T_X1_mostAlike_L6 N p1 p2 p3 g_ways g_strengths n x9 x14))) fun j10 => (if ((p1 >>> (x2 &&& 31)) &&& 1) = 1 then (Option.bind (T_X1_alikeTo N g_ways g_strengths x2 p1 p2 p3) fun u19 => (lt' (if x1 < u19 then u19 else x1) fun x22 => (j10 x22))) else (j10 x1))))
theorem T_X1_mostAlike_L6_s (N : Nat) (p1 : Int32) (p2 : Int32) (p3 : Int32) (g_ways : Nat → Int32) (g_strengths : Nat → Int32)  (n : Nat) (x1 : Int32) (x2 : Int32) : T_X1_mostAlike_L6 N p1 p2 p3 g_ways g_strengths  (n + 1) x1 x2 = (if 6 ≤ x2 then (some x1) else (jn (fun (x9 : Int32) => (lt' (x2 + 1) fun x14 => (T_X1_mostAlike_L6 N p1 p2 p3 g_ways g_strengths n x9 x14))) fun j10 => (if ((p1 >>> (x2 &&& 31)) &&& 1) = 1 then (Option.bind (T_X1_alikeTo N g_ways g_strengths x2 p1 p2 p3) fun u19 => (lt' (if x1 < u19 then u19 else x1) fun x22 => (j10 x22))) else (j10 x1)))) := rfl
def T_X1_mostAlike (N : Nat) (g_ways : Nat → Int32) (g_strengths : Nat → Int32) (p1 : Int32) (p2 : Int32) (p3 : Int32) : Option Int32 :=
  (T_X1_mostAlike_L6 N p1 p2 p3 g_ways g_strengths N 0 0)
abbrev rm_X1_mostAlike : Room := { frames := 3, cells := 0, slots := 0, locals := 78 }
set_option maxHeartbeats 4000000 in
set_option maxRecDepth 100000 in
theorem c_X1_mostAlike (l : Launch) (D : va_G) (cyI cyJ cyS : ClassId) (N : Nat) (a : Nat → Nat) (g_month : Int32) (g_floes : Int32) (g_founds : Int32) (g_notes : Int32) (g_undos : Int32) (g_ways : Nat → Int32) (g_strengths : Nat → Int32) (p1 : Int32) (p2 : Int32) (p3 : Int32) (R0 : Int32) (hT : T_X1_mostAlike N g_ways g_strengths p1 p2 p3 = some R0) : Met l yX1_mostAlike wsX1_mostAlike rm_X1_mostAlike (va_Pc [.ref (a 0), .int p1, .int p2, .int p3] (preR D (tyS cyI cyJ cyS) [oX1 a g_month g_floes g_founds g_notes g_undos, rI cyI (a 1) 12 g_ways, rI cyI (a 2) 12 g_strengths])) (vp_Si (fun r => r = R0)) 0 0 (fun _ => False) := by
  refine Met.ofW (cc := cX1_mostAlike) (maxL := 6) (ret := (some .int)) (by decide) rfl ?_
  intro p e s m args below meth c s₁ B hml hv
  obtain ⟨rfl, hP, hKK⟩ := hv
  have hx := B.exec
  have hb := B.bytes
  have hr := B.returns
  have hts := atoms_spec (ws := wsX1_mostAlike) B.pre
  have hown : s.vm.findClass RX1 = some m.cls := findClass_of_methodNamed B.named
  have hlocks := B.notSynchronized
  have hK := hKK.1
  have inX1 : ∀ w ∈ wsX10, w ∈ wsX1_mostAlike := (fun _ h => List.mem_cons_of_mem _ (List.mem_append_right _ h))
  have hP : va_P D vwCl [oX1 a g_month g_floes g_founds g_notes g_undos, rI cyI (a 1) 12 g_ways, rI cyI (a 2) 12 g_strengths] s.heap := hP
  have hl := lv_entry [.ref (a 0), .int p1, .int p2, .int p3] (n := 6) (Nat.le_of_ble_eq_true rfl)
  rw [lg_entry_eq]
  generalize (lg_sl [.ref (a 0), .int p1, .int p2, .int p3] ++ List.replicate (6 - (lg_sl [.ref (a 0), .int p1, .int p2, .int p3]).length) Slot.unset).toArray = ls at hl ⊢
  have hl : lv_has ls 6 [(0, .ref (a 0)), (1, .int p1), (2, .int p2), (3, .int p3)] := hl
  have L6 : ∀ (n : Nat), ∀ (x1 : Int32) (x2 : Int32) (ls : Array Slot), T_X1_mostAlike_L6 N p1 p2 p3 g_ways g_strengths n x1 x2 = some R0 → lv_has ls 6 [(0, .ref (a 0)), (1, .int p1), (2, .int p2), (3, .int p3), (4, .int x1), (5, .int x2)] → W p l e (headSpec wsX1_mostAlike rm_X1_mostAlike).room s m ([.ref (a 0), .int p1, .int p2, .int p3] : List Value).toArray below meth c s.heap [] 0 0 (MQ below (vp_Si (fun r => r = R0)) ([.ref (a 0), .int p1, .int p2, .int p3] : List Value).toArray s 0 0 (fun _ => False)) (F0 m 6 ls []) := by
    intro n
    induction n with
    | zero => intro _ _ _ h; exact absurd h (fun z => by cases z)
    | succ n ih =>
      intro x1 x2 ls h3 hl
      rw [T_X1_mostAlike_L6_s] at h3
      refine lv_iload hx hb dX1_mostAlike_6 (lv_at hl 5 rfl) ?_
      refine lv_bipush (v := 6) hx hb dX1_mostAlike_8 (by decide) ?_
      refine lv_icmp_ge (tgt := 45) hx hb dX1_mostAlike_10 (by decide) (fun c6 => ?_) (fun c6 => ?_)
      · have h7 := (if_pos c6).symm.trans h3
        refine lv_iload hx hb dX1_mostAlike_45 (lv_at hl 4 rfl) ?_
        exact W.iret (v := x1) hx hb hr (fun t ht hW => ⟨x1, rfl, (Option.some.inj h7), ht⟩) (fun q hq => by cases hq) dX1_mostAlike_47
      · have h8 := (if_neg c6).symm.trans h3
        refine lv_iload_n hx hb dX1_mostAlike_13 rfl (lv_at hl 1 rfl) ?_
        refine lv_iload hx hb dX1_mostAlike_14 (lv_at hl 5 rfl) ?_
        refine lv_ishr hx hb dX1_mostAlike_16 ?_
        refine lv_iconst (v := 1) hx hb dX1_mostAlike_17 (by decide) ?_
        refine lv_iand hx hb dX1_mostAlike_18 ?_
        refine lv_iconst (v := 1) hx hb dX1_mostAlike_19 (by decide) ?_
        obtain ⟨j10, hj11, h12⟩ := jn_e h8
        have Jj10 : ∀ (x9 : Int32) (ls : Array Slot), j10 x9 = some R0 → lv_has ls 6 [(0, .ref (a 0)), (1, .int p1), (2, .int p2), (3, .int p3), (4, .int x9), (5, .int x2)] → W p l e (headSpec wsX1_mostAlike rm_X1_mostAlike).room s m ([.ref (a 0), .int p1, .int p2, .int p3] : List Value).toArray below meth c s.heap [] 0 0 (MQ below (vp_Si (fun r => r = R0)) ([.ref (a 0), .int p1, .int p2, .int p3] : List Value).toArray s 0 0 (fun _ => False)) (F0 m 39 ls []) := by
          intro x9 ls h13 hl
          rw [hj11] at h13
          obtain ⟨x14, ex14, h15⟩ := lt_e h13
          refine lv_iinc (v := x14) (lv' := [(5, .int x14), (0, .ref (a 0)), (1, .int p1), (2, .int p2), (3, .int p3), (4, .int x9)]) hx hb dX1_mostAlike_39 hl (k := 5) rfl (by rw [ex14]; rfl) (by decide) rfl (fun ls hl => ?_)
          refine lv_goto (tgt := 6) hx hb dX1_mostAlike_42 (by decide) ?_
          exact ih x9 x14 _ h15 (lv_sub hl [1, 2, 3, 4, 5, 0] rfl)
        refine lv_icmp_ne (tgt := 39) hx hb dX1_mostAlike_20 (by decide) (fun c16 => ?_) (fun c16 => ?_)
        · have h17 := (if_neg c16).symm.trans h12
          exact Jj10 x1 _ h17 (lv_sub hl [0, 1, 2, 3, 4, 5] rfl)
        · have h18 := (if_pos c16).symm.trans h12
          refine lv_iload hx hb dX1_mostAlike_23 (lv_at hl 4 rfl) ?_
          refine lv_aload_n hx hb dX1_mostAlike_25 rfl (lv_at hl 0 rfl) ?_
          refine lv_iload hx hb dX1_mostAlike_26 (lv_at hl 5 rfl) ?_
          refine lv_iload_n hx hb dX1_mostAlike_28 rfl (lv_at hl 1 rfl) ?_
          refine lv_iload_n hx hb dX1_mostAlike_29 rfl (lv_at hl 2 rfl) ?_
          refine lv_iload_n hx hb dX1_mostAlike_30 rfl (lv_at hl 3 rfl) ?_
          obtain ⟨u19, hu20, h21⟩ := bd_e h18
          refine kc_I (W.runV (As := [.int x2, .int p1, .int p2, .int p3]) (rest := [.int x1]) ⟨hx, hb, hml, hown, hts⟩ (c_X1_alikeTo l D cyI cyJ cyS N a g_month g_floes g_founds g_notes g_undos g_ways g_strengths x2 p1 p2 p3 u19 hu20) (cwV 4 hts gX1_mostAlike_X1_alikeTo rfl rfl rfl (by decide +kernel) ⟨(Nat.le_of_ble_eq_true rfl), (Nat.le_of_ble_eq_true rfl)⟩) (preR_V (hP.sub (ws' := [oX1 a g_month g_floes g_founds g_notes g_undos, rI cyI (a 1) 12 g_ways, rI cyI (a 2) 12 g_strengths]) [0, 1, 2] rfl) hKK (va_recv hK hP (ci := 0) (q0 := 0) rfl rfl)) rfl rfl hl.1 rfl (lv_room (Nat.le_of_ble_eq_true rfl)) dX1_mostAlike_31 ⟨Nat.zero_le _, Nat.zero_le _⟩) ?_
          refine va_mmax hx hb (hml.trans hl.1.symm) hown (hts (Cond.methodLink RX1 68 Lib.Math.max.name) (List.mem_of_getElem? (i := 1) rfl)) (hts (Cond.static Lib.Math.max.name) (List.mem_of_getElem? (i := 2) rfl)) (hts (Cond.initialized "java/lang/Math") (List.mem_of_getElem? (i := 3) rfl)) (hts (Cond.code Lib.Math.max.name Lib.Math.max.code 2 (some .int)) (List.mem_of_getElem? (i := 4) rfl)) (Nat.le_of_ble_eq_true rfl) (Nat.le_of_ble_eq_true rfl) (Nat.zero_le _) (Nat.zero_le _) dX1_mostAlike_34 ?_
          obtain ⟨x22, ex22, h23⟩ := lt_e h21
          refine lv_nm ex22 ?_
          refine lv_istore (lv' := [(4, .int x22), (0, .ref (a 0)), (1, .int p1), (2, .int p2), (3, .int p3), (5, .int x2)]) hx hb dX1_mostAlike_37 hl (by decide) rfl (fun ls hl => ?_)
          exact Jj10 x22 _ h23 (lv_sub hl [1, 2, 3, 4, 0, 5] rfl)
  unfold T_X1_mostAlike at hT
  refine lv_iconst (v := 0) hx hb dX1_mostAlike_0 (by decide) ?_
  refine lv_istore (lv' := [(4, .int 0), (0, .ref (a 0)), (1, .int p1), (2, .int p2), (3, .int p3)]) hx hb dX1_mostAlike_1 hl (by decide) rfl (fun ls hl => ?_)
  refine lv_iconst (v := 0) hx hb dX1_mostAlike_3 (by decide) ?_
  refine lv_istore (lv' := [(5, .int 0), (4, .int 0), (0, .ref (a 0)), (1, .int p1), (2, .int p2), (3, .int p3)]) hx hb dX1_mostAlike_4 hl (by decide) rfl (fun ls hl => ?_)
  refine L6  N 0 0 _ hT (lv_sub hl [2, 3, 4, 5, 1, 0] rfl)
