def T_X3_refuseBad (g_bads : Int32) : Int32 × Int32 :=
  ((-2), g_bads + 1)
abbrev rm_X3_refuseBad : Room := { frames := 0, cells := 0, slots := 0, locals := 0 }
set_option maxHeartbeats 4000000 in
set_option maxRecDepth 100000 in
theorem c_X3_refuseBad (l : Launch) (D : va_G) (cyI cyJ cyS : ClassId) (a a_now a_spare a_text : Nat → Nat) (g_above : Int64) (g_below : Int64) (g_bads : Int32) (g_nos : Int32) (g_fulls : Int32) (sz : Nat) (R0 : Int32 × Int32) (hT : T_X3_refuseBad g_bads = R0) : Met l yX3_refuseBad wsX3_refuseBad rm_X3_refuseBad (va_Pc [.ref (a 0)] (preW D (tyS cyI cyJ cyS) [oX3 a a_now a_spare a_text g_above g_below g_bads g_nos g_fulls] sz)) (va_Qi (fun (r : Int32) (_ : Unit) => r = R0.1) (fun _ t => va_P D vwCl [oX3 a a_now a_spare a_text g_above g_below R0.2 g_nos g_fulls] t.heap ∧ va_D (va_A [oX3 a a_now a_spare a_text g_above g_below g_bads g_nos g_fulls] sz) [oX3 a a_now a_spare a_text g_above g_below R0.2 g_nos g_fulls]) (va_A [oX3 a a_now a_spare a_text g_above g_below g_bads g_nos g_fulls] sz)) 0 0 (va_A [oX3 a a_now a_spare a_text g_above g_below g_bads g_nos g_fulls] sz) := by
  refine Met.ofW (cc := cX3_refuseBad) (maxL := 1) (ret := (some .int)) (by decide) rfl ?_
  intro p e s m args below meth c s₁ B hml hv
  obtain ⟨rfl, hsz, hP, hKK, hD0⟩ := hv
  have hx := B.exec
  have hb := B.bytes
  have hr := B.returns
  have hts := atoms_spec (ws := wsX3_refuseBad) B.pre
  have hown : s.vm.findClass RX3 = some m.cls := findClass_of_methodNamed B.named
  have hlocks := B.notSynchronized
  have hK := hKK.1
  have inX3 : ∀ w ∈ wsX30, w ∈ wsX3_refuseBad := (fun _ h => List.mem_cons_of_mem _ (List.mem_append_right _ h))
  subst hsz
  have hD := hD0.self (sz := s.heap.size)
  generalize hAe : va_A [oX3 a a_now a_spare a_text g_above g_below g_bads g_nos g_fulls] s.heap.size = A at hD ⊢
  have hA : ∀ q : Nat, s.heap.size ≤ q → A q := fun q h => by rw [← hAe]; exact Or.inr h
  have hS : va_S A s.heap s.heap [] := va_S.rf
  have hP : va_P D vwCl [oX3 a a_now a_spare a_text g_above g_below g_bads g_nos g_fulls] s.heap := hP
  have hl := lv_entry [.ref (a 0)] (n := 1) (Nat.le_of_ble_eq_true rfl)
  rw [lg_entry_eq]
  generalize (lg_sl [.ref (a 0)] ++ List.replicate (1 - (lg_sl [.ref (a 0)]).length) Slot.unset).toArray = ls at hl ⊢
  have hl : lv_has ls 1 [(0, .ref (a 0))] := hl
  unfold T_X3_refuseBad at hT
  refine lv_aload_n hx hb dX3_refuseBad_0 rfl (lv_at hl 0 rfl) ?_
  refine lv_dup hx hb dX3_refuseBad_1 rfl ?_
  refine va_get (D := D) (cl := vwCl) (ci := 2) (v := .int g_bads) (C := RX3) (T := TX3) (N := 12) hx hb hts inX3 hown hK hP 0 rfl rfl 9 (by decide) (hts (Cond.fieldLink RX3 198 "FrozenIn" "bads" "I") (List.mem_of_getElem? (i := 1) rfl)) (fun _ h9 => h9) rfl dX3_refuseBad_2 ?_
  refine lv_iconst (v := 1) hx hb dX3_refuseBad_5 (by decide) ?_
  refine lv_iadd hx hb dX3_refuseBad_6 ?_
  refine va_put (D := D) (cl := vwCl) (ci := 2) (v := .int (g_bads + 1)) (ty := .int) (C := RX3) (T := TX3) (N := 12) hx hb hts inX3 tyX3 tyX3_ok nmX3 hown hK hP hD hS 0 rfl rfl 9 (by decide) (hts (Cond.fieldLink RX3 198 "FrozenIn" "bads" "I") (List.mem_of_getElem? (i := 1) rfl)) (fun _ h9 => h9) rfl (by decide +kernel) rfl rfl (Nat.le_of_ble_eq_true rfl) dX3_refuseBad_7 (fun H1 L2 hP hD hS => ?_)
  have hP : va_P D vwCl [oX3 a a_now a_spare a_text g_above g_below (g_bads + 1) g_nos g_fulls] H1 := hP
  have hD : va_D A [oX3 a a_now a_spare a_text g_above g_below (g_bads + 1) g_nos g_fulls] := hD
  refine lv_bipush (v := (-2)) hx hb dX3_refuseBad_10 (by decide) ?_
  rw [← hT]
  exact W.iret (v := (-2)) hx hb hr (fun t ht hW => ⟨⟨(-2), (), rfl, rfl, ⟨by rw [ht]; exact hP, hD⟩⟩, hS.F ht⟩) hS.2.2 dX3_refuseBad_12
def T_X3_sea (N : Nat) (g_bads : Int32) (g_now_month : Int32) (g_now_floes : Int32) (g_now_founds : Int32) (g_now_notes : Int32) (g_now_undos : Int32) (g_now_ways : Nat → Int32) (g_now_strengths : Nat → Int32) (p1 : Int32) : Option (Int32 × Int32 × Int32 × Int32 × Int32 × Int32 × Int32 × (Nat → Int32) × (Nat → Int32)) :=
  (if (T_X3_within p1 0 99) = 0 then (lt' (T_X3_refuseBad g_bads) fun u10 => (some (u10.1, u10.2, g_now_month, g_now_floes, g_now_founds, g_now_notes, g_now_undos, g_now_ways, g_now_strengths))) else (Option.bind (T_X1_begin N g_now_month g_now_floes g_now_founds g_now_notes g_now_undos g_now_ways g_now_strengths p1) fun u4 => (some (g_now_floes, g_bads, u4.1, u4.2.1, u4.2.2.1, u4.2.2.2.1, u4.2.2.2.2.1, u4.2.2.2.2.2.1, u4.2.2.2.2.2.2))))
abbrev rm_X3_sea : Room := { frames := 2, cells := 0, slots := 0, locals := 44 }
set_option maxHeartbeats 4000000 in
set_option maxRecDepth 100000 in
theorem c_X3_sea (l : Launch) (D : va_G) (cyI cyJ cyS : ClassId) (N : Nat) (a a_now a_spare a_text : Nat → Nat) (g_above : Int64) (g_below : Int64) (g_bads : Int32) (g_nos : Int32) (g_fulls : Int32) (g_now_month : Int32) (g_now_floes : Int32) (g_now_founds : Int32) (g_now_notes : Int32) (g_now_undos : Int32) (g_now_ways : Nat → Int32) (g_now_strengths : Nat → Int32) (p1 : Int32) (sz : Nat) (R0 : Int32 × Int32 × Int32 × Int32 × Int32 × Int32 × Int32 × (Nat → Int32) × (Nat → Int32)) (hT : T_X3_sea N g_bads g_now_month g_now_floes g_now_founds g_now_notes g_now_undos g_now_ways g_now_strengths p1 = some R0) : Met l yX3_sea wsX3_sea rm_X3_sea (va_Pc [.ref (a 0), .int p1] (preW D (tyS cyI cyJ cyS) [oX3 a a_now a_spare a_text g_above g_below g_bads g_nos g_fulls, oX1 a_now g_now_month g_now_floes g_now_founds g_now_notes g_now_undos, rI cyI (a_now 1) 12 g_now_ways, rI cyI (a_now 2) 12 g_now_strengths] sz)) (va_Qi (fun (r : Int32) (_ : Unit) => r = R0.1) (fun _ t => va_P D vwCl [oX3 a a_now a_spare a_text g_above g_below R0.2.1 g_nos g_fulls, oX1 a_now R0.2.2.1 R0.2.2.2.1 R0.2.2.2.2.1 R0.2.2.2.2.2.1 R0.2.2.2.2.2.2.1, rI cyI (a_now 1) 12 R0.2.2.2.2.2.2.2.1, rI cyI (a_now 2) 12 R0.2.2.2.2.2.2.2.2] t.heap ∧ va_D (va_A [oX3 a a_now a_spare a_text g_above g_below g_bads g_nos g_fulls, oX1 a_now g_now_month g_now_floes g_now_founds g_now_notes g_now_undos, rI cyI (a_now 1) 12 g_now_ways, rI cyI (a_now 2) 12 g_now_strengths] sz) [oX3 a a_now a_spare a_text g_above g_below R0.2.1 g_nos g_fulls, oX1 a_now R0.2.2.1 R0.2.2.2.1 R0.2.2.2.2.1 R0.2.2.2.2.2.1 R0.2.2.2.2.2.2.1, rI cyI (a_now 1) 12 R0.2.2.2.2.2.2.2.1, rI cyI (a_now 2) 12 R0.2.2.2.2.2.2.2.2]) (va_A [oX3 a a_now a_spare a_text g_above g_below g_bads g_nos g_fulls, oX1 a_now g_now_month g_now_floes g_now_founds g_now_notes g_now_undos, rI cyI (a_now 1) 12 g_now_ways, rI cyI (a_now 2) 12 g_now_strengths] sz)) 0 0 (va_A [oX3 a a_now a_spare a_text g_above g_below g_bads g_nos g_fulls, oX1 a_now g_now_month g_now_floes g_now_founds g_now_notes g_now_undos, rI cyI (a_now 1) 12 g_now_ways, rI cyI (a_now 2) 12 g_now_strengths] sz) := by
  refine Met.ofW (cc := cX3_sea) (maxL := 3) (ret := (some .int)) (by decide) rfl ?_
  intro p e s m args below meth c s₁ B hml hv
  obtain ⟨rfl, hsz, hP, hKK, hD0⟩ := hv
  have hx := B.exec
  have hb := B.bytes
  have hr := B.returns
  have hts := atoms_spec (ws := wsX3_sea) B.pre
  have hown : s.vm.findClass RX3 = some m.cls := findClass_of_methodNamed B.named
  have hlocks := B.notSynchronized
  have hK := hKK.1
  have inX3 : ∀ w ∈ wsX30, w ∈ wsX3_sea := (fun _ h => List.mem_cons_of_mem _ (List.mem_append_left _ (List.mem_append_right _ h)))
  have inX1 : ∀ w ∈ wsX10, w ∈ wsX3_sea := (fun _ h => List.mem_cons_of_mem _ (List.mem_append_right _ h))
  subst hsz
  have hD := hD0.self (sz := s.heap.size)
  generalize hAe : va_A [oX3 a a_now a_spare a_text g_above g_below g_bads g_nos g_fulls, oX1 a_now g_now_month g_now_floes g_now_founds g_now_notes g_now_undos, rI cyI (a_now 1) 12 g_now_ways, rI cyI (a_now 2) 12 g_now_strengths] s.heap.size = A at hD ⊢
  have hA : ∀ q : Nat, s.heap.size ≤ q → A q := fun q h => by rw [← hAe]; exact Or.inr h
  have hS : va_S A s.heap s.heap [] := va_S.rf
  have hP : va_P D vwCl [oX3 a a_now a_spare a_text g_above g_below g_bads g_nos g_fulls, oX1 a_now g_now_month g_now_floes g_now_founds g_now_notes g_now_undos, rI cyI (a_now 1) 12 g_now_ways, rI cyI (a_now 2) 12 g_now_strengths] s.heap := hP
  have hl := lv_entry [.ref (a 0), .int p1] (n := 3) (Nat.le_of_ble_eq_true rfl)
  rw [lg_entry_eq]
  generalize (lg_sl [.ref (a 0), .int p1] ++ List.replicate (3 - (lg_sl [.ref (a 0), .int p1]).length) Slot.unset).toArray = ls at hl ⊢
  have hl : lv_has ls 3 [(0, .ref (a 0)), (1, .int p1)] := hl
  unfold T_X3_sea at hT
  refine lv_iload_n hx hb dX3_sea_0 rfl (lv_at hl 1 rfl) ?_
  refine lv_iconst (v := 0) hx hb dX3_sea_1 (by decide) ?_
  refine lv_bipush (v := 99) hx hb dX3_sea_2 (by decide) ?_
  refine kc_Z (W.runS (As := [.int p1, .int 0, .int 99]) (rest := []) ⟨hx, hb, hml, hown, hts⟩ (c_X3_within l p1 0 99 (T_X3_within p1 0 99) rfl) (va_cwS 3 hts gX3_sea_X3_within rfl rfl rfl (by decide +kernel) ⟨(Nat.le_of_ble_eq_true rfl), (Nat.le_of_ble_eq_true rfl)⟩) preT_S rfl rfl hl.1 rfl (lv_room (Nat.le_of_ble_eq_true rfl)) dX3_sea_4 ⟨Nat.zero_le _, Nat.zero_le _⟩) (fun hn1 => ?_)
  refine lv_if_ne (tgt := 15) hx hb dX3_sea_7 (by decide) (fun c2 => ?_) (fun c2 => ?_)
  · have h3 := (if_neg c2).symm.trans hT
    refine lv_aload_n hx hb dX3_sea_15 rfl (lv_at hl 0 rfl) ?_
    refine va_get (D := D) (cl := vwCl) (ci := 2) (v := .ref (a_now 0)) (C := RX3) (T := TX3) (N := 12) hx hb hts inX3 hown hK hP 0 rfl rfl 0 (by decide) (hts (Cond.fieldLink RX3 10 "FrozenIn" "now" "LFrozenIn$Sea;") (List.mem_of_getElem? (i := 1) rfl)) (fun _ h9 => h9) rfl dX3_sea_16 ?_
    refine va_get (D := D) (cl := vwCl) (ci := 0) (v := .int g_now_floes) (C := RX1) (T := TX1) (N := 13) hx hb hts inX1 hown hK hP 1 rfl rfl 3 (by decide) (hts (Cond.fieldLink RX3 53 "FrozenIn$Sea" "floes" "I") (List.mem_of_getElem? (i := 2) rfl)) (fun _ h9 => h9) rfl dX3_sea_19 ?_
    refine lv_istore_n (lv' := [(2, .int g_now_floes), (0, .ref (a 0)), (1, .int p1)]) hx hb dX3_sea_22 rfl hl (by decide) rfl (fun ls hl => ?_)
    refine lv_aload_n hx hb dX3_sea_23 rfl (lv_at hl 1 rfl) ?_
    refine va_get (D := D) (cl := vwCl) (ci := 2) (v := .ref (a_now 0)) (C := RX3) (T := TX3) (N := 12) hx hb hts inX3 hown hK hP 0 rfl rfl 0 (by decide) (hts (Cond.fieldLink RX3 10 "FrozenIn" "now" "LFrozenIn$Sea;") (List.mem_of_getElem? (i := 1) rfl)) (fun _ h9 => h9) rfl dX3_sea_24 ?_
    refine lv_iload_n hx hb dX3_sea_27 rfl (lv_at hl 2 rfl) ?_
    obtain ⟨u4, hu5, h6⟩ := bd_e h3
    refine kw_V (wc := [oX1 a_now g_now_month g_now_floes g_now_founds g_now_notes g_now_undos, rI cyI (a_now 1) 12 g_now_ways, rI cyI (a_now 2) 12 g_now_strengths]) (wr := [oX3 a a_now a_spare a_text g_above g_below g_bads g_nos g_fulls]) (ws' := [oX3 a a_now a_spare a_text g_above g_below g_bads g_nos g_fulls, oX1 a_now u4.1 u4.2.1 u4.2.2.1 u4.2.2.2.1 u4.2.2.2.2.1, rI cyI (a_now 1) 12 u4.2.2.2.2.2.1, rI cyI (a_now 2) 12 u4.2.2.2.2.2.2]) (va_runV (As := [.int p1]) (rest := []) ⟨hx, hb, hml, hown, hts⟩ (c_X1_begin l D cyI cyJ cyS N a_now g_now_month g_now_floes g_now_founds g_now_notes g_now_undos g_now_ways g_now_strengths p1 s.heap.size u4 hu5) (cwV 1 hts gX3_sea_X1_begin rfl rfl rfl (by decide +kernel) ⟨(Nat.le_of_ble_eq_true rfl), (Nat.le_of_ble_eq_true rfl)⟩) (preW_V (hP.sub (ws' := [oX1 a_now g_now_month g_now_floes g_now_founds g_now_notes g_now_undos, rI cyI (a_now 1) 12 g_now_ways, rI cyI (a_now 2) 12 g_now_strengths]) [1, 2, 3] rfl) (hD.sub (ws' := [oX1 a_now g_now_month g_now_floes g_now_founds g_now_notes g_now_undos, rI cyI (a_now 1) 12 g_now_ways, rI cyI (a_now 2) 12 g_now_strengths]) [1, 2, 3] (by decide) rfl) hKK (va_recv hK hP (ci := 0) (q0 := 1) rfl rfl)) rfl rfl hl.1 rfl (lv_room (Nat.le_of_ble_eq_true rfl)) dX3_sea_28 ⟨Nat.zero_le _, Nat.zero_le _⟩) hP hD hS hA [1, 2, 3] [0] [0, 1, 2, 3] rfl rfl (by decide) (by decide) rfl (by decide) (fun H7 L8 hP hD hS => ?_)
    refine lv_iload_n hx hb dX3_sea_31 rfl (lv_at hl 0 rfl) ?_
    rw [← Option.some.inj h6]
    exact W.iret (v := g_now_floes) hx hb hr (fun t ht hW => ⟨⟨g_now_floes, (), rfl, rfl, ⟨by rw [ht]; exact hP, hD⟩⟩, hS.F ht⟩) hS.2.2 dX3_sea_32
  · have h9 := (if_pos c2).symm.trans hT
    refine lv_aload_n hx hb dX3_sea_10 rfl (lv_at hl 0 rfl) ?_
    obtain ⟨u10, hu11, h12⟩ := lt_e h9
    refine kw_I (wc := [oX3 a a_now a_spare a_text g_above g_below g_bads g_nos g_fulls]) (wr := [oX1 a_now g_now_month g_now_floes g_now_founds g_now_notes g_now_undos, rI cyI (a_now 1) 12 g_now_ways, rI cyI (a_now 2) 12 g_now_strengths]) (ws' := [oX3 a a_now a_spare a_text g_above g_below u10.2 g_nos g_fulls, oX1 a_now g_now_month g_now_floes g_now_founds g_now_notes g_now_undos, rI cyI (a_now 1) 12 g_now_ways, rI cyI (a_now 2) 12 g_now_strengths]) (va_runV (As := []) (rest := []) ⟨hx, hb, hml, hown, hts⟩ (c_X3_refuseBad l D cyI cyJ cyS a a_now a_spare a_text g_above g_below g_bads g_nos g_fulls s.heap.size u10 hu11.symm) (cwV 0 hts gX3_sea_X3_refuseBad rfl rfl rfl (by decide +kernel) ⟨(Nat.le_of_ble_eq_true rfl), (Nat.le_of_ble_eq_true rfl)⟩) (preW_V (hP.sub (ws' := [oX3 a a_now a_spare a_text g_above g_below g_bads g_nos g_fulls]) [0] rfl) (hD.sub (ws' := [oX3 a a_now a_spare a_text g_above g_below g_bads g_nos g_fulls]) [0] (by decide) rfl) hKK (va_recv hK hP (ci := 2) (q0 := 0) rfl rfl)) rfl rfl hl.1 rfl (lv_room (Nat.le_of_ble_eq_true rfl)) dX3_sea_11 ⟨Nat.zero_le _, Nat.zero_le _⟩) hP hD hS hA [0] [1, 2, 3] [3, 0, 1, 2] rfl rfl (by decide) (by decide) rfl (by decide) (fun H13 L14 hP hD hS => ?_)
    rw [← Option.some.inj h12]
    exact W.iret (v := u10.1) hx hb hr (fun t ht hW => ⟨⟨u10.1, (), rfl, rfl, ⟨by rw [ht]; exact hP, hD⟩⟩, hS.F ht⟩) hS.2.2 dX3_sea_14
def T_X3_wind (N : Nat) (g_bads : Int32) (g_now_undos : Int32) (g_now_ways : Nat → Int32) (g_now_strengths : Nat → Int32) (p1 : Int32) (p2 : Int32) (p3 : Int32) : Option (Int32 × Int32 × Int32 × (Nat → Int32) × (Nat → Int32)) :=
  (jn (lt' (T_X3_refuseBad g_bads) fun u8 => (some (u8.1, u8.2, g_now_undos, g_now_ways, g_now_strengths))) fun j2 => (if (T_X3_within p1 0 11) = 0 then j2 else (if (T_X3_isWind p2 p3) = 0 then j2 else (ob p1 12 (ob p1 12 (lt' ((10 * (g_now_ways p1.toNatClampNeg)) + (g_now_strengths p1.toNatClampNeg)) fun x23 => (Option.bind (T_X1_tellWind N g_now_undos g_now_ways g_now_strengths p1 p2 p3) fun u25 => (some (x23, g_bads, u25.1, u25.2.1, u25.2.2)))))))))
abbrev rm_X3_wind : Room := { frames := 2, cells := 0, slots := 0, locals := 43 }
set_option maxHeartbeats 4000000 in
set_option maxRecDepth 100000 in
theorem c_X3_wind (l : Launch) (D : va_G) (cyI cyJ cyS : ClassId) (N : Nat) (a a_now a_spare a_text : Nat → Nat) (g_above : Int64) (g_below : Int64) (g_bads : Int32) (g_nos : Int32) (g_fulls : Int32) (g_now_month : Int32) (g_now_floes : Int32) (g_now_founds : Int32) (g_now_notes : Int32) (g_now_undos : Int32) (g_now_ways : Nat → Int32) (g_now_strengths : Nat → Int32) (p1 : Int32) (p2 : Int32) (p3 : Int32) (sz : Nat) (R0 : Int32 × Int32 × Int32 × (Nat → Int32) × (Nat → Int32)) (hT : T_X3_wind N g_bads g_now_undos g_now_ways g_now_strengths p1 p2 p3 = some R0) : Met l yX3_wind wsX3_wind rm_X3_wind (va_Pc [.ref (a 0), .int p1, .int p2, .int p3] (preW D (tyS cyI cyJ cyS) [oX3 a a_now a_spare a_text g_above g_below g_bads g_nos g_fulls, oX1 a_now g_now_month g_now_floes g_now_founds g_now_notes g_now_undos, rI cyI (a_now 1) 12 g_now_ways, rI cyI (a_now 2) 12 g_now_strengths] sz)) (va_Qi (fun (r : Int32) (_ : Unit) => r = R0.1) (fun _ t => va_P D vwCl [oX3 a a_now a_spare a_text g_above g_below R0.2.1 g_nos g_fulls, oX1 a_now g_now_month g_now_floes g_now_founds g_now_notes R0.2.2.1, rI cyI (a_now 1) 12 R0.2.2.2.1, rI cyI (a_now 2) 12 R0.2.2.2.2] t.heap ∧ va_D (va_A [oX3 a a_now a_spare a_text g_above g_below g_bads g_nos g_fulls, oX1 a_now g_now_month g_now_floes g_now_founds g_now_notes g_now_undos, rI cyI (a_now 1) 12 g_now_ways, rI cyI (a_now 2) 12 g_now_strengths] sz) [oX3 a a_now a_spare a_text g_above g_below R0.2.1 g_nos g_fulls, oX1 a_now g_now_month g_now_floes g_now_founds g_now_notes R0.2.2.1, rI cyI (a_now 1) 12 R0.2.2.2.1, rI cyI (a_now 2) 12 R0.2.2.2.2]) (va_A [oX3 a a_now a_spare a_text g_above g_below g_bads g_nos g_fulls, oX1 a_now g_now_month g_now_floes g_now_founds g_now_notes g_now_undos, rI cyI (a_now 1) 12 g_now_ways, rI cyI (a_now 2) 12 g_now_strengths] sz)) 0 0 (va_A [oX3 a a_now a_spare a_text g_above g_below g_bads g_nos g_fulls, oX1 a_now g_now_month g_now_floes g_now_founds g_now_notes g_now_undos, rI cyI (a_now 1) 12 g_now_ways, rI cyI (a_now 2) 12 g_now_strengths] sz) := by
  refine Met.ofW (cc := cX3_wind) (maxL := 5) (ret := (some .int)) (by decide) rfl ?_
  intro p e s m args below meth c s₁ B hml hv
  obtain ⟨rfl, hsz, hP, hKK, hD0⟩ := hv
  have hx := B.exec
  have hb := B.bytes
  have hr := B.returns
  have hts := atoms_spec (ws := wsX3_wind) B.pre
  have hown : s.vm.findClass RX3 = some m.cls := findClass_of_methodNamed B.named
  have hlocks := B.notSynchronized
  have hK := hKK.1
  have inX3 : ∀ w ∈ wsX30, w ∈ wsX3_wind := (fun _ h => List.mem_cons_of_mem _ (List.mem_append_left _ (List.mem_append_right _ h)))
  have inX1 : ∀ w ∈ wsX10, w ∈ wsX3_wind := (fun _ h => List.mem_cons_of_mem _ (List.mem_append_right _ h))
  subst hsz
  have hD := hD0.self (sz := s.heap.size)
  generalize hAe : va_A [oX3 a a_now a_spare a_text g_above g_below g_bads g_nos g_fulls, oX1 a_now g_now_month g_now_floes g_now_founds g_now_notes g_now_undos, rI cyI (a_now 1) 12 g_now_ways, rI cyI (a_now 2) 12 g_now_strengths] s.heap.size = A at hD ⊢
  have hA : ∀ q : Nat, s.heap.size ≤ q → A q := fun q h => by rw [← hAe]; exact Or.inr h
  have hS : va_S A s.heap s.heap [] := va_S.rf
  have hP : va_P D vwCl [oX3 a a_now a_spare a_text g_above g_below g_bads g_nos g_fulls, oX1 a_now g_now_month g_now_floes g_now_founds g_now_notes g_now_undos, rI cyI (a_now 1) 12 g_now_ways, rI cyI (a_now 2) 12 g_now_strengths] s.heap := hP
  have hl := lv_entry [.ref (a 0), .int p1, .int p2, .int p3] (n := 5) (Nat.le_of_ble_eq_true rfl)
  rw [lg_entry_eq]
  generalize (lg_sl [.ref (a 0), .int p1, .int p2, .int p3] ++ List.replicate (5 - (lg_sl [.ref (a 0), .int p1, .int p2, .int p3]).length) Slot.unset).toArray = ls at hl ⊢
  have hl : lv_has ls 5 [(0, .ref (a 0)), (1, .int p1), (2, .int p2), (3, .int p3)] := hl
  unfold T_X3_wind at hT
  refine lv_iload_n hx hb dX3_wind_0 rfl (lv_at hl 1 rfl) ?_
  refine lv_iconst (v := 0) hx hb dX3_wind_1 (by decide) ?_
  refine lv_bipush (v := 11) hx hb dX3_wind_2 (by decide) ?_
  refine kc_Z (W.runS (As := [.int p1, .int 0, .int 11]) (rest := []) ⟨hx, hb, hml, hown, hts⟩ (c_X3_within l p1 0 11 (T_X3_within p1 0 11) rfl) (va_cwS 3 hts gX3_wind_X3_within rfl rfl rfl (by decide +kernel) ⟨(Nat.le_of_ble_eq_true rfl), (Nat.le_of_ble_eq_true rfl)⟩) preT_S rfl rfl hl.1 rfl (lv_room (Nat.le_of_ble_eq_true rfl)) dX3_wind_4 ⟨Nat.zero_le _, Nat.zero_le _⟩) (fun hn1 => ?_)
  obtain ⟨j2, hj3, h4⟩ := jn_e hT
  have Jj2 : ∀ (H : Heap) (locs : List Loc) (ls : Array Slot), j2 = some R0 → va_P D vwCl [oX3 a a_now a_spare a_text g_above g_below g_bads g_nos g_fulls, oX1 a_now g_now_month g_now_floes g_now_founds g_now_notes g_now_undos, rI cyI (a_now 1) 12 g_now_ways, rI cyI (a_now 2) 12 g_now_strengths] H → va_D A [oX3 a a_now a_spare a_text g_above g_below g_bads g_nos g_fulls, oX1 a_now g_now_month g_now_floes g_now_founds g_now_notes g_now_undos, rI cyI (a_now 1) 12 g_now_ways, rI cyI (a_now 2) 12 g_now_strengths] → va_S A s.heap H locs → lv_has ls 5 [(0, .ref (a 0))] → W p l e (headSpec wsX3_wind rm_X3_wind).room s m ([.ref (a 0), .int p1, .int p2, .int p3] : List Value).toArray below meth c H locs 0 0 (MQ below (va_Qi (fun (r : Int32) (_ : Unit) => r = R0.1) (fun _ t => va_P D vwCl [oX3 a a_now a_spare a_text g_above g_below R0.2.1 g_nos g_fulls, oX1 a_now g_now_month g_now_floes g_now_founds g_now_notes R0.2.2.1, rI cyI (a_now 1) 12 R0.2.2.2.1, rI cyI (a_now 2) 12 R0.2.2.2.2] t.heap ∧ va_D A [oX3 a a_now a_spare a_text g_above g_below R0.2.1 g_nos g_fulls, oX1 a_now g_now_month g_now_floes g_now_founds g_now_notes R0.2.2.1, rI cyI (a_now 1) 12 R0.2.2.2.1, rI cyI (a_now 2) 12 R0.2.2.2.2]) A) ([.ref (a 0), .int p1, .int p2, .int p3] : List Value).toArray s 0 0 A) (F0 m 18 ls []) := by
    intro H6 L7 ls h5 hP hD hS hl
    rw [hj3] at h5
    refine lv_aload_n hx hb dX3_wind_18 rfl (lv_at hl 0 rfl) ?_
    obtain ⟨u8, hu9, h10⟩ := lt_e h5
    refine kw_I (wc := [oX3 a a_now a_spare a_text g_above g_below g_bads g_nos g_fulls]) (wr := [oX1 a_now g_now_month g_now_floes g_now_founds g_now_notes g_now_undos, rI cyI (a_now 1) 12 g_now_ways, rI cyI (a_now 2) 12 g_now_strengths]) (ws' := [oX3 a a_now a_spare a_text g_above g_below u8.2 g_nos g_fulls, oX1 a_now g_now_month g_now_floes g_now_founds g_now_notes g_now_undos, rI cyI (a_now 1) 12 g_now_ways, rI cyI (a_now 2) 12 g_now_strengths]) (va_runV (As := []) (rest := []) ⟨hx, hb, hml, hown, hts⟩ (c_X3_refuseBad l D cyI cyJ cyS a a_now a_spare a_text g_above g_below g_bads g_nos g_fulls H6.size u8 hu9.symm) (cwV 0 hts gX3_wind_X3_refuseBad rfl rfl rfl (by decide +kernel) ⟨(Nat.le_of_ble_eq_true rfl), (Nat.le_of_ble_eq_true rfl)⟩) (preW_V (hP.sub (ws' := [oX3 a a_now a_spare a_text g_above g_below g_bads g_nos g_fulls]) [0] rfl) (hD.sub (ws' := [oX3 a a_now a_spare a_text g_above g_below g_bads g_nos g_fulls]) [0] (by decide) rfl) hKK (va_recv hK hP (ci := 2) (q0 := 0) rfl rfl)) rfl rfl hl.1 rfl (lv_room (Nat.le_of_ble_eq_true rfl)) dX3_wind_19 ⟨Nat.zero_le _, Nat.zero_le _⟩) hP hD hS hA [0] [1, 2, 3] [3, 0, 1, 2] rfl rfl (by decide) (by decide) rfl (by decide) (fun H11 L12 hP hD hS => ?_)
    rw [← Option.some.inj h10]
    exact W.iret (v := u8.1) hx hb hr (fun t ht hW => ⟨⟨u8.1, (), rfl, rfl, ⟨by rw [ht]; exact hP, hD⟩⟩, hS.F ht⟩) hS.2.2 dX3_wind_22
  refine lv_if_eq (tgt := 18) hx hb dX3_wind_7 (by decide) (fun c13 => ?_) (fun c13 => ?_)
  · have h14 := (if_pos c13).symm.trans h4
    exact Jj2  _ _ _ h14 hP hD hS (lv_sub hl [0] rfl)
  · have h15 := (if_neg c13).symm.trans h4
    refine lv_iload_n hx hb dX3_wind_10 rfl (lv_at hl 2 rfl) ?_
    refine lv_iload_n hx hb dX3_wind_11 rfl (lv_at hl 3 rfl) ?_
    refine kc_Z (W.runS (As := [.int p2, .int p3]) (rest := []) ⟨hx, hb, hml, hown, hts⟩ (c_X3_isWind l p2 p3 (T_X3_isWind p2 p3) rfl) (va_cwS 2 hts gX3_wind_X3_isWind rfl rfl rfl (by decide +kernel) ⟨(Nat.le_of_ble_eq_true rfl), (Nat.le_of_ble_eq_true rfl)⟩) preT_S rfl rfl hl.1 rfl (lv_room (Nat.le_of_ble_eq_true rfl)) dX3_wind_12 ⟨Nat.zero_le _, Nat.zero_le _⟩) (fun hn16 => ?_)
    refine lv_if_ne (tgt := 23) hx hb dX3_wind_15 (by decide) (fun c17 => ?_) (fun c17 => ?_)
    · have h18 := (if_neg c17).symm.trans h15
      refine lv_bipush (v := 10) hx hb dX3_wind_23 (by decide) ?_
      refine lv_aload_n hx hb dX3_wind_25 rfl (lv_at hl 0 rfl) ?_
      refine va_get (D := D) (cl := vwCl) (ci := 2) (v := .ref (a_now 0)) (C := RX3) (T := TX3) (N := 12) hx hb hts inX3 hown hK hP 0 rfl rfl 0 (by decide) (hts (Cond.fieldLink RX3 10 "FrozenIn" "now" "LFrozenIn$Sea;") (List.mem_of_getElem? (i := 1) rfl)) (fun _ h9 => h9) rfl dX3_wind_26 ?_
      refine va_get (D := D) (cl := vwCl) (ci := 0) (v := .ref (a_now 1)) (C := RX1) (T := TX1) (N := 13) hx hb hts inX1 hown hK hP 1 rfl rfl 1 (by decide) (hts (Cond.fieldLink RX3 65 "FrozenIn$Sea" "ways" "[I") (List.mem_of_getElem? (i := 2) rfl)) (fun _ h9 => h9) rfl dX3_wind_29 ?_
      refine lv_iload_n hx hb dX3_wind_32 rfl (lv_at hl 1 rfl) ?_
      obtain ⟨hi20, h19⟩ := ob_e h18
      refine va_iald hx hb hK hP 2 0 rfl rfl hi20 dX3_wind_33 ?_
      refine lv_imul hx hb dX3_wind_34 ?_
      refine lv_aload_n hx hb dX3_wind_35 rfl (lv_at hl 0 rfl) ?_
      refine va_get (D := D) (cl := vwCl) (ci := 2) (v := .ref (a_now 0)) (C := RX3) (T := TX3) (N := 12) hx hb hts inX3 hown hK hP 0 rfl rfl 0 (by decide) (hts (Cond.fieldLink RX3 10 "FrozenIn" "now" "LFrozenIn$Sea;") (List.mem_of_getElem? (i := 1) rfl)) (fun _ h9 => h9) rfl dX3_wind_36 ?_
      refine va_get (D := D) (cl := vwCl) (ci := 0) (v := .ref (a_now 2)) (C := RX1) (T := TX1) (N := 13) hx hb hts inX1 hown hK hP 1 rfl rfl 2 (by decide) (hts (Cond.fieldLink RX3 68 "FrozenIn$Sea" "strengths" "[I") (List.mem_of_getElem? (i := 3) rfl)) (fun _ h9 => h9) rfl dX3_wind_39 ?_
      refine lv_iload_n hx hb dX3_wind_42 rfl (lv_at hl 1 rfl) ?_
      obtain ⟨hi22, h21⟩ := ob_e h19
      refine va_iald hx hb hK hP 3 0 rfl rfl hi22 dX3_wind_43 ?_
      refine lv_iadd hx hb dX3_wind_44 ?_
      obtain ⟨x23, ex23, h24⟩ := lt_e h21
      refine lv_nm ex23 ?_
      refine lv_istore (lv' := [(4, .int x23), (0, .ref (a 0)), (1, .int p1), (2, .int p2), (3, .int p3)]) hx hb dX3_wind_45 hl (by decide) rfl (fun ls hl => ?_)
      refine lv_aload_n hx hb dX3_wind_47 rfl (lv_at hl 1 rfl) ?_
      refine va_get (D := D) (cl := vwCl) (ci := 2) (v := .ref (a_now 0)) (C := RX3) (T := TX3) (N := 12) hx hb hts inX3 hown hK hP 0 rfl rfl 0 (by decide) (hts (Cond.fieldLink RX3 10 "FrozenIn" "now" "LFrozenIn$Sea;") (List.mem_of_getElem? (i := 1) rfl)) (fun _ h9 => h9) rfl dX3_wind_48 ?_
      refine lv_iload_n hx hb dX3_wind_51 rfl (lv_at hl 2 rfl) ?_
      refine lv_iload_n hx hb dX3_wind_52 rfl (lv_at hl 3 rfl) ?_
      refine lv_iload_n hx hb dX3_wind_53 rfl (lv_at hl 4 rfl) ?_
      obtain ⟨u25, hu26, h27⟩ := bd_e h24
      refine kw_V (wc := [oX1 a_now g_now_month g_now_floes g_now_founds g_now_notes g_now_undos, rI cyI (a_now 1) 12 g_now_ways, rI cyI (a_now 2) 12 g_now_strengths]) (wr := [oX3 a a_now a_spare a_text g_above g_below g_bads g_nos g_fulls]) (ws' := [oX3 a a_now a_spare a_text g_above g_below g_bads g_nos g_fulls, oX1 a_now g_now_month g_now_floes g_now_founds g_now_notes u25.1, rI cyI (a_now 1) 12 u25.2.1, rI cyI (a_now 2) 12 u25.2.2]) (va_runV (As := [.int p1, .int p2, .int p3]) (rest := []) ⟨hx, hb, hml, hown, hts⟩ (c_X1_tellWind l D cyI cyJ cyS N a_now g_now_month g_now_floes g_now_founds g_now_notes g_now_undos g_now_ways g_now_strengths p1 p2 p3 s.heap.size u25 hu26) (cwV 3 hts gX3_wind_X1_tellWind rfl rfl rfl (by decide +kernel) ⟨(Nat.le_of_ble_eq_true rfl), (Nat.le_of_ble_eq_true rfl)⟩) (preW_V (hP.sub (ws' := [oX1 a_now g_now_month g_now_floes g_now_founds g_now_notes g_now_undos, rI cyI (a_now 1) 12 g_now_ways, rI cyI (a_now 2) 12 g_now_strengths]) [1, 2, 3] rfl) (hD.sub (ws' := [oX1 a_now g_now_month g_now_floes g_now_founds g_now_notes g_now_undos, rI cyI (a_now 1) 12 g_now_ways, rI cyI (a_now 2) 12 g_now_strengths]) [1, 2, 3] (by decide) rfl) hKK (va_recv hK hP (ci := 0) (q0 := 1) rfl rfl)) rfl rfl hl.1 rfl (lv_room (Nat.le_of_ble_eq_true rfl)) dX3_wind_54 ⟨Nat.zero_le _, Nat.zero_le _⟩) hP hD hS hA [1, 2, 3] [0] [0, 1, 2, 3] rfl rfl (by decide) (by decide) rfl (by decide) (fun H28 L29 hP hD hS => ?_)
      refine lv_iload hx hb dX3_wind_57 (lv_at hl 0 rfl) ?_
      rw [← Option.some.inj h27]
      exact W.iret (v := x23) hx hb hr (fun t ht hW => ⟨⟨x23, (), rfl, rfl, ⟨by rw [ht]; exact hP, hD⟩⟩, hS.F ht⟩) hS.2.2 dX3_wind_59
    · have h30 := (if_pos c17).symm.trans h15
      exact Jj2  _ _ _ h30 hP hD hS (lv_sub hl [0] rfl)
def T_X3_refuseFull (g_fulls : Int32) : Int32 × Int32 :=
  ((-4), g_fulls + 1)
abbrev rm_X3_refuseFull : Room := { frames := 0, cells := 0, slots := 0, locals := 0 }
set_option maxHeartbeats 4000000 in
set_option maxRecDepth 100000 in
theorem c_X3_refuseFull (l : Launch) (D : va_G) (cyI cyJ cyS : ClassId) (a a_now a_spare a_text : Nat → Nat) (g_above : Int64) (g_below : Int64) (g_bads : Int32) (g_nos : Int32) (g_fulls : Int32) (sz : Nat) (R0 : Int32 × Int32) (hT : T_X3_refuseFull g_fulls = R0) : Met l yX3_refuseFull wsX3_refuseFull rm_X3_refuseFull (va_Pc [.ref (a 0)] (preW D (tyS cyI cyJ cyS) [oX3 a a_now a_spare a_text g_above g_below g_bads g_nos g_fulls] sz)) (va_Qi (fun (r : Int32) (_ : Unit) => r = R0.1) (fun _ t => va_P D vwCl [oX3 a a_now a_spare a_text g_above g_below g_bads g_nos R0.2] t.heap ∧ va_D (va_A [oX3 a a_now a_spare a_text g_above g_below g_bads g_nos g_fulls] sz) [oX3 a a_now a_spare a_text g_above g_below g_bads g_nos R0.2]) (va_A [oX3 a a_now a_spare a_text g_above g_below g_bads g_nos g_fulls] sz)) 0 0 (va_A [oX3 a a_now a_spare a_text g_above g_below g_bads g_nos g_fulls] sz) := by
  refine Met.ofW (cc := cX3_refuseFull) (maxL := 1) (ret := (some .int)) (by decide) rfl ?_
  intro p e s m args below meth c s₁ B hml hv
  obtain ⟨rfl, hsz, hP, hKK, hD0⟩ := hv
  have hx := B.exec
  have hb := B.bytes
  have hr := B.returns
  have hts := atoms_spec (ws := wsX3_refuseFull) B.pre
  have hown : s.vm.findClass RX3 = some m.cls := findClass_of_methodNamed B.named
  have hlocks := B.notSynchronized
  have hK := hKK.1
  have inX3 : ∀ w ∈ wsX30, w ∈ wsX3_refuseFull := (fun _ h => List.mem_cons_of_mem _ (List.mem_append_right _ h))
  subst hsz
  have hD := hD0.self (sz := s.heap.size)
  generalize hAe : va_A [oX3 a a_now a_spare a_text g_above g_below g_bads g_nos g_fulls] s.heap.size = A at hD ⊢
  have hA : ∀ q : Nat, s.heap.size ≤ q → A q := fun q h => by rw [← hAe]; exact Or.inr h
  have hS : va_S A s.heap s.heap [] := va_S.rf
  have hP : va_P D vwCl [oX3 a a_now a_spare a_text g_above g_below g_bads g_nos g_fulls] s.heap := hP
  have hl := lv_entry [.ref (a 0)] (n := 1) (Nat.le_of_ble_eq_true rfl)
  rw [lg_entry_eq]
  generalize (lg_sl [.ref (a 0)] ++ List.replicate (1 - (lg_sl [.ref (a 0)]).length) Slot.unset).toArray = ls at hl ⊢
  have hl : lv_has ls 1 [(0, .ref (a 0))] := hl
  unfold T_X3_refuseFull at hT
  refine lv_aload_n hx hb dX3_refuseFull_0 rfl (lv_at hl 0 rfl) ?_
  refine lv_dup hx hb dX3_refuseFull_1 rfl ?_
  refine va_get (D := D) (cl := vwCl) (ci := 2) (v := .int g_fulls) (C := RX3) (T := TX3) (N := 12) hx hb hts inX3 hown hK hP 0 rfl rfl 11 (by decide) (hts (Cond.fieldLink RX3 233 "FrozenIn" "fulls" "I") (List.mem_of_getElem? (i := 1) rfl)) (fun _ h9 => h9) rfl dX3_refuseFull_2 ?_
  refine lv_iconst (v := 1) hx hb dX3_refuseFull_5 (by decide) ?_
  refine lv_iadd hx hb dX3_refuseFull_6 ?_
  refine va_put (D := D) (cl := vwCl) (ci := 2) (v := .int (g_fulls + 1)) (ty := .int) (C := RX3) (T := TX3) (N := 12) hx hb hts inX3 tyX3 tyX3_ok nmX3 hown hK hP hD hS 0 rfl rfl 11 (by decide) (hts (Cond.fieldLink RX3 233 "FrozenIn" "fulls" "I") (List.mem_of_getElem? (i := 1) rfl)) (fun _ h9 => h9) rfl (by decide +kernel) rfl rfl (Nat.le_of_ble_eq_true rfl) dX3_refuseFull_7 (fun H1 L2 hP hD hS => ?_)
  have hP : va_P D vwCl [oX3 a a_now a_spare a_text g_above g_below g_bads g_nos (g_fulls + 1)] H1 := hP
  have hD : va_D A [oX3 a a_now a_spare a_text g_above g_below g_bads g_nos (g_fulls + 1)] := hD
  refine lv_bipush (v := (-4)) hx hb dX3_refuseFull_10 (by decide) ?_
  rw [← hT]
  exact W.iret (v := (-4)) hx hb hr (fun t ht hW => ⟨⟨(-4), (), rfl, rfl, ⟨by rw [ht]; exact hP, hD⟩⟩, hS.F ht⟩) hS.2.2 dX3_refuseFull_12
def T_X3_floe (N : Nat) (g_bads : Int32) (g_fulls : Int32) (g_now_floes : Int32) (g_now_undos : Int32) (g_now_kinds : Nat → Int32) (g_now_cells : Nat → Int32) (g_now_foods : Nat → Int32) (p1 : Int32) (p2 : Int32) (p3 : Int32) : Option (Int32 × Int32 × Int32 × Int32 × Int32 × (Nat → Int32) × (Nat → Int32) × (Nat → Int32)) :=
  (jn (lt' (T_X3_refuseBad g_bads) fun u8 => (some (u8.1, u8.2, g_fulls, g_now_floes, g_now_undos, g_now_kinds, g_now_cells, g_now_foods))) fun j2 => (if (T_X3_isKind p1) = 0 then j2 else (if (T_X3_isCell p2) = 0 then j2 else (if (T_X3_within p3 0 60) = 0 then j2 else (if g_now_floes < 5 then (Option.bind (T_X1_addFloe N g_now_floes g_now_undos g_now_kinds g_now_cells g_now_foods p1 p2 p3) fun u25 => (some (u25.1 - 1, g_bads, g_fulls, u25.1, u25.2.1, u25.2.2.1, u25.2.2.2.1, u25.2.2.2.2))) else (lt' (T_X3_refuseFull g_fulls) fun u31 => (some (u31.1, g_bads, u31.2, g_now_floes, g_now_undos, g_now_kinds, g_now_cells, g_now_foods))))))))
abbrev rm_X3_floe : Room := { frames := 2, cells := 0, slots := 0, locals := 42 }
set_option maxHeartbeats 4000000 in
set_option maxRecDepth 100000 in
theorem c_X3_floe (l : Launch) (D : va_G) (cyI cyJ cyS : ClassId) (N : Nat) (a a_now a_spare a_text : Nat → Nat) (g_above : Int64) (g_below : Int64) (g_bads : Int32) (g_nos : Int32) (g_fulls : Int32) (g_now_month : Int32) (g_now_floes : Int32) (g_now_founds : Int32) (g_now_notes : Int32) (g_now_undos : Int32) (g_now_kinds : Nat → Int32) (g_now_cells : Nat → Int32) (g_now_foods : Nat → Int32) (p1 : Int32) (p2 : Int32) (p3 : Int32) (sz : Nat) (R0 : Int32 × Int32 × Int32 × Int32 × Int32 × (Nat → Int32) × (Nat → Int32) × (Nat → Int32)) (hT : T_X3_floe N g_bads g_fulls g_now_floes g_now_undos g_now_kinds g_now_cells g_now_foods p1 p2 p3 = some R0) : Met l yX3_floe wsX3_floe rm_X3_floe (va_Pc [.ref (a 0), .int p1, .int p2, .int p3] (preW D (tyS cyI cyJ cyS) [oX3 a a_now a_spare a_text g_above g_below g_bads g_nos g_fulls, oX1 a_now g_now_month g_now_floes g_now_founds g_now_notes g_now_undos, rI cyI (a_now 3) 5 g_now_kinds, rI cyI (a_now 4) 5 g_now_cells, rI cyI (a_now 5) 5 g_now_foods] sz)) (va_Qi (fun (r : Int32) (_ : Unit) => r = R0.1) (fun _ t => va_P D vwCl [oX3 a a_now a_spare a_text g_above g_below R0.2.1 g_nos R0.2.2.1, oX1 a_now g_now_month R0.2.2.2.1 g_now_founds g_now_notes R0.2.2.2.2.1, rI cyI (a_now 3) 5 R0.2.2.2.2.2.1, rI cyI (a_now 4) 5 R0.2.2.2.2.2.2.1, rI cyI (a_now 5) 5 R0.2.2.2.2.2.2.2] t.heap ∧ va_D (va_A [oX3 a a_now a_spare a_text g_above g_below g_bads g_nos g_fulls, oX1 a_now g_now_month g_now_floes g_now_founds g_now_notes g_now_undos, rI cyI (a_now 3) 5 g_now_kinds, rI cyI (a_now 4) 5 g_now_cells, rI cyI (a_now 5) 5 g_now_foods] sz) [oX3 a a_now a_spare a_text g_above g_below R0.2.1 g_nos R0.2.2.1, oX1 a_now g_now_month R0.2.2.2.1 g_now_founds g_now_notes R0.2.2.2.2.1, rI cyI (a_now 3) 5 R0.2.2.2.2.2.1, rI cyI (a_now 4) 5 R0.2.2.2.2.2.2.1, rI cyI (a_now 5) 5 R0.2.2.2.2.2.2.2]) (va_A [oX3 a a_now a_spare a_text g_above g_below g_bads g_nos g_fulls, oX1 a_now g_now_month g_now_floes g_now_founds g_now_notes g_now_undos, rI cyI (a_now 3) 5 g_now_kinds, rI cyI (a_now 4) 5 g_now_cells, rI cyI (a_now 5) 5 g_now_foods] sz)) 0 0 (va_A [oX3 a a_now a_spare a_text g_above g_below g_bads g_nos g_fulls, oX1 a_now g_now_month g_now_floes g_now_founds g_now_notes g_now_undos, rI cyI (a_now 3) 5 g_now_kinds, rI cyI (a_now 4) 5 g_now_cells, rI cyI (a_now 5) 5 g_now_foods] sz) := by
  refine Met.ofW (cc := cX3_floe) (maxL := 4) (ret := (some .int)) (by decide) rfl ?_
  intro p e s m args below meth c s₁ B hml hv
  obtain ⟨rfl, hsz, hP, hKK, hD0⟩ := hv
  have hx := B.exec
  have hb := B.bytes
  have hr := B.returns
  have hts := atoms_spec (ws := wsX3_floe) B.pre
  have hown : s.vm.findClass RX3 = some m.cls := findClass_of_methodNamed B.named
  have hlocks := B.notSynchronized
  have hK := hKK.1
  have inX3 : ∀ w ∈ wsX30, w ∈ wsX3_floe := (fun _ h => List.mem_cons_of_mem _ (List.mem_append_left _ (List.mem_append_right _ h)))
  have inX1 : ∀ w ∈ wsX10, w ∈ wsX3_floe := (fun _ h => List.mem_cons_of_mem _ (List.mem_append_right _ h))
  subst hsz
  have hD := hD0.self (sz := s.heap.size)
  generalize hAe : va_A [oX3 a a_now a_spare a_text g_above g_below g_bads g_nos g_fulls, oX1 a_now g_now_month g_now_floes g_now_founds g_now_notes g_now_undos, rI cyI (a_now 3) 5 g_now_kinds, rI cyI (a_now 4) 5 g_now_cells, rI cyI (a_now 5) 5 g_now_foods] s.heap.size = A at hD ⊢
  have hA : ∀ q : Nat, s.heap.size ≤ q → A q := fun q h => by rw [← hAe]; exact Or.inr h
  have hS : va_S A s.heap s.heap [] := va_S.rf
  have hP : va_P D vwCl [oX3 a a_now a_spare a_text g_above g_below g_bads g_nos g_fulls, oX1 a_now g_now_month g_now_floes g_now_founds g_now_notes g_now_undos, rI cyI (a_now 3) 5 g_now_kinds, rI cyI (a_now 4) 5 g_now_cells, rI cyI (a_now 5) 5 g_now_foods] s.heap := hP
  have hl := lv_entry [.ref (a 0), .int p1, .int p2, .int p3] (n := 4) (Nat.le_of_ble_eq_true rfl)
  rw [lg_entry_eq]
  generalize (lg_sl [.ref (a 0), .int p1, .int p2, .int p3] ++ List.replicate (4 - (lg_sl [.ref (a 0), .int p1, .int p2, .int p3]).length) Slot.unset).toArray = ls at hl ⊢
  have hl : lv_has ls 4 [(0, .ref (a 0)), (1, .int p1), (2, .int p2), (3, .int p3)] := hl
  unfold T_X3_floe at hT
  refine lv_iload_n hx hb dX3_floe_0 rfl (lv_at hl 1 rfl) ?_
  refine kc_Z (W.runS (As := [.int p1]) (rest := []) ⟨hx, hb, hml, hown, hts⟩ (c_X3_isKind l p1 (T_X3_isKind p1) rfl) (va_cwS 1 hts gX3_floe_X3_isKind rfl rfl rfl (by decide +kernel) ⟨(Nat.le_of_ble_eq_true rfl), (Nat.le_of_ble_eq_true rfl)⟩) preT_S rfl rfl hl.1 rfl (lv_room (Nat.le_of_ble_eq_true rfl)) dX3_floe_1 ⟨Nat.zero_le _, Nat.zero_le _⟩) (fun hn1 => ?_)
  obtain ⟨j2, hj3, h4⟩ := jn_e hT
  have Jj2 : ∀ (H : Heap) (locs : List Loc) (ls : Array Slot), j2 = some R0 → va_P D vwCl [oX3 a a_now a_spare a_text g_above g_below g_bads g_nos g_fulls, oX1 a_now g_now_month g_now_floes g_now_founds g_now_notes g_now_undos, rI cyI (a_now 3) 5 g_now_kinds, rI cyI (a_now 4) 5 g_now_cells, rI cyI (a_now 5) 5 g_now_foods] H → va_D A [oX3 a a_now a_spare a_text g_above g_below g_bads g_nos g_fulls, oX1 a_now g_now_month g_now_floes g_now_founds g_now_notes g_now_undos, rI cyI (a_now 3) 5 g_now_kinds, rI cyI (a_now 4) 5 g_now_cells, rI cyI (a_now 5) 5 g_now_foods] → va_S A s.heap H locs → lv_has ls 4 [(0, .ref (a 0))] → W p l e (headSpec wsX3_floe rm_X3_floe).room s m ([.ref (a 0), .int p1, .int p2, .int p3] : List Value).toArray below meth c H locs 0 0 (MQ below (va_Qi (fun (r : Int32) (_ : Unit) => r = R0.1) (fun _ t => va_P D vwCl [oX3 a a_now a_spare a_text g_above g_below R0.2.1 g_nos R0.2.2.1, oX1 a_now g_now_month R0.2.2.2.1 g_now_founds g_now_notes R0.2.2.2.2.1, rI cyI (a_now 3) 5 R0.2.2.2.2.2.1, rI cyI (a_now 4) 5 R0.2.2.2.2.2.2.1, rI cyI (a_now 5) 5 R0.2.2.2.2.2.2.2] t.heap ∧ va_D A [oX3 a a_now a_spare a_text g_above g_below R0.2.1 g_nos R0.2.2.1, oX1 a_now g_now_month R0.2.2.2.1 g_now_founds g_now_notes R0.2.2.2.2.1, rI cyI (a_now 3) 5 R0.2.2.2.2.2.1, rI cyI (a_now 4) 5 R0.2.2.2.2.2.2.1, rI cyI (a_now 5) 5 R0.2.2.2.2.2.2.2]) A) ([.ref (a 0), .int p1, .int p2, .int p3] : List Value).toArray s 0 0 A) (F0 m 24 ls []) := by
    intro H6 L7 ls h5 hP hD hS hl
    rw [hj3] at h5
    refine lv_aload_n hx hb dX3_floe_24 rfl (lv_at hl 0 rfl) ?_
    obtain ⟨u8, hu9, h10⟩ := lt_e h5
    refine kw_I (wc := [oX3 a a_now a_spare a_text g_above g_below g_bads g_nos g_fulls]) (wr := [oX1 a_now g_now_month g_now_floes g_now_founds g_now_notes g_now_undos, rI cyI (a_now 3) 5 g_now_kinds, rI cyI (a_now 4) 5 g_now_cells, rI cyI (a_now 5) 5 g_now_foods]) (ws' := [oX3 a a_now a_spare a_text g_above g_below u8.2 g_nos g_fulls, oX1 a_now g_now_month g_now_floes g_now_founds g_now_notes g_now_undos, rI cyI (a_now 3) 5 g_now_kinds, rI cyI (a_now 4) 5 g_now_cells, rI cyI (a_now 5) 5 g_now_foods]) (va_runV (As := []) (rest := []) ⟨hx, hb, hml, hown, hts⟩ (c_X3_refuseBad l D cyI cyJ cyS a a_now a_spare a_text g_above g_below g_bads g_nos g_fulls H6.size u8 hu9.symm) (cwV 0 hts gX3_floe_X3_refuseBad rfl rfl rfl (by decide +kernel) ⟨(Nat.le_of_ble_eq_true rfl), (Nat.le_of_ble_eq_true rfl)⟩) (preW_V (hP.sub (ws' := [oX3 a a_now a_spare a_text g_above g_below g_bads g_nos g_fulls]) [0] rfl) (hD.sub (ws' := [oX3 a a_now a_spare a_text g_above g_below g_bads g_nos g_fulls]) [0] (by decide) rfl) hKK (va_recv hK hP (ci := 2) (q0 := 0) rfl rfl)) rfl rfl hl.1 rfl (lv_room (Nat.le_of_ble_eq_true rfl)) dX3_floe_25 ⟨Nat.zero_le _, Nat.zero_le _⟩) hP hD hS hA [0] [1, 2, 3, 4] [4, 0, 1, 2, 3] rfl rfl (by decide) (by decide) rfl (by decide) (fun H11 L12 hP hD hS => ?_)
    rw [← Option.some.inj h10]
    exact W.iret (v := u8.1) hx hb hr (fun t ht hW => ⟨⟨u8.1, (), rfl, rfl, ⟨by rw [ht]; exact hP, hD⟩⟩, hS.F ht⟩) hS.2.2 dX3_floe_28
  refine lv_if_eq (tgt := 24) hx hb dX3_floe_4 (by decide) (fun c13 => ?_) (fun c13 => ?_)
  · have h14 := (if_pos c13).symm.trans h4
    exact Jj2  _ _ _ h14 hP hD hS (lv_sub hl [0] rfl)
  · have h15 := (if_neg c13).symm.trans h4
    refine lv_iload_n hx hb dX3_floe_7 rfl (lv_at hl 2 rfl) ?_
    refine kc_Z (W.runS (As := [.int p2]) (rest := []) ⟨hx, hb, hml, hown, hts⟩ (c_X3_isCell l p2 (T_X3_isCell p2) rfl) (va_cwS 1 hts gX3_floe_X3_isCell rfl rfl rfl (by decide +kernel) ⟨(Nat.le_of_ble_eq_true rfl), (Nat.le_of_ble_eq_true rfl)⟩) preT_S rfl rfl hl.1 rfl (lv_room (Nat.le_of_ble_eq_true rfl)) dX3_floe_8 ⟨Nat.zero_le _, Nat.zero_le _⟩) (fun hn16 => ?_)
    refine lv_if_eq (tgt := 24) hx hb dX3_floe_11 (by decide) (fun c17 => ?_) (fun c17 => ?_)
    · have h18 := (if_pos c17).symm.trans h15
      exact Jj2  _ _ _ h18 hP hD hS (lv_sub hl [0] rfl)
    · have h19 := (if_neg c17).symm.trans h15
      refine lv_iload_n hx hb dX3_floe_14 rfl (lv_at hl 3 rfl) ?_
      refine lv_iconst (v := 0) hx hb dX3_floe_15 (by decide) ?_
      refine lv_bipush (v := 60) hx hb dX3_floe_16 (by decide) ?_
      refine kc_Z (W.runS (As := [.int p3, .int 0, .int 60]) (rest := []) ⟨hx, hb, hml, hown, hts⟩ (c_X3_within l p3 0 60 (T_X3_within p3 0 60) rfl) (va_cwS 3 hts gX3_floe_X3_within rfl rfl rfl (by decide +kernel) ⟨(Nat.le_of_ble_eq_true rfl), (Nat.le_of_ble_eq_true rfl)⟩) preT_S rfl rfl hl.1 rfl (lv_room (Nat.le_of_ble_eq_true rfl)) dX3_floe_18 ⟨Nat.zero_le _, Nat.zero_le _⟩) (fun hn20 => ?_)
      refine lv_if_ne (tgt := 29) hx hb dX3_floe_21 (by decide) (fun c21 => ?_) (fun c21 => ?_)
      · have h22 := (if_neg c21).symm.trans h19
        refine lv_aload_n hx hb dX3_floe_29 rfl (lv_at hl 0 rfl) ?_
        refine va_get (D := D) (cl := vwCl) (ci := 2) (v := .ref (a_now 0)) (C := RX3) (T := TX3) (N := 12) hx hb hts inX3 hown hK hP 0 rfl rfl 0 (by decide) (hts (Cond.fieldLink RX3 10 "FrozenIn" "now" "LFrozenIn$Sea;") (List.mem_of_getElem? (i := 1) rfl)) (fun _ h9 => h9) rfl dX3_floe_30 ?_
        refine va_get (D := D) (cl := vwCl) (ci := 0) (v := .int g_now_floes) (C := RX1) (T := TX1) (N := 13) hx hb hts inX1 hown hK hP 1 rfl rfl 3 (by decide) (hts (Cond.fieldLink RX3 53 "FrozenIn$Sea" "floes" "I") (List.mem_of_getElem? (i := 2) rfl)) (fun _ h9 => h9) rfl dX3_floe_33 ?_
        refine lv_iconst (v := 5) hx hb dX3_floe_36 (by decide) ?_
        refine lv_icmp_lt (tgt := 45) hx hb dX3_floe_37 (by decide) (fun c23 => ?_) (fun c23 => ?_)
        · have h24 := (if_pos c23).symm.trans h22
          refine lv_aload_n hx hb dX3_floe_45 rfl (lv_at hl 0 rfl) ?_
          refine va_get (D := D) (cl := vwCl) (ci := 2) (v := .ref (a_now 0)) (C := RX3) (T := TX3) (N := 12) hx hb hts inX3 hown hK hP 0 rfl rfl 0 (by decide) (hts (Cond.fieldLink RX3 10 "FrozenIn" "now" "LFrozenIn$Sea;") (List.mem_of_getElem? (i := 1) rfl)) (fun _ h9 => h9) rfl dX3_floe_46 ?_
          refine lv_iload_n hx hb dX3_floe_49 rfl (lv_at hl 1 rfl) ?_
          refine lv_iload_n hx hb dX3_floe_50 rfl (lv_at hl 2 rfl) ?_
          refine lv_iload_n hx hb dX3_floe_51 rfl (lv_at hl 3 rfl) ?_
          obtain ⟨u25, hu26, h27⟩ := bd_e h24
          refine kw_V (wc := [oX1 a_now g_now_month g_now_floes g_now_founds g_now_notes g_now_undos, rI cyI (a_now 3) 5 g_now_kinds, rI cyI (a_now 4) 5 g_now_cells, rI cyI (a_now 5) 5 g_now_foods]) (wr := [oX3 a a_now a_spare a_text g_above g_below g_bads g_nos g_fulls]) (ws' := [oX3 a a_now a_spare a_text g_above g_below g_bads g_nos g_fulls, oX1 a_now g_now_month u25.1 g_now_founds g_now_notes u25.2.1, rI cyI (a_now 3) 5 u25.2.2.1, rI cyI (a_now 4) 5 u25.2.2.2.1, rI cyI (a_now 5) 5 u25.2.2.2.2]) (va_runV (As := [.int p1, .int p2, .int p3]) (rest := []) ⟨hx, hb, hml, hown, hts⟩ (c_X1_addFloe l D cyI cyJ cyS N a_now g_now_month g_now_floes g_now_founds g_now_notes g_now_undos g_now_kinds g_now_cells g_now_foods p1 p2 p3 s.heap.size u25 hu26) (cwV 3 hts gX3_floe_X1_addFloe rfl rfl rfl (by decide +kernel) ⟨(Nat.le_of_ble_eq_true rfl), (Nat.le_of_ble_eq_true rfl)⟩) (preW_V (hP.sub (ws' := [oX1 a_now g_now_month g_now_floes g_now_founds g_now_notes g_now_undos, rI cyI (a_now 3) 5 g_now_kinds, rI cyI (a_now 4) 5 g_now_cells, rI cyI (a_now 5) 5 g_now_foods]) [1, 2, 3, 4] rfl) (hD.sub (ws' := [oX1 a_now g_now_month g_now_floes g_now_founds g_now_notes g_now_undos, rI cyI (a_now 3) 5 g_now_kinds, rI cyI (a_now 4) 5 g_now_cells, rI cyI (a_now 5) 5 g_now_foods]) [1, 2, 3, 4] (by decide) rfl) hKK (va_recv hK hP (ci := 0) (q0 := 1) rfl rfl)) rfl rfl hl.1 rfl (lv_room (Nat.le_of_ble_eq_true rfl)) dX3_floe_52 ⟨Nat.zero_le _, Nat.zero_le _⟩) hP hD hS hA [1, 2, 3, 4] [0] [0, 1, 2, 3, 4] rfl rfl (by decide) (by decide) rfl (by decide) (fun H28 L29 hP hD hS => ?_)
          refine lv_aload_n hx hb dX3_floe_55 rfl (lv_at hl 0 rfl) ?_
          refine va_get (D := D) (cl := vwCl) (ci := 2) (v := .ref (a_now 0)) (C := RX3) (T := TX3) (N := 12) hx hb hts inX3 hown hK hP 0 rfl rfl 0 (by decide) (hts (Cond.fieldLink RX3 10 "FrozenIn" "now" "LFrozenIn$Sea;") (List.mem_of_getElem? (i := 1) rfl)) (fun _ h9 => h9) rfl dX3_floe_56 ?_
          refine va_get (D := D) (cl := vwCl) (ci := 0) (v := .int u25.1) (C := RX1) (T := TX1) (N := 13) hx hb hts inX1 hown hK hP 1 rfl rfl 3 (by decide) (hts (Cond.fieldLink RX3 53 "FrozenIn$Sea" "floes" "I") (List.mem_of_getElem? (i := 2) rfl)) (fun _ h9 => h9) rfl dX3_floe_59 ?_
          refine lv_iconst (v := 1) hx hb dX3_floe_62 (by decide) ?_
          refine lv_isub hx hb dX3_floe_63 ?_
          rw [← Option.some.inj h27]
          exact W.iret (v := u25.1 - 1) hx hb hr (fun t ht hW => ⟨⟨u25.1 - 1, (), rfl, rfl, ⟨by rw [ht]; exact hP, hD⟩⟩, hS.F ht⟩) hS.2.2 dX3_floe_64
        · have h30 := (if_neg c23).symm.trans h22
          refine lv_aload_n hx hb dX3_floe_40 rfl (lv_at hl 0 rfl) ?_
          obtain ⟨u31, hu32, h33⟩ := lt_e h30
          refine kw_I (wc := [oX3 a a_now a_spare a_text g_above g_below g_bads g_nos g_fulls]) (wr := [oX1 a_now g_now_month g_now_floes g_now_founds g_now_notes g_now_undos, rI cyI (a_now 3) 5 g_now_kinds, rI cyI (a_now 4) 5 g_now_cells, rI cyI (a_now 5) 5 g_now_foods]) (ws' := [oX3 a a_now a_spare a_text g_above g_below g_bads g_nos u31.2, oX1 a_now g_now_month g_now_floes g_now_founds g_now_notes g_now_undos, rI cyI (a_now 3) 5 g_now_kinds, rI cyI (a_now 4) 5 g_now_cells, rI cyI (a_now 5) 5 g_now_foods]) (va_runV (As := []) (rest := []) ⟨hx, hb, hml, hown, hts⟩ (c_X3_refuseFull l D cyI cyJ cyS a a_now a_spare a_text g_above g_below g_bads g_nos g_fulls s.heap.size u31 hu32.symm) (cwV 0 hts gX3_floe_X3_refuseFull rfl rfl rfl (by decide +kernel) ⟨(Nat.le_of_ble_eq_true rfl), (Nat.le_of_ble_eq_true rfl)⟩) (preW_V (hP.sub (ws' := [oX3 a a_now a_spare a_text g_above g_below g_bads g_nos g_fulls]) [0] rfl) (hD.sub (ws' := [oX3 a a_now a_spare a_text g_above g_below g_bads g_nos g_fulls]) [0] (by decide) rfl) hKK (va_recv hK hP (ci := 2) (q0 := 0) rfl rfl)) rfl rfl hl.1 rfl (lv_room (Nat.le_of_ble_eq_true rfl)) dX3_floe_41 ⟨Nat.zero_le _, Nat.zero_le _⟩) hP hD hS hA [0] [1, 2, 3, 4] [4, 0, 1, 2, 3] rfl rfl (by decide) (by decide) rfl (by decide) (fun H34 L35 hP hD hS => ?_)
          rw [← Option.some.inj h33]
          exact W.iret (v := u31.1) hx hb hr (fun t ht hW => ⟨⟨u31.1, (), rfl, rfl, ⟨by rw [ht]; exact hP, hD⟩⟩, hS.F ht⟩) hS.2.2 dX3_floe_44
      · have h36 := (if_pos c21).symm.trans h19
        exact Jj2  _ _ _ h36 hP hD hS (lv_sub hl [0] rfl)
def T_X3_month_L24 (N : Nat) (p1 : Int32) (g_now_floes : Int32) (g_now_ways : Nat → Int32) (g_now_strengths : Nat → Int32) (g_now_kinds : Nat → Int32) (k42 : Int32 → (Nat → Int32) → (Nat → Int32) → Option (Int32 × Int32 × Int32 × Int32 × (Nat → Int32) × (Nat → Int32) × (Nat → Int32))) : Nat → Int32 → Int32 → (Nat → Int32) → (Nat → Int32) → Option (Int32 × Int32 × Int32 × Int32 × (Nat → Int32) × (Nat → Int32) × (Nat → Int32))
  | 0, _, _, _, _ => none
  | n + 1, x9, z10, z11, z12 => (if p1 ≤ x9 then (k42 z10 z11 z12) else (Option.bind (T_X1_passMonth N z10 g_now_floes g_now_ways g_now_strengths g_now_kinds z11 z12) fun u24 => (lt' (x9 + 1) fun x29 => (T_X3_month_L24 N p1 g_now_floes g_now_ways g_now_strengths g_now_kinds k42 n x29 u24.1 u24.2.1 u24.2.2))))
theorem T_X3_month_L24_s (N : Nat) (p1 : Int32) (g_now_floes : Int32) (g_now_ways : Nat → Int32) (g_now_strengths : Nat → Int32) (g_now_kinds : Nat → Int32) (k42 : Int32 → (Nat → Int32) → (Nat → Int32) → Option (Int32 × Int32 × Int32 × Int32 × (Nat → Int32) × (Nat → Int32) × (Nat → Int32))) (n : Nat) (x9 : Int32) (z10 : Int32) (z11 : Nat → Int32) (z12 : Nat → Int32) : T_X3_month_L24 N p1 g_now_floes g_now_ways g_now_strengths g_now_kinds k42 (n + 1) x9 z10 z11 z12 = (if p1 ≤ x9 then (k42 z10 z11 z12) else (Option.bind (T_X1_passMonth N z10 g_now_floes g_now_ways g_now_strengths g_now_kinds z11 z12) fun u24 => (lt' (x9 + 1) fun x29 => (T_X3_month_L24 N p1 g_now_floes g_now_ways g_now_strengths g_now_kinds k42 n x29 u24.1 u24.2.1 u24.2.2)))) := rfl
def T_X3_month (N : Nat) (g_bads : Int32) (g_now_month : Int32) (g_now_floes : Int32) (g_now_undos : Int32) (g_now_ways : Nat → Int32) (g_now_strengths : Nat → Int32) (g_now_kinds : Nat → Int32) (g_now_cells : Nat → Int32) (g_now_foods : Nat → Int32) (g_now_undoRows : Nat → Int32) (p1 : Int32) : Option (Int32 × Int32 × Int32 × Int32 × (Nat → Int32) × (Nat → Int32) × (Nat → Int32)) :=
  (if (T_X3_within p1 1 60) = 0 then (lt' (T_X3_refuseBad g_bads) fun u41 => (some (u41.1, u41.2, g_now_month, g_now_undos, g_now_cells, g_now_foods, g_now_undoRows))) else (Option.bind (T_X1_keepToUndo N g_now_month g_now_undos g_now_cells g_now_foods g_now_undoRows) fun u4 => (T_X3_month_L24 N p1 g_now_floes g_now_ways g_now_strengths g_now_kinds (fun (z31 : Int32) (z32 : Nat → Int32) (z33 : Nat → Int32) => (Option.bind (T_X1_floesOut N g_now_floes z32) fun u37 => (some (u37, g_bads, z31, u4.1, z32, z33, u4.2)))) N 0 g_now_month g_now_cells g_now_foods)))
abbrev rm_X3_month : Room := { frames := 4, cells := 0, slots := 0, locals := 96 }
set_option maxHeartbeats 4000000 in
set_option maxRecDepth 100000 in
theorem c_X3_month (l : Launch) (D : va_G) (cyI cyJ cyS : ClassId) (N : Nat) (a a_now a_spare a_text : Nat → Nat) (g_above : Int64) (g_below : Int64) (g_bads : Int32) (g_nos : Int32) (g_fulls : Int32) (g_now_month : Int32) (g_now_floes : Int32) (g_now_founds : Int32) (g_now_notes : Int32) (g_now_undos : Int32) (g_now_ways : Nat → Int32) (g_now_strengths : Nat → Int32) (g_now_kinds : Nat → Int32) (g_now_cells : Nat → Int32) (g_now_foods : Nat → Int32) (g_now_undoRows : Nat → Int32) (p1 : Int32) (sz : Nat) (R0 : Int32 × Int32 × Int32 × Int32 × (Nat → Int32) × (Nat → Int32) × (Nat → Int32)) (hT : T_X3_month N g_bads g_now_month g_now_floes g_now_undos g_now_ways g_now_strengths g_now_kinds g_now_cells g_now_foods g_now_undoRows p1 = some R0) : Met l yX3_month wsX3_month rm_X3_month (va_Pc [.ref (a 0), .int p1] (preW D (tyS cyI cyJ cyS) [oX3 a a_now a_spare a_text g_above g_below g_bads g_nos g_fulls, oX1 a_now g_now_month g_now_floes g_now_founds g_now_notes g_now_undos, rI cyI (a_now 1) 12 g_now_ways, rI cyI (a_now 2) 12 g_now_strengths, rI cyI (a_now 3) 5 g_now_kinds, rI cyI (a_now 4) 5 g_now_cells, rI cyI (a_now 5) 5 g_now_foods, rI cyI (a_now 8) 88 g_now_undoRows] sz)) (va_Qi (fun (r : Int32) (_ : Unit) => r = R0.1) (fun _ t => va_P D vwCl [oX3 a a_now a_spare a_text g_above g_below R0.2.1 g_nos g_fulls, oX1 a_now R0.2.2.1 g_now_floes g_now_founds g_now_notes R0.2.2.2.1, rI cyI (a_now 1) 12 g_now_ways, rI cyI (a_now 2) 12 g_now_strengths, rI cyI (a_now 3) 5 g_now_kinds, rI cyI (a_now 4) 5 R0.2.2.2.2.1, rI cyI (a_now 5) 5 R0.2.2.2.2.2.1, rI cyI (a_now 8) 88 R0.2.2.2.2.2.2] t.heap ∧ va_D (va_A [oX3 a a_now a_spare a_text g_above g_below g_bads g_nos g_fulls, oX1 a_now g_now_month g_now_floes g_now_founds g_now_notes g_now_undos, rI cyI (a_now 1) 12 g_now_ways, rI cyI (a_now 2) 12 g_now_strengths, rI cyI (a_now 3) 5 g_now_kinds, rI cyI (a_now 4) 5 g_now_cells, rI cyI (a_now 5) 5 g_now_foods, rI cyI (a_now 8) 88 g_now_undoRows] sz) [oX3 a a_now a_spare a_text g_above g_below R0.2.1 g_nos g_fulls, oX1 a_now R0.2.2.1 g_now_floes g_now_founds g_now_notes R0.2.2.2.1, rI cyI (a_now 1) 12 g_now_ways, rI cyI (a_now 2) 12 g_now_strengths, rI cyI (a_now 3) 5 g_now_kinds, rI cyI (a_now 4) 5 R0.2.2.2.2.1, rI cyI (a_now 5) 5 R0.2.2.2.2.2.1, rI cyI (a_now 8) 88 R0.2.2.2.2.2.2]) (va_A [oX3 a a_now a_spare a_text g_above g_below g_bads g_nos g_fulls, oX1 a_now g_now_month g_now_floes g_now_founds g_now_notes g_now_undos, rI cyI (a_now 1) 12 g_now_ways, rI cyI (a_now 2) 12 g_now_strengths, rI cyI (a_now 3) 5 g_now_kinds, rI cyI (a_now 4) 5 g_now_cells, rI cyI (a_now 5) 5 g_now_foods, rI cyI (a_now 8) 88 g_now_undoRows] sz)) 0 0 (va_A [oX3 a a_now a_spare a_text g_above g_below g_bads g_nos g_fulls, oX1 a_now g_now_month g_now_floes g_now_founds g_now_notes g_now_undos, rI cyI (a_now 1) 12 g_now_ways, rI cyI (a_now 2) 12 g_now_strengths, rI cyI (a_now 3) 5 g_now_kinds, rI cyI (a_now 4) 5 g_now_cells, rI cyI (a_now 5) 5 g_now_foods, rI cyI (a_now 8) 88 g_now_undoRows] sz) := by
  refine Met.ofW (cc := cX3_month) (maxL := 3) (ret := (some .int)) (by decide) rfl ?_
  intro p e s m args below meth c s₁ B hml hv
  obtain ⟨rfl, hsz, hP, hKK, hD0⟩ := hv
  have hx := B.exec
  have hb := B.bytes
  have hr := B.returns
  have hts := atoms_spec (ws := wsX3_month) B.pre
  have hown : s.vm.findClass RX3 = some m.cls := findClass_of_methodNamed B.named
  have hlocks := B.notSynchronized
  have hK := hKK.1
  have inX3 : ∀ w ∈ wsX30, w ∈ wsX3_month := (fun _ h => List.mem_cons_of_mem _ (List.mem_append_left _ (List.mem_append_right _ h)))
  have inX1 : ∀ w ∈ wsX10, w ∈ wsX3_month := (fun _ h => List.mem_cons_of_mem _ (List.mem_append_right _ h))
  subst hsz
  have hD := hD0.self (sz := s.heap.size)
  generalize hAe : va_A [oX3 a a_now a_spare a_text g_above g_below g_bads g_nos g_fulls, oX1 a_now g_now_month g_now_floes g_now_founds g_now_notes g_now_undos, rI cyI (a_now 1) 12 g_now_ways, rI cyI (a_now 2) 12 g_now_strengths, rI cyI (a_now 3) 5 g_now_kinds, rI cyI (a_now 4) 5 g_now_cells, rI cyI (a_now 5) 5 g_now_foods, rI cyI (a_now 8) 88 g_now_undoRows] s.heap.size = A at hD ⊢
  have hA : ∀ q : Nat, s.heap.size ≤ q → A q := fun q h => by rw [← hAe]; exact Or.inr h
  have hS : va_S A s.heap s.heap [] := va_S.rf
  have hP : va_P D vwCl [oX3 a a_now a_spare a_text g_above g_below g_bads g_nos g_fulls, oX1 a_now g_now_month g_now_floes g_now_founds g_now_notes g_now_undos, rI cyI (a_now 1) 12 g_now_ways, rI cyI (a_now 2) 12 g_now_strengths, rI cyI (a_now 3) 5 g_now_kinds, rI cyI (a_now 4) 5 g_now_cells, rI cyI (a_now 5) 5 g_now_foods, rI cyI (a_now 8) 88 g_now_undoRows] s.heap := hP
  have hl := lv_entry [.ref (a 0), .int p1] (n := 3) (Nat.le_of_ble_eq_true rfl)
  rw [lg_entry_eq]
  generalize (lg_sl [.ref (a 0), .int p1] ++ List.replicate (3 - (lg_sl [.ref (a 0), .int p1]).length) Slot.unset).toArray = ls at hl ⊢
  have hl : lv_has ls 3 [(0, .ref (a 0)), (1, .int p1)] := hl
  have L24 : ∀ (y13 : Int32) (y14 : Nat → Int32) (k42 : Int32 → (Nat → Int32) → (Nat → Int32) → Option (Int32 × Int32 × Int32 × Int32 × (Nat → Int32) × (Nat → Int32) × (Nat → Int32))) (hk42 : ∀ (z15 : Int32) (z16 : Nat → Int32) (z17 : Nat → Int32) (H : Heap) (locs : List Loc) (ls : Array Slot), k42 z15 z16 z17 = some R0 → va_P D vwCl [oX3 a a_now a_spare a_text g_above g_below g_bads g_nos g_fulls, oX1 a_now z15 g_now_floes g_now_founds g_now_notes y13, rI cyI (a_now 1) 12 g_now_ways, rI cyI (a_now 2) 12 g_now_strengths, rI cyI (a_now 3) 5 g_now_kinds, rI cyI (a_now 4) 5 z16, rI cyI (a_now 5) 5 z17, rI cyI (a_now 8) 88 y14] H → va_D A [oX3 a a_now a_spare a_text g_above g_below g_bads g_nos g_fulls, oX1 a_now z15 g_now_floes g_now_founds g_now_notes y13, rI cyI (a_now 1) 12 g_now_ways, rI cyI (a_now 2) 12 g_now_strengths, rI cyI (a_now 3) 5 g_now_kinds, rI cyI (a_now 4) 5 z16, rI cyI (a_now 5) 5 z17, rI cyI (a_now 8) 88 y14] → va_S A s.heap H locs → lv_has ls 3 [(0, .ref (a 0))] → W p l e (headSpec wsX3_month rm_X3_month).room s m ([.ref (a 0), .int p1] : List Value).toArray below meth c H locs 0 0 (MQ below (va_Qi (fun (r : Int32) (_ : Unit) => r = R0.1) (fun _ t => va_P D vwCl [oX3 a a_now a_spare a_text g_above g_below R0.2.1 g_nos g_fulls, oX1 a_now R0.2.2.1 g_now_floes g_now_founds g_now_notes R0.2.2.2.1, rI cyI (a_now 1) 12 g_now_ways, rI cyI (a_now 2) 12 g_now_strengths, rI cyI (a_now 3) 5 g_now_kinds, rI cyI (a_now 4) 5 R0.2.2.2.2.1, rI cyI (a_now 5) 5 R0.2.2.2.2.2.1, rI cyI (a_now 8) 88 R0.2.2.2.2.2.2] t.heap ∧ va_D A [oX3 a a_now a_spare a_text g_above g_below R0.2.1 g_nos g_fulls, oX1 a_now R0.2.2.1 g_now_floes g_now_founds g_now_notes R0.2.2.2.1, rI cyI (a_now 1) 12 g_now_ways, rI cyI (a_now 2) 12 g_now_strengths, rI cyI (a_now 3) 5 g_now_kinds, rI cyI (a_now 4) 5 R0.2.2.2.2.1, rI cyI (a_now 5) 5 R0.2.2.2.2.2.1, rI cyI (a_now 8) 88 R0.2.2.2.2.2.2]) A) ([.ref (a 0), .int p1] : List Value).toArray s 0 0 A) (F0 m 42 ls [])) (n : Nat), ∀ (x9 : Int32) (z10 : Int32) (z11 : Nat → Int32) (z12 : Nat → Int32) (H : Heap) (locs : List Loc) (ls : Array Slot), T_X3_month_L24 N p1 g_now_floes g_now_ways g_now_strengths g_now_kinds k42 n x9 z10 z11 z12 = some R0 → va_P D vwCl [oX3 a a_now a_spare a_text g_above g_below g_bads g_nos g_fulls, oX1 a_now z10 g_now_floes g_now_founds g_now_notes y13, rI cyI (a_now 1) 12 g_now_ways, rI cyI (a_now 2) 12 g_now_strengths, rI cyI (a_now 3) 5 g_now_kinds, rI cyI (a_now 4) 5 z11, rI cyI (a_now 5) 5 z12, rI cyI (a_now 8) 88 y14] H → va_D A [oX3 a a_now a_spare a_text g_above g_below g_bads g_nos g_fulls, oX1 a_now z10 g_now_floes g_now_founds g_now_notes y13, rI cyI (a_now 1) 12 g_now_ways, rI cyI (a_now 2) 12 g_now_strengths, rI cyI (a_now 3) 5 g_now_kinds, rI cyI (a_now 4) 5 z11, rI cyI (a_now 5) 5 z12, rI cyI (a_now 8) 88 y14] → va_S A s.heap H locs → lv_has ls 3 [(0, .ref (a 0)), (1, .int p1), (2, .int x9)] → W p l e (headSpec wsX3_month rm_X3_month).room s m ([.ref (a 0), .int p1] : List Value).toArray below meth c H locs 0 0 (MQ below (va_Qi (fun (r : Int32) (_ : Unit) => r = R0.1) (fun _ t => va_P D vwCl [oX3 a a_now a_spare a_text g_above g_below R0.2.1 g_nos g_fulls, oX1 a_now R0.2.2.1 g_now_floes g_now_founds g_now_notes R0.2.2.2.1, rI cyI (a_now 1) 12 g_now_ways, rI cyI (a_now 2) 12 g_now_strengths, rI cyI (a_now 3) 5 g_now_kinds, rI cyI (a_now 4) 5 R0.2.2.2.2.1, rI cyI (a_now 5) 5 R0.2.2.2.2.2.1, rI cyI (a_now 8) 88 R0.2.2.2.2.2.2] t.heap ∧ va_D A [oX3 a a_now a_spare a_text g_above g_below R0.2.1 g_nos g_fulls, oX1 a_now R0.2.2.1 g_now_floes g_now_founds g_now_notes R0.2.2.2.1, rI cyI (a_now 1) 12 g_now_ways, rI cyI (a_now 2) 12 g_now_strengths, rI cyI (a_now 3) 5 g_now_kinds, rI cyI (a_now 4) 5 R0.2.2.2.2.1, rI cyI (a_now 5) 5 R0.2.2.2.2.2.1, rI cyI (a_now 8) 88 R0.2.2.2.2.2.2]) A) ([.ref (a 0), .int p1] : List Value).toArray s 0 0 A) (F0 m 24 ls []) := by
    intro y13 y14 k42 hk42 n
    induction n with
    | zero => intro _ _ _ _ _ _ _ h; exact absurd h (fun z => by cases z)
    | succ n ih =>
      intro x9 z10 z11 z12 H19 L20 ls h18 hP hD hS hl
      rw [T_X3_month_L24_s] at h18
      refine lv_iload_n hx hb dX3_month_24 rfl (lv_at hl 2 rfl) ?_
      refine lv_iload_n hx hb dX3_month_25 rfl (lv_at hl 1 rfl) ?_
      refine lv_icmp_ge (tgt := 42) hx hb dX3_month_26 (by decide) (fun c21 => ?_) (fun c21 => ?_)
      · have h22 := (if_pos c21).symm.trans h18
        exact hk42 z10 z11 z12 _ _ _ h22 hP hD hS (lv_sub hl [0] rfl)
      · have h23 := (if_neg c21).symm.trans h18
        refine lv_aload_n hx hb dX3_month_29 rfl (lv_at hl 0 rfl) ?_
        refine va_get (D := D) (cl := vwCl) (ci := 2) (v := .ref (a_now 0)) (C := RX3) (T := TX3) (N := 12) hx hb hts inX3 hown hK hP 0 rfl rfl 0 (by decide) (hts (Cond.fieldLink RX3 10 "FrozenIn" "now" "LFrozenIn$Sea;") (List.mem_of_getElem? (i := 1) rfl)) (fun _ h9 => h9) rfl dX3_month_30 ?_
        obtain ⟨u24, hu25, h26⟩ := bd_e h23
        refine kw_V (wc := [oX1 a_now z10 g_now_floes g_now_founds g_now_notes y13, rI cyI (a_now 1) 12 g_now_ways, rI cyI (a_now 2) 12 g_now_strengths, rI cyI (a_now 3) 5 g_now_kinds, rI cyI (a_now 4) 5 z11, rI cyI (a_now 5) 5 z12]) (wr := [oX3 a a_now a_spare a_text g_above g_below g_bads g_nos g_fulls, rI cyI (a_now 8) 88 y14]) (ws' := [oX3 a a_now a_spare a_text g_above g_below g_bads g_nos g_fulls, oX1 a_now u24.1 g_now_floes g_now_founds g_now_notes y13, rI cyI (a_now 1) 12 g_now_ways, rI cyI (a_now 2) 12 g_now_strengths, rI cyI (a_now 3) 5 g_now_kinds, rI cyI (a_now 4) 5 u24.2.1, rI cyI (a_now 5) 5 u24.2.2, rI cyI (a_now 8) 88 y14]) (va_runV (As := []) (rest := []) ⟨hx, hb, hml, hown, hts⟩ (c_X1_passMonth l D cyI cyJ cyS N a_now z10 g_now_floes g_now_founds g_now_notes y13 g_now_ways g_now_strengths g_now_kinds z11 z12 H19.size u24 hu25) (cwV 0 hts gX3_month_X1_passMonth rfl rfl rfl (by decide +kernel) ⟨(Nat.le_of_ble_eq_true rfl), (Nat.le_of_ble_eq_true rfl)⟩) (preW_V (hP.sub (ws' := [oX1 a_now z10 g_now_floes g_now_founds g_now_notes y13, rI cyI (a_now 1) 12 g_now_ways, rI cyI (a_now 2) 12 g_now_strengths, rI cyI (a_now 3) 5 g_now_kinds, rI cyI (a_now 4) 5 z11, rI cyI (a_now 5) 5 z12]) [1, 2, 3, 4, 5, 6] rfl) (hD.sub (ws' := [oX1 a_now z10 g_now_floes g_now_founds g_now_notes y13, rI cyI (a_now 1) 12 g_now_ways, rI cyI (a_now 2) 12 g_now_strengths, rI cyI (a_now 3) 5 g_now_kinds, rI cyI (a_now 4) 5 z11, rI cyI (a_now 5) 5 z12]) [1, 2, 3, 4, 5, 6] (by decide) rfl) hKK (va_recv hK hP (ci := 0) (q0 := 1) rfl rfl)) rfl rfl hl.1 rfl (lv_room (Nat.le_of_ble_eq_true rfl)) dX3_month_33 ⟨Nat.zero_le _, Nat.zero_le _⟩) hP hD hS hA [1, 2, 3, 4, 5, 6] [0, 7] [0, 2, 3, 4, 5, 6, 7, 1] rfl rfl (by decide) (by decide) rfl (by decide) (fun H27 L28 hP hD hS => ?_)
        obtain ⟨x29, ex29, h30⟩ := lt_e h26
        refine lv_iinc (v := x29) (lv' := [(2, .int x29), (0, .ref (a 0)), (1, .int p1)]) hx hb dX3_month_36 hl (k := 2) rfl (by rw [ex29]; rfl) (by decide) rfl (fun ls hl => ?_)
        refine lv_goto (tgt := 24) hx hb dX3_month_39 (by decide) ?_
        exact ih x29 u24.1 u24.2.1 u24.2.2 _ _ _ h30 hP hD hS (lv_sub hl [1, 2, 0] rfl)
  unfold T_X3_month at hT
  refine lv_iload_n hx hb dX3_month_0 rfl (lv_at hl 1 rfl) ?_
  refine lv_iconst (v := 1) hx hb dX3_month_1 (by decide) ?_
  refine lv_bipush (v := 60) hx hb dX3_month_2 (by decide) ?_
  refine kc_Z (W.runS (As := [.int p1, .int 1, .int 60]) (rest := []) ⟨hx, hb, hml, hown, hts⟩ (c_X3_within l p1 1 60 (T_X3_within p1 1 60) rfl) (va_cwS 3 hts gX3_month_X3_within rfl rfl rfl (by decide +kernel) ⟨(Nat.le_of_ble_eq_true rfl), (Nat.le_of_ble_eq_true rfl)⟩) preT_S rfl rfl hl.1 rfl (lv_room (Nat.le_of_ble_eq_true rfl)) dX3_month_4 ⟨Nat.zero_le _, Nat.zero_le _⟩) (fun hn1 => ?_)
  refine lv_if_ne (tgt := 15) hx hb dX3_month_7 (by decide) (fun c2 => ?_) (fun c2 => ?_)
  · have h3 := (if_neg c2).symm.trans hT
    refine lv_aload_n hx hb dX3_month_15 rfl (lv_at hl 0 rfl) ?_
    refine va_get (D := D) (cl := vwCl) (ci := 2) (v := .ref (a_now 0)) (C := RX3) (T := TX3) (N := 12) hx hb hts inX3 hown hK hP 0 rfl rfl 0 (by decide) (hts (Cond.fieldLink RX3 10 "FrozenIn" "now" "LFrozenIn$Sea;") (List.mem_of_getElem? (i := 1) rfl)) (fun _ h9 => h9) rfl dX3_month_16 ?_
    obtain ⟨u4, hu5, h6⟩ := bd_e h3
    refine kw_V (wc := [oX1 a_now g_now_month g_now_floes g_now_founds g_now_notes g_now_undos, rI cyI (a_now 4) 5 g_now_cells, rI cyI (a_now 5) 5 g_now_foods, rI cyI (a_now 8) 88 g_now_undoRows]) (wr := [oX3 a a_now a_spare a_text g_above g_below g_bads g_nos g_fulls, rI cyI (a_now 1) 12 g_now_ways, rI cyI (a_now 2) 12 g_now_strengths, rI cyI (a_now 3) 5 g_now_kinds]) (ws' := [oX3 a a_now a_spare a_text g_above g_below g_bads g_nos g_fulls, oX1 a_now g_now_month g_now_floes g_now_founds g_now_notes u4.1, rI cyI (a_now 1) 12 g_now_ways, rI cyI (a_now 2) 12 g_now_strengths, rI cyI (a_now 3) 5 g_now_kinds, rI cyI (a_now 4) 5 g_now_cells, rI cyI (a_now 5) 5 g_now_foods, rI cyI (a_now 8) 88 u4.2]) (va_runV (As := []) (rest := []) ⟨hx, hb, hml, hown, hts⟩ (c_X1_keepToUndo l D cyI cyJ cyS N a_now g_now_month g_now_floes g_now_founds g_now_notes g_now_undos g_now_cells g_now_foods g_now_undoRows s.heap.size u4 hu5) (cwV 0 hts gX3_month_X1_keepToUndo rfl rfl rfl (by decide +kernel) ⟨(Nat.le_of_ble_eq_true rfl), (Nat.le_of_ble_eq_true rfl)⟩) (preW_V (hP.sub (ws' := [oX1 a_now g_now_month g_now_floes g_now_founds g_now_notes g_now_undos, rI cyI (a_now 4) 5 g_now_cells, rI cyI (a_now 5) 5 g_now_foods, rI cyI (a_now 8) 88 g_now_undoRows]) [1, 5, 6, 7] rfl) (hD.sub (ws' := [oX1 a_now g_now_month g_now_floes g_now_founds g_now_notes g_now_undos, rI cyI (a_now 4) 5 g_now_cells, rI cyI (a_now 5) 5 g_now_foods, rI cyI (a_now 8) 88 g_now_undoRows]) [1, 5, 6, 7] (by decide) rfl) hKK (va_recv hK hP (ci := 0) (q0 := 1) rfl rfl)) rfl rfl hl.1 rfl (lv_room (Nat.le_of_ble_eq_true rfl)) dX3_month_19 ⟨Nat.zero_le _, Nat.zero_le _⟩) hP hD hS hA [1, 5, 6, 7] [0, 2, 3, 4] [0, 4, 1, 2, 3, 5, 6, 7] rfl rfl (by decide) (by decide) rfl (by decide) (fun H7 L8 hP hD hS => ?_)
    refine lv_iconst (v := 0) hx hb dX3_month_22 (by decide) ?_
    refine lv_istore_n (lv' := [(2, .int 0), (0, .ref (a 0)), (1, .int p1)]) hx hb dX3_month_23 rfl hl (by decide) rfl (fun ls hl => ?_)
    refine L24 u4.1 u4.2 _ (fun z31 z32 z33 H35 L36 ls h34 hP hD hS hl => ?_) N 0 g_now_month g_now_cells g_now_foods _ _ _ h6 hP hD hS (lv_sub hl [1, 2, 0] rfl)
    refine lv_aload_n hx hb dX3_month_42 rfl (lv_at hl 0 rfl) ?_
    refine va_get (D := D) (cl := vwCl) (ci := 2) (v := .ref (a_now 0)) (C := RX3) (T := TX3) (N := 12) hx hb hts inX3 hown hK hP 0 rfl rfl 0 (by decide) (hts (Cond.fieldLink RX3 10 "FrozenIn" "now" "LFrozenIn$Sea;") (List.mem_of_getElem? (i := 1) rfl)) (fun _ h9 => h9) rfl dX3_month_43 ?_
    obtain ⟨u37, hu38, h39⟩ := bd_e h34
    refine kc_I (W.runV (As := []) (rest := []) ⟨hx, hb, hml, hown, hts⟩ (c_X1_floesOut l D cyI cyJ cyS N a_now z31 g_now_floes g_now_founds g_now_notes u4.1 z32 u37 hu38) (cwV 0 hts gX3_month_X1_floesOut rfl rfl rfl (by decide +kernel) ⟨(Nat.le_of_ble_eq_true rfl), (Nat.le_of_ble_eq_true rfl)⟩) (preR_V (hP.sub (ws' := [oX1 a_now z31 g_now_floes g_now_founds g_now_notes u4.1, rI cyI (a_now 4) 5 z32]) [1, 5] rfl) hKK (va_recv hK hP (ci := 0) (q0 := 1) rfl rfl)) rfl rfl hl.1 rfl (lv_room (Nat.le_of_ble_eq_true rfl)) dX3_month_46 ⟨Nat.zero_le _, Nat.zero_le _⟩) ?_
    rw [← Option.some.inj h39]
    exact W.iret (v := u37) hx hb hr (fun t ht hW => ⟨⟨u37, (), rfl, rfl, ⟨by rw [ht]; exact hP, hD⟩⟩, hS.F ht⟩) hS.2.2 dX3_month_49
  · have h40 := (if_pos c2).symm.trans hT
    refine lv_aload_n hx hb dX3_month_10 rfl (lv_at hl 0 rfl) ?_
    obtain ⟨u41, hu42, h43⟩ := lt_e h40
    refine kw_I (wc := [oX3 a a_now a_spare a_text g_above g_below g_bads g_nos g_fulls]) (wr := [oX1 a_now g_now_month g_now_floes g_now_founds g_now_notes g_now_undos, rI cyI (a_now 1) 12 g_now_ways, rI cyI (a_now 2) 12 g_now_strengths, rI cyI (a_now 3) 5 g_now_kinds, rI cyI (a_now 4) 5 g_now_cells, rI cyI (a_now 5) 5 g_now_foods, rI cyI (a_now 8) 88 g_now_undoRows]) (ws' := [oX3 a a_now a_spare a_text g_above g_below u41.2 g_nos g_fulls, oX1 a_now g_now_month g_now_floes g_now_founds g_now_notes g_now_undos, rI cyI (a_now 1) 12 g_now_ways, rI cyI (a_now 2) 12 g_now_strengths, rI cyI (a_now 3) 5 g_now_kinds, rI cyI (a_now 4) 5 g_now_cells, rI cyI (a_now 5) 5 g_now_foods, rI cyI (a_now 8) 88 g_now_undoRows]) (va_runV (As := []) (rest := []) ⟨hx, hb, hml, hown, hts⟩ (c_X3_refuseBad l D cyI cyJ cyS a a_now a_spare a_text g_above g_below g_bads g_nos g_fulls s.heap.size u41 hu42.symm) (cwV 0 hts gX3_month_X3_refuseBad rfl rfl rfl (by decide +kernel) ⟨(Nat.le_of_ble_eq_true rfl), (Nat.le_of_ble_eq_true rfl)⟩) (preW_V (hP.sub (ws' := [oX3 a a_now a_spare a_text g_above g_below g_bads g_nos g_fulls]) [0] rfl) (hD.sub (ws' := [oX3 a a_now a_spare a_text g_above g_below g_bads g_nos g_fulls]) [0] (by decide) rfl) hKK (va_recv hK hP (ci := 2) (q0 := 0) rfl rfl)) rfl rfl hl.1 rfl (lv_room (Nat.le_of_ble_eq_true rfl)) dX3_month_11 ⟨Nat.zero_le _, Nat.zero_le _⟩) hP hD hS hA [0] [1, 2, 3, 4, 5, 6, 7] [7, 0, 1, 2, 3, 4, 5, 6] rfl rfl (by decide) (by decide) rfl (by decide) (fun H44 L45 hP hD hS => ?_)
    rw [← Option.some.inj h43]
    exact W.iret (v := u41.1) hx hb hr (fun t ht hW => ⟨⟨u41.1, (), rfl, rfl, ⟨by rw [ht]; exact hP, hD⟩⟩, hS.F ht⟩) hS.2.2 dX3_month_14
def T_X3_isFloe (g_now_floes : Int32) (p1 : Int32) : Int32 :=
  (T_X3_within p1 0 (g_now_floes - 1))
abbrev rm_X3_isFloe : Room := { frames := 1, cells := 0, slots := 0, locals := 22 }
set_option maxHeartbeats 4000000 in
set_option maxRecDepth 100000 in
theorem c_X3_isFloe (l : Launch) (D : va_G) (cyI cyJ cyS : ClassId) (a a_now a_spare a_text : Nat → Nat) (g_above : Int64) (g_below : Int64) (g_bads : Int32) (g_nos : Int32) (g_fulls : Int32) (g_now_month : Int32) (g_now_floes : Int32) (g_now_founds : Int32) (g_now_notes : Int32) (g_now_undos : Int32) (p1 : Int32) (R0 : Int32) (hT : T_X3_isFloe g_now_floes p1 = R0) : Met l yX3_isFloe wsX3_isFloe rm_X3_isFloe (va_Pc [.ref (a 0), .int p1] (preR D (tyS cyI cyJ cyS) [oX3 a a_now a_spare a_text g_above g_below g_bads g_nos g_fulls, oX1 a_now g_now_month g_now_floes g_now_founds g_now_notes g_now_undos])) (vp_Si (fun r => r = R0 ∧ nb r)) 0 0 (fun _ => False) := by
  refine Met.ofW (cc := cX3_isFloe) (maxL := 2) (ret := (some .boolean)) (by decide) rfl ?_
  intro p e s m args below meth c s₁ B hml hv
  obtain ⟨rfl, hP, hKK⟩ := hv
  have hx := B.exec
  have hb := B.bytes
  have hr := B.returns
  have hts := atoms_spec (ws := wsX3_isFloe) B.pre
  have hown : s.vm.findClass RX3 = some m.cls := findClass_of_methodNamed B.named
  have hlocks := B.notSynchronized
  have hK := hKK.1
  have inX3 : ∀ w ∈ wsX30, w ∈ wsX3_isFloe := (fun _ h => List.mem_cons_of_mem _ (List.mem_append_left _ (List.mem_append_right _ h)))
  have inX1 : ∀ w ∈ wsX10, w ∈ wsX3_isFloe := (fun _ h => List.mem_cons_of_mem _ (List.mem_append_right _ h))
  have hP : va_P D vwCl [oX3 a a_now a_spare a_text g_above g_below g_bads g_nos g_fulls, oX1 a_now g_now_month g_now_floes g_now_founds g_now_notes g_now_undos] s.heap := hP
  have hl := lv_entry [.ref (a 0), .int p1] (n := 2) (Nat.le_of_ble_eq_true rfl)
  rw [lg_entry_eq]
  generalize (lg_sl [.ref (a 0), .int p1] ++ List.replicate (2 - (lg_sl [.ref (a 0), .int p1]).length) Slot.unset).toArray = ls at hl ⊢
  have hl : lv_has ls 2 [(0, .ref (a 0)), (1, .int p1)] := hl
  unfold T_X3_isFloe at hT
  refine lv_iload_n hx hb dX3_isFloe_0 rfl (lv_at hl 1 rfl) ?_
  refine lv_iconst (v := 0) hx hb dX3_isFloe_1 (by decide) ?_
  refine lv_aload_n hx hb dX3_isFloe_2 rfl (lv_at hl 0 rfl) ?_
  refine va_get (D := D) (cl := vwCl) (ci := 2) (v := .ref (a_now 0)) (C := RX3) (T := TX3) (N := 12) hx hb hts inX3 hown hK hP 0 rfl rfl 0 (by decide) (hts (Cond.fieldLink RX3 10 "FrozenIn" "now" "LFrozenIn$Sea;") (List.mem_of_getElem? (i := 1) rfl)) (fun _ h9 => h9) rfl dX3_isFloe_3 ?_
  refine va_get (D := D) (cl := vwCl) (ci := 0) (v := .int g_now_floes) (C := RX1) (T := TX1) (N := 13) hx hb hts inX1 hown hK hP 1 rfl rfl 3 (by decide) (hts (Cond.fieldLink RX3 53 "FrozenIn$Sea" "floes" "I") (List.mem_of_getElem? (i := 2) rfl)) (fun _ h9 => h9) rfl dX3_isFloe_6 ?_
  refine lv_iconst (v := 1) hx hb dX3_isFloe_9 (by decide) ?_
  refine lv_isub hx hb dX3_isFloe_10 ?_
  refine kc_Z (W.runS (As := [.int p1, .int 0, .int (g_now_floes - 1)]) (rest := []) ⟨hx, hb, hml, hown, hts⟩ (c_X3_within l p1 0 (g_now_floes - 1) (T_X3_within p1 0 (g_now_floes - 1)) rfl) (va_cwS 3 hts gX3_isFloe_X3_within rfl rfl rfl (by decide +kernel) ⟨(Nat.le_of_ble_eq_true rfl), (Nat.le_of_ble_eq_true rfl)⟩) preT_S rfl rfl hl.1 rfl (lv_room (Nat.le_of_ble_eq_true rfl)) dX3_isFloe_11 ⟨Nat.zero_le _, Nat.zero_le _⟩) (fun hn1 => ?_)
  exact W.zret (v := (T_X3_within p1 0 (g_now_floes - 1))) hx hb hr (nb_n hn1) (fun t ht hW => ⟨(T_X3_within p1 0 (g_now_floes - 1)), rfl, ⟨hT, hn1⟩, ht⟩) (fun q hq => by cases hq) dX3_isFloe_14
def T_X3_feed (N : Nat) (g_bads : Int32) (g_now_month : Int32) (g_now_floes : Int32) (g_now_undos : Int32) (g_now_cells : Nat → Int32) (g_now_foods : Nat → Int32) (g_now_undoRows : Nat → Int32) (p1 : Int32) (p2 : Int32) : Option (Int32 × Int32 × Int32 × (Nat → Int32) × (Nat → Int32)) :=
  (jn (lt' (T_X3_refuseBad g_bads) fun u8 => (some (u8.1, u8.2, g_now_undos, g_now_foods, g_now_undoRows))) fun j2 => (if (T_X3_isFloe g_now_floes p1) = 0 then j2 else (if (T_X3_within p2 1 60) = 0 then j2 else (Option.bind (T_X1_keepToUndo N g_now_month g_now_undos g_now_cells g_now_foods g_now_undoRows) fun u19 => (ob p1 5 (ob p1 5 (ob p1 5 (some ((upd g_now_foods p1.toNatClampNeg (if ((g_now_foods p1.toNatClampNeg) + p2) < 99 then ((g_now_foods p1.toNatClampNeg) + p2) else 99)) p1.toNatClampNeg, g_bads, u19.1, upd g_now_foods p1.toNatClampNeg (if ((g_now_foods p1.toNatClampNeg) + p2) < 99 then ((g_now_foods p1.toNatClampNeg) + p2) else 99), u19.2)))))))))
abbrev rm_X3_feed : Room := { frames := 2, cells := 0, slots := 0, locals := 47 }
set_option maxHeartbeats 4000000 in
set_option maxRecDepth 100000 in
theorem c_X3_feed (l : Launch) (D : va_G) (cyI cyJ cyS : ClassId) (N : Nat) (a a_now a_spare a_text : Nat → Nat) (g_above : Int64) (g_below : Int64) (g_bads : Int32) (g_nos : Int32) (g_fulls : Int32) (g_now_month : Int32) (g_now_floes : Int32) (g_now_founds : Int32) (g_now_notes : Int32) (g_now_undos : Int32) (g_now_cells : Nat → Int32) (g_now_foods : Nat → Int32) (g_now_undoRows : Nat → Int32) (p1 : Int32) (p2 : Int32) (sz : Nat) (R0 : Int32 × Int32 × Int32 × (Nat → Int32) × (Nat → Int32)) (hT : T_X3_feed N g_bads g_now_month g_now_floes g_now_undos g_now_cells g_now_foods g_now_undoRows p1 p2 = some R0) : Met l yX3_feed wsX3_feed rm_X3_feed (va_Pc [.ref (a 0), .int p1, .int p2] (preW D (tyS cyI cyJ cyS) [oX3 a a_now a_spare a_text g_above g_below g_bads g_nos g_fulls, oX1 a_now g_now_month g_now_floes g_now_founds g_now_notes g_now_undos, rI cyI (a_now 4) 5 g_now_cells, rI cyI (a_now 5) 5 g_now_foods, rI cyI (a_now 8) 88 g_now_undoRows] sz)) (va_Qi (fun (r : Int32) (_ : Unit) => r = R0.1) (fun _ t => va_P D vwCl [oX3 a a_now a_spare a_text g_above g_below R0.2.1 g_nos g_fulls, oX1 a_now g_now_month g_now_floes g_now_founds g_now_notes R0.2.2.1, rI cyI (a_now 4) 5 g_now_cells, rI cyI (a_now 5) 5 R0.2.2.2.1, rI cyI (a_now 8) 88 R0.2.2.2.2] t.heap ∧ va_D (va_A [oX3 a a_now a_spare a_text g_above g_below g_bads g_nos g_fulls, oX1 a_now g_now_month g_now_floes g_now_founds g_now_notes g_now_undos, rI cyI (a_now 4) 5 g_now_cells, rI cyI (a_now 5) 5 g_now_foods, rI cyI (a_now 8) 88 g_now_undoRows] sz) [oX3 a a_now a_spare a_text g_above g_below R0.2.1 g_nos g_fulls, oX1 a_now g_now_month g_now_floes g_now_founds g_now_notes R0.2.2.1, rI cyI (a_now 4) 5 g_now_cells, rI cyI (a_now 5) 5 R0.2.2.2.1, rI cyI (a_now 8) 88 R0.2.2.2.2]) (va_A [oX3 a a_now a_spare a_text g_above g_below g_bads g_nos g_fulls, oX1 a_now g_now_month g_now_floes g_now_founds g_now_notes g_now_undos, rI cyI (a_now 4) 5 g_now_cells, rI cyI (a_now 5) 5 g_now_foods, rI cyI (a_now 8) 88 g_now_undoRows] sz)) 0 0 (va_A [oX3 a a_now a_spare a_text g_above g_below g_bads g_nos g_fulls, oX1 a_now g_now_month g_now_floes g_now_founds g_now_notes g_now_undos, rI cyI (a_now 4) 5 g_now_cells, rI cyI (a_now 5) 5 g_now_foods, rI cyI (a_now 8) 88 g_now_undoRows] sz) := by
  refine Met.ofW (cc := cX3_feed) (maxL := 3) (ret := (some .int)) (by decide) rfl ?_
  intro p e s m args below meth c s₁ B hml hv
  obtain ⟨rfl, hsz, hP, hKK, hD0⟩ := hv
  have hx := B.exec
  have hb := B.bytes
  have hr := B.returns
  have hts := atoms_spec (ws := wsX3_feed) B.pre
  have hown : s.vm.findClass RX3 = some m.cls := findClass_of_methodNamed B.named
  have hlocks := B.notSynchronized
  have hK := hKK.1
  have inX3 : ∀ w ∈ wsX30, w ∈ wsX3_feed := (fun _ h => List.mem_cons_of_mem _ (List.mem_append_left _ (List.mem_append_right _ h)))
  have inX1 : ∀ w ∈ wsX10, w ∈ wsX3_feed := (fun _ h => List.mem_cons_of_mem _ (List.mem_append_right _ h))
  subst hsz
  have hD := hD0.self (sz := s.heap.size)
  generalize hAe : va_A [oX3 a a_now a_spare a_text g_above g_below g_bads g_nos g_fulls, oX1 a_now g_now_month g_now_floes g_now_founds g_now_notes g_now_undos, rI cyI (a_now 4) 5 g_now_cells, rI cyI (a_now 5) 5 g_now_foods, rI cyI (a_now 8) 88 g_now_undoRows] s.heap.size = A at hD ⊢
  have hA : ∀ q : Nat, s.heap.size ≤ q → A q := fun q h => by rw [← hAe]; exact Or.inr h
  have hS : va_S A s.heap s.heap [] := va_S.rf
  have hP : va_P D vwCl [oX3 a a_now a_spare a_text g_above g_below g_bads g_nos g_fulls, oX1 a_now g_now_month g_now_floes g_now_founds g_now_notes g_now_undos, rI cyI (a_now 4) 5 g_now_cells, rI cyI (a_now 5) 5 g_now_foods, rI cyI (a_now 8) 88 g_now_undoRows] s.heap := hP
  have hl := lv_entry [.ref (a 0), .int p1, .int p2] (n := 3) (Nat.le_of_ble_eq_true rfl)
  rw [lg_entry_eq]
  generalize (lg_sl [.ref (a 0), .int p1, .int p2] ++ List.replicate (3 - (lg_sl [.ref (a 0), .int p1, .int p2]).length) Slot.unset).toArray = ls at hl ⊢
  have hl : lv_has ls 3 [(0, .ref (a 0)), (1, .int p1), (2, .int p2)] := hl
  unfold T_X3_feed at hT
  refine lv_aload_n hx hb dX3_feed_0 rfl (lv_at hl 0 rfl) ?_
  refine lv_iload_n hx hb dX3_feed_1 rfl (lv_at hl 1 rfl) ?_
  refine kc_Z (W.runV (As := [.int p1]) (rest := []) ⟨hx, hb, hml, hown, hts⟩ (c_X3_isFloe l D cyI cyJ cyS a a_now a_spare a_text g_above g_below g_bads g_nos g_fulls g_now_month g_now_floes g_now_founds g_now_notes g_now_undos p1 (T_X3_isFloe g_now_floes p1) rfl) (cwV 1 hts gX3_feed_X3_isFloe rfl rfl rfl (by decide +kernel) ⟨(Nat.le_of_ble_eq_true rfl), (Nat.le_of_ble_eq_true rfl)⟩) (preR_V (hP.sub (ws' := [oX3 a a_now a_spare a_text g_above g_below g_bads g_nos g_fulls, oX1 a_now g_now_month g_now_floes g_now_founds g_now_notes g_now_undos]) [0, 1] rfl) hKK (va_recv hK hP (ci := 2) (q0 := 0) rfl rfl)) rfl rfl hl.1 rfl (lv_room (Nat.le_of_ble_eq_true rfl)) dX3_feed_2 ⟨Nat.zero_le _, Nat.zero_le _⟩) (fun hn1 => ?_)
  obtain ⟨j2, hj3, h4⟩ := jn_e hT
  have Jj2 : ∀ (H : Heap) (locs : List Loc) (ls : Array Slot), j2 = some R0 → va_P D vwCl [oX3 a a_now a_spare a_text g_above g_below g_bads g_nos g_fulls, oX1 a_now g_now_month g_now_floes g_now_founds g_now_notes g_now_undos, rI cyI (a_now 4) 5 g_now_cells, rI cyI (a_now 5) 5 g_now_foods, rI cyI (a_now 8) 88 g_now_undoRows] H → va_D A [oX3 a a_now a_spare a_text g_above g_below g_bads g_nos g_fulls, oX1 a_now g_now_month g_now_floes g_now_founds g_now_notes g_now_undos, rI cyI (a_now 4) 5 g_now_cells, rI cyI (a_now 5) 5 g_now_foods, rI cyI (a_now 8) 88 g_now_undoRows] → va_S A s.heap H locs → lv_has ls 3 [(0, .ref (a 0))] → W p l e (headSpec wsX3_feed rm_X3_feed).room s m ([.ref (a 0), .int p1, .int p2] : List Value).toArray below meth c H locs 0 0 (MQ below (va_Qi (fun (r : Int32) (_ : Unit) => r = R0.1) (fun _ t => va_P D vwCl [oX3 a a_now a_spare a_text g_above g_below R0.2.1 g_nos g_fulls, oX1 a_now g_now_month g_now_floes g_now_founds g_now_notes R0.2.2.1, rI cyI (a_now 4) 5 g_now_cells, rI cyI (a_now 5) 5 R0.2.2.2.1, rI cyI (a_now 8) 88 R0.2.2.2.2] t.heap ∧ va_D A [oX3 a a_now a_spare a_text g_above g_below R0.2.1 g_nos g_fulls, oX1 a_now g_now_month g_now_floes g_now_founds g_now_notes R0.2.2.1, rI cyI (a_now 4) 5 g_now_cells, rI cyI (a_now 5) 5 R0.2.2.2.1, rI cyI (a_now 8) 88 R0.2.2.2.2]) A) ([.ref (a 0), .int p1, .int p2] : List Value).toArray s 0 0 A) (F0 m 18 ls []) := by
    intro H6 L7 ls h5 hP hD hS hl
    rw [hj3] at h5
    refine lv_aload_n hx hb dX3_feed_18 rfl (lv_at hl 0 rfl) ?_
    obtain ⟨u8, hu9, h10⟩ := lt_e h5
    refine kw_I (wc := [oX3 a a_now a_spare a_text g_above g_below g_bads g_nos g_fulls]) (wr := [oX1 a_now g_now_month g_now_floes g_now_founds g_now_notes g_now_undos, rI cyI (a_now 4) 5 g_now_cells, rI cyI (a_now 5) 5 g_now_foods, rI cyI (a_now 8) 88 g_now_undoRows]) (ws' := [oX3 a a_now a_spare a_text g_above g_below u8.2 g_nos g_fulls, oX1 a_now g_now_month g_now_floes g_now_founds g_now_notes g_now_undos, rI cyI (a_now 4) 5 g_now_cells, rI cyI (a_now 5) 5 g_now_foods, rI cyI (a_now 8) 88 g_now_undoRows]) (va_runV (As := []) (rest := []) ⟨hx, hb, hml, hown, hts⟩ (c_X3_refuseBad l D cyI cyJ cyS a a_now a_spare a_text g_above g_below g_bads g_nos g_fulls H6.size u8 hu9.symm) (cwV 0 hts gX3_feed_X3_refuseBad rfl rfl rfl (by decide +kernel) ⟨(Nat.le_of_ble_eq_true rfl), (Nat.le_of_ble_eq_true rfl)⟩) (preW_V (hP.sub (ws' := [oX3 a a_now a_spare a_text g_above g_below g_bads g_nos g_fulls]) [0] rfl) (hD.sub (ws' := [oX3 a a_now a_spare a_text g_above g_below g_bads g_nos g_fulls]) [0] (by decide) rfl) hKK (va_recv hK hP (ci := 2) (q0 := 0) rfl rfl)) rfl rfl hl.1 rfl (lv_room (Nat.le_of_ble_eq_true rfl)) dX3_feed_19 ⟨Nat.zero_le _, Nat.zero_le _⟩) hP hD hS hA [0] [1, 2, 3, 4] [4, 0, 1, 2, 3] rfl rfl (by decide) (by decide) rfl (by decide) (fun H11 L12 hP hD hS => ?_)
    rw [← Option.some.inj h10]
    exact W.iret (v := u8.1) hx hb hr (fun t ht hW => ⟨⟨u8.1, (), rfl, rfl, ⟨by rw [ht]; exact hP, hD⟩⟩, hS.F ht⟩) hS.2.2 dX3_feed_22
  refine lv_if_eq (tgt := 18) hx hb dX3_feed_5 (by decide) (fun c13 => ?_) (fun c13 => ?_)
  · have h14 := (if_pos c13).symm.trans h4
    exact Jj2  _ _ _ h14 hP hD hS (lv_sub hl [0] rfl)
  · have h15 := (if_neg c13).symm.trans h4
    refine lv_iload_n hx hb dX3_feed_8 rfl (lv_at hl 2 rfl) ?_
    refine lv_iconst (v := 1) hx hb dX3_feed_9 (by decide) ?_
    refine lv_bipush (v := 60) hx hb dX3_feed_10 (by decide) ?_
    refine kc_Z (W.runS (As := [.int p2, .int 1, .int 60]) (rest := []) ⟨hx, hb, hml, hown, hts⟩ (c_X3_within l p2 1 60 (T_X3_within p2 1 60) rfl) (va_cwS 3 hts gX3_feed_X3_within rfl rfl rfl (by decide +kernel) ⟨(Nat.le_of_ble_eq_true rfl), (Nat.le_of_ble_eq_true rfl)⟩) preT_S rfl rfl hl.1 rfl (lv_room (Nat.le_of_ble_eq_true rfl)) dX3_feed_12 ⟨Nat.zero_le _, Nat.zero_le _⟩) (fun hn16 => ?_)
    refine lv_if_ne (tgt := 23) hx hb dX3_feed_15 (by decide) (fun c17 => ?_) (fun c17 => ?_)
    · have h18 := (if_neg c17).symm.trans h15
      refine lv_aload_n hx hb dX3_feed_23 rfl (lv_at hl 0 rfl) ?_
      refine va_get (D := D) (cl := vwCl) (ci := 2) (v := .ref (a_now 0)) (C := RX3) (T := TX3) (N := 12) hx hb hts inX3 hown hK hP 0 rfl rfl 0 (by decide) (hts (Cond.fieldLink RX3 10 "FrozenIn" "now" "LFrozenIn$Sea;") (List.mem_of_getElem? (i := 1) rfl)) (fun _ h9 => h9) rfl dX3_feed_24 ?_
      obtain ⟨u19, hu20, h21⟩ := bd_e h18
      refine kw_V (wc := [oX1 a_now g_now_month g_now_floes g_now_founds g_now_notes g_now_undos, rI cyI (a_now 4) 5 g_now_cells, rI cyI (a_now 5) 5 g_now_foods, rI cyI (a_now 8) 88 g_now_undoRows]) (wr := [oX3 a a_now a_spare a_text g_above g_below g_bads g_nos g_fulls]) (ws' := [oX3 a a_now a_spare a_text g_above g_below g_bads g_nos g_fulls, oX1 a_now g_now_month g_now_floes g_now_founds g_now_notes u19.1, rI cyI (a_now 4) 5 g_now_cells, rI cyI (a_now 5) 5 g_now_foods, rI cyI (a_now 8) 88 u19.2]) (va_runV (As := []) (rest := []) ⟨hx, hb, hml, hown, hts⟩ (c_X1_keepToUndo l D cyI cyJ cyS N a_now g_now_month g_now_floes g_now_founds g_now_notes g_now_undos g_now_cells g_now_foods g_now_undoRows s.heap.size u19 hu20) (cwV 0 hts gX3_feed_X1_keepToUndo rfl rfl rfl (by decide +kernel) ⟨(Nat.le_of_ble_eq_true rfl), (Nat.le_of_ble_eq_true rfl)⟩) (preW_V (hP.sub (ws' := [oX1 a_now g_now_month g_now_floes g_now_founds g_now_notes g_now_undos, rI cyI (a_now 4) 5 g_now_cells, rI cyI (a_now 5) 5 g_now_foods, rI cyI (a_now 8) 88 g_now_undoRows]) [1, 2, 3, 4] rfl) (hD.sub (ws' := [oX1 a_now g_now_month g_now_floes g_now_founds g_now_notes g_now_undos, rI cyI (a_now 4) 5 g_now_cells, rI cyI (a_now 5) 5 g_now_foods, rI cyI (a_now 8) 88 g_now_undoRows]) [1, 2, 3, 4] (by decide) rfl) hKK (va_recv hK hP (ci := 0) (q0 := 1) rfl rfl)) rfl rfl hl.1 rfl (lv_room (Nat.le_of_ble_eq_true rfl)) dX3_feed_27 ⟨Nat.zero_le _, Nat.zero_le _⟩) hP hD hS hA [1, 2, 3, 4] [0] [0, 1, 2, 3, 4] rfl rfl (by decide) (by decide) rfl (by decide) (fun H22 L23 hP hD hS => ?_)
      refine lv_aload_n hx hb dX3_feed_30 rfl (lv_at hl 0 rfl) ?_
      refine va_get (D := D) (cl := vwCl) (ci := 2) (v := .ref (a_now 0)) (C := RX3) (T := TX3) (N := 12) hx hb hts inX3 hown hK hP 0 rfl rfl 0 (by decide) (hts (Cond.fieldLink RX3 10 "FrozenIn" "now" "LFrozenIn$Sea;") (List.mem_of_getElem? (i := 1) rfl)) (fun _ h9 => h9) rfl dX3_feed_31 ?_
      refine va_get (D := D) (cl := vwCl) (ci := 0) (v := .ref (a_now 5)) (C := RX1) (T := TX1) (N := 13) hx hb hts inX1 hown hK hP 1 rfl rfl 6 (by decide) (hts (Cond.fieldLink RX3 117 "FrozenIn$Sea" "foods" "[I") (List.mem_of_getElem? (i := 2) rfl)) (fun _ h9 => h9) rfl dX3_feed_34 ?_
      refine lv_iload_n hx hb dX3_feed_37 rfl (lv_at hl 1 rfl) ?_
      refine lv_bipush (v := 99) hx hb dX3_feed_38 (by decide) ?_
      refine lv_aload_n hx hb dX3_feed_40 rfl (lv_at hl 0 rfl) ?_
      refine va_get (D := D) (cl := vwCl) (ci := 2) (v := .ref (a_now 0)) (C := RX3) (T := TX3) (N := 12) hx hb hts inX3 hown hK hP 0 rfl rfl 0 (by decide) (hts (Cond.fieldLink RX3 10 "FrozenIn" "now" "LFrozenIn$Sea;") (List.mem_of_getElem? (i := 1) rfl)) (fun _ h9 => h9) rfl dX3_feed_41 ?_
      refine va_get (D := D) (cl := vwCl) (ci := 0) (v := .ref (a_now 5)) (C := RX1) (T := TX1) (N := 13) hx hb hts inX1 hown hK hP 1 rfl rfl 6 (by decide) (hts (Cond.fieldLink RX3 117 "FrozenIn$Sea" "foods" "[I") (List.mem_of_getElem? (i := 2) rfl)) (fun _ h9 => h9) rfl dX3_feed_44 ?_
      refine lv_iload_n hx hb dX3_feed_47 rfl (lv_at hl 1 rfl) ?_
      obtain ⟨hi25, h24⟩ := ob_e h21
      refine va_iald hx hb hK hP 3 0 rfl rfl hi25 dX3_feed_48 ?_
      refine lv_iload_n hx hb dX3_feed_49 rfl (lv_at hl 2 rfl) ?_
      refine lv_iadd hx hb dX3_feed_50 ?_
      refine va_mmin hx hb (hml.trans hl.1.symm) hown (hts (Cond.methodLink RX3 120 Lib.Math.min.name) (List.mem_of_getElem? (i := 3) rfl)) (hts (Cond.static Lib.Math.min.name) (List.mem_of_getElem? (i := 4) rfl)) (hts (Cond.initialized "java/lang/Math") (List.mem_of_getElem? (i := 5) rfl)) (hts (Cond.code Lib.Math.min.name Lib.Math.min.code 2 (some .int)) (List.mem_of_getElem? (i := 6) rfl)) (Nat.le_of_ble_eq_true rfl) (Nat.le_of_ble_eq_true rfl) (Nat.zero_le _) (Nat.zero_le _) dX3_feed_51 ?_
      obtain ⟨hi27, h26⟩ := ob_e h24
      refine va_iast hx hb hK hP hD hS 3 0 rfl rfl hi27 dX3_feed_54 (fun H28 L29 hP hD hS => ?_)
      have hP : va_P D vwCl [oX3 a a_now a_spare a_text g_above g_below g_bads g_nos g_fulls, oX1 a_now g_now_month g_now_floes g_now_founds g_now_notes u19.1, rI cyI (a_now 4) 5 g_now_cells, rI cyI (a_now 5) 5 (upd g_now_foods p1.toNatClampNeg (if ((g_now_foods p1.toNatClampNeg) + p2) < 99 then ((g_now_foods p1.toNatClampNeg) + p2) else 99)), rI cyI (a_now 8) 88 u19.2] H28 := hP
      have hD : va_D A [oX3 a a_now a_spare a_text g_above g_below g_bads g_nos g_fulls, oX1 a_now g_now_month g_now_floes g_now_founds g_now_notes u19.1, rI cyI (a_now 4) 5 g_now_cells, rI cyI (a_now 5) 5 (upd g_now_foods p1.toNatClampNeg (if ((g_now_foods p1.toNatClampNeg) + p2) < 99 then ((g_now_foods p1.toNatClampNeg) + p2) else 99)), rI cyI (a_now 8) 88 u19.2] := hD
      refine lv_aload_n hx hb dX3_feed_55 rfl (lv_at hl 0 rfl) ?_
      refine va_get (D := D) (cl := vwCl) (ci := 2) (v := .ref (a_now 0)) (C := RX3) (T := TX3) (N := 12) hx hb hts inX3 hown hK hP 0 rfl rfl 0 (by decide) (hts (Cond.fieldLink RX3 10 "FrozenIn" "now" "LFrozenIn$Sea;") (List.mem_of_getElem? (i := 1) rfl)) (fun _ h9 => h9) rfl dX3_feed_56 ?_
      refine va_get (D := D) (cl := vwCl) (ci := 0) (v := .ref (a_now 5)) (C := RX1) (T := TX1) (N := 13) hx hb hts inX1 hown hK hP 1 rfl rfl 6 (by decide) (hts (Cond.fieldLink RX3 117 "FrozenIn$Sea" "foods" "[I") (List.mem_of_getElem? (i := 2) rfl)) (fun _ h9 => h9) rfl dX3_feed_59 ?_
      refine lv_iload_n hx hb dX3_feed_62 rfl (lv_at hl 1 rfl) ?_
      obtain ⟨hi31, h30⟩ := ob_e h26
      refine va_iald hx hb hK hP 3 0 rfl rfl hi31 dX3_feed_63 ?_
      rw [← Option.some.inj h30]
      exact W.iret (v := (upd g_now_foods p1.toNatClampNeg (if ((g_now_foods p1.toNatClampNeg) + p2) < 99 then ((g_now_foods p1.toNatClampNeg) + p2) else 99)) p1.toNatClampNeg) hx hb hr (fun t ht hW => ⟨⟨(upd g_now_foods p1.toNatClampNeg (if ((g_now_foods p1.toNatClampNeg) + p2) < 99 then ((g_now_foods p1.toNatClampNeg) + p2) else 99)) p1.toNatClampNeg, (), rfl, rfl, ⟨by rw [ht]; exact hP, hD⟩⟩, hS.F ht⟩) hS.2.2 dX3_feed_64
    · have h32 := (if_pos c17).symm.trans h15
      exact Jj2  _ _ _ h32 hP hD hS (lv_sub hl [0] rfl)
def T_X3_moves (N : Nat) (g_bads : Int32) (g_now_month : Int32) (g_now_floes : Int32) (g_now_undos : Int32) (g_now_cells : Nat → Int32) (g_now_foods : Nat → Int32) (g_now_undoRows : Nat → Int32) (p1 : Int32) (p2 : Int32) : Option (Int32 × Int32 × Int32 × (Nat → Int32) × (Nat → Int32)) :=
  (jn (lt' (T_X3_refuseBad g_bads) fun u8 => (some (u8.1, u8.2, g_now_undos, g_now_cells, g_now_undoRows))) fun j2 => (if (T_X3_isFloe g_now_floes p1) = 0 then j2 else (if (T_X3_isCell p2) = 0 then j2 else (Option.bind (T_X1_keepToUndo N g_now_month g_now_undos g_now_cells g_now_foods g_now_undoRows) fun u19 => (ob p1 5 (lt' (g_now_cells p1.toNatClampNeg) fun x26 => (ob p1 5 (some (x26, g_bads, u19.1, upd g_now_cells p1.toNatClampNeg p2, u19.2)))))))))
abbrev rm_X3_moves : Room := { frames := 2, cells := 0, slots := 0, locals := 47 }
set_option maxHeartbeats 4000000 in
set_option maxRecDepth 100000 in
theorem c_X3_moves (l : Launch) (D : va_G) (cyI cyJ cyS : ClassId) (N : Nat) (a a_now a_spare a_text : Nat → Nat) (g_above : Int64) (g_below : Int64) (g_bads : Int32) (g_nos : Int32) (g_fulls : Int32) (g_now_month : Int32) (g_now_floes : Int32) (g_now_founds : Int32) (g_now_notes : Int32) (g_now_undos : Int32) (g_now_cells : Nat → Int32) (g_now_foods : Nat → Int32) (g_now_undoRows : Nat → Int32) (p1 : Int32) (p2 : Int32) (sz : Nat) (R0 : Int32 × Int32 × Int32 × (Nat → Int32) × (Nat → Int32)) (hT : T_X3_moves N g_bads g_now_month g_now_floes g_now_undos g_now_cells g_now_foods g_now_undoRows p1 p2 = some R0) : Met l yX3_moves wsX3_moves rm_X3_moves (va_Pc [.ref (a 0), .int p1, .int p2] (preW D (tyS cyI cyJ cyS) [oX3 a a_now a_spare a_text g_above g_below g_bads g_nos g_fulls, oX1 a_now g_now_month g_now_floes g_now_founds g_now_notes g_now_undos, rI cyI (a_now 4) 5 g_now_cells, rI cyI (a_now 5) 5 g_now_foods, rI cyI (a_now 8) 88 g_now_undoRows] sz)) (va_Qi (fun (r : Int32) (_ : Unit) => r = R0.1) (fun _ t => va_P D vwCl [oX3 a a_now a_spare a_text g_above g_below R0.2.1 g_nos g_fulls, oX1 a_now g_now_month g_now_floes g_now_founds g_now_notes R0.2.2.1, rI cyI (a_now 4) 5 R0.2.2.2.1, rI cyI (a_now 5) 5 g_now_foods, rI cyI (a_now 8) 88 R0.2.2.2.2] t.heap ∧ va_D (va_A [oX3 a a_now a_spare a_text g_above g_below g_bads g_nos g_fulls, oX1 a_now g_now_month g_now_floes g_now_founds g_now_notes g_now_undos, rI cyI (a_now 4) 5 g_now_cells, rI cyI (a_now 5) 5 g_now_foods, rI cyI (a_now 8) 88 g_now_undoRows] sz) [oX3 a a_now a_spare a_text g_above g_below R0.2.1 g_nos g_fulls, oX1 a_now g_now_month g_now_floes g_now_founds g_now_notes R0.2.2.1, rI cyI (a_now 4) 5 R0.2.2.2.1, rI cyI (a_now 5) 5 g_now_foods, rI cyI (a_now 8) 88 R0.2.2.2.2]) (va_A [oX3 a a_now a_spare a_text g_above g_below g_bads g_nos g_fulls, oX1 a_now g_now_month g_now_floes g_now_founds g_now_notes g_now_undos, rI cyI (a_now 4) 5 g_now_cells, rI cyI (a_now 5) 5 g_now_foods, rI cyI (a_now 8) 88 g_now_undoRows] sz)) 0 0 (va_A [oX3 a a_now a_spare a_text g_above g_below g_bads g_nos g_fulls, oX1 a_now g_now_month g_now_floes g_now_founds g_now_notes g_now_undos, rI cyI (a_now 4) 5 g_now_cells, rI cyI (a_now 5) 5 g_now_foods, rI cyI (a_now 8) 88 g_now_undoRows] sz) := by
  refine Met.ofW (cc := cX3_moves) (maxL := 4) (ret := (some .int)) (by decide) rfl ?_
  intro p e s m args below meth c s₁ B hml hv
  obtain ⟨rfl, hsz, hP, hKK, hD0⟩ := hv
  have hx := B.exec
  have hb := B.bytes
  have hr := B.returns
  have hts := atoms_spec (ws := wsX3_moves) B.pre
  have hown : s.vm.findClass RX3 = some m.cls := findClass_of_methodNamed B.named
  have hlocks := B.notSynchronized
  have hK := hKK.1
  have inX3 : ∀ w ∈ wsX30, w ∈ wsX3_moves := (fun _ h => List.mem_cons_of_mem _ (List.mem_append_left _ (List.mem_append_right _ h)))
  have inX1 : ∀ w ∈ wsX10, w ∈ wsX3_moves := (fun _ h => List.mem_cons_of_mem _ (List.mem_append_right _ h))
  subst hsz
  have hD := hD0.self (sz := s.heap.size)
  generalize hAe : va_A [oX3 a a_now a_spare a_text g_above g_below g_bads g_nos g_fulls, oX1 a_now g_now_month g_now_floes g_now_founds g_now_notes g_now_undos, rI cyI (a_now 4) 5 g_now_cells, rI cyI (a_now 5) 5 g_now_foods, rI cyI (a_now 8) 88 g_now_undoRows] s.heap.size = A at hD ⊢
  have hA : ∀ q : Nat, s.heap.size ≤ q → A q := fun q h => by rw [← hAe]; exact Or.inr h
  have hS : va_S A s.heap s.heap [] := va_S.rf
  have hP : va_P D vwCl [oX3 a a_now a_spare a_text g_above g_below g_bads g_nos g_fulls, oX1 a_now g_now_month g_now_floes g_now_founds g_now_notes g_now_undos, rI cyI (a_now 4) 5 g_now_cells, rI cyI (a_now 5) 5 g_now_foods, rI cyI (a_now 8) 88 g_now_undoRows] s.heap := hP
  have hl := lv_entry [.ref (a 0), .int p1, .int p2] (n := 4) (Nat.le_of_ble_eq_true rfl)
  rw [lg_entry_eq]
  generalize (lg_sl [.ref (a 0), .int p1, .int p2] ++ List.replicate (4 - (lg_sl [.ref (a 0), .int p1, .int p2]).length) Slot.unset).toArray = ls at hl ⊢
  have hl : lv_has ls 4 [(0, .ref (a 0)), (1, .int p1), (2, .int p2)] := hl
  unfold T_X3_moves at hT
  refine lv_aload_n hx hb dX3_moves_0 rfl (lv_at hl 0 rfl) ?_
  refine lv_iload_n hx hb dX3_moves_1 rfl (lv_at hl 1 rfl) ?_
  refine kc_Z (W.runV (As := [.int p1]) (rest := []) ⟨hx, hb, hml, hown, hts⟩ (c_X3_isFloe l D cyI cyJ cyS a a_now a_spare a_text g_above g_below g_bads g_nos g_fulls g_now_month g_now_floes g_now_founds g_now_notes g_now_undos p1 (T_X3_isFloe g_now_floes p1) rfl) (cwV 1 hts gX3_moves_X3_isFloe rfl rfl rfl (by decide +kernel) ⟨(Nat.le_of_ble_eq_true rfl), (Nat.le_of_ble_eq_true rfl)⟩) (preR_V (hP.sub (ws' := [oX3 a a_now a_spare a_text g_above g_below g_bads g_nos g_fulls, oX1 a_now g_now_month g_now_floes g_now_founds g_now_notes g_now_undos]) [0, 1] rfl) hKK (va_recv hK hP (ci := 2) (q0 := 0) rfl rfl)) rfl rfl hl.1 rfl (lv_room (Nat.le_of_ble_eq_true rfl)) dX3_moves_2 ⟨Nat.zero_le _, Nat.zero_le _⟩) (fun hn1 => ?_)
  obtain ⟨j2, hj3, h4⟩ := jn_e hT
  have Jj2 : ∀ (H : Heap) (locs : List Loc) (ls : Array Slot), j2 = some R0 → va_P D vwCl [oX3 a a_now a_spare a_text g_above g_below g_bads g_nos g_fulls, oX1 a_now g_now_month g_now_floes g_now_founds g_now_notes g_now_undos, rI cyI (a_now 4) 5 g_now_cells, rI cyI (a_now 5) 5 g_now_foods, rI cyI (a_now 8) 88 g_now_undoRows] H → va_D A [oX3 a a_now a_spare a_text g_above g_below g_bads g_nos g_fulls, oX1 a_now g_now_month g_now_floes g_now_founds g_now_notes g_now_undos, rI cyI (a_now 4) 5 g_now_cells, rI cyI (a_now 5) 5 g_now_foods, rI cyI (a_now 8) 88 g_now_undoRows] → va_S A s.heap H locs → lv_has ls 4 [(0, .ref (a 0))] → W p l e (headSpec wsX3_moves rm_X3_moves).room s m ([.ref (a 0), .int p1, .int p2] : List Value).toArray below meth c H locs 0 0 (MQ below (va_Qi (fun (r : Int32) (_ : Unit) => r = R0.1) (fun _ t => va_P D vwCl [oX3 a a_now a_spare a_text g_above g_below R0.2.1 g_nos g_fulls, oX1 a_now g_now_month g_now_floes g_now_founds g_now_notes R0.2.2.1, rI cyI (a_now 4) 5 R0.2.2.2.1, rI cyI (a_now 5) 5 g_now_foods, rI cyI (a_now 8) 88 R0.2.2.2.2] t.heap ∧ va_D A [oX3 a a_now a_spare a_text g_above g_below R0.2.1 g_nos g_fulls, oX1 a_now g_now_month g_now_floes g_now_founds g_now_notes R0.2.2.1, rI cyI (a_now 4) 5 R0.2.2.2.1, rI cyI (a_now 5) 5 g_now_foods, rI cyI (a_now 8) 88 R0.2.2.2.2]) A) ([.ref (a 0), .int p1, .int p2] : List Value).toArray s 0 0 A) (F0 m 15 ls []) := by
    intro H6 L7 ls h5 hP hD hS hl
    rw [hj3] at h5
    refine lv_aload_n hx hb dX3_moves_15 rfl (lv_at hl 0 rfl) ?_
    obtain ⟨u8, hu9, h10⟩ := lt_e h5
    refine kw_I (wc := [oX3 a a_now a_spare a_text g_above g_below g_bads g_nos g_fulls]) (wr := [oX1 a_now g_now_month g_now_floes g_now_founds g_now_notes g_now_undos, rI cyI (a_now 4) 5 g_now_cells, rI cyI (a_now 5) 5 g_now_foods, rI cyI (a_now 8) 88 g_now_undoRows]) (ws' := [oX3 a a_now a_spare a_text g_above g_below u8.2 g_nos g_fulls, oX1 a_now g_now_month g_now_floes g_now_founds g_now_notes g_now_undos, rI cyI (a_now 4) 5 g_now_cells, rI cyI (a_now 5) 5 g_now_foods, rI cyI (a_now 8) 88 g_now_undoRows]) (va_runV (As := []) (rest := []) ⟨hx, hb, hml, hown, hts⟩ (c_X3_refuseBad l D cyI cyJ cyS a a_now a_spare a_text g_above g_below g_bads g_nos g_fulls H6.size u8 hu9.symm) (cwV 0 hts gX3_moves_X3_refuseBad rfl rfl rfl (by decide +kernel) ⟨(Nat.le_of_ble_eq_true rfl), (Nat.le_of_ble_eq_true rfl)⟩) (preW_V (hP.sub (ws' := [oX3 a a_now a_spare a_text g_above g_below g_bads g_nos g_fulls]) [0] rfl) (hD.sub (ws' := [oX3 a a_now a_spare a_text g_above g_below g_bads g_nos g_fulls]) [0] (by decide) rfl) hKK (va_recv hK hP (ci := 2) (q0 := 0) rfl rfl)) rfl rfl hl.1 rfl (lv_room (Nat.le_of_ble_eq_true rfl)) dX3_moves_16 ⟨Nat.zero_le _, Nat.zero_le _⟩) hP hD hS hA [0] [1, 2, 3, 4] [4, 0, 1, 2, 3] rfl rfl (by decide) (by decide) rfl (by decide) (fun H11 L12 hP hD hS => ?_)
    rw [← Option.some.inj h10]
    exact W.iret (v := u8.1) hx hb hr (fun t ht hW => ⟨⟨u8.1, (), rfl, rfl, ⟨by rw [ht]; exact hP, hD⟩⟩, hS.F ht⟩) hS.2.2 dX3_moves_19
  refine lv_if_eq (tgt := 15) hx hb dX3_moves_5 (by decide) (fun c13 => ?_) (fun c13 => ?_)
  · have h14 := (if_pos c13).symm.trans h4
    exact Jj2  _ _ _ h14 hP hD hS (lv_sub hl [0] rfl)
  · have h15 := (if_neg c13).symm.trans h4
    refine lv_iload_n hx hb dX3_moves_8 rfl (lv_at hl 2 rfl) ?_
    refine kc_Z (W.runS (As := [.int p2]) (rest := []) ⟨hx, hb, hml, hown, hts⟩ (c_X3_isCell l p2 (T_X3_isCell p2) rfl) (va_cwS 1 hts gX3_moves_X3_isCell rfl rfl rfl (by decide +kernel) ⟨(Nat.le_of_ble_eq_true rfl), (Nat.le_of_ble_eq_true rfl)⟩) preT_S rfl rfl hl.1 rfl (lv_room (Nat.le_of_ble_eq_true rfl)) dX3_moves_9 ⟨Nat.zero_le _, Nat.zero_le _⟩) (fun hn16 => ?_)
    refine lv_if_ne (tgt := 20) hx hb dX3_moves_12 (by decide) (fun c17 => ?_) (fun c17 => ?_)
    · have h18 := (if_neg c17).symm.trans h15
      refine lv_aload_n hx hb dX3_moves_20 rfl (lv_at hl 0 rfl) ?_
      refine va_get (D := D) (cl := vwCl) (ci := 2) (v := .ref (a_now 0)) (C := RX3) (T := TX3) (N := 12) hx hb hts inX3 hown hK hP 0 rfl rfl 0 (by decide) (hts (Cond.fieldLink RX3 10 "FrozenIn" "now" "LFrozenIn$Sea;") (List.mem_of_getElem? (i := 1) rfl)) (fun _ h9 => h9) rfl dX3_moves_21 ?_
      obtain ⟨u19, hu20, h21⟩ := bd_e h18
      refine kw_V (wc := [oX1 a_now g_now_month g_now_floes g_now_founds g_now_notes g_now_undos, rI cyI (a_now 4) 5 g_now_cells, rI cyI (a_now 5) 5 g_now_foods, rI cyI (a_now 8) 88 g_now_undoRows]) (wr := [oX3 a a_now a_spare a_text g_above g_below g_bads g_nos g_fulls]) (ws' := [oX3 a a_now a_spare a_text g_above g_below g_bads g_nos g_fulls, oX1 a_now g_now_month g_now_floes g_now_founds g_now_notes u19.1, rI cyI (a_now 4) 5 g_now_cells, rI cyI (a_now 5) 5 g_now_foods, rI cyI (a_now 8) 88 u19.2]) (va_runV (As := []) (rest := []) ⟨hx, hb, hml, hown, hts⟩ (c_X1_keepToUndo l D cyI cyJ cyS N a_now g_now_month g_now_floes g_now_founds g_now_notes g_now_undos g_now_cells g_now_foods g_now_undoRows s.heap.size u19 hu20) (cwV 0 hts gX3_moves_X1_keepToUndo rfl rfl rfl (by decide +kernel) ⟨(Nat.le_of_ble_eq_true rfl), (Nat.le_of_ble_eq_true rfl)⟩) (preW_V (hP.sub (ws' := [oX1 a_now g_now_month g_now_floes g_now_founds g_now_notes g_now_undos, rI cyI (a_now 4) 5 g_now_cells, rI cyI (a_now 5) 5 g_now_foods, rI cyI (a_now 8) 88 g_now_undoRows]) [1, 2, 3, 4] rfl) (hD.sub (ws' := [oX1 a_now g_now_month g_now_floes g_now_founds g_now_notes g_now_undos, rI cyI (a_now 4) 5 g_now_cells, rI cyI (a_now 5) 5 g_now_foods, rI cyI (a_now 8) 88 g_now_undoRows]) [1, 2, 3, 4] (by decide) rfl) hKK (va_recv hK hP (ci := 0) (q0 := 1) rfl rfl)) rfl rfl hl.1 rfl (lv_room (Nat.le_of_ble_eq_true rfl)) dX3_moves_24 ⟨Nat.zero_le _, Nat.zero_le _⟩) hP hD hS hA [1, 2, 3, 4] [0] [0, 1, 2, 3, 4] rfl rfl (by decide) (by decide) rfl (by decide) (fun H22 L23 hP hD hS => ?_)
      refine lv_aload_n hx hb dX3_moves_27 rfl (lv_at hl 0 rfl) ?_
      refine va_get (D := D) (cl := vwCl) (ci := 2) (v := .ref (a_now 0)) (C := RX3) (T := TX3) (N := 12) hx hb hts inX3 hown hK hP 0 rfl rfl 0 (by decide) (hts (Cond.fieldLink RX3 10 "FrozenIn" "now" "LFrozenIn$Sea;") (List.mem_of_getElem? (i := 1) rfl)) (fun _ h9 => h9) rfl dX3_moves_28 ?_
      refine va_get (D := D) (cl := vwCl) (ci := 0) (v := .ref (a_now 4)) (C := RX1) (T := TX1) (N := 13) hx hb hts inX1 hown hK hP 1 rfl rfl 5 (by decide) (hts (Cond.fieldLink RX3 126 "FrozenIn$Sea" "cells" "[I") (List.mem_of_getElem? (i := 2) rfl)) (fun _ h9 => h9) rfl dX3_moves_31 ?_
      refine lv_iload_n hx hb dX3_moves_34 rfl (lv_at hl 1 rfl) ?_
      obtain ⟨hi25, h24⟩ := ob_e h21
      refine va_iald hx hb hK hP 2 0 rfl rfl hi25 dX3_moves_35 ?_
      obtain ⟨x26, ex26, h27⟩ := lt_e h24
      refine lv_nm ex26 ?_
      refine lv_istore_n (lv' := [(3, .int x26), (0, .ref (a 0)), (1, .int p1), (2, .int p2)]) hx hb dX3_moves_36 rfl hl (by decide) rfl (fun ls hl => ?_)
      refine lv_aload_n hx hb dX3_moves_37 rfl (lv_at hl 1 rfl) ?_
      refine va_get (D := D) (cl := vwCl) (ci := 2) (v := .ref (a_now 0)) (C := RX3) (T := TX3) (N := 12) hx hb hts inX3 hown hK hP 0 rfl rfl 0 (by decide) (hts (Cond.fieldLink RX3 10 "FrozenIn" "now" "LFrozenIn$Sea;") (List.mem_of_getElem? (i := 1) rfl)) (fun _ h9 => h9) rfl dX3_moves_38 ?_
      refine va_get (D := D) (cl := vwCl) (ci := 0) (v := .ref (a_now 4)) (C := RX1) (T := TX1) (N := 13) hx hb hts inX1 hown hK hP 1 rfl rfl 5 (by decide) (hts (Cond.fieldLink RX3 126 "FrozenIn$Sea" "cells" "[I") (List.mem_of_getElem? (i := 2) rfl)) (fun _ h9 => h9) rfl dX3_moves_41 ?_
      refine lv_iload_n hx hb dX3_moves_44 rfl (lv_at hl 2 rfl) ?_
      refine lv_iload_n hx hb dX3_moves_45 rfl (lv_at hl 3 rfl) ?_
      obtain ⟨hi29, h28⟩ := ob_e h27
      refine va_iast hx hb hK hP hD hS 2 0 rfl rfl hi29 dX3_moves_46 (fun H30 L31 hP hD hS => ?_)
      have hP : va_P D vwCl [oX3 a a_now a_spare a_text g_above g_below g_bads g_nos g_fulls, oX1 a_now g_now_month g_now_floes g_now_founds g_now_notes u19.1, rI cyI (a_now 4) 5 (upd g_now_cells p1.toNatClampNeg p2), rI cyI (a_now 5) 5 g_now_foods, rI cyI (a_now 8) 88 u19.2] H30 := hP
      have hD : va_D A [oX3 a a_now a_spare a_text g_above g_below g_bads g_nos g_fulls, oX1 a_now g_now_month g_now_floes g_now_founds g_now_notes u19.1, rI cyI (a_now 4) 5 (upd g_now_cells p1.toNatClampNeg p2), rI cyI (a_now 5) 5 g_now_foods, rI cyI (a_now 8) 88 u19.2] := hD
      refine lv_iload_n hx hb dX3_moves_47 rfl (lv_at hl 0 rfl) ?_
      rw [← Option.some.inj h28]
      exact W.iret (v := x26) hx hb hr (fun t ht hW => ⟨⟨x26, (), rfl, rfl, ⟨by rw [ht]; exact hP, hD⟩⟩, hS.F ht⟩) hS.2.2 dX3_moves_48
    · have h32 := (if_pos c17).symm.trans h15
      exact Jj2  _ _ _ h32 hP hD hS (lv_sub hl [0] rfl)
def T_X3_refuseNo (g_nos : Int32) : Int32 × Int32 :=
  ((-3), g_nos + 1)
abbrev rm_X3_refuseNo : Room := { frames := 0, cells := 0, slots := 0, locals := 0 }
set_option maxHeartbeats 4000000 in
set_option maxRecDepth 100000 in
theorem c_X3_refuseNo (l : Launch) (D : va_G) (cyI cyJ cyS : ClassId) (a a_now a_spare a_text : Nat → Nat) (g_above : Int64) (g_below : Int64) (g_bads : Int32) (g_nos : Int32) (g_fulls : Int32) (sz : Nat) (R0 : Int32 × Int32) (hT : T_X3_refuseNo g_nos = R0) : Met l yX3_refuseNo wsX3_refuseNo rm_X3_refuseNo (va_Pc [.ref (a 0)] (preW D (tyS cyI cyJ cyS) [oX3 a a_now a_spare a_text g_above g_below g_bads g_nos g_fulls] sz)) (va_Qi (fun (r : Int32) (_ : Unit) => r = R0.1) (fun _ t => va_P D vwCl [oX3 a a_now a_spare a_text g_above g_below g_bads R0.2 g_fulls] t.heap ∧ va_D (va_A [oX3 a a_now a_spare a_text g_above g_below g_bads g_nos g_fulls] sz) [oX3 a a_now a_spare a_text g_above g_below g_bads R0.2 g_fulls]) (va_A [oX3 a a_now a_spare a_text g_above g_below g_bads g_nos g_fulls] sz)) 0 0 (va_A [oX3 a a_now a_spare a_text g_above g_below g_bads g_nos g_fulls] sz) := by
  refine Met.ofW (cc := cX3_refuseNo) (maxL := 1) (ret := (some .int)) (by decide) rfl ?_
  intro p e s m args below meth c s₁ B hml hv
  obtain ⟨rfl, hsz, hP, hKK, hD0⟩ := hv
  have hx := B.exec
  have hb := B.bytes
  have hr := B.returns
  have hts := atoms_spec (ws := wsX3_refuseNo) B.pre
  have hown : s.vm.findClass RX3 = some m.cls := findClass_of_methodNamed B.named
  have hlocks := B.notSynchronized
  have hK := hKK.1
  have inX3 : ∀ w ∈ wsX30, w ∈ wsX3_refuseNo := (fun _ h => List.mem_cons_of_mem _ (List.mem_append_right _ h))
  subst hsz
  have hD := hD0.self (sz := s.heap.size)
  generalize hAe : va_A [oX3 a a_now a_spare a_text g_above g_below g_bads g_nos g_fulls] s.heap.size = A at hD ⊢
  have hA : ∀ q : Nat, s.heap.size ≤ q → A q := fun q h => by rw [← hAe]; exact Or.inr h
  have hS : va_S A s.heap s.heap [] := va_S.rf
  have hP : va_P D vwCl [oX3 a a_now a_spare a_text g_above g_below g_bads g_nos g_fulls] s.heap := hP
  have hl := lv_entry [.ref (a 0)] (n := 1) (Nat.le_of_ble_eq_true rfl)
  rw [lg_entry_eq]
  generalize (lg_sl [.ref (a 0)] ++ List.replicate (1 - (lg_sl [.ref (a 0)]).length) Slot.unset).toArray = ls at hl ⊢
  have hl : lv_has ls 1 [(0, .ref (a 0))] := hl
  unfold T_X3_refuseNo at hT
  refine lv_aload_n hx hb dX3_refuseNo_0 rfl (lv_at hl 0 rfl) ?_
  refine lv_dup hx hb dX3_refuseNo_1 rfl ?_
  refine va_get (D := D) (cl := vwCl) (ci := 2) (v := .int g_nos) (C := RX3) (T := TX3) (N := 12) hx hb hts inX3 hown hK hP 0 rfl rfl 10 (by decide) (hts (Cond.fieldLink RX3 230 "FrozenIn" "nos" "I") (List.mem_of_getElem? (i := 1) rfl)) (fun _ h9 => h9) rfl dX3_refuseNo_2 ?_
  refine lv_iconst (v := 1) hx hb dX3_refuseNo_5 (by decide) ?_
  refine lv_iadd hx hb dX3_refuseNo_6 ?_
  refine va_put (D := D) (cl := vwCl) (ci := 2) (v := .int (g_nos + 1)) (ty := .int) (C := RX3) (T := TX3) (N := 12) hx hb hts inX3 tyX3 tyX3_ok nmX3 hown hK hP hD hS 0 rfl rfl 10 (by decide) (hts (Cond.fieldLink RX3 230 "FrozenIn" "nos" "I") (List.mem_of_getElem? (i := 1) rfl)) (fun _ h9 => h9) rfl (by decide +kernel) rfl rfl (Nat.le_of_ble_eq_true rfl) dX3_refuseNo_7 (fun H1 L2 hP hD hS => ?_)
  have hP : va_P D vwCl [oX3 a a_now a_spare a_text g_above g_below g_bads (g_nos + 1) g_fulls] H1 := hP
  have hD : va_D A [oX3 a a_now a_spare a_text g_above g_below g_bads (g_nos + 1) g_fulls] := hD
  refine lv_bipush (v := (-3)) hx hb dX3_refuseNo_10 (by decide) ?_
  rw [← hT]
  exact W.iret (v := (-3)) hx hb hr (fun t ht hW => ⟨⟨(-3), (), rfl, rfl, ⟨by rw [ht]; exact hP, hD⟩⟩, hS.F ht⟩) hS.2.2 dX3_refuseNo_12
def T_X3_undo (N : Nat) (g_nos : Int32) (g_now_month : Int32) (g_now_undos : Int32) (g_now_cells : Nat → Int32) (g_now_foods : Nat → Int32) (g_now_undoRows : Nat → Int32) : Option (Int32 × Int32 × Int32 × Int32 × (Nat → Int32) × (Nat → Int32)) :=
  (if g_now_undos = 0 then (lt' (T_X3_refuseNo g_nos) fun u9 => (some (u9.1, u9.2, g_now_month, g_now_undos, g_now_cells, g_now_foods))) else (Option.bind (T_X1_takeBack N g_now_month g_now_undos g_now_cells g_now_foods g_now_undoRows) fun u3 => (some (u3.1, g_nos, u3.1, u3.2.1, u3.2.2.1, u3.2.2.2))))
abbrev rm_X3_undo : Room := { frames := 2, cells := 0, slots := 0, locals := 47 }
set_option maxHeartbeats 4000000 in
set_option maxRecDepth 100000 in
theorem c_X3_undo (l : Launch) (D : va_G) (cyI cyJ cyS : ClassId) (N : Nat) (a a_now a_spare a_text : Nat → Nat) (g_above : Int64) (g_below : Int64) (g_bads : Int32) (g_nos : Int32) (g_fulls : Int32) (g_now_month : Int32) (g_now_floes : Int32) (g_now_founds : Int32) (g_now_notes : Int32) (g_now_undos : Int32) (g_now_cells : Nat → Int32) (g_now_foods : Nat → Int32) (g_now_undoRows : Nat → Int32) (sz : Nat) (R0 : Int32 × Int32 × Int32 × Int32 × (Nat → Int32) × (Nat → Int32)) (hT : T_X3_undo N g_nos g_now_month g_now_undos g_now_cells g_now_foods g_now_undoRows = some R0) : Met l yX3_undo wsX3_undo rm_X3_undo (va_Pc [.ref (a 0)] (preW D (tyS cyI cyJ cyS) [oX3 a a_now a_spare a_text g_above g_below g_bads g_nos g_fulls, oX1 a_now g_now_month g_now_floes g_now_founds g_now_notes g_now_undos, rI cyI (a_now 4) 5 g_now_cells, rI cyI (a_now 5) 5 g_now_foods, rI cyI (a_now 8) 88 g_now_undoRows] sz)) (va_Qi (fun (r : Int32) (_ : Unit) => r = R0.1) (fun _ t => va_P D vwCl [oX3 a a_now a_spare a_text g_above g_below g_bads R0.2.1 g_fulls, oX1 a_now R0.2.2.1 g_now_floes g_now_founds g_now_notes R0.2.2.2.1, rI cyI (a_now 4) 5 R0.2.2.2.2.1, rI cyI (a_now 5) 5 R0.2.2.2.2.2, rI cyI (a_now 8) 88 g_now_undoRows] t.heap ∧ va_D (va_A [oX3 a a_now a_spare a_text g_above g_below g_bads g_nos g_fulls, oX1 a_now g_now_month g_now_floes g_now_founds g_now_notes g_now_undos, rI cyI (a_now 4) 5 g_now_cells, rI cyI (a_now 5) 5 g_now_foods, rI cyI (a_now 8) 88 g_now_undoRows] sz) [oX3 a a_now a_spare a_text g_above g_below g_bads R0.2.1 g_fulls, oX1 a_now R0.2.2.1 g_now_floes g_now_founds g_now_notes R0.2.2.2.1, rI cyI (a_now 4) 5 R0.2.2.2.2.1, rI cyI (a_now 5) 5 R0.2.2.2.2.2, rI cyI (a_now 8) 88 g_now_undoRows]) (va_A [oX3 a a_now a_spare a_text g_above g_below g_bads g_nos g_fulls, oX1 a_now g_now_month g_now_floes g_now_founds g_now_notes g_now_undos, rI cyI (a_now 4) 5 g_now_cells, rI cyI (a_now 5) 5 g_now_foods, rI cyI (a_now 8) 88 g_now_undoRows] sz)) 0 0 (va_A [oX3 a a_now a_spare a_text g_above g_below g_bads g_nos g_fulls, oX1 a_now g_now_month g_now_floes g_now_founds g_now_notes g_now_undos, rI cyI (a_now 4) 5 g_now_cells, rI cyI (a_now 5) 5 g_now_foods, rI cyI (a_now 8) 88 g_now_undoRows] sz) := by
  refine Met.ofW (cc := cX3_undo) (maxL := 1) (ret := (some .int)) (by decide) rfl ?_
  intro p e s m args below meth c s₁ B hml hv
  obtain ⟨rfl, hsz, hP, hKK, hD0⟩ := hv
  have hx := B.exec
  have hb := B.bytes
  have hr := B.returns
  have hts := atoms_spec (ws := wsX3_undo) B.pre
  have hown : s.vm.findClass RX3 = some m.cls := findClass_of_methodNamed B.named
  have hlocks := B.notSynchronized
  have hK := hKK.1
  have inX3 : ∀ w ∈ wsX30, w ∈ wsX3_undo := (fun _ h => List.mem_cons_of_mem _ (List.mem_append_left _ (List.mem_append_right _ h)))
  have inX1 : ∀ w ∈ wsX10, w ∈ wsX3_undo := (fun _ h => List.mem_cons_of_mem _ (List.mem_append_right _ h))
  subst hsz
  have hD := hD0.self (sz := s.heap.size)
  generalize hAe : va_A [oX3 a a_now a_spare a_text g_above g_below g_bads g_nos g_fulls, oX1 a_now g_now_month g_now_floes g_now_founds g_now_notes g_now_undos, rI cyI (a_now 4) 5 g_now_cells, rI cyI (a_now 5) 5 g_now_foods, rI cyI (a_now 8) 88 g_now_undoRows] s.heap.size = A at hD ⊢
  have hA : ∀ q : Nat, s.heap.size ≤ q → A q := fun q h => by rw [← hAe]; exact Or.inr h
  have hS : va_S A s.heap s.heap [] := va_S.rf
  have hP : va_P D vwCl [oX3 a a_now a_spare a_text g_above g_below g_bads g_nos g_fulls, oX1 a_now g_now_month g_now_floes g_now_founds g_now_notes g_now_undos, rI cyI (a_now 4) 5 g_now_cells, rI cyI (a_now 5) 5 g_now_foods, rI cyI (a_now 8) 88 g_now_undoRows] s.heap := hP
  have hl := lv_entry [.ref (a 0)] (n := 1) (Nat.le_of_ble_eq_true rfl)
  rw [lg_entry_eq]
  generalize (lg_sl [.ref (a 0)] ++ List.replicate (1 - (lg_sl [.ref (a 0)]).length) Slot.unset).toArray = ls at hl ⊢
  have hl : lv_has ls 1 [(0, .ref (a 0))] := hl
  unfold T_X3_undo at hT
  refine lv_aload_n hx hb dX3_undo_0 rfl (lv_at hl 0 rfl) ?_
  refine va_get (D := D) (cl := vwCl) (ci := 2) (v := .ref (a_now 0)) (C := RX3) (T := TX3) (N := 12) hx hb hts inX3 hown hK hP 0 rfl rfl 0 (by decide) (hts (Cond.fieldLink RX3 10 "FrozenIn" "now" "LFrozenIn$Sea;") (List.mem_of_getElem? (i := 1) rfl)) (fun _ h9 => h9) rfl dX3_undo_1 ?_
  refine va_get (D := D) (cl := vwCl) (ci := 0) (v := .int g_now_undos) (C := RX1) (T := TX1) (N := 13) hx hb hts inX1 hown hK hP 1 rfl rfl 11 (by decide) (hts (Cond.fieldLink RX3 129 "FrozenIn$Sea" "undos" "I") (List.mem_of_getElem? (i := 2) rfl)) (fun _ h9 => h9) rfl dX3_undo_4 ?_
  refine lv_if_ne (tgt := 15) hx hb dX3_undo_7 (by decide) (fun c1 => ?_) (fun c1 => ?_)
  · have h2 := (if_neg c1).symm.trans hT
    refine lv_aload_n hx hb dX3_undo_15 rfl (lv_at hl 0 rfl) ?_
    refine va_get (D := D) (cl := vwCl) (ci := 2) (v := .ref (a_now 0)) (C := RX3) (T := TX3) (N := 12) hx hb hts inX3 hown hK hP 0 rfl rfl 0 (by decide) (hts (Cond.fieldLink RX3 10 "FrozenIn" "now" "LFrozenIn$Sea;") (List.mem_of_getElem? (i := 1) rfl)) (fun _ h9 => h9) rfl dX3_undo_16 ?_
    obtain ⟨u3, hu4, h5⟩ := bd_e h2
    refine kw_V (wc := [oX1 a_now g_now_month g_now_floes g_now_founds g_now_notes g_now_undos, rI cyI (a_now 4) 5 g_now_cells, rI cyI (a_now 5) 5 g_now_foods, rI cyI (a_now 8) 88 g_now_undoRows]) (wr := [oX3 a a_now a_spare a_text g_above g_below g_bads g_nos g_fulls]) (ws' := [oX3 a a_now a_spare a_text g_above g_below g_bads g_nos g_fulls, oX1 a_now u3.1 g_now_floes g_now_founds g_now_notes u3.2.1, rI cyI (a_now 4) 5 u3.2.2.1, rI cyI (a_now 5) 5 u3.2.2.2, rI cyI (a_now 8) 88 g_now_undoRows]) (va_runV (As := []) (rest := []) ⟨hx, hb, hml, hown, hts⟩ (c_X1_takeBack l D cyI cyJ cyS N a_now g_now_month g_now_floes g_now_founds g_now_notes g_now_undos g_now_cells g_now_foods g_now_undoRows s.heap.size u3 hu4) (cwV 0 hts gX3_undo_X1_takeBack rfl rfl rfl (by decide +kernel) ⟨(Nat.le_of_ble_eq_true rfl), (Nat.le_of_ble_eq_true rfl)⟩) (preW_V (hP.sub (ws' := [oX1 a_now g_now_month g_now_floes g_now_founds g_now_notes g_now_undos, rI cyI (a_now 4) 5 g_now_cells, rI cyI (a_now 5) 5 g_now_foods, rI cyI (a_now 8) 88 g_now_undoRows]) [1, 2, 3, 4] rfl) (hD.sub (ws' := [oX1 a_now g_now_month g_now_floes g_now_founds g_now_notes g_now_undos, rI cyI (a_now 4) 5 g_now_cells, rI cyI (a_now 5) 5 g_now_foods, rI cyI (a_now 8) 88 g_now_undoRows]) [1, 2, 3, 4] (by decide) rfl) hKK (va_recv hK hP (ci := 0) (q0 := 1) rfl rfl)) rfl rfl hl.1 rfl (lv_room (Nat.le_of_ble_eq_true rfl)) dX3_undo_19 ⟨Nat.zero_le _, Nat.zero_le _⟩) hP hD hS hA [1, 2, 3, 4] [0] [0, 1, 2, 3, 4] rfl rfl (by decide) (by decide) rfl (by decide) (fun H6 L7 hP hD hS => ?_)
    refine lv_aload_n hx hb dX3_undo_22 rfl (lv_at hl 0 rfl) ?_
    refine va_get (D := D) (cl := vwCl) (ci := 2) (v := .ref (a_now 0)) (C := RX3) (T := TX3) (N := 12) hx hb hts inX3 hown hK hP 0 rfl rfl 0 (by decide) (hts (Cond.fieldLink RX3 10 "FrozenIn" "now" "LFrozenIn$Sea;") (List.mem_of_getElem? (i := 1) rfl)) (fun _ h9 => h9) rfl dX3_undo_23 ?_
    refine va_get (D := D) (cl := vwCl) (ci := 0) (v := .int u3.1) (C := RX1) (T := TX1) (N := 13) hx hb hts inX1 hown hK hP 1 rfl rfl 0 (by decide) (hts (Cond.fieldLink RX3 138 "FrozenIn$Sea" "month" "I") (List.mem_of_getElem? (i := 3) rfl)) (fun _ h9 => h9) rfl dX3_undo_26 ?_
    rw [← Option.some.inj h5]
    exact W.iret (v := u3.1) hx hb hr (fun t ht hW => ⟨⟨u3.1, (), rfl, rfl, ⟨by rw [ht]; exact hP, hD⟩⟩, hS.F ht⟩) hS.2.2 dX3_undo_29
  · have h8 := (if_pos c1).symm.trans hT
    refine lv_aload_n hx hb dX3_undo_10 rfl (lv_at hl 0 rfl) ?_
    obtain ⟨u9, hu10, h11⟩ := lt_e h8
    refine kw_I (wc := [oX3 a a_now a_spare a_text g_above g_below g_bads g_nos g_fulls]) (wr := [oX1 a_now g_now_month g_now_floes g_now_founds g_now_notes g_now_undos, rI cyI (a_now 4) 5 g_now_cells, rI cyI (a_now 5) 5 g_now_foods, rI cyI (a_now 8) 88 g_now_undoRows]) (ws' := [oX3 a a_now a_spare a_text g_above g_below g_bads u9.2 g_fulls, oX1 a_now g_now_month g_now_floes g_now_founds g_now_notes g_now_undos, rI cyI (a_now 4) 5 g_now_cells, rI cyI (a_now 5) 5 g_now_foods, rI cyI (a_now 8) 88 g_now_undoRows]) (va_runV (As := []) (rest := []) ⟨hx, hb, hml, hown, hts⟩ (c_X3_refuseNo l D cyI cyJ cyS a a_now a_spare a_text g_above g_below g_bads g_nos g_fulls s.heap.size u9 hu10.symm) (cwV 0 hts gX3_undo_X3_refuseNo rfl rfl rfl (by decide +kernel) ⟨(Nat.le_of_ble_eq_true rfl), (Nat.le_of_ble_eq_true rfl)⟩) (preW_V (hP.sub (ws' := [oX3 a a_now a_spare a_text g_above g_below g_bads g_nos g_fulls]) [0] rfl) (hD.sub (ws' := [oX3 a a_now a_spare a_text g_above g_below g_bads g_nos g_fulls]) [0] (by decide) rfl) hKK (va_recv hK hP (ci := 2) (q0 := 0) rfl rfl)) rfl rfl hl.1 rfl (lv_room (Nat.le_of_ble_eq_true rfl)) dX3_undo_11 ⟨Nat.zero_le _, Nat.zero_le _⟩) hP hD hS hA [0] [1, 2, 3, 4] [4, 0, 1, 2, 3] rfl rfl (by decide) (by decide) rfl (by decide) (fun H12 L13 hP hD hS => ?_)
    rw [← Option.some.inj h11]
    exact W.iret (v := u9.1) hx hb hr (fun t ht hW => ⟨⟨u9.1, (), rfl, rfl, ⟨by rw [ht]; exact hP, hD⟩⟩, hS.F ht⟩) hS.2.2 dX3_undo_14
def T_X3_of (N : Nat) (g_bads : Int32) (g_now_floes : Int32) (g_now_kinds : Nat → Int32) (g_now_cells : Nat → Int32) (g_now_foods : Nat → Int32) (p1 : Int32) (p2 : Int32) : Option (Int32 × Int32) :=
  (if (T_X3_isFloe g_now_floes p1) = 0 then (lt' (T_X3_refuseBad g_bads) fun u34 => (some (u34.1, u34.2))) else (if p2 = 0 then (ob p1 5 (some (g_now_kinds p1.toNatClampNeg, g_bads))) else (if p2 = 1 then (ob p1 5 (some (g_now_cells p1.toNatClampNeg, g_bads))) else (if p2 = 2 then (ob p1 5 (some (g_now_foods p1.toNatClampNeg, g_bads))) else (if p2 = 3 then (ob p1 5 (if (T_X3_isOut (g_now_cells p1.toNatClampNeg)) = 0 then (some (0, g_bads)) else (some (1, g_bads)))) else (lt' (T_X3_refuseBad g_bads) fun u28 => (some (u28.1, u28.2))))))))
abbrev rm_X3_of : Room := { frames := 2, cells := 0, slots := 0, locals := 43 }
set_option maxHeartbeats 4000000 in
set_option maxRecDepth 100000 in
theorem c_X3_of (l : Launch) (D : va_G) (cyI cyJ cyS : ClassId) (N : Nat) (a a_now a_spare a_text : Nat → Nat) (g_above : Int64) (g_below : Int64) (g_bads : Int32) (g_nos : Int32) (g_fulls : Int32) (g_now_month : Int32) (g_now_floes : Int32) (g_now_founds : Int32) (g_now_notes : Int32) (g_now_undos : Int32) (g_now_kinds : Nat → Int32) (g_now_cells : Nat → Int32) (g_now_foods : Nat → Int32) (p1 : Int32) (p2 : Int32) (sz : Nat) (R0 : Int32 × Int32) (hT : T_X3_of N g_bads g_now_floes g_now_kinds g_now_cells g_now_foods p1 p2 = some R0) : Met l yX3_of wsX3_of rm_X3_of (va_Pc [.ref (a 0), .int p1, .int p2] (preW D (tyS cyI cyJ cyS) [oX3 a a_now a_spare a_text g_above g_below g_bads g_nos g_fulls, oX1 a_now g_now_month g_now_floes g_now_founds g_now_notes g_now_undos, rI cyI (a_now 3) 5 g_now_kinds, rI cyI (a_now 4) 5 g_now_cells, rI cyI (a_now 5) 5 g_now_foods] sz)) (va_Qi (fun (r : Int32) (_ : Unit) => r = R0.1) (fun _ t => va_P D vwCl [oX3 a a_now a_spare a_text g_above g_below R0.2 g_nos g_fulls, oX1 a_now g_now_month g_now_floes g_now_founds g_now_notes g_now_undos, rI cyI (a_now 3) 5 g_now_kinds, rI cyI (a_now 4) 5 g_now_cells, rI cyI (a_now 5) 5 g_now_foods] t.heap ∧ va_D (va_A [oX3 a a_now a_spare a_text g_above g_below g_bads g_nos g_fulls, oX1 a_now g_now_month g_now_floes g_now_founds g_now_notes g_now_undos, rI cyI (a_now 3) 5 g_now_kinds, rI cyI (a_now 4) 5 g_now_cells, rI cyI (a_now 5) 5 g_now_foods] sz) [oX3 a a_now a_spare a_text g_above g_below R0.2 g_nos g_fulls, oX1 a_now g_now_month g_now_floes g_now_founds g_now_notes g_now_undos, rI cyI (a_now 3) 5 g_now_kinds, rI cyI (a_now 4) 5 g_now_cells, rI cyI (a_now 5) 5 g_now_foods]) (va_A [oX3 a a_now a_spare a_text g_above g_below g_bads g_nos g_fulls, oX1 a_now g_now_month g_now_floes g_now_founds g_now_notes g_now_undos, rI cyI (a_now 3) 5 g_now_kinds, rI cyI (a_now 4) 5 g_now_cells, rI cyI (a_now 5) 5 g_now_foods] sz)) 0 0 (va_A [oX3 a a_now a_spare a_text g_above g_below g_bads g_nos g_fulls, oX1 a_now g_now_month g_now_floes g_now_founds g_now_notes g_now_undos, rI cyI (a_now 3) 5 g_now_kinds, rI cyI (a_now 4) 5 g_now_cells, rI cyI (a_now 5) 5 g_now_foods] sz) := by
  refine Met.ofW (cc := cX3_of) (maxL := 3) (ret := (some .int)) (by decide) rfl ?_
  intro p e s m args below meth c s₁ B hml hv
  obtain ⟨rfl, hsz, hP, hKK, hD0⟩ := hv
  have hx := B.exec
  have hb := B.bytes
  have hr := B.returns
  have hts := atoms_spec (ws := wsX3_of) B.pre
  have hown : s.vm.findClass RX3 = some m.cls := findClass_of_methodNamed B.named
  have hlocks := B.notSynchronized
  have hK := hKK.1
  have inX3 : ∀ w ∈ wsX30, w ∈ wsX3_of := (fun _ h => List.mem_cons_of_mem _ (List.mem_append_left _ (List.mem_append_right _ h)))
  have inX1 : ∀ w ∈ wsX10, w ∈ wsX3_of := (fun _ h => List.mem_cons_of_mem _ (List.mem_append_right _ h))
  subst hsz
  have hD := hD0.self (sz := s.heap.size)
  generalize hAe : va_A [oX3 a a_now a_spare a_text g_above g_below g_bads g_nos g_fulls, oX1 a_now g_now_month g_now_floes g_now_founds g_now_notes g_now_undos, rI cyI (a_now 3) 5 g_now_kinds, rI cyI (a_now 4) 5 g_now_cells, rI cyI (a_now 5) 5 g_now_foods] s.heap.size = A at hD ⊢
  have hA : ∀ q : Nat, s.heap.size ≤ q → A q := fun q h => by rw [← hAe]; exact Or.inr h
  have hS : va_S A s.heap s.heap [] := va_S.rf
  have hP : va_P D vwCl [oX3 a a_now a_spare a_text g_above g_below g_bads g_nos g_fulls, oX1 a_now g_now_month g_now_floes g_now_founds g_now_notes g_now_undos, rI cyI (a_now 3) 5 g_now_kinds, rI cyI (a_now 4) 5 g_now_cells, rI cyI (a_now 5) 5 g_now_foods] s.heap := hP
  have hl := lv_entry [.ref (a 0), .int p1, .int p2] (n := 3) (Nat.le_of_ble_eq_true rfl)
  rw [lg_entry_eq]
  generalize (lg_sl [.ref (a 0), .int p1, .int p2] ++ List.replicate (3 - (lg_sl [.ref (a 0), .int p1, .int p2]).length) Slot.unset).toArray = ls at hl ⊢
  have hl : lv_has ls 3 [(0, .ref (a 0)), (1, .int p1), (2, .int p2)] := hl
  unfold T_X3_of at hT
  refine lv_aload_n hx hb dX3_of_0 rfl (lv_at hl 0 rfl) ?_
  refine lv_iload_n hx hb dX3_of_1 rfl (lv_at hl 1 rfl) ?_
  refine kc_Z (W.runV (As := [.int p1]) (rest := []) ⟨hx, hb, hml, hown, hts⟩ (c_X3_isFloe l D cyI cyJ cyS a a_now a_spare a_text g_above g_below g_bads g_nos g_fulls g_now_month g_now_floes g_now_founds g_now_notes g_now_undos p1 (T_X3_isFloe g_now_floes p1) rfl) (cwV 1 hts gX3_of_X3_isFloe rfl rfl rfl (by decide +kernel) ⟨(Nat.le_of_ble_eq_true rfl), (Nat.le_of_ble_eq_true rfl)⟩) (preR_V (hP.sub (ws' := [oX3 a a_now a_spare a_text g_above g_below g_bads g_nos g_fulls, oX1 a_now g_now_month g_now_floes g_now_founds g_now_notes g_now_undos]) [0, 1] rfl) hKK (va_recv hK hP (ci := 2) (q0 := 0) rfl rfl)) rfl rfl hl.1 rfl (lv_room (Nat.le_of_ble_eq_true rfl)) dX3_of_2 ⟨Nat.zero_le _, Nat.zero_le _⟩) (fun hn1 => ?_)
  refine lv_if_ne (tgt := 13) hx hb dX3_of_5 (by decide) (fun c2 => ?_) (fun c2 => ?_)
  · have h3 := (if_neg c2).symm.trans hT
    refine lv_iload_n hx hb dX3_of_13 rfl (lv_at hl 2 rfl) ?_
    rcases Decidable.em (p2 = 0) with c4 | c4
    · have h5 := (if_pos c4).symm.trans h3
      refine lv_tableIn (tgt := 44) (off := 30) hx hb dX3_of_14 (by rw [c4]; decide) (by rw [c4]; decide) (by rw [c4]; rfl) (by decide) ?_
      refine lv_aload_n hx hb dX3_of_44 rfl (lv_at hl 0 rfl) ?_
      refine va_get (D := D) (cl := vwCl) (ci := 2) (v := .ref (a_now 0)) (C := RX3) (T := TX3) (N := 12) hx hb hts inX3 hown hK hP 0 rfl rfl 0 (by decide) (hts (Cond.fieldLink RX3 10 "FrozenIn" "now" "LFrozenIn$Sea;") (List.mem_of_getElem? (i := 1) rfl)) (fun _ h9 => h9) rfl dX3_of_45 ?_
      refine va_get (D := D) (cl := vwCl) (ci := 0) (v := .ref (a_now 3)) (C := RX1) (T := TX1) (N := 13) hx hb hts inX1 hown hK hP 1 rfl rfl 4 (by decide) (hts (Cond.fieldLink RX3 141 "FrozenIn$Sea" "kinds" "[I") (List.mem_of_getElem? (i := 2) rfl)) (fun _ h9 => h9) rfl dX3_of_48 ?_
      refine lv_iload_n hx hb dX3_of_51 rfl (lv_at hl 1 rfl) ?_
      obtain ⟨hi7, h6⟩ := ob_e h5
      refine va_iald hx hb hK hP 2 0 rfl rfl hi7 dX3_of_52 ?_
      rw [← Option.some.inj h6]
      exact W.iret (v := g_now_kinds p1.toNatClampNeg) hx hb hr (fun t ht hW => ⟨⟨g_now_kinds p1.toNatClampNeg, (), rfl, rfl, ⟨by rw [ht]; exact hP, hD⟩⟩, hS.F ht⟩) hS.2.2 dX3_of_53
    · have h8 := (if_neg c4).symm.trans h3
      rcases Decidable.em (p2 = 1) with c9 | c9
      · have h10 := (if_pos c9).symm.trans h8
        refine lv_tableIn (tgt := 54) (off := 40) hx hb dX3_of_14 (by rw [c9]; decide) (by rw [c9]; decide) (by rw [c9]; rfl) (by decide) ?_
        refine lv_aload_n hx hb dX3_of_54 rfl (lv_at hl 0 rfl) ?_
        refine va_get (D := D) (cl := vwCl) (ci := 2) (v := .ref (a_now 0)) (C := RX3) (T := TX3) (N := 12) hx hb hts inX3 hown hK hP 0 rfl rfl 0 (by decide) (hts (Cond.fieldLink RX3 10 "FrozenIn" "now" "LFrozenIn$Sea;") (List.mem_of_getElem? (i := 1) rfl)) (fun _ h9 => h9) rfl dX3_of_55 ?_
        refine va_get (D := D) (cl := vwCl) (ci := 0) (v := .ref (a_now 4)) (C := RX1) (T := TX1) (N := 13) hx hb hts inX1 hown hK hP 1 rfl rfl 5 (by decide) (hts (Cond.fieldLink RX3 126 "FrozenIn$Sea" "cells" "[I") (List.mem_of_getElem? (i := 3) rfl)) (fun _ h9 => h9) rfl dX3_of_58 ?_
        refine lv_iload_n hx hb dX3_of_61 rfl (lv_at hl 1 rfl) ?_
        obtain ⟨hi12, h11⟩ := ob_e h10
        refine va_iald hx hb hK hP 3 0 rfl rfl hi12 dX3_of_62 ?_
        rw [← Option.some.inj h11]
        exact W.iret (v := g_now_cells p1.toNatClampNeg) hx hb hr (fun t ht hW => ⟨⟨g_now_cells p1.toNatClampNeg, (), rfl, rfl, ⟨by rw [ht]; exact hP, hD⟩⟩, hS.F ht⟩) hS.2.2 dX3_of_63
      · have h13 := (if_neg c9).symm.trans h8
        rcases Decidable.em (p2 = 2) with c14 | c14
        · have h15 := (if_pos c14).symm.trans h13
          refine lv_tableIn (tgt := 64) (off := 50) hx hb dX3_of_14 (by rw [c14]; decide) (by rw [c14]; decide) (by rw [c14]; rfl) (by decide) ?_
          refine lv_aload_n hx hb dX3_of_64 rfl (lv_at hl 0 rfl) ?_
          refine va_get (D := D) (cl := vwCl) (ci := 2) (v := .ref (a_now 0)) (C := RX3) (T := TX3) (N := 12) hx hb hts inX3 hown hK hP 0 rfl rfl 0 (by decide) (hts (Cond.fieldLink RX3 10 "FrozenIn" "now" "LFrozenIn$Sea;") (List.mem_of_getElem? (i := 1) rfl)) (fun _ h9 => h9) rfl dX3_of_65 ?_
          refine va_get (D := D) (cl := vwCl) (ci := 0) (v := .ref (a_now 5)) (C := RX1) (T := TX1) (N := 13) hx hb hts inX1 hown hK hP 1 rfl rfl 6 (by decide) (hts (Cond.fieldLink RX3 117 "FrozenIn$Sea" "foods" "[I") (List.mem_of_getElem? (i := 4) rfl)) (fun _ h9 => h9) rfl dX3_of_68 ?_
          refine lv_iload_n hx hb dX3_of_71 rfl (lv_at hl 1 rfl) ?_
          obtain ⟨hi17, h16⟩ := ob_e h15
          refine va_iald hx hb hK hP 4 0 rfl rfl hi17 dX3_of_72 ?_
          rw [← Option.some.inj h16]
          exact W.iret (v := g_now_foods p1.toNatClampNeg) hx hb hr (fun t ht hW => ⟨⟨g_now_foods p1.toNatClampNeg, (), rfl, rfl, ⟨by rw [ht]; exact hP, hD⟩⟩, hS.F ht⟩) hS.2.2 dX3_of_73
        · have h18 := (if_neg c14).symm.trans h13
          rcases Decidable.em (p2 = 3) with c19 | c19
          · have h20 := (if_pos c19).symm.trans h18
            refine lv_tableIn (tgt := 74) (off := 60) hx hb dX3_of_14 (by rw [c19]; decide) (by rw [c19]; decide) (by rw [c19]; rfl) (by decide) ?_
            refine lv_aload_n hx hb dX3_of_74 rfl (lv_at hl 0 rfl) ?_
            refine va_get (D := D) (cl := vwCl) (ci := 2) (v := .ref (a_now 0)) (C := RX3) (T := TX3) (N := 12) hx hb hts inX3 hown hK hP 0 rfl rfl 0 (by decide) (hts (Cond.fieldLink RX3 10 "FrozenIn" "now" "LFrozenIn$Sea;") (List.mem_of_getElem? (i := 1) rfl)) (fun _ h9 => h9) rfl dX3_of_75 ?_
            refine va_get (D := D) (cl := vwCl) (ci := 0) (v := .ref (a_now 4)) (C := RX1) (T := TX1) (N := 13) hx hb hts inX1 hown hK hP 1 rfl rfl 5 (by decide) (hts (Cond.fieldLink RX3 126 "FrozenIn$Sea" "cells" "[I") (List.mem_of_getElem? (i := 3) rfl)) (fun _ h9 => h9) rfl dX3_of_78 ?_
            refine lv_iload_n hx hb dX3_of_81 rfl (lv_at hl 1 rfl) ?_
            obtain ⟨hi22, h21⟩ := ob_e h20
            refine va_iald hx hb hK hP 3 0 rfl rfl hi22 dX3_of_82 ?_
            refine kc_Z (W.runS (As := [.int (g_now_cells p1.toNatClampNeg)]) (rest := []) ⟨hx, hb, hml, hown, hts⟩ (c_X3_isOut l (g_now_cells p1.toNatClampNeg) (T_X3_isOut (g_now_cells p1.toNatClampNeg)) rfl) (va_cwS 1 hts gX3_of_X3_isOut rfl rfl rfl (by decide +kernel) ⟨(Nat.le_of_ble_eq_true rfl), (Nat.le_of_ble_eq_true rfl)⟩) preT_S rfl rfl hl.1 rfl (lv_room (Nat.le_of_ble_eq_true rfl)) dX3_of_83 ⟨Nat.zero_le _, Nat.zero_le _⟩) (fun hn23 => ?_)
            refine lv_if_eq (tgt := 93) hx hb dX3_of_86 (by decide) (fun c24 => ?_) (fun c24 => ?_)
            · have h25 := (if_pos c24).symm.trans h21
              refine lv_iconst (v := 0) hx hb dX3_of_93 (by decide) ?_
              rw [← Option.some.inj h25]
              exact W.iret (v := 0) hx hb hr (fun t ht hW => ⟨⟨0, (), rfl, rfl, ⟨by rw [ht]; exact hP, hD⟩⟩, hS.F ht⟩) hS.2.2 dX3_of_94
            · have h26 := (if_neg c24).symm.trans h21
              refine lv_iconst (v := 1) hx hb dX3_of_89 (by decide) ?_
              refine lv_goto (tgt := 94) hx hb dX3_of_90 (by decide) ?_
              rw [← Option.some.inj h26]
              exact W.iret (v := 1) hx hb hr (fun t ht hW => ⟨⟨1, (), rfl, rfl, ⟨by rw [ht]; exact hP, hD⟩⟩, hS.F ht⟩) hS.2.2 dX3_of_94
          · have h27 := (if_neg c19).symm.trans h18
            refine lv_tableOut (tgt := 95) hx hb dX3_of_14 (by have q0 := lv_neT c4 (k := 0) (a := 0) rfl; have q1 := lv_neT c9 (k := 1) (a := 1) rfl; have q2 := lv_neT c14 (k := 2) (a := 2) rfl; have q3 := lv_neT c19 (k := 3) (a := 3) rfl; omega) (by decide) ?_
            refine lv_aload_n hx hb dX3_of_95 rfl (lv_at hl 0 rfl) ?_
            obtain ⟨u28, hu29, h30⟩ := lt_e h27
            refine kw_I (wc := [oX3 a a_now a_spare a_text g_above g_below g_bads g_nos g_fulls]) (wr := [oX1 a_now g_now_month g_now_floes g_now_founds g_now_notes g_now_undos, rI cyI (a_now 3) 5 g_now_kinds, rI cyI (a_now 4) 5 g_now_cells, rI cyI (a_now 5) 5 g_now_foods]) (ws' := [oX3 a a_now a_spare a_text g_above g_below u28.2 g_nos g_fulls, oX1 a_now g_now_month g_now_floes g_now_founds g_now_notes g_now_undos, rI cyI (a_now 3) 5 g_now_kinds, rI cyI (a_now 4) 5 g_now_cells, rI cyI (a_now 5) 5 g_now_foods]) (va_runV (As := []) (rest := []) ⟨hx, hb, hml, hown, hts⟩ (c_X3_refuseBad l D cyI cyJ cyS a a_now a_spare a_text g_above g_below g_bads g_nos g_fulls s.heap.size u28 hu29.symm) (cwV 0 hts gX3_of_X3_refuseBad rfl rfl rfl (by decide +kernel) ⟨(Nat.le_of_ble_eq_true rfl), (Nat.le_of_ble_eq_true rfl)⟩) (preW_V (hP.sub (ws' := [oX3 a a_now a_spare a_text g_above g_below g_bads g_nos g_fulls]) [0] rfl) (hD.sub (ws' := [oX3 a a_now a_spare a_text g_above g_below g_bads g_nos g_fulls]) [0] (by decide) rfl) hKK (va_recv hK hP (ci := 2) (q0 := 0) rfl rfl)) rfl rfl hl.1 rfl (lv_room (Nat.le_of_ble_eq_true rfl)) dX3_of_96 ⟨Nat.zero_le _, Nat.zero_le _⟩) hP hD hS hA [0] [1, 2, 3, 4] [4, 0, 1, 2, 3] rfl rfl (by decide) (by decide) rfl (by decide) (fun H31 L32 hP hD hS => ?_)
            rw [← Option.some.inj h30]
            exact W.iret (v := u28.1) hx hb hr (fun t ht hW => ⟨⟨u28.1, (), rfl, rfl, ⟨by rw [ht]; exact hP, hD⟩⟩, hS.F ht⟩) hS.2.2 dX3_of_99
  · have h33 := (if_pos c2).symm.trans hT
    refine lv_aload_n hx hb dX3_of_8 rfl (lv_at hl 0 rfl) ?_
    obtain ⟨u34, hu35, h36⟩ := lt_e h33
    refine kw_I (wc := [oX3 a a_now a_spare a_text g_above g_below g_bads g_nos g_fulls]) (wr := [oX1 a_now g_now_month g_now_floes g_now_founds g_now_notes g_now_undos, rI cyI (a_now 3) 5 g_now_kinds, rI cyI (a_now 4) 5 g_now_cells, rI cyI (a_now 5) 5 g_now_foods]) (ws' := [oX3 a a_now a_spare a_text g_above g_below u34.2 g_nos g_fulls, oX1 a_now g_now_month g_now_floes g_now_founds g_now_notes g_now_undos, rI cyI (a_now 3) 5 g_now_kinds, rI cyI (a_now 4) 5 g_now_cells, rI cyI (a_now 5) 5 g_now_foods]) (va_runV (As := []) (rest := []) ⟨hx, hb, hml, hown, hts⟩ (c_X3_refuseBad l D cyI cyJ cyS a a_now a_spare a_text g_above g_below g_bads g_nos g_fulls s.heap.size u34 hu35.symm) (cwV 0 hts gX3_of_X3_refuseBad rfl rfl rfl (by decide +kernel) ⟨(Nat.le_of_ble_eq_true rfl), (Nat.le_of_ble_eq_true rfl)⟩) (preW_V (hP.sub (ws' := [oX3 a a_now a_spare a_text g_above g_below g_bads g_nos g_fulls]) [0] rfl) (hD.sub (ws' := [oX3 a a_now a_spare a_text g_above g_below g_bads g_nos g_fulls]) [0] (by decide) rfl) hKK (va_recv hK hP (ci := 2) (q0 := 0) rfl rfl)) rfl rfl hl.1 rfl (lv_room (Nat.le_of_ble_eq_true rfl)) dX3_of_9 ⟨Nat.zero_le _, Nat.zero_le _⟩) hP hD hS hA [0] [1, 2, 3, 4] [4, 0, 1, 2, 3] rfl rfl (by decide) (by decide) rfl (by decide) (fun H37 L38 hP hD hS => ?_)
    rw [← Option.some.inj h36]
    exact W.iret (v := u34.1) hx hb hr (fun t ht hW => ⟨⟨u34.1, (), rfl, rfl, ⟨by rw [ht]; exact hP, hD⟩⟩, hS.F ht⟩) hS.2.2 dX3_of_12
def T_X3_then (N : Nat) (g_bads : Int32) (g_now_month : Int32) (g_now_floes : Int32) (g_now_ways : Nat → Int32) (g_now_strengths : Nat → Int32) (g_now_kinds : Nat → Int32) (g_now_cells : Nat → Int32) (p1 : Int32) (p2 : Int32) : Option (Int32 × Int32) :=
  (jn (lt' (T_X3_refuseBad g_bads) fun u8 => (some (u8.1, u8.2))) fun j2 => (if (T_X3_isFloe g_now_floes p1) = 0 then j2 else (if (T_X3_within p2 0 60) = 0 then j2 else (Option.bind (T_X1_cellBehind N g_now_month g_now_ways g_now_strengths g_now_kinds g_now_cells p1 p2) fun u19 => (some (u19, g_bads))))))
abbrev rm_X3_then : Room := { frames := 5, cells := 0, slots := 0, locals := 123 }
set_option maxHeartbeats 4000000 in
set_option maxRecDepth 100000 in
theorem c_X3_then (l : Launch) (D : va_G) (cyI cyJ cyS : ClassId) (N : Nat) (a a_now a_spare a_text : Nat → Nat) (g_above : Int64) (g_below : Int64) (g_bads : Int32) (g_nos : Int32) (g_fulls : Int32) (g_now_month : Int32) (g_now_floes : Int32) (g_now_founds : Int32) (g_now_notes : Int32) (g_now_undos : Int32) (g_now_ways : Nat → Int32) (g_now_strengths : Nat → Int32) (g_now_kinds : Nat → Int32) (g_now_cells : Nat → Int32) (p1 : Int32) (p2 : Int32) (sz : Nat) (R0 : Int32 × Int32) (hT : T_X3_then N g_bads g_now_month g_now_floes g_now_ways g_now_strengths g_now_kinds g_now_cells p1 p2 = some R0) : Met l yX3_then wsX3_then rm_X3_then (va_Pc [.ref (a 0), .int p1, .int p2] (preW D (tyS cyI cyJ cyS) [oX3 a a_now a_spare a_text g_above g_below g_bads g_nos g_fulls, oX1 a_now g_now_month g_now_floes g_now_founds g_now_notes g_now_undos, rI cyI (a_now 1) 12 g_now_ways, rI cyI (a_now 2) 12 g_now_strengths, rI cyI (a_now 3) 5 g_now_kinds, rI cyI (a_now 4) 5 g_now_cells] sz)) (va_Qi (fun (r : Int32) (_ : Unit) => r = R0.1) (fun _ t => va_P D vwCl [oX3 a a_now a_spare a_text g_above g_below R0.2 g_nos g_fulls, oX1 a_now g_now_month g_now_floes g_now_founds g_now_notes g_now_undos, rI cyI (a_now 1) 12 g_now_ways, rI cyI (a_now 2) 12 g_now_strengths, rI cyI (a_now 3) 5 g_now_kinds, rI cyI (a_now 4) 5 g_now_cells] t.heap ∧ va_D (va_A [oX3 a a_now a_spare a_text g_above g_below g_bads g_nos g_fulls, oX1 a_now g_now_month g_now_floes g_now_founds g_now_notes g_now_undos, rI cyI (a_now 1) 12 g_now_ways, rI cyI (a_now 2) 12 g_now_strengths, rI cyI (a_now 3) 5 g_now_kinds, rI cyI (a_now 4) 5 g_now_cells] sz) [oX3 a a_now a_spare a_text g_above g_below R0.2 g_nos g_fulls, oX1 a_now g_now_month g_now_floes g_now_founds g_now_notes g_now_undos, rI cyI (a_now 1) 12 g_now_ways, rI cyI (a_now 2) 12 g_now_strengths, rI cyI (a_now 3) 5 g_now_kinds, rI cyI (a_now 4) 5 g_now_cells]) (va_A [oX3 a a_now a_spare a_text g_above g_below g_bads g_nos g_fulls, oX1 a_now g_now_month g_now_floes g_now_founds g_now_notes g_now_undos, rI cyI (a_now 1) 12 g_now_ways, rI cyI (a_now 2) 12 g_now_strengths, rI cyI (a_now 3) 5 g_now_kinds, rI cyI (a_now 4) 5 g_now_cells] sz)) 0 0 (va_A [oX3 a a_now a_spare a_text g_above g_below g_bads g_nos g_fulls, oX1 a_now g_now_month g_now_floes g_now_founds g_now_notes g_now_undos, rI cyI (a_now 1) 12 g_now_ways, rI cyI (a_now 2) 12 g_now_strengths, rI cyI (a_now 3) 5 g_now_kinds, rI cyI (a_now 4) 5 g_now_cells] sz) := by
  refine Met.ofW (cc := cX3_then) (maxL := 3) (ret := (some .int)) (by decide) rfl ?_
  intro p e s m args below meth c s₁ B hml hv
  obtain ⟨rfl, hsz, hP, hKK, hD0⟩ := hv
  have hx := B.exec
  have hb := B.bytes
  have hr := B.returns
  have hts := atoms_spec (ws := wsX3_then) B.pre
  have hown : s.vm.findClass RX3 = some m.cls := findClass_of_methodNamed B.named
  have hlocks := B.notSynchronized
  have hK := hKK.1
  have inX3 : ∀ w ∈ wsX30, w ∈ wsX3_then := (fun _ h => List.mem_cons_of_mem _ (List.mem_append_left _ (List.mem_append_right _ h)))
  have inX1 : ∀ w ∈ wsX10, w ∈ wsX3_then := (fun _ h => List.mem_cons_of_mem _ (List.mem_append_right _ h))
  subst hsz
  have hD := hD0.self (sz := s.heap.size)
  generalize hAe : va_A [oX3 a a_now a_spare a_text g_above g_below g_bads g_nos g_fulls, oX1 a_now g_now_month g_now_floes g_now_founds g_now_notes g_now_undos, rI cyI (a_now 1) 12 g_now_ways, rI cyI (a_now 2) 12 g_now_strengths, rI cyI (a_now 3) 5 g_now_kinds, rI cyI (a_now 4) 5 g_now_cells] s.heap.size = A at hD ⊢
  have hA : ∀ q : Nat, s.heap.size ≤ q → A q := fun q h => by rw [← hAe]; exact Or.inr h
  have hS : va_S A s.heap s.heap [] := va_S.rf
  have hP : va_P D vwCl [oX3 a a_now a_spare a_text g_above g_below g_bads g_nos g_fulls, oX1 a_now g_now_month g_now_floes g_now_founds g_now_notes g_now_undos, rI cyI (a_now 1) 12 g_now_ways, rI cyI (a_now 2) 12 g_now_strengths, rI cyI (a_now 3) 5 g_now_kinds, rI cyI (a_now 4) 5 g_now_cells] s.heap := hP
  have hl := lv_entry [.ref (a 0), .int p1, .int p2] (n := 3) (Nat.le_of_ble_eq_true rfl)
  rw [lg_entry_eq]
  generalize (lg_sl [.ref (a 0), .int p1, .int p2] ++ List.replicate (3 - (lg_sl [.ref (a 0), .int p1, .int p2]).length) Slot.unset).toArray = ls at hl ⊢
  have hl : lv_has ls 3 [(0, .ref (a 0)), (1, .int p1), (2, .int p2)] := hl
  unfold T_X3_then at hT
  refine lv_aload_n hx hb dX3_then_0 rfl (lv_at hl 0 rfl) ?_
  refine lv_iload_n hx hb dX3_then_1 rfl (lv_at hl 1 rfl) ?_
  refine kc_Z (W.runV (As := [.int p1]) (rest := []) ⟨hx, hb, hml, hown, hts⟩ (c_X3_isFloe l D cyI cyJ cyS a a_now a_spare a_text g_above g_below g_bads g_nos g_fulls g_now_month g_now_floes g_now_founds g_now_notes g_now_undos p1 (T_X3_isFloe g_now_floes p1) rfl) (cwV 1 hts gX3_then_X3_isFloe rfl rfl rfl (by decide +kernel) ⟨(Nat.le_of_ble_eq_true rfl), (Nat.le_of_ble_eq_true rfl)⟩) (preR_V (hP.sub (ws' := [oX3 a a_now a_spare a_text g_above g_below g_bads g_nos g_fulls, oX1 a_now g_now_month g_now_floes g_now_founds g_now_notes g_now_undos]) [0, 1] rfl) hKK (va_recv hK hP (ci := 2) (q0 := 0) rfl rfl)) rfl rfl hl.1 rfl (lv_room (Nat.le_of_ble_eq_true rfl)) dX3_then_2 ⟨Nat.zero_le _, Nat.zero_le _⟩) (fun hn1 => ?_)
  obtain ⟨j2, hj3, h4⟩ := jn_e hT
  have Jj2 : ∀ (H : Heap) (locs : List Loc) (ls : Array Slot), j2 = some R0 → va_P D vwCl [oX3 a a_now a_spare a_text g_above g_below g_bads g_nos g_fulls, oX1 a_now g_now_month g_now_floes g_now_founds g_now_notes g_now_undos, rI cyI (a_now 1) 12 g_now_ways, rI cyI (a_now 2) 12 g_now_strengths, rI cyI (a_now 3) 5 g_now_kinds, rI cyI (a_now 4) 5 g_now_cells] H → va_D A [oX3 a a_now a_spare a_text g_above g_below g_bads g_nos g_fulls, oX1 a_now g_now_month g_now_floes g_now_founds g_now_notes g_now_undos, rI cyI (a_now 1) 12 g_now_ways, rI cyI (a_now 2) 12 g_now_strengths, rI cyI (a_now 3) 5 g_now_kinds, rI cyI (a_now 4) 5 g_now_cells] → va_S A s.heap H locs → lv_has ls 3 [(0, .ref (a 0))] → W p l e (headSpec wsX3_then rm_X3_then).room s m ([.ref (a 0), .int p1, .int p2] : List Value).toArray below meth c H locs 0 0 (MQ below (va_Qi (fun (r : Int32) (_ : Unit) => r = R0.1) (fun _ t => va_P D vwCl [oX3 a a_now a_spare a_text g_above g_below R0.2 g_nos g_fulls, oX1 a_now g_now_month g_now_floes g_now_founds g_now_notes g_now_undos, rI cyI (a_now 1) 12 g_now_ways, rI cyI (a_now 2) 12 g_now_strengths, rI cyI (a_now 3) 5 g_now_kinds, rI cyI (a_now 4) 5 g_now_cells] t.heap ∧ va_D A [oX3 a a_now a_spare a_text g_above g_below R0.2 g_nos g_fulls, oX1 a_now g_now_month g_now_floes g_now_founds g_now_notes g_now_undos, rI cyI (a_now 1) 12 g_now_ways, rI cyI (a_now 2) 12 g_now_strengths, rI cyI (a_now 3) 5 g_now_kinds, rI cyI (a_now 4) 5 g_now_cells]) A) ([.ref (a 0), .int p1, .int p2] : List Value).toArray s 0 0 A) (F0 m 18 ls []) := by
    intro H6 L7 ls h5 hP hD hS hl
    rw [hj3] at h5
    refine lv_aload_n hx hb dX3_then_18 rfl (lv_at hl 0 rfl) ?_
    obtain ⟨u8, hu9, h10⟩ := lt_e h5
    refine kw_I (wc := [oX3 a a_now a_spare a_text g_above g_below g_bads g_nos g_fulls]) (wr := [oX1 a_now g_now_month g_now_floes g_now_founds g_now_notes g_now_undos, rI cyI (a_now 1) 12 g_now_ways, rI cyI (a_now 2) 12 g_now_strengths, rI cyI (a_now 3) 5 g_now_kinds, rI cyI (a_now 4) 5 g_now_cells]) (ws' := [oX3 a a_now a_spare a_text g_above g_below u8.2 g_nos g_fulls, oX1 a_now g_now_month g_now_floes g_now_founds g_now_notes g_now_undos, rI cyI (a_now 1) 12 g_now_ways, rI cyI (a_now 2) 12 g_now_strengths, rI cyI (a_now 3) 5 g_now_kinds, rI cyI (a_now 4) 5 g_now_cells]) (va_runV (As := []) (rest := []) ⟨hx, hb, hml, hown, hts⟩ (c_X3_refuseBad l D cyI cyJ cyS a a_now a_spare a_text g_above g_below g_bads g_nos g_fulls H6.size u8 hu9.symm) (cwV 0 hts gX3_then_X3_refuseBad rfl rfl rfl (by decide +kernel) ⟨(Nat.le_of_ble_eq_true rfl), (Nat.le_of_ble_eq_true rfl)⟩) (preW_V (hP.sub (ws' := [oX3 a a_now a_spare a_text g_above g_below g_bads g_nos g_fulls]) [0] rfl) (hD.sub (ws' := [oX3 a a_now a_spare a_text g_above g_below g_bads g_nos g_fulls]) [0] (by decide) rfl) hKK (va_recv hK hP (ci := 2) (q0 := 0) rfl rfl)) rfl rfl hl.1 rfl (lv_room (Nat.le_of_ble_eq_true rfl)) dX3_then_19 ⟨Nat.zero_le _, Nat.zero_le _⟩) hP hD hS hA [0] [1, 2, 3, 4, 5] [5, 0, 1, 2, 3, 4] rfl rfl (by decide) (by decide) rfl (by decide) (fun H11 L12 hP hD hS => ?_)
    rw [← Option.some.inj h10]
    exact W.iret (v := u8.1) hx hb hr (fun t ht hW => ⟨⟨u8.1, (), rfl, rfl, ⟨by rw [ht]; exact hP, hD⟩⟩, hS.F ht⟩) hS.2.2 dX3_then_22
  refine lv_if_eq (tgt := 18) hx hb dX3_then_5 (by decide) (fun c13 => ?_) (fun c13 => ?_)
  · have h14 := (if_pos c13).symm.trans h4
    exact Jj2  _ _ _ h14 hP hD hS (lv_sub hl [0] rfl)
  · have h15 := (if_neg c13).symm.trans h4
    refine lv_iload_n hx hb dX3_then_8 rfl (lv_at hl 2 rfl) ?_
    refine lv_iconst (v := 0) hx hb dX3_then_9 (by decide) ?_
    refine lv_bipush (v := 60) hx hb dX3_then_10 (by decide) ?_
    refine kc_Z (W.runS (As := [.int p2, .int 0, .int 60]) (rest := []) ⟨hx, hb, hml, hown, hts⟩ (c_X3_within l p2 0 60 (T_X3_within p2 0 60) rfl) (va_cwS 3 hts gX3_then_X3_within rfl rfl rfl (by decide +kernel) ⟨(Nat.le_of_ble_eq_true rfl), (Nat.le_of_ble_eq_true rfl)⟩) preT_S rfl rfl hl.1 rfl (lv_room (Nat.le_of_ble_eq_true rfl)) dX3_then_12 ⟨Nat.zero_le _, Nat.zero_le _⟩) (fun hn16 => ?_)
    refine lv_if_ne (tgt := 23) hx hb dX3_then_15 (by decide) (fun c17 => ?_) (fun c17 => ?_)
    · have h18 := (if_neg c17).symm.trans h15
      refine lv_aload_n hx hb dX3_then_23 rfl (lv_at hl 0 rfl) ?_
      refine va_get (D := D) (cl := vwCl) (ci := 2) (v := .ref (a_now 0)) (C := RX3) (T := TX3) (N := 12) hx hb hts inX3 hown hK hP 0 rfl rfl 0 (by decide) (hts (Cond.fieldLink RX3 10 "FrozenIn" "now" "LFrozenIn$Sea;") (List.mem_of_getElem? (i := 1) rfl)) (fun _ h9 => h9) rfl dX3_then_24 ?_
      refine lv_iload_n hx hb dX3_then_27 rfl (lv_at hl 1 rfl) ?_
      refine lv_iload_n hx hb dX3_then_28 rfl (lv_at hl 2 rfl) ?_
      obtain ⟨u19, hu20, h21⟩ := bd_e h18
      refine kc_I (W.runV (As := [.int p1, .int p2]) (rest := []) ⟨hx, hb, hml, hown, hts⟩ (c_X1_cellBehind l D cyI cyJ cyS N a_now g_now_month g_now_floes g_now_founds g_now_notes g_now_undos g_now_ways g_now_strengths g_now_kinds g_now_cells p1 p2 u19 hu20) (cwV 2 hts gX3_then_X1_cellBehind rfl rfl rfl (by decide +kernel) ⟨(Nat.le_of_ble_eq_true rfl), (Nat.le_of_ble_eq_true rfl)⟩) (preR_V (hP.sub (ws' := [oX1 a_now g_now_month g_now_floes g_now_founds g_now_notes g_now_undos, rI cyI (a_now 1) 12 g_now_ways, rI cyI (a_now 2) 12 g_now_strengths, rI cyI (a_now 3) 5 g_now_kinds, rI cyI (a_now 4) 5 g_now_cells]) [1, 2, 3, 4, 5] rfl) hKK (va_recv hK hP (ci := 0) (q0 := 1) rfl rfl)) rfl rfl hl.1 rfl (lv_room (Nat.le_of_ble_eq_true rfl)) dX3_then_29 ⟨Nat.zero_le _, Nat.zero_le _⟩) ?_
      rw [← Option.some.inj h21]
      exact W.iret (v := u19) hx hb hr (fun t ht hW => ⟨⟨u19, (), rfl, rfl, ⟨by rw [ht]; exact hP, hD⟩⟩, hS.F ht⟩) hS.2.2 dX3_then_32
    · have h22 := (if_pos c17).symm.trans h15
      exact Jj2  _ _ _ h22 hP hD hS (lv_sub hl [0] rfl)
def T_X3_out (N : Nat) (g_bads : Int32) (g_now_month : Int32) (g_now_floes : Int32) (g_now_ways : Nat → Int32) (g_now_strengths : Nat → Int32) (g_now_kinds : Nat → Int32) (g_now_cells : Nat → Int32) (p1 : Int32) : Option (Int32 × Int32) :=
  (if (T_X3_isFloe g_now_floes p1) = 0 then (lt' (T_X3_refuseBad g_bads) fun u4 => (some (u4.1, u4.2))) else (ob p1 5 (ob p1 5 (Option.bind (T_X1_firstOut N g_now_month g_now_ways g_now_strengths (g_now_kinds p1.toNatClampNeg) (g_now_cells p1.toNatClampNeg)) fun u14 => (some (u14, g_bads))))))
abbrev rm_X3_out : Room := { frames := 4, cells := 0, slots := 0, locals := 99 }
set_option maxHeartbeats 4000000 in
set_option maxRecDepth 100000 in
theorem c_X3_out (l : Launch) (D : va_G) (cyI cyJ cyS : ClassId) (N : Nat) (a a_now a_spare a_text : Nat → Nat) (g_above : Int64) (g_below : Int64) (g_bads : Int32) (g_nos : Int32) (g_fulls : Int32) (g_now_month : Int32) (g_now_floes : Int32) (g_now_founds : Int32) (g_now_notes : Int32) (g_now_undos : Int32) (g_now_ways : Nat → Int32) (g_now_strengths : Nat → Int32) (g_now_kinds : Nat → Int32) (g_now_cells : Nat → Int32) (p1 : Int32) (sz : Nat) (R0 : Int32 × Int32) (hT : T_X3_out N g_bads g_now_month g_now_floes g_now_ways g_now_strengths g_now_kinds g_now_cells p1 = some R0) : Met l yX3_out wsX3_out rm_X3_out (va_Pc [.ref (a 0), .int p1] (preW D (tyS cyI cyJ cyS) [oX3 a a_now a_spare a_text g_above g_below g_bads g_nos g_fulls, oX1 a_now g_now_month g_now_floes g_now_founds g_now_notes g_now_undos, rI cyI (a_now 1) 12 g_now_ways, rI cyI (a_now 2) 12 g_now_strengths, rI cyI (a_now 3) 5 g_now_kinds, rI cyI (a_now 4) 5 g_now_cells] sz)) (va_Qi (fun (r : Int32) (_ : Unit) => r = R0.1) (fun _ t => va_P D vwCl [oX3 a a_now a_spare a_text g_above g_below R0.2 g_nos g_fulls, oX1 a_now g_now_month g_now_floes g_now_founds g_now_notes g_now_undos, rI cyI (a_now 1) 12 g_now_ways, rI cyI (a_now 2) 12 g_now_strengths, rI cyI (a_now 3) 5 g_now_kinds, rI cyI (a_now 4) 5 g_now_cells] t.heap ∧ va_D (va_A [oX3 a a_now a_spare a_text g_above g_below g_bads g_nos g_fulls, oX1 a_now g_now_month g_now_floes g_now_founds g_now_notes g_now_undos, rI cyI (a_now 1) 12 g_now_ways, rI cyI (a_now 2) 12 g_now_strengths, rI cyI (a_now 3) 5 g_now_kinds, rI cyI (a_now 4) 5 g_now_cells] sz) [oX3 a a_now a_spare a_text g_above g_below R0.2 g_nos g_fulls, oX1 a_now g_now_month g_now_floes g_now_founds g_now_notes g_now_undos, rI cyI (a_now 1) 12 g_now_ways, rI cyI (a_now 2) 12 g_now_strengths, rI cyI (a_now 3) 5 g_now_kinds, rI cyI (a_now 4) 5 g_now_cells]) (va_A [oX3 a a_now a_spare a_text g_above g_below g_bads g_nos g_fulls, oX1 a_now g_now_month g_now_floes g_now_founds g_now_notes g_now_undos, rI cyI (a_now 1) 12 g_now_ways, rI cyI (a_now 2) 12 g_now_strengths, rI cyI (a_now 3) 5 g_now_kinds, rI cyI (a_now 4) 5 g_now_cells] sz)) 0 0 (va_A [oX3 a a_now a_spare a_text g_above g_below g_bads g_nos g_fulls, oX1 a_now g_now_month g_now_floes g_now_founds g_now_notes g_now_undos, rI cyI (a_now 1) 12 g_now_ways, rI cyI (a_now 2) 12 g_now_strengths, rI cyI (a_now 3) 5 g_now_kinds, rI cyI (a_now 4) 5 g_now_cells] sz) := by
  refine Met.ofW (cc := cX3_out) (maxL := 2) (ret := (some .int)) (by decide) rfl ?_
  intro p e s m args below meth c s₁ B hml hv
  obtain ⟨rfl, hsz, hP, hKK, hD0⟩ := hv
  have hx := B.exec
  have hb := B.bytes
  have hr := B.returns
  have hts := atoms_spec (ws := wsX3_out) B.pre
  have hown : s.vm.findClass RX3 = some m.cls := findClass_of_methodNamed B.named
  have hlocks := B.notSynchronized
  have hK := hKK.1
  have inX3 : ∀ w ∈ wsX30, w ∈ wsX3_out := (fun _ h => List.mem_cons_of_mem _ (List.mem_append_left _ (List.mem_append_right _ h)))
  have inX1 : ∀ w ∈ wsX10, w ∈ wsX3_out := (fun _ h => List.mem_cons_of_mem _ (List.mem_append_right _ h))
  subst hsz
  have hD := hD0.self (sz := s.heap.size)
  generalize hAe : va_A [oX3 a a_now a_spare a_text g_above g_below g_bads g_nos g_fulls, oX1 a_now g_now_month g_now_floes g_now_founds g_now_notes g_now_undos, rI cyI (a_now 1) 12 g_now_ways, rI cyI (a_now 2) 12 g_now_strengths, rI cyI (a_now 3) 5 g_now_kinds, rI cyI (a_now 4) 5 g_now_cells] s.heap.size = A at hD ⊢
  have hA : ∀ q : Nat, s.heap.size ≤ q → A q := fun q h => by rw [← hAe]; exact Or.inr h
  have hS : va_S A s.heap s.heap [] := va_S.rf
  have hP : va_P D vwCl [oX3 a a_now a_spare a_text g_above g_below g_bads g_nos g_fulls, oX1 a_now g_now_month g_now_floes g_now_founds g_now_notes g_now_undos, rI cyI (a_now 1) 12 g_now_ways, rI cyI (a_now 2) 12 g_now_strengths, rI cyI (a_now 3) 5 g_now_kinds, rI cyI (a_now 4) 5 g_now_cells] s.heap := hP
  have hl := lv_entry [.ref (a 0), .int p1] (n := 2) (Nat.le_of_ble_eq_true rfl)
  rw [lg_entry_eq]
  generalize (lg_sl [.ref (a 0), .int p1] ++ List.replicate (2 - (lg_sl [.ref (a 0), .int p1]).length) Slot.unset).toArray = ls at hl ⊢
  have hl : lv_has ls 2 [(0, .ref (a 0)), (1, .int p1)] := hl
  unfold T_X3_out at hT
  refine lv_aload_n hx hb dX3_out_0 rfl (lv_at hl 0 rfl) ?_
  refine lv_iload_n hx hb dX3_out_1 rfl (lv_at hl 1 rfl) ?_
  refine kc_Z (W.runV (As := [.int p1]) (rest := []) ⟨hx, hb, hml, hown, hts⟩ (c_X3_isFloe l D cyI cyJ cyS a a_now a_spare a_text g_above g_below g_bads g_nos g_fulls g_now_month g_now_floes g_now_founds g_now_notes g_now_undos p1 (T_X3_isFloe g_now_floes p1) rfl) (cwV 1 hts gX3_out_X3_isFloe rfl rfl rfl (by decide +kernel) ⟨(Nat.le_of_ble_eq_true rfl), (Nat.le_of_ble_eq_true rfl)⟩) (preR_V (hP.sub (ws' := [oX3 a a_now a_spare a_text g_above g_below g_bads g_nos g_fulls, oX1 a_now g_now_month g_now_floes g_now_founds g_now_notes g_now_undos]) [0, 1] rfl) hKK (va_recv hK hP (ci := 2) (q0 := 0) rfl rfl)) rfl rfl hl.1 rfl (lv_room (Nat.le_of_ble_eq_true rfl)) dX3_out_2 ⟨Nat.zero_le _, Nat.zero_le _⟩) (fun hn1 => ?_)
  refine lv_if_eq (tgt := 36) hx hb dX3_out_5 (by decide) (fun c2 => ?_) (fun c2 => ?_)
  · have h3 := (if_pos c2).symm.trans hT
    refine lv_aload_n hx hb dX3_out_36 rfl (lv_at hl 0 rfl) ?_
    obtain ⟨u4, hu5, h6⟩ := lt_e h3
    refine kw_I (wc := [oX3 a a_now a_spare a_text g_above g_below g_bads g_nos g_fulls]) (wr := [oX1 a_now g_now_month g_now_floes g_now_founds g_now_notes g_now_undos, rI cyI (a_now 1) 12 g_now_ways, rI cyI (a_now 2) 12 g_now_strengths, rI cyI (a_now 3) 5 g_now_kinds, rI cyI (a_now 4) 5 g_now_cells]) (ws' := [oX3 a a_now a_spare a_text g_above g_below u4.2 g_nos g_fulls, oX1 a_now g_now_month g_now_floes g_now_founds g_now_notes g_now_undos, rI cyI (a_now 1) 12 g_now_ways, rI cyI (a_now 2) 12 g_now_strengths, rI cyI (a_now 3) 5 g_now_kinds, rI cyI (a_now 4) 5 g_now_cells]) (va_runV (As := []) (rest := []) ⟨hx, hb, hml, hown, hts⟩ (c_X3_refuseBad l D cyI cyJ cyS a a_now a_spare a_text g_above g_below g_bads g_nos g_fulls s.heap.size u4 hu5.symm) (cwV 0 hts gX3_out_X3_refuseBad rfl rfl rfl (by decide +kernel) ⟨(Nat.le_of_ble_eq_true rfl), (Nat.le_of_ble_eq_true rfl)⟩) (preW_V (hP.sub (ws' := [oX3 a a_now a_spare a_text g_above g_below g_bads g_nos g_fulls]) [0] rfl) (hD.sub (ws' := [oX3 a a_now a_spare a_text g_above g_below g_bads g_nos g_fulls]) [0] (by decide) rfl) hKK (va_recv hK hP (ci := 2) (q0 := 0) rfl rfl)) rfl rfl hl.1 rfl (lv_room (Nat.le_of_ble_eq_true rfl)) dX3_out_37 ⟨Nat.zero_le _, Nat.zero_le _⟩) hP hD hS hA [0] [1, 2, 3, 4, 5] [5, 0, 1, 2, 3, 4] rfl rfl (by decide) (by decide) rfl (by decide) (fun H7 L8 hP hD hS => ?_)
    rw [← Option.some.inj h6]
    exact W.iret (v := u4.1) hx hb hr (fun t ht hW => ⟨⟨u4.1, (), rfl, rfl, ⟨by rw [ht]; exact hP, hD⟩⟩, hS.F ht⟩) hS.2.2 dX3_out_40
  · have h9 := (if_neg c2).symm.trans hT
    refine lv_aload_n hx hb dX3_out_8 rfl (lv_at hl 0 rfl) ?_
    refine va_get (D := D) (cl := vwCl) (ci := 2) (v := .ref (a_now 0)) (C := RX3) (T := TX3) (N := 12) hx hb hts inX3 hown hK hP 0 rfl rfl 0 (by decide) (hts (Cond.fieldLink RX3 10 "FrozenIn" "now" "LFrozenIn$Sea;") (List.mem_of_getElem? (i := 1) rfl)) (fun _ h9 => h9) rfl dX3_out_9 ?_
    refine lv_aload_n hx hb dX3_out_12 rfl (lv_at hl 0 rfl) ?_
    refine va_get (D := D) (cl := vwCl) (ci := 2) (v := .ref (a_now 0)) (C := RX3) (T := TX3) (N := 12) hx hb hts inX3 hown hK hP 0 rfl rfl 0 (by decide) (hts (Cond.fieldLink RX3 10 "FrozenIn" "now" "LFrozenIn$Sea;") (List.mem_of_getElem? (i := 1) rfl)) (fun _ h9 => h9) rfl dX3_out_13 ?_
    refine va_get (D := D) (cl := vwCl) (ci := 0) (v := .ref (a_now 3)) (C := RX1) (T := TX1) (N := 13) hx hb hts inX1 hown hK hP 1 rfl rfl 4 (by decide) (hts (Cond.fieldLink RX3 141 "FrozenIn$Sea" "kinds" "[I") (List.mem_of_getElem? (i := 2) rfl)) (fun _ h9 => h9) rfl dX3_out_16 ?_
    refine lv_iload_n hx hb dX3_out_19 rfl (lv_at hl 1 rfl) ?_
    obtain ⟨hi11, h10⟩ := ob_e h9
    refine va_iald hx hb hK hP 4 0 rfl rfl hi11 dX3_out_20 ?_
    refine lv_aload_n hx hb dX3_out_21 rfl (lv_at hl 0 rfl) ?_
    refine va_get (D := D) (cl := vwCl) (ci := 2) (v := .ref (a_now 0)) (C := RX3) (T := TX3) (N := 12) hx hb hts inX3 hown hK hP 0 rfl rfl 0 (by decide) (hts (Cond.fieldLink RX3 10 "FrozenIn" "now" "LFrozenIn$Sea;") (List.mem_of_getElem? (i := 1) rfl)) (fun _ h9 => h9) rfl dX3_out_22 ?_
    refine va_get (D := D) (cl := vwCl) (ci := 0) (v := .ref (a_now 4)) (C := RX1) (T := TX1) (N := 13) hx hb hts inX1 hown hK hP 1 rfl rfl 5 (by decide) (hts (Cond.fieldLink RX3 126 "FrozenIn$Sea" "cells" "[I") (List.mem_of_getElem? (i := 3) rfl)) (fun _ h9 => h9) rfl dX3_out_25 ?_
    refine lv_iload_n hx hb dX3_out_28 rfl (lv_at hl 1 rfl) ?_
    obtain ⟨hi13, h12⟩ := ob_e h10
    refine va_iald hx hb hK hP 5 0 rfl rfl hi13 dX3_out_29 ?_
    obtain ⟨u14, hu15, h16⟩ := bd_e h12
    refine kc_I (W.runV (As := [.int (g_now_kinds p1.toNatClampNeg), .int (g_now_cells p1.toNatClampNeg)]) (rest := []) ⟨hx, hb, hml, hown, hts⟩ (c_X1_firstOut l D cyI cyJ cyS N a_now g_now_month g_now_floes g_now_founds g_now_notes g_now_undos g_now_ways g_now_strengths (g_now_kinds p1.toNatClampNeg) (g_now_cells p1.toNatClampNeg) u14 hu15) (cwV 2 hts gX3_out_X1_firstOut rfl rfl rfl (by decide +kernel) ⟨(Nat.le_of_ble_eq_true rfl), (Nat.le_of_ble_eq_true rfl)⟩) (preR_V (hP.sub (ws' := [oX1 a_now g_now_month g_now_floes g_now_founds g_now_notes g_now_undos, rI cyI (a_now 1) 12 g_now_ways, rI cyI (a_now 2) 12 g_now_strengths]) [1, 2, 3] rfl) hKK (va_recv hK hP (ci := 0) (q0 := 1) rfl rfl)) rfl rfl hl.1 rfl (lv_room (Nat.le_of_ble_eq_true rfl)) dX3_out_30 ⟨Nat.zero_le _, Nat.zero_le _⟩) ?_
    refine lv_goto (tgt := 40) hx hb dX3_out_33 (by decide) ?_
    rw [← Option.some.inj h16]
    exact W.iret (v := u14) hx hb hr (fun t ht hW => ⟨⟨u14, (), rfl, rfl, ⟨by rw [ht]; exact hP, hD⟩⟩, hS.F ht⟩) hS.2.2 dX3_out_40
def T_X3_need (N : Nat) (g_bads : Int32) (g_now_month : Int32) (g_now_floes : Int32) (g_now_ways : Nat → Int32) (g_now_strengths : Nat → Int32) (g_now_kinds : Nat → Int32) (g_now_cells : Nat → Int32) (g_now_foods : Nat → Int32) (p1 : Int32) : Option (Int32 × Int32) :=
  (if (T_X3_isFloe g_now_floes p1) = 0 then (lt' (T_X3_refuseBad g_bads) fun u17 => (some (u17.1, u17.2))) else (ob p1 5 (ob p1 5 (Option.bind (T_X1_firstOut N g_now_month g_now_ways g_now_strengths (g_now_kinds p1.toNatClampNeg) (g_now_cells p1.toNatClampNeg)) fun u8 => (if u8 = (-1) then (some ((-1), g_bads)) else (ob p1 5 (some ((if 0 < (u8 - (g_now_foods p1.toNatClampNeg)) then (u8 - (g_now_foods p1.toNatClampNeg)) else 0), g_bads))))))))
abbrev rm_X3_need : Room := { frames := 4, cells := 0, slots := 0, locals := 99 }
set_option maxHeartbeats 4000000 in
set_option maxRecDepth 100000 in
theorem c_X3_need (l : Launch) (D : va_G) (cyI cyJ cyS : ClassId) (N : Nat) (a a_now a_spare a_text : Nat → Nat) (g_above : Int64) (g_below : Int64) (g_bads : Int32) (g_nos : Int32) (g_fulls : Int32) (g_now_month : Int32) (g_now_floes : Int32) (g_now_founds : Int32) (g_now_notes : Int32) (g_now_undos : Int32) (g_now_ways : Nat → Int32) (g_now_strengths : Nat → Int32) (g_now_kinds : Nat → Int32) (g_now_cells : Nat → Int32) (g_now_foods : Nat → Int32) (p1 : Int32) (sz : Nat) (R0 : Int32 × Int32) (hT : T_X3_need N g_bads g_now_month g_now_floes g_now_ways g_now_strengths g_now_kinds g_now_cells g_now_foods p1 = some R0) : Met l yX3_need wsX3_need rm_X3_need (va_Pc [.ref (a 0), .int p1] (preW D (tyS cyI cyJ cyS) [oX3 a a_now a_spare a_text g_above g_below g_bads g_nos g_fulls, oX1 a_now g_now_month g_now_floes g_now_founds g_now_notes g_now_undos, rI cyI (a_now 1) 12 g_now_ways, rI cyI (a_now 2) 12 g_now_strengths, rI cyI (a_now 3) 5 g_now_kinds, rI cyI (a_now 4) 5 g_now_cells, rI cyI (a_now 5) 5 g_now_foods] sz)) (va_Qi (fun (r : Int32) (_ : Unit) => r = R0.1) (fun _ t => va_P D vwCl [oX3 a a_now a_spare a_text g_above g_below R0.2 g_nos g_fulls, oX1 a_now g_now_month g_now_floes g_now_founds g_now_notes g_now_undos, rI cyI (a_now 1) 12 g_now_ways, rI cyI (a_now 2) 12 g_now_strengths, rI cyI (a_now 3) 5 g_now_kinds, rI cyI (a_now 4) 5 g_now_cells, rI cyI (a_now 5) 5 g_now_foods] t.heap ∧ va_D (va_A [oX3 a a_now a_spare a_text g_above g_below g_bads g_nos g_fulls, oX1 a_now g_now_month g_now_floes g_now_founds g_now_notes g_now_undos, rI cyI (a_now 1) 12 g_now_ways, rI cyI (a_now 2) 12 g_now_strengths, rI cyI (a_now 3) 5 g_now_kinds, rI cyI (a_now 4) 5 g_now_cells, rI cyI (a_now 5) 5 g_now_foods] sz) [oX3 a a_now a_spare a_text g_above g_below R0.2 g_nos g_fulls, oX1 a_now g_now_month g_now_floes g_now_founds g_now_notes g_now_undos, rI cyI (a_now 1) 12 g_now_ways, rI cyI (a_now 2) 12 g_now_strengths, rI cyI (a_now 3) 5 g_now_kinds, rI cyI (a_now 4) 5 g_now_cells, rI cyI (a_now 5) 5 g_now_foods]) (va_A [oX3 a a_now a_spare a_text g_above g_below g_bads g_nos g_fulls, oX1 a_now g_now_month g_now_floes g_now_founds g_now_notes g_now_undos, rI cyI (a_now 1) 12 g_now_ways, rI cyI (a_now 2) 12 g_now_strengths, rI cyI (a_now 3) 5 g_now_kinds, rI cyI (a_now 4) 5 g_now_cells, rI cyI (a_now 5) 5 g_now_foods] sz)) 0 0 (va_A [oX3 a a_now a_spare a_text g_above g_below g_bads g_nos g_fulls, oX1 a_now g_now_month g_now_floes g_now_founds g_now_notes g_now_undos, rI cyI (a_now 1) 12 g_now_ways, rI cyI (a_now 2) 12 g_now_strengths, rI cyI (a_now 3) 5 g_now_kinds, rI cyI (a_now 4) 5 g_now_cells, rI cyI (a_now 5) 5 g_now_foods] sz) := by
  refine Met.ofW (cc := cX3_need) (maxL := 3) (ret := (some .int)) (by decide) rfl ?_
  intro p e s m args below meth c s₁ B hml hv
  obtain ⟨rfl, hsz, hP, hKK, hD0⟩ := hv
  have hx := B.exec
  have hb := B.bytes
  have hr := B.returns
  have hts := atoms_spec (ws := wsX3_need) B.pre
  have hown : s.vm.findClass RX3 = some m.cls := findClass_of_methodNamed B.named
  have hlocks := B.notSynchronized
  have hK := hKK.1
  have inX3 : ∀ w ∈ wsX30, w ∈ wsX3_need := (fun _ h => List.mem_cons_of_mem _ (List.mem_append_left _ (List.mem_append_right _ h)))
  have inX1 : ∀ w ∈ wsX10, w ∈ wsX3_need := (fun _ h => List.mem_cons_of_mem _ (List.mem_append_right _ h))
  subst hsz
  have hD := hD0.self (sz := s.heap.size)
  generalize hAe : va_A [oX3 a a_now a_spare a_text g_above g_below g_bads g_nos g_fulls, oX1 a_now g_now_month g_now_floes g_now_founds g_now_notes g_now_undos, rI cyI (a_now 1) 12 g_now_ways, rI cyI (a_now 2) 12 g_now_strengths, rI cyI (a_now 3) 5 g_now_kinds, rI cyI (a_now 4) 5 g_now_cells, rI cyI (a_now 5) 5 g_now_foods] s.heap.size = A at hD ⊢
  have hA : ∀ q : Nat, s.heap.size ≤ q → A q := fun q h => by rw [← hAe]; exact Or.inr h
  have hS : va_S A s.heap s.heap [] := va_S.rf
  have hP : va_P D vwCl [oX3 a a_now a_spare a_text g_above g_below g_bads g_nos g_fulls, oX1 a_now g_now_month g_now_floes g_now_founds g_now_notes g_now_undos, rI cyI (a_now 1) 12 g_now_ways, rI cyI (a_now 2) 12 g_now_strengths, rI cyI (a_now 3) 5 g_now_kinds, rI cyI (a_now 4) 5 g_now_cells, rI cyI (a_now 5) 5 g_now_foods] s.heap := hP
  have hl := lv_entry [.ref (a 0), .int p1] (n := 3) (Nat.le_of_ble_eq_true rfl)
  rw [lg_entry_eq]
  generalize (lg_sl [.ref (a 0), .int p1] ++ List.replicate (3 - (lg_sl [.ref (a 0), .int p1]).length) Slot.unset).toArray = ls at hl ⊢
  have hl : lv_has ls 3 [(0, .ref (a 0)), (1, .int p1)] := hl
  unfold T_X3_need at hT
  refine lv_aload_n hx hb dX3_need_0 rfl (lv_at hl 0 rfl) ?_
  refine lv_iload_n hx hb dX3_need_1 rfl (lv_at hl 1 rfl) ?_
  refine kc_Z (W.runV (As := [.int p1]) (rest := []) ⟨hx, hb, hml, hown, hts⟩ (c_X3_isFloe l D cyI cyJ cyS a a_now a_spare a_text g_above g_below g_bads g_nos g_fulls g_now_month g_now_floes g_now_founds g_now_notes g_now_undos p1 (T_X3_isFloe g_now_floes p1) rfl) (cwV 1 hts gX3_need_X3_isFloe rfl rfl rfl (by decide +kernel) ⟨(Nat.le_of_ble_eq_true rfl), (Nat.le_of_ble_eq_true rfl)⟩) (preR_V (hP.sub (ws' := [oX3 a a_now a_spare a_text g_above g_below g_bads g_nos g_fulls, oX1 a_now g_now_month g_now_floes g_now_founds g_now_notes g_now_undos]) [0, 1] rfl) hKK (va_recv hK hP (ci := 2) (q0 := 0) rfl rfl)) rfl rfl hl.1 rfl (lv_room (Nat.le_of_ble_eq_true rfl)) dX3_need_2 ⟨Nat.zero_le _, Nat.zero_le _⟩) (fun hn1 => ?_)
  refine lv_if_ne (tgt := 13) hx hb dX3_need_5 (by decide) (fun c2 => ?_) (fun c2 => ?_)
  · have h3 := (if_neg c2).symm.trans hT
    refine lv_aload_n hx hb dX3_need_13 rfl (lv_at hl 0 rfl) ?_
    refine va_get (D := D) (cl := vwCl) (ci := 2) (v := .ref (a_now 0)) (C := RX3) (T := TX3) (N := 12) hx hb hts inX3 hown hK hP 0 rfl rfl 0 (by decide) (hts (Cond.fieldLink RX3 10 "FrozenIn" "now" "LFrozenIn$Sea;") (List.mem_of_getElem? (i := 1) rfl)) (fun _ h9 => h9) rfl dX3_need_14 ?_
    refine lv_aload_n hx hb dX3_need_17 rfl (lv_at hl 0 rfl) ?_
    refine va_get (D := D) (cl := vwCl) (ci := 2) (v := .ref (a_now 0)) (C := RX3) (T := TX3) (N := 12) hx hb hts inX3 hown hK hP 0 rfl rfl 0 (by decide) (hts (Cond.fieldLink RX3 10 "FrozenIn" "now" "LFrozenIn$Sea;") (List.mem_of_getElem? (i := 1) rfl)) (fun _ h9 => h9) rfl dX3_need_18 ?_
    refine va_get (D := D) (cl := vwCl) (ci := 0) (v := .ref (a_now 3)) (C := RX1) (T := TX1) (N := 13) hx hb hts inX1 hown hK hP 1 rfl rfl 4 (by decide) (hts (Cond.fieldLink RX3 141 "FrozenIn$Sea" "kinds" "[I") (List.mem_of_getElem? (i := 2) rfl)) (fun _ h9 => h9) rfl dX3_need_21 ?_
    refine lv_iload_n hx hb dX3_need_24 rfl (lv_at hl 1 rfl) ?_
    obtain ⟨hi5, h4⟩ := ob_e h3
    refine va_iald hx hb hK hP 4 0 rfl rfl hi5 dX3_need_25 ?_
    refine lv_aload_n hx hb dX3_need_26 rfl (lv_at hl 0 rfl) ?_
    refine va_get (D := D) (cl := vwCl) (ci := 2) (v := .ref (a_now 0)) (C := RX3) (T := TX3) (N := 12) hx hb hts inX3 hown hK hP 0 rfl rfl 0 (by decide) (hts (Cond.fieldLink RX3 10 "FrozenIn" "now" "LFrozenIn$Sea;") (List.mem_of_getElem? (i := 1) rfl)) (fun _ h9 => h9) rfl dX3_need_27 ?_
    refine va_get (D := D) (cl := vwCl) (ci := 0) (v := .ref (a_now 4)) (C := RX1) (T := TX1) (N := 13) hx hb hts inX1 hown hK hP 1 rfl rfl 5 (by decide) (hts (Cond.fieldLink RX3 126 "FrozenIn$Sea" "cells" "[I") (List.mem_of_getElem? (i := 3) rfl)) (fun _ h9 => h9) rfl dX3_need_30 ?_
    refine lv_iload_n hx hb dX3_need_33 rfl (lv_at hl 1 rfl) ?_
    obtain ⟨hi7, h6⟩ := ob_e h4
    refine va_iald hx hb hK hP 5 0 rfl rfl hi7 dX3_need_34 ?_
    obtain ⟨u8, hu9, h10⟩ := bd_e h6
    refine kc_I (W.runV (As := [.int (g_now_kinds p1.toNatClampNeg), .int (g_now_cells p1.toNatClampNeg)]) (rest := []) ⟨hx, hb, hml, hown, hts⟩ (c_X1_firstOut l D cyI cyJ cyS N a_now g_now_month g_now_floes g_now_founds g_now_notes g_now_undos g_now_ways g_now_strengths (g_now_kinds p1.toNatClampNeg) (g_now_cells p1.toNatClampNeg) u8 hu9) (cwV 2 hts gX3_need_X1_firstOut rfl rfl rfl (by decide +kernel) ⟨(Nat.le_of_ble_eq_true rfl), (Nat.le_of_ble_eq_true rfl)⟩) (preR_V (hP.sub (ws' := [oX1 a_now g_now_month g_now_floes g_now_founds g_now_notes g_now_undos, rI cyI (a_now 1) 12 g_now_ways, rI cyI (a_now 2) 12 g_now_strengths]) [1, 2, 3] rfl) hKK (va_recv hK hP (ci := 0) (q0 := 1) rfl rfl)) rfl rfl hl.1 rfl (lv_room (Nat.le_of_ble_eq_true rfl)) dX3_need_35 ⟨Nat.zero_le _, Nat.zero_le _⟩) ?_
    refine lv_istore_n (lv' := [(2, .int u8), (0, .ref (a 0)), (1, .int p1)]) hx hb dX3_need_38 rfl hl (by decide) rfl (fun ls hl => ?_)
    refine lv_iload_n hx hb dX3_need_39 rfl (lv_at hl 0 rfl) ?_
    refine lv_iconst (v := (-1)) hx hb dX3_need_40 (by decide) ?_
    refine lv_icmp_ne (tgt := 48) hx hb dX3_need_41 (by decide) (fun c11 => ?_) (fun c11 => ?_)
    · have h12 := (if_neg c11).symm.trans h10
      refine lv_iconst (v := 0) hx hb dX3_need_48 (by decide) ?_
      refine lv_iload_n hx hb dX3_need_49 rfl (lv_at hl 0 rfl) ?_
      refine lv_aload_n hx hb dX3_need_50 rfl (lv_at hl 1 rfl) ?_
      refine va_get (D := D) (cl := vwCl) (ci := 2) (v := .ref (a_now 0)) (C := RX3) (T := TX3) (N := 12) hx hb hts inX3 hown hK hP 0 rfl rfl 0 (by decide) (hts (Cond.fieldLink RX3 10 "FrozenIn" "now" "LFrozenIn$Sea;") (List.mem_of_getElem? (i := 1) rfl)) (fun _ h9 => h9) rfl dX3_need_51 ?_
      refine va_get (D := D) (cl := vwCl) (ci := 0) (v := .ref (a_now 5)) (C := RX1) (T := TX1) (N := 13) hx hb hts inX1 hown hK hP 1 rfl rfl 6 (by decide) (hts (Cond.fieldLink RX3 117 "FrozenIn$Sea" "foods" "[I") (List.mem_of_getElem? (i := 4) rfl)) (fun _ h9 => h9) rfl dX3_need_54 ?_
      refine lv_iload_n hx hb dX3_need_57 rfl (lv_at hl 2 rfl) ?_
      obtain ⟨hi14, h13⟩ := ob_e h12
      refine va_iald hx hb hK hP 6 0 rfl rfl hi14 dX3_need_58 ?_
      refine lv_isub hx hb dX3_need_59 ?_
      refine va_mmax hx hb (hml.trans hl.1.symm) hown (hts (Cond.methodLink RX3 153 Lib.Math.max.name) (List.mem_of_getElem? (i := 5) rfl)) (hts (Cond.static Lib.Math.max.name) (List.mem_of_getElem? (i := 6) rfl)) (hts (Cond.initialized "java/lang/Math") (List.mem_of_getElem? (i := 7) rfl)) (hts (Cond.code Lib.Math.max.name Lib.Math.max.code 2 (some .int)) (List.mem_of_getElem? (i := 8) rfl)) (Nat.le_of_ble_eq_true rfl) (Nat.le_of_ble_eq_true rfl) (Nat.zero_le _) (Nat.zero_le _) dX3_need_60 ?_
      rw [← Option.some.inj h13]
      exact W.iret (v := (if 0 < (u8 - (g_now_foods p1.toNatClampNeg)) then (u8 - (g_now_foods p1.toNatClampNeg)) else 0)) hx hb hr (fun t ht hW => ⟨⟨(if 0 < (u8 - (g_now_foods p1.toNatClampNeg)) then (u8 - (g_now_foods p1.toNatClampNeg)) else 0), (), rfl, rfl, ⟨by rw [ht]; exact hP, hD⟩⟩, hS.F ht⟩) hS.2.2 dX3_need_63
    · have h15 := (if_pos c11).symm.trans h10
      refine lv_iconst (v := (-1)) hx hb dX3_need_44 (by decide) ?_
      refine lv_goto (tgt := 63) hx hb dX3_need_45 (by decide) ?_
      rw [← Option.some.inj h15]
      exact W.iret (v := (-1)) hx hb hr (fun t ht hW => ⟨⟨(-1), (), rfl, rfl, ⟨by rw [ht]; exact hP, hD⟩⟩, hS.F ht⟩) hS.2.2 dX3_need_63
  · have h16 := (if_pos c2).symm.trans hT
    refine lv_aload_n hx hb dX3_need_8 rfl (lv_at hl 0 rfl) ?_
    obtain ⟨u17, hu18, h19⟩ := lt_e h16
    refine kw_I (wc := [oX3 a a_now a_spare a_text g_above g_below g_bads g_nos g_fulls]) (wr := [oX1 a_now g_now_month g_now_floes g_now_founds g_now_notes g_now_undos, rI cyI (a_now 1) 12 g_now_ways, rI cyI (a_now 2) 12 g_now_strengths, rI cyI (a_now 3) 5 g_now_kinds, rI cyI (a_now 4) 5 g_now_cells, rI cyI (a_now 5) 5 g_now_foods]) (ws' := [oX3 a a_now a_spare a_text g_above g_below u17.2 g_nos g_fulls, oX1 a_now g_now_month g_now_floes g_now_founds g_now_notes g_now_undos, rI cyI (a_now 1) 12 g_now_ways, rI cyI (a_now 2) 12 g_now_strengths, rI cyI (a_now 3) 5 g_now_kinds, rI cyI (a_now 4) 5 g_now_cells, rI cyI (a_now 5) 5 g_now_foods]) (va_runV (As := []) (rest := []) ⟨hx, hb, hml, hown, hts⟩ (c_X3_refuseBad l D cyI cyJ cyS a a_now a_spare a_text g_above g_below g_bads g_nos g_fulls s.heap.size u17 hu18.symm) (cwV 0 hts gX3_need_X3_refuseBad rfl rfl rfl (by decide +kernel) ⟨(Nat.le_of_ble_eq_true rfl), (Nat.le_of_ble_eq_true rfl)⟩) (preW_V (hP.sub (ws' := [oX3 a a_now a_spare a_text g_above g_below g_bads g_nos g_fulls]) [0] rfl) (hD.sub (ws' := [oX3 a a_now a_spare a_text g_above g_below g_bads g_nos g_fulls]) [0] (by decide) rfl) hKK (va_recv hK hP (ci := 2) (q0 := 0) rfl rfl)) rfl rfl hl.1 rfl (lv_room (Nat.le_of_ble_eq_true rfl)) dX3_need_9 ⟨Nat.zero_le _, Nat.zero_le _⟩) hP hD hS hA [0] [1, 2, 3, 4, 5, 6] [6, 0, 1, 2, 3, 4, 5] rfl rfl (by decide) (by decide) rfl (by decide) (fun H20 L21 hP hD hS => ?_)
    rw [← Option.some.inj h19]
    exact W.iret (v := u17.1) hx hb hr (fun t ht hW => ⟨⟨u17.1, (), rfl, rfl, ⟨by rw [ht]; exact hP, hD⟩⟩, hS.F ht⟩) hS.2.2 dX3_need_12
def T_X3_enter_L27 (N : Nat) (p1 : Int32) (p2 : Int32) (g_bads : Int32) (g_now_month : Int32) (g_now_ways : Nat → Int32) (g_now_strengths : Nat → Int32)  : Nat → Int32 → Int32 → Option (Int32 × Int32)
  | 0, _, _ => none
  | n + 1, x19, x20 => (if 6 ≤ x20 then (some (x19, g_bads)) else (Option.bind (T_X1_firstOut N g_now_month g_now_ways g_now_strengths p1 (6 * x20)) fun u27 => (jn (fun (x30 : Int32) => (lt' (x20 + 1) fun x37 => (T_X3_enter_L27 N p1 p2 g_bads g_now_month g_now_ways g_now_strengths n x30 x37))) fun j31 => (if u27 = (-1) then (j31 x19) else (if p2 < u27 then (j31 x19) else (lt' (x19 ||| (1 <<< (x20 &&& 31))) fun x45 => (j31 x45)))))))
theorem T_X3_enter_L27_s (N : Nat) (p1 : Int32) (p2 : Int32) (g_bads : Int32) (g_now_month : Int32) (g_now_ways : Nat → Int32) (g_now_strengths : Nat → Int32)  (n : Nat) (x19 : Int32) (x20 : Int32) : T_X3_enter_L27 N p1 p2 g_bads g_now_month g_now_ways g_now_strengths  (n + 1) x19 x20 = (if 6 ≤ x20 then (some (x19, g_bads)) else (Option.bind (T_X1_firstOut N g_now_month g_now_ways g_now_strengths p1 (6 * x20)) fun u27 => (jn (fun (x30 : Int32) => (lt' (x20 + 1) fun x37 => (T_X3_enter_L27 N p1 p2 g_bads g_now_month g_now_ways g_now_strengths n x30 x37))) fun j31 => (if u27 = (-1) then (j31 x19) else (if p2 < u27 then (j31 x19) else (lt' (x19 ||| (1 <<< (x20 &&& 31))) fun x45 => (j31 x45))))))) := rfl
def T_X3_enter (N : Nat) (g_bads : Int32) (g_now_month : Int32) (g_now_ways : Nat → Int32) (g_now_strengths : Nat → Int32) (p1 : Int32) (p2 : Int32) : Option (Int32 × Int32) :=
  (jn (lt' (T_X3_refuseBad g_bads) fun u8 => (some (u8.1, u8.2))) fun j2 => (if (T_X3_isKind p1) = 0 then j2 else (if (T_X3_within p2 0 60) = 0 then j2 else (T_X3_enter_L27 N p1 p2 g_bads g_now_month g_now_ways g_now_strengths N 0 0))))
abbrev rm_X3_enter : Room := { frames := 4, cells := 0, slots := 0, locals := 99 }
set_option maxHeartbeats 4000000 in
set_option maxRecDepth 100000 in
theorem c_X3_enter (l : Launch) (D : va_G) (cyI cyJ cyS : ClassId) (N : Nat) (a a_now a_spare a_text : Nat → Nat) (g_above : Int64) (g_below : Int64) (g_bads : Int32) (g_nos : Int32) (g_fulls : Int32) (g_now_month : Int32) (g_now_floes : Int32) (g_now_founds : Int32) (g_now_notes : Int32) (g_now_undos : Int32) (g_now_ways : Nat → Int32) (g_now_strengths : Nat → Int32) (p1 : Int32) (p2 : Int32) (sz : Nat) (R0 : Int32 × Int32) (hT : T_X3_enter N g_bads g_now_month g_now_ways g_now_strengths p1 p2 = some R0) : Met l yX3_enter wsX3_enter rm_X3_enter (va_Pc [.ref (a 0), .int p1, .int p2] (preW D (tyS cyI cyJ cyS) [oX3 a a_now a_spare a_text g_above g_below g_bads g_nos g_fulls, oX1 a_now g_now_month g_now_floes g_now_founds g_now_notes g_now_undos, rI cyI (a_now 1) 12 g_now_ways, rI cyI (a_now 2) 12 g_now_strengths] sz)) (va_Qi (fun (r : Int32) (_ : Unit) => r = R0.1) (fun _ t => va_P D vwCl [oX3 a a_now a_spare a_text g_above g_below R0.2 g_nos g_fulls, oX1 a_now g_now_month g_now_floes g_now_founds g_now_notes g_now_undos, rI cyI (a_now 1) 12 g_now_ways, rI cyI (a_now 2) 12 g_now_strengths] t.heap ∧ va_D (va_A [oX3 a a_now a_spare a_text g_above g_below g_bads g_nos g_fulls, oX1 a_now g_now_month g_now_floes g_now_founds g_now_notes g_now_undos, rI cyI (a_now 1) 12 g_now_ways, rI cyI (a_now 2) 12 g_now_strengths] sz) [oX3 a a_now a_spare a_text g_above g_below R0.2 g_nos g_fulls, oX1 a_now g_now_month g_now_floes g_now_founds g_now_notes g_now_undos, rI cyI (a_now 1) 12 g_now_ways, rI cyI (a_now 2) 12 g_now_strengths]) (va_A [oX3 a a_now a_spare a_text g_above g_below g_bads g_nos g_fulls, oX1 a_now g_now_month g_now_floes g_now_founds g_now_notes g_now_undos, rI cyI (a_now 1) 12 g_now_ways, rI cyI (a_now 2) 12 g_now_strengths] sz)) 0 0 (va_A [oX3 a a_now a_spare a_text g_above g_below g_bads g_nos g_fulls, oX1 a_now g_now_month g_now_floes g_now_founds g_now_notes g_now_undos, rI cyI (a_now 1) 12 g_now_ways, rI cyI (a_now 2) 12 g_now_strengths] sz) := by
  refine Met.ofW (cc := cX3_enter) (maxL := 6) (ret := (some .int)) (by decide) rfl ?_
  intro p e s m args below meth c s₁ B hml hv
  obtain ⟨rfl, hsz, hP, hKK, hD0⟩ := hv
  have hx := B.exec
  have hb := B.bytes
  have hr := B.returns
  have hts := atoms_spec (ws := wsX3_enter) B.pre
  have hown : s.vm.findClass RX3 = some m.cls := findClass_of_methodNamed B.named
  have hlocks := B.notSynchronized
  have hK := hKK.1
  have inX3 : ∀ w ∈ wsX30, w ∈ wsX3_enter := (fun _ h => List.mem_cons_of_mem _ (List.mem_append_left _ (List.mem_append_right _ h)))
  have inX1 : ∀ w ∈ wsX10, w ∈ wsX3_enter := (fun _ h => List.mem_cons_of_mem _ (List.mem_append_right _ h))
  subst hsz
  have hD := hD0.self (sz := s.heap.size)
  generalize hAe : va_A [oX3 a a_now a_spare a_text g_above g_below g_bads g_nos g_fulls, oX1 a_now g_now_month g_now_floes g_now_founds g_now_notes g_now_undos, rI cyI (a_now 1) 12 g_now_ways, rI cyI (a_now 2) 12 g_now_strengths] s.heap.size = A at hD ⊢
  have hA : ∀ q : Nat, s.heap.size ≤ q → A q := fun q h => by rw [← hAe]; exact Or.inr h
  have hS : va_S A s.heap s.heap [] := va_S.rf
  have hP : va_P D vwCl [oX3 a a_now a_spare a_text g_above g_below g_bads g_nos g_fulls, oX1 a_now g_now_month g_now_floes g_now_founds g_now_notes g_now_undos, rI cyI (a_now 1) 12 g_now_ways, rI cyI (a_now 2) 12 g_now_strengths] s.heap := hP
  have hl := lv_entry [.ref (a 0), .int p1, .int p2] (n := 6) (Nat.le_of_ble_eq_true rfl)
  rw [lg_entry_eq]
  generalize (lg_sl [.ref (a 0), .int p1, .int p2] ++ List.replicate (6 - (lg_sl [.ref (a 0), .int p1, .int p2]).length) Slot.unset).toArray = ls at hl ⊢
  have hl : lv_has ls 6 [(0, .ref (a 0)), (1, .int p1), (2, .int p2)] := hl
  have L27 : ∀ (n : Nat), ∀ (x19 : Int32) (x20 : Int32) (H : Heap) (locs : List Loc) (ls : Array Slot), T_X3_enter_L27 N p1 p2 g_bads g_now_month g_now_ways g_now_strengths n x19 x20 = some R0 → va_P D vwCl [oX3 a a_now a_spare a_text g_above g_below g_bads g_nos g_fulls, oX1 a_now g_now_month g_now_floes g_now_founds g_now_notes g_now_undos, rI cyI (a_now 1) 12 g_now_ways, rI cyI (a_now 2) 12 g_now_strengths] H → va_D A [oX3 a a_now a_spare a_text g_above g_below g_bads g_nos g_fulls, oX1 a_now g_now_month g_now_floes g_now_founds g_now_notes g_now_undos, rI cyI (a_now 1) 12 g_now_ways, rI cyI (a_now 2) 12 g_now_strengths] → va_S A s.heap H locs → lv_has ls 6 [(0, .ref (a 0)), (1, .int p1), (2, .int p2), (3, .int x19), (4, .int x20)] → W p l e (headSpec wsX3_enter rm_X3_enter).room s m ([.ref (a 0), .int p1, .int p2] : List Value).toArray below meth c H locs 0 0 (MQ below (va_Qi (fun (r : Int32) (_ : Unit) => r = R0.1) (fun _ t => va_P D vwCl [oX3 a a_now a_spare a_text g_above g_below R0.2 g_nos g_fulls, oX1 a_now g_now_month g_now_floes g_now_founds g_now_notes g_now_undos, rI cyI (a_now 1) 12 g_now_ways, rI cyI (a_now 2) 12 g_now_strengths] t.heap ∧ va_D A [oX3 a a_now a_spare a_text g_above g_below R0.2 g_nos g_fulls, oX1 a_now g_now_month g_now_floes g_now_founds g_now_notes g_now_undos, rI cyI (a_now 1) 12 g_now_ways, rI cyI (a_now 2) 12 g_now_strengths]) A) ([.ref (a 0), .int p1, .int p2] : List Value).toArray s 0 0 A) (F0 m 27 ls []) := by
    intro n
    induction n with
    | zero => intro _ _ _ _ _ h; exact absurd h (fun z => by cases z)
    | succ n ih =>
      intro x19 x20 H22 L23 ls h21 hP hD hS hl
      rw [T_X3_enter_L27_s] at h21
      refine lv_iload hx hb dX3_enter_27 (lv_at hl 4 rfl) ?_
      refine lv_bipush (v := 6) hx hb dX3_enter_29 (by decide) ?_
      refine lv_icmp_ge (tgt := 74) hx hb dX3_enter_31 (by decide) (fun c24 => ?_) (fun c24 => ?_)
      · have h25 := (if_pos c24).symm.trans h21
        refine lv_iload_n hx hb dX3_enter_74 rfl (lv_at hl 3 rfl) ?_
        rw [← Option.some.inj h25]
        exact W.iret (v := x19) hx hb hr (fun t ht hW => ⟨⟨x19, (), rfl, rfl, ⟨by rw [ht]; exact hP, hD⟩⟩, hS.F ht⟩) hS.2.2 dX3_enter_75
      · have h26 := (if_neg c24).symm.trans h21
        refine lv_aload_n hx hb dX3_enter_34 rfl (lv_at hl 0 rfl) ?_
        refine va_get (D := D) (cl := vwCl) (ci := 2) (v := .ref (a_now 0)) (C := RX3) (T := TX3) (N := 12) hx hb hts inX3 hown hK hP 0 rfl rfl 0 (by decide) (hts (Cond.fieldLink RX3 10 "FrozenIn" "now" "LFrozenIn$Sea;") (List.mem_of_getElem? (i := 1) rfl)) (fun _ h9 => h9) rfl dX3_enter_35 ?_
        refine lv_iload_n hx hb dX3_enter_38 rfl (lv_at hl 1 rfl) ?_
        refine lv_bipush (v := 6) hx hb dX3_enter_39 (by decide) ?_
        refine lv_iload hx hb dX3_enter_41 (lv_at hl 4 rfl) ?_
        refine lv_imul hx hb dX3_enter_43 ?_
        obtain ⟨u27, hu28, h29⟩ := bd_e h26
        refine kc_I (W.runV (As := [.int p1, .int (6 * x20)]) (rest := []) ⟨hx, hb, hml, hown, hts⟩ (c_X1_firstOut l D cyI cyJ cyS N a_now g_now_month g_now_floes g_now_founds g_now_notes g_now_undos g_now_ways g_now_strengths p1 (6 * x20) u27 hu28) (cwV 2 hts gX3_enter_X1_firstOut rfl rfl rfl (by decide +kernel) ⟨(Nat.le_of_ble_eq_true rfl), (Nat.le_of_ble_eq_true rfl)⟩) (preR_V (hP.sub (ws' := [oX1 a_now g_now_month g_now_floes g_now_founds g_now_notes g_now_undos, rI cyI (a_now 1) 12 g_now_ways, rI cyI (a_now 2) 12 g_now_strengths]) [1, 2, 3] rfl) hKK (va_recv hK hP (ci := 0) (q0 := 1) rfl rfl)) rfl rfl hl.1 rfl (lv_room (Nat.le_of_ble_eq_true rfl)) dX3_enter_44 ⟨Nat.zero_le _, Nat.zero_le _⟩) ?_
        refine lv_istore (lv' := [(5, .int u27), (0, .ref (a 0)), (1, .int p1), (2, .int p2), (3, .int x19), (4, .int x20)]) hx hb dX3_enter_47 hl (by decide) rfl (fun ls hl => ?_)
        refine lv_iload hx hb dX3_enter_49 (lv_at hl 0 rfl) ?_
        refine lv_iconst (v := (-1)) hx hb dX3_enter_51 (by decide) ?_
        obtain ⟨j31, hj32, h33⟩ := jn_e h29
        have Jj31 : ∀ (x30 : Int32) (H : Heap) (locs : List Loc) (ls : Array Slot), j31 x30 = some R0 → va_P D vwCl [oX3 a a_now a_spare a_text g_above g_below g_bads g_nos g_fulls, oX1 a_now g_now_month g_now_floes g_now_founds g_now_notes g_now_undos, rI cyI (a_now 1) 12 g_now_ways, rI cyI (a_now 2) 12 g_now_strengths] H → va_D A [oX3 a a_now a_spare a_text g_above g_below g_bads g_nos g_fulls, oX1 a_now g_now_month g_now_floes g_now_founds g_now_notes g_now_undos, rI cyI (a_now 1) 12 g_now_ways, rI cyI (a_now 2) 12 g_now_strengths] → va_S A s.heap H locs → lv_has ls 6 [(0, .ref (a 0)), (1, .int p1), (2, .int p2), (3, .int x30), (4, .int x20)] → W p l e (headSpec wsX3_enter rm_X3_enter).room s m ([.ref (a 0), .int p1, .int p2] : List Value).toArray below meth c H locs 0 0 (MQ below (va_Qi (fun (r : Int32) (_ : Unit) => r = R0.1) (fun _ t => va_P D vwCl [oX3 a a_now a_spare a_text g_above g_below R0.2 g_nos g_fulls, oX1 a_now g_now_month g_now_floes g_now_founds g_now_notes g_now_undos, rI cyI (a_now 1) 12 g_now_ways, rI cyI (a_now 2) 12 g_now_strengths] t.heap ∧ va_D A [oX3 a a_now a_spare a_text g_above g_below R0.2 g_nos g_fulls, oX1 a_now g_now_month g_now_floes g_now_founds g_now_notes g_now_undos, rI cyI (a_now 1) 12 g_now_ways, rI cyI (a_now 2) 12 g_now_strengths]) A) ([.ref (a 0), .int p1, .int p2] : List Value).toArray s 0 0 A) (F0 m 68 ls []) := by
          intro x30 H35 L36 ls h34 hP hD hS hl
          rw [hj32] at h34
          obtain ⟨x37, ex37, h38⟩ := lt_e h34
          refine lv_iinc (v := x37) (lv' := [(4, .int x37), (0, .ref (a 0)), (1, .int p1), (2, .int p2), (3, .int x30)]) hx hb dX3_enter_68 hl (k := 4) rfl (by rw [ex37]; rfl) (by decide) rfl (fun ls hl => ?_)
          refine lv_goto (tgt := 27) hx hb dX3_enter_71 (by decide) ?_
          exact ih x30 x37 _ _ _ h38 hP hD hS (lv_sub hl [1, 2, 3, 4, 0] rfl)
        refine lv_icmp_eq (tgt := 68) hx hb dX3_enter_52 (by decide) (fun c39 => ?_) (fun c39 => ?_)
        · have h40 := (if_pos c39).symm.trans h33
          exact Jj31 x19 _ _ _ h40 hP hD hS (lv_sub hl [1, 2, 3, 4, 5] rfl)
        · have h41 := (if_neg c39).symm.trans h33
          refine lv_iload hx hb dX3_enter_55 (lv_at hl 0 rfl) ?_
          refine lv_iload_n hx hb dX3_enter_57 rfl (lv_at hl 3 rfl) ?_
          refine lv_icmp_gt (tgt := 68) hx hb dX3_enter_58 (by decide) (fun c42 => ?_) (fun c42 => ?_)
          · have h43 := (if_pos c42).symm.trans h41
            exact Jj31 x19 _ _ _ h43 hP hD hS (lv_sub hl [1, 2, 3, 4, 5] rfl)
          · have h44 := (if_neg c42).symm.trans h41
            refine lv_iload_n hx hb dX3_enter_61 rfl (lv_at hl 4 rfl) ?_
            refine lv_iconst (v := 1) hx hb dX3_enter_62 (by decide) ?_
            refine lv_iload hx hb dX3_enter_63 (lv_at hl 5 rfl) ?_
            refine lv_ishl hx hb dX3_enter_65 ?_
            refine lv_ior hx hb dX3_enter_66 ?_
            obtain ⟨x45, ex45, h46⟩ := lt_e h44
            refine lv_nm ex45 ?_
            refine lv_istore_n (lv' := [(3, .int x45), (5, .int u27), (0, .ref (a 0)), (1, .int p1), (2, .int p2), (4, .int x20)]) hx hb dX3_enter_67 rfl hl (by decide) rfl (fun ls hl => ?_)
            exact Jj31 x45 _ _ _ h46 hP hD hS (lv_sub hl [2, 3, 4, 0, 5] rfl)
  unfold T_X3_enter at hT
  refine lv_iload_n hx hb dX3_enter_0 rfl (lv_at hl 1 rfl) ?_
  refine kc_Z (W.runS (As := [.int p1]) (rest := []) ⟨hx, hb, hml, hown, hts⟩ (c_X3_isKind l p1 (T_X3_isKind p1) rfl) (va_cwS 1 hts gX3_enter_X3_isKind rfl rfl rfl (by decide +kernel) ⟨(Nat.le_of_ble_eq_true rfl), (Nat.le_of_ble_eq_true rfl)⟩) preT_S rfl rfl hl.1 rfl (lv_room (Nat.le_of_ble_eq_true rfl)) dX3_enter_1 ⟨Nat.zero_le _, Nat.zero_le _⟩) (fun hn1 => ?_)
  obtain ⟨j2, hj3, h4⟩ := jn_e hT
  have Jj2 : ∀ (H : Heap) (locs : List Loc) (ls : Array Slot), j2 = some R0 → va_P D vwCl [oX3 a a_now a_spare a_text g_above g_below g_bads g_nos g_fulls, oX1 a_now g_now_month g_now_floes g_now_founds g_now_notes g_now_undos, rI cyI (a_now 1) 12 g_now_ways, rI cyI (a_now 2) 12 g_now_strengths] H → va_D A [oX3 a a_now a_spare a_text g_above g_below g_bads g_nos g_fulls, oX1 a_now g_now_month g_now_floes g_now_founds g_now_notes g_now_undos, rI cyI (a_now 1) 12 g_now_ways, rI cyI (a_now 2) 12 g_now_strengths] → va_S A s.heap H locs → lv_has ls 6 [(0, .ref (a 0))] → W p l e (headSpec wsX3_enter rm_X3_enter).room s m ([.ref (a 0), .int p1, .int p2] : List Value).toArray below meth c H locs 0 0 (MQ below (va_Qi (fun (r : Int32) (_ : Unit) => r = R0.1) (fun _ t => va_P D vwCl [oX3 a a_now a_spare a_text g_above g_below R0.2 g_nos g_fulls, oX1 a_now g_now_month g_now_floes g_now_founds g_now_notes g_now_undos, rI cyI (a_now 1) 12 g_now_ways, rI cyI (a_now 2) 12 g_now_strengths] t.heap ∧ va_D A [oX3 a a_now a_spare a_text g_above g_below R0.2 g_nos g_fulls, oX1 a_now g_now_month g_now_floes g_now_founds g_now_notes g_now_undos, rI cyI (a_now 1) 12 g_now_ways, rI cyI (a_now 2) 12 g_now_strengths]) A) ([.ref (a 0), .int p1, .int p2] : List Value).toArray s 0 0 A) (F0 m 17 ls []) := by
    intro H6 L7 ls h5 hP hD hS hl
    rw [hj3] at h5
    refine lv_aload_n hx hb dX3_enter_17 rfl (lv_at hl 0 rfl) ?_
    obtain ⟨u8, hu9, h10⟩ := lt_e h5
    refine kw_I (wc := [oX3 a a_now a_spare a_text g_above g_below g_bads g_nos g_fulls]) (wr := [oX1 a_now g_now_month g_now_floes g_now_founds g_now_notes g_now_undos, rI cyI (a_now 1) 12 g_now_ways, rI cyI (a_now 2) 12 g_now_strengths]) (ws' := [oX3 a a_now a_spare a_text g_above g_below u8.2 g_nos g_fulls, oX1 a_now g_now_month g_now_floes g_now_founds g_now_notes g_now_undos, rI cyI (a_now 1) 12 g_now_ways, rI cyI (a_now 2) 12 g_now_strengths]) (va_runV (As := []) (rest := []) ⟨hx, hb, hml, hown, hts⟩ (c_X3_refuseBad l D cyI cyJ cyS a a_now a_spare a_text g_above g_below g_bads g_nos g_fulls H6.size u8 hu9.symm) (cwV 0 hts gX3_enter_X3_refuseBad rfl rfl rfl (by decide +kernel) ⟨(Nat.le_of_ble_eq_true rfl), (Nat.le_of_ble_eq_true rfl)⟩) (preW_V (hP.sub (ws' := [oX3 a a_now a_spare a_text g_above g_below g_bads g_nos g_fulls]) [0] rfl) (hD.sub (ws' := [oX3 a a_now a_spare a_text g_above g_below g_bads g_nos g_fulls]) [0] (by decide) rfl) hKK (va_recv hK hP (ci := 2) (q0 := 0) rfl rfl)) rfl rfl hl.1 rfl (lv_room (Nat.le_of_ble_eq_true rfl)) dX3_enter_18 ⟨Nat.zero_le _, Nat.zero_le _⟩) hP hD hS hA [0] [1, 2, 3] [3, 0, 1, 2] rfl rfl (by decide) (by decide) rfl (by decide) (fun H11 L12 hP hD hS => ?_)
    rw [← Option.some.inj h10]
    exact W.iret (v := u8.1) hx hb hr (fun t ht hW => ⟨⟨u8.1, (), rfl, rfl, ⟨by rw [ht]; exact hP, hD⟩⟩, hS.F ht⟩) hS.2.2 dX3_enter_21
  refine lv_if_eq (tgt := 17) hx hb dX3_enter_4 (by decide) (fun c13 => ?_) (fun c13 => ?_)
  · have h14 := (if_pos c13).symm.trans h4
    exact Jj2  _ _ _ h14 hP hD hS (lv_sub hl [0] rfl)
  · have h15 := (if_neg c13).symm.trans h4
    refine lv_iload_n hx hb dX3_enter_7 rfl (lv_at hl 2 rfl) ?_
    refine lv_iconst (v := 0) hx hb dX3_enter_8 (by decide) ?_
    refine lv_bipush (v := 60) hx hb dX3_enter_9 (by decide) ?_
    refine kc_Z (W.runS (As := [.int p2, .int 0, .int 60]) (rest := []) ⟨hx, hb, hml, hown, hts⟩ (c_X3_within l p2 0 60 (T_X3_within p2 0 60) rfl) (va_cwS 3 hts gX3_enter_X3_within rfl rfl rfl (by decide +kernel) ⟨(Nat.le_of_ble_eq_true rfl), (Nat.le_of_ble_eq_true rfl)⟩) preT_S rfl rfl hl.1 rfl (lv_room (Nat.le_of_ble_eq_true rfl)) dX3_enter_11 ⟨Nat.zero_le _, Nat.zero_le _⟩) (fun hn16 => ?_)
    refine lv_if_ne (tgt := 22) hx hb dX3_enter_14 (by decide) (fun c17 => ?_) (fun c17 => ?_)
    · have h18 := (if_neg c17).symm.trans h15
      refine lv_iconst (v := 0) hx hb dX3_enter_22 (by decide) ?_
      refine lv_istore_n (lv' := [(3, .int 0), (0, .ref (a 0)), (1, .int p1), (2, .int p2)]) hx hb dX3_enter_23 rfl hl (by decide) rfl (fun ls hl => ?_)
      refine lv_iconst (v := 0) hx hb dX3_enter_24 (by decide) ?_
      refine lv_istore (lv' := [(4, .int 0), (3, .int 0), (0, .ref (a 0)), (1, .int p1), (2, .int p2)]) hx hb dX3_enter_25 hl (by decide) rfl (fun ls hl => ?_)
      refine L27  N 0 0 _ _ _ h18 hP hD hS (lv_sub hl [2, 3, 4, 1, 0] rfl)
    · have h47 := (if_pos c17).symm.trans h15
      exact Jj2  _ _ _ h47 hP hD hS (lv_sub hl [0] rfl)
def T_X3_areUnlikeFloes (g_now_floes : Int32) (p1 : Int32) (p2 : Int32) : Int32 :=
  (jn 0 fun j2 => (if (T_X3_isFloe g_now_floes p1) = 0 then j2 else (if (T_X3_isFloe g_now_floes p2) = 0 then j2 else (if p1 = p2 then j2 else 1))))
abbrev rm_X3_areUnlikeFloes : Room := { frames := 2, cells := 0, slots := 0, locals := 43 }
set_option maxHeartbeats 4000000 in
set_option maxRecDepth 100000 in
theorem c_X3_areUnlikeFloes (l : Launch) (D : va_G) (cyI cyJ cyS : ClassId) (a a_now a_spare a_text : Nat → Nat) (g_above : Int64) (g_below : Int64) (g_bads : Int32) (g_nos : Int32) (g_fulls : Int32) (g_now_month : Int32) (g_now_floes : Int32) (g_now_founds : Int32) (g_now_notes : Int32) (g_now_undos : Int32) (p1 : Int32) (p2 : Int32) (R0 : Int32) (hT : T_X3_areUnlikeFloes g_now_floes p1 p2 = R0) : Met l yX3_areUnlikeFloes wsX3_areUnlikeFloes rm_X3_areUnlikeFloes (va_Pc [.ref (a 0), .int p1, .int p2] (preR D (tyS cyI cyJ cyS) [oX3 a a_now a_spare a_text g_above g_below g_bads g_nos g_fulls, oX1 a_now g_now_month g_now_floes g_now_founds g_now_notes g_now_undos])) (vp_Si (fun r => r = R0 ∧ nb r)) 0 0 (fun _ => False) := by
  refine Met.ofW (cc := cX3_areUnlikeFloes) (maxL := 3) (ret := (some .boolean)) (by decide) rfl ?_
  intro p e s m args below meth c s₁ B hml hv
  obtain ⟨rfl, hP, hKK⟩ := hv
  have hx := B.exec
  have hb := B.bytes
  have hr := B.returns
  have hts := atoms_spec (ws := wsX3_areUnlikeFloes) B.pre
  have hown : s.vm.findClass RX3 = some m.cls := findClass_of_methodNamed B.named
  have hlocks := B.notSynchronized
  have hK := hKK.1
  have inX3 : ∀ w ∈ wsX30, w ∈ wsX3_areUnlikeFloes := (fun _ h => List.mem_cons_of_mem _ (List.mem_append_left _ (List.mem_append_right _ h)))
  have inX1 : ∀ w ∈ wsX10, w ∈ wsX3_areUnlikeFloes := (fun _ h => List.mem_cons_of_mem _ (List.mem_append_right _ h))
  have hP : va_P D vwCl [oX3 a a_now a_spare a_text g_above g_below g_bads g_nos g_fulls, oX1 a_now g_now_month g_now_floes g_now_founds g_now_notes g_now_undos] s.heap := hP
  have hl := lv_entry [.ref (a 0), .int p1, .int p2] (n := 3) (Nat.le_of_ble_eq_true rfl)
  rw [lg_entry_eq]
  generalize (lg_sl [.ref (a 0), .int p1, .int p2] ++ List.replicate (3 - (lg_sl [.ref (a 0), .int p1, .int p2]).length) Slot.unset).toArray = ls at hl ⊢
  have hl : lv_has ls 3 [(0, .ref (a 0)), (1, .int p1), (2, .int p2)] := hl
  unfold T_X3_areUnlikeFloes at hT
  refine lv_aload_n hx hb dX3_areUnlikeFloes_0 rfl (lv_at hl 0 rfl) ?_
  refine lv_iload_n hx hb dX3_areUnlikeFloes_1 rfl (lv_at hl 1 rfl) ?_
  refine kc_Z (W.runV (As := [.int p1]) (rest := []) ⟨hx, hb, hml, hown, hts⟩ (c_X3_isFloe l D cyI cyJ cyS a a_now a_spare a_text g_above g_below g_bads g_nos g_fulls g_now_month g_now_floes g_now_founds g_now_notes g_now_undos p1 (T_X3_isFloe g_now_floes p1) rfl) (cwV 1 hts gX3_areUnlikeFloes_X3_isFloe rfl rfl rfl (by decide +kernel) ⟨(Nat.le_of_ble_eq_true rfl), (Nat.le_of_ble_eq_true rfl)⟩) (preR_V (hP.sub (ws' := [oX3 a a_now a_spare a_text g_above g_below g_bads g_nos g_fulls, oX1 a_now g_now_month g_now_floes g_now_founds g_now_notes g_now_undos]) [0, 1] rfl) hKK (va_recv hK hP (ci := 2) (q0 := 0) rfl rfl)) rfl rfl hl.1 rfl (lv_room (Nat.le_of_ble_eq_true rfl)) dX3_areUnlikeFloes_2 ⟨Nat.zero_le _, Nat.zero_le _⟩) (fun hn1 => ?_)
  obtain ⟨j2, hj3, h4⟩ := jn_e hT
  have Jj2 : ∀ (ls : Array Slot), j2 = R0 → lv_has ls 3 [] → W p l e (headSpec wsX3_areUnlikeFloes rm_X3_areUnlikeFloes).room s m ([.ref (a 0), .int p1, .int p2] : List Value).toArray below meth c s.heap [] 0 0 (MQ below (vp_Si (fun r => r = R0 ∧ nb r)) ([.ref (a 0), .int p1, .int p2] : List Value).toArray s 0 0 (fun _ => False)) (F0 m 25 ls []) := by
    intro ls h5 hl
    rw [hj3] at h5
    refine lv_iconst (v := 0) hx hb dX3_areUnlikeFloes_25 (by decide) ?_
    exact W.zret (v := 0) hx hb hr (nb_n nb_0) (fun t ht hW => ⟨0, rfl, ⟨h5, nb_0⟩, ht⟩) (fun q hq => by cases hq) dX3_areUnlikeFloes_26
  refine lv_if_eq (tgt := 25) hx hb dX3_areUnlikeFloes_5 (by decide) (fun c6 => ?_) (fun c6 => ?_)
  · have h7 := (if_pos c6).symm.trans h4
    exact Jj2  _ h7 (lv_sub hl [] rfl)
  · have h8 := (if_neg c6).symm.trans h4
    refine lv_aload_n hx hb dX3_areUnlikeFloes_8 rfl (lv_at hl 0 rfl) ?_
    refine lv_iload_n hx hb dX3_areUnlikeFloes_9 rfl (lv_at hl 2 rfl) ?_
    refine kc_Z (W.runV (As := [.int p2]) (rest := []) ⟨hx, hb, hml, hown, hts⟩ (c_X3_isFloe l D cyI cyJ cyS a a_now a_spare a_text g_above g_below g_bads g_nos g_fulls g_now_month g_now_floes g_now_founds g_now_notes g_now_undos p2 (T_X3_isFloe g_now_floes p2) rfl) (cwV 1 hts gX3_areUnlikeFloes_X3_isFloe rfl rfl rfl (by decide +kernel) ⟨(Nat.le_of_ble_eq_true rfl), (Nat.le_of_ble_eq_true rfl)⟩) (preR_V (hP.sub (ws' := [oX3 a a_now a_spare a_text g_above g_below g_bads g_nos g_fulls, oX1 a_now g_now_month g_now_floes g_now_founds g_now_notes g_now_undos]) [0, 1] rfl) hKK (va_recv hK hP (ci := 2) (q0 := 0) rfl rfl)) rfl rfl hl.1 rfl (lv_room (Nat.le_of_ble_eq_true rfl)) dX3_areUnlikeFloes_10 ⟨Nat.zero_le _, Nat.zero_le _⟩) (fun hn9 => ?_)
    refine lv_if_eq (tgt := 25) hx hb dX3_areUnlikeFloes_13 (by decide) (fun c10 => ?_) (fun c10 => ?_)
    · have h11 := (if_pos c10).symm.trans h8
      exact Jj2  _ h11 (lv_sub hl [] rfl)
    · have h12 := (if_neg c10).symm.trans h8
      refine lv_iload_n hx hb dX3_areUnlikeFloes_16 rfl (lv_at hl 1 rfl) ?_
      refine lv_iload_n hx hb dX3_areUnlikeFloes_17 rfl (lv_at hl 2 rfl) ?_
      refine lv_icmp_eq (tgt := 25) hx hb dX3_areUnlikeFloes_18 (by decide) (fun c13 => ?_) (fun c13 => ?_)
      · have h14 := (if_pos c13).symm.trans h12
        exact Jj2  _ h14 (lv_sub hl [] rfl)
      · have h15 := (if_neg c13).symm.trans h12
        refine lv_iconst (v := 1) hx hb dX3_areUnlikeFloes_21 (by decide) ?_
        refine lv_goto (tgt := 26) hx hb dX3_areUnlikeFloes_22 (by decide) ?_
        exact W.zret (v := 1) hx hb hr (nb_n nb_1) (fun t ht hW => ⟨1, rfl, ⟨h15, nb_1⟩, ht⟩) (fun q hq => by cases hq) dX3_areUnlikeFloes_26
def T_X3_nearest_L58 (N : Nat) (p1 : Int32) (p2 : Int32) (g_now_month : Int32) (g_now_ways : Nat → Int32) (g_now_strengths : Nat → Int32) (g_now_kinds : Nat → Int32) (k160 : Int32 → Int32 → Option (Int32 × Int32)) : Nat → Int32 → Int32 → Int32 → Int32 → Int32 → Option (Int32 × Int32)
  | 0, _, _, _, _, _ => none
  | n + 1, x29, x30, x31, x32, x33 => (if 60 < x33 then (k160 x31 x32) else (ob p1 5 (Option.bind (T_X1_nextCell N g_now_ways g_now_strengths (g_now_kinds p1.toNatClampNeg) x29 ((g_now_month + x33) - 1)) fun u44 => (ob p2 5 (Option.bind (T_X1_nextCell N g_now_ways g_now_strengths (g_now_kinds p2.toNatClampNeg) x30 ((g_now_month + x33) - 1)) fun u49 => (jn (fun (x52 : Int32) (x53 : Int32) => (lt' (x33 + 1) fun x60 => (T_X3_nearest_L58 N p1 p2 g_now_month g_now_ways g_now_strengths g_now_kinds k160 n u44 u49 x52 x53 x60))) fun j54 => (if x32 ≤ (T_X3_far u44 u49) then (j54 x31 x32) else (lt' (T_X3_far u44 u49) fun x65 => (j54 x33 x65)))))))))
theorem T_X3_nearest_L58_s (N : Nat) (p1 : Int32) (p2 : Int32) (g_now_month : Int32) (g_now_ways : Nat → Int32) (g_now_strengths : Nat → Int32) (g_now_kinds : Nat → Int32) (k160 : Int32 → Int32 → Option (Int32 × Int32)) (n : Nat) (x29 : Int32) (x30 : Int32) (x31 : Int32) (x32 : Int32) (x33 : Int32) : T_X3_nearest_L58 N p1 p2 g_now_month g_now_ways g_now_strengths g_now_kinds k160 (n + 1) x29 x30 x31 x32 x33 = (if 60 < x33 then (k160 x31 x32) else (ob p1 5 (Option.bind (T_X1_nextCell N g_now_ways g_now_strengths (g_now_kinds p1.toNatClampNeg) x29 ((g_now_month + x33) - 1)) fun u44 => (ob p2 5 (Option.bind (T_X1_nextCell N g_now_ways g_now_strengths (g_now_kinds p2.toNatClampNeg) x30 ((g_now_month + x33) - 1)) fun u49 => (jn (fun (x52 : Int32) (x53 : Int32) => (lt' (x33 + 1) fun x60 => (T_X3_nearest_L58 N p1 p2 g_now_month g_now_ways g_now_strengths g_now_kinds k160 n u44 u49 x52 x53 x60))) fun j54 => (if x32 ≤ (T_X3_far u44 u49) then (j54 x31 x32) else (lt' (T_X3_far u44 u49) fun x65 => (j54 x33 x65))))))))) := rfl
def T_X3_nearest (N : Nat) (g_bads : Int32) (g_now_month : Int32) (g_now_floes : Int32) (g_now_ways : Nat → Int32) (g_now_strengths : Nat → Int32) (g_now_kinds : Nat → Int32) (g_now_cells : Nat → Int32) (p1 : Int32) (p2 : Int32) (p3 : Int32) : Option (Int32 × Int32) :=
  (jn (lt' (T_X3_refuseBad g_bads) fun u8 => (some (u8.1, u8.2))) fun j2 => (if (T_X3_areUnlikeFloes g_now_floes p1 p2) = 0 then j2 else (if (T_X3_isFirstOrSecond p3) = 0 then j2 else (ob p1 5 (lt' (g_now_cells p1.toNatClampNeg) fun x21 => (ob p2 5 (lt' (g_now_cells p2.toNatClampNeg) fun x25 => (lt' (T_X3_far x21 x25) fun x27 => (T_X3_nearest_L58 N p1 p2 g_now_month g_now_ways g_now_strengths g_now_kinds (fun (x67 : Int32) (x68 : Int32) => (if p3 = 0 then (some (x67, g_bads)) else (some (x68, g_bads)))) N x21 x25 0 x27 1)))))))))
abbrev rm_X3_nearest : Room := { frames := 3, cells := 0, slots := 0, locals := 75 }
set_option maxHeartbeats 4000000 in
set_option maxRecDepth 100000 in
theorem c_X3_nearest (l : Launch) (D : va_G) (cyI cyJ cyS : ClassId) (N : Nat) (a a_now a_spare a_text : Nat → Nat) (g_above : Int64) (g_below : Int64) (g_bads : Int32) (g_nos : Int32) (g_fulls : Int32) (g_now_month : Int32) (g_now_floes : Int32) (g_now_founds : Int32) (g_now_notes : Int32) (g_now_undos : Int32) (g_now_ways : Nat → Int32) (g_now_strengths : Nat → Int32) (g_now_kinds : Nat → Int32) (g_now_cells : Nat → Int32) (p1 : Int32) (p2 : Int32) (p3 : Int32) (sz : Nat) (R0 : Int32 × Int32) (hT : T_X3_nearest N g_bads g_now_month g_now_floes g_now_ways g_now_strengths g_now_kinds g_now_cells p1 p2 p3 = some R0) : Met l yX3_nearest wsX3_nearest rm_X3_nearest (va_Pc [.ref (a 0), .int p1, .int p2, .int p3] (preW D (tyS cyI cyJ cyS) [oX3 a a_now a_spare a_text g_above g_below g_bads g_nos g_fulls, oX1 a_now g_now_month g_now_floes g_now_founds g_now_notes g_now_undos, rI cyI (a_now 1) 12 g_now_ways, rI cyI (a_now 2) 12 g_now_strengths, rI cyI (a_now 3) 5 g_now_kinds, rI cyI (a_now 4) 5 g_now_cells] sz)) (va_Qi (fun (r : Int32) (_ : Unit) => r = R0.1) (fun _ t => va_P D vwCl [oX3 a a_now a_spare a_text g_above g_below R0.2 g_nos g_fulls, oX1 a_now g_now_month g_now_floes g_now_founds g_now_notes g_now_undos, rI cyI (a_now 1) 12 g_now_ways, rI cyI (a_now 2) 12 g_now_strengths, rI cyI (a_now 3) 5 g_now_kinds, rI cyI (a_now 4) 5 g_now_cells] t.heap ∧ va_D (va_A [oX3 a a_now a_spare a_text g_above g_below g_bads g_nos g_fulls, oX1 a_now g_now_month g_now_floes g_now_founds g_now_notes g_now_undos, rI cyI (a_now 1) 12 g_now_ways, rI cyI (a_now 2) 12 g_now_strengths, rI cyI (a_now 3) 5 g_now_kinds, rI cyI (a_now 4) 5 g_now_cells] sz) [oX3 a a_now a_spare a_text g_above g_below R0.2 g_nos g_fulls, oX1 a_now g_now_month g_now_floes g_now_founds g_now_notes g_now_undos, rI cyI (a_now 1) 12 g_now_ways, rI cyI (a_now 2) 12 g_now_strengths, rI cyI (a_now 3) 5 g_now_kinds, rI cyI (a_now 4) 5 g_now_cells]) (va_A [oX3 a a_now a_spare a_text g_above g_below g_bads g_nos g_fulls, oX1 a_now g_now_month g_now_floes g_now_founds g_now_notes g_now_undos, rI cyI (a_now 1) 12 g_now_ways, rI cyI (a_now 2) 12 g_now_strengths, rI cyI (a_now 3) 5 g_now_kinds, rI cyI (a_now 4) 5 g_now_cells] sz)) 0 0 (va_A [oX3 a a_now a_spare a_text g_above g_below g_bads g_nos g_fulls, oX1 a_now g_now_month g_now_floes g_now_founds g_now_notes g_now_undos, rI cyI (a_now 1) 12 g_now_ways, rI cyI (a_now 2) 12 g_now_strengths, rI cyI (a_now 3) 5 g_now_kinds, rI cyI (a_now 4) 5 g_now_cells] sz) := by
  refine Met.ofW (cc := cX3_nearest) (maxL := 9) (ret := (some .int)) (by decide) rfl ?_
  intro p e s m args below meth c s₁ B hml hv
  obtain ⟨rfl, hsz, hP, hKK, hD0⟩ := hv
  have hx := B.exec
  have hb := B.bytes
  have hr := B.returns
  have hts := atoms_spec (ws := wsX3_nearest) B.pre
  have hown : s.vm.findClass RX3 = some m.cls := findClass_of_methodNamed B.named
  have hlocks := B.notSynchronized
  have hK := hKK.1
  have inX3 : ∀ w ∈ wsX30, w ∈ wsX3_nearest := (fun _ h => List.mem_cons_of_mem _ (List.mem_append_left _ (List.mem_append_right _ h)))
  have inX1 : ∀ w ∈ wsX10, w ∈ wsX3_nearest := (fun _ h => List.mem_cons_of_mem _ (List.mem_append_right _ h))
  subst hsz
  have hD := hD0.self (sz := s.heap.size)
  generalize hAe : va_A [oX3 a a_now a_spare a_text g_above g_below g_bads g_nos g_fulls, oX1 a_now g_now_month g_now_floes g_now_founds g_now_notes g_now_undos, rI cyI (a_now 1) 12 g_now_ways, rI cyI (a_now 2) 12 g_now_strengths, rI cyI (a_now 3) 5 g_now_kinds, rI cyI (a_now 4) 5 g_now_cells] s.heap.size = A at hD ⊢
  have hA : ∀ q : Nat, s.heap.size ≤ q → A q := fun q h => by rw [← hAe]; exact Or.inr h
  have hS : va_S A s.heap s.heap [] := va_S.rf
  have hP : va_P D vwCl [oX3 a a_now a_spare a_text g_above g_below g_bads g_nos g_fulls, oX1 a_now g_now_month g_now_floes g_now_founds g_now_notes g_now_undos, rI cyI (a_now 1) 12 g_now_ways, rI cyI (a_now 2) 12 g_now_strengths, rI cyI (a_now 3) 5 g_now_kinds, rI cyI (a_now 4) 5 g_now_cells] s.heap := hP
  have hl := lv_entry [.ref (a 0), .int p1, .int p2, .int p3] (n := 9) (Nat.le_of_ble_eq_true rfl)
  rw [lg_entry_eq]
  generalize (lg_sl [.ref (a 0), .int p1, .int p2, .int p3] ++ List.replicate (9 - (lg_sl [.ref (a 0), .int p1, .int p2, .int p3]).length) Slot.unset).toArray = ls at hl ⊢
  have hl : lv_has ls 9 [(0, .ref (a 0)), (1, .int p1), (2, .int p2), (3, .int p3)] := hl
  have L58 : ∀ (k160 : Int32 → Int32 → Option (Int32 × Int32)) (hk160 : ∀ (x34 : Int32) (x35 : Int32) (H : Heap) (locs : List Loc) (ls : Array Slot), k160 x34 x35 = some R0 → va_P D vwCl [oX3 a a_now a_spare a_text g_above g_below g_bads g_nos g_fulls, oX1 a_now g_now_month g_now_floes g_now_founds g_now_notes g_now_undos, rI cyI (a_now 1) 12 g_now_ways, rI cyI (a_now 2) 12 g_now_strengths, rI cyI (a_now 3) 5 g_now_kinds, rI cyI (a_now 4) 5 g_now_cells] H → va_D A [oX3 a a_now a_spare a_text g_above g_below g_bads g_nos g_fulls, oX1 a_now g_now_month g_now_floes g_now_founds g_now_notes g_now_undos, rI cyI (a_now 1) 12 g_now_ways, rI cyI (a_now 2) 12 g_now_strengths, rI cyI (a_now 3) 5 g_now_kinds, rI cyI (a_now 4) 5 g_now_cells] → va_S A s.heap H locs → lv_has ls 9 [(3, .int p3), (6, .int x34), (7, .int x35)] → W p l e (headSpec wsX3_nearest rm_X3_nearest).room s m ([.ref (a 0), .int p1, .int p2, .int p3] : List Value).toArray below meth c H locs 0 0 (MQ below (va_Qi (fun (r : Int32) (_ : Unit) => r = R0.1) (fun _ t => va_P D vwCl [oX3 a a_now a_spare a_text g_above g_below R0.2 g_nos g_fulls, oX1 a_now g_now_month g_now_floes g_now_founds g_now_notes g_now_undos, rI cyI (a_now 1) 12 g_now_ways, rI cyI (a_now 2) 12 g_now_strengths, rI cyI (a_now 3) 5 g_now_kinds, rI cyI (a_now 4) 5 g_now_cells] t.heap ∧ va_D A [oX3 a a_now a_spare a_text g_above g_below R0.2 g_nos g_fulls, oX1 a_now g_now_month g_now_floes g_now_founds g_now_notes g_now_undos, rI cyI (a_now 1) 12 g_now_ways, rI cyI (a_now 2) 12 g_now_strengths, rI cyI (a_now 3) 5 g_now_kinds, rI cyI (a_now 4) 5 g_now_cells]) A) ([.ref (a 0), .int p1, .int p2, .int p3] : List Value).toArray s 0 0 A) (F0 m 160 ls [])) (n : Nat), ∀ (x29 : Int32) (x30 : Int32) (x31 : Int32) (x32 : Int32) (x33 : Int32) (H : Heap) (locs : List Loc) (ls : Array Slot), T_X3_nearest_L58 N p1 p2 g_now_month g_now_ways g_now_strengths g_now_kinds k160 n x29 x30 x31 x32 x33 = some R0 → va_P D vwCl [oX3 a a_now a_spare a_text g_above g_below g_bads g_nos g_fulls, oX1 a_now g_now_month g_now_floes g_now_founds g_now_notes g_now_undos, rI cyI (a_now 1) 12 g_now_ways, rI cyI (a_now 2) 12 g_now_strengths, rI cyI (a_now 3) 5 g_now_kinds, rI cyI (a_now 4) 5 g_now_cells] H → va_D A [oX3 a a_now a_spare a_text g_above g_below g_bads g_nos g_fulls, oX1 a_now g_now_month g_now_floes g_now_founds g_now_notes g_now_undos, rI cyI (a_now 1) 12 g_now_ways, rI cyI (a_now 2) 12 g_now_strengths, rI cyI (a_now 3) 5 g_now_kinds, rI cyI (a_now 4) 5 g_now_cells] → va_S A s.heap H locs → lv_has ls 9 [(0, .ref (a 0)), (1, .int p1), (2, .int p2), (3, .int p3), (4, .int x29), (5, .int x30), (6, .int x31), (7, .int x32), (8, .int x33)] → W p l e (headSpec wsX3_nearest rm_X3_nearest).room s m ([.ref (a 0), .int p1, .int p2, .int p3] : List Value).toArray below meth c H locs 0 0 (MQ below (va_Qi (fun (r : Int32) (_ : Unit) => r = R0.1) (fun _ t => va_P D vwCl [oX3 a a_now a_spare a_text g_above g_below R0.2 g_nos g_fulls, oX1 a_now g_now_month g_now_floes g_now_founds g_now_notes g_now_undos, rI cyI (a_now 1) 12 g_now_ways, rI cyI (a_now 2) 12 g_now_strengths, rI cyI (a_now 3) 5 g_now_kinds, rI cyI (a_now 4) 5 g_now_cells] t.heap ∧ va_D A [oX3 a a_now a_spare a_text g_above g_below R0.2 g_nos g_fulls, oX1 a_now g_now_month g_now_floes g_now_founds g_now_notes g_now_undos, rI cyI (a_now 1) 12 g_now_ways, rI cyI (a_now 2) 12 g_now_strengths, rI cyI (a_now 3) 5 g_now_kinds, rI cyI (a_now 4) 5 g_now_cells]) A) ([.ref (a 0), .int p1, .int p2, .int p3] : List Value).toArray s 0 0 A) (F0 m 58 ls []) := by
    intro k160 hk160 n
    induction n with
    | zero => intro _ _ _ _ _ _ _ _ h; exact absurd h (fun z => by cases z)
    | succ n ih =>
      intro x29 x30 x31 x32 x33 H37 L38 ls h36 hP hD hS hl
      rw [T_X3_nearest_L58_s] at h36
      refine lv_iload hx hb dX3_nearest_58 (lv_at hl 8 rfl) ?_
      refine lv_bipush (v := 60) hx hb dX3_nearest_60 (by decide) ?_
      refine lv_icmp_gt (tgt := 160) hx hb dX3_nearest_62 (by decide) (fun c39 => ?_) (fun c39 => ?_)
      · have h40 := (if_pos c39).symm.trans h36
        exact hk160 x31 x32 _ _ _ h40 hP hD hS (lv_sub hl [3, 6, 7] rfl)
      · have h41 := (if_neg c39).symm.trans h36
        refine lv_aload_n hx hb dX3_nearest_65 rfl (lv_at hl 0 rfl) ?_
        refine va_get (D := D) (cl := vwCl) (ci := 2) (v := .ref (a_now 0)) (C := RX3) (T := TX3) (N := 12) hx hb hts inX3 hown hK hP 0 rfl rfl 0 (by decide) (hts (Cond.fieldLink RX3 10 "FrozenIn" "now" "LFrozenIn$Sea;") (List.mem_of_getElem? (i := 1) rfl)) (fun _ h9 => h9) rfl dX3_nearest_66 ?_
        refine lv_aload_n hx hb dX3_nearest_69 rfl (lv_at hl 0 rfl) ?_
        refine va_get (D := D) (cl := vwCl) (ci := 2) (v := .ref (a_now 0)) (C := RX3) (T := TX3) (N := 12) hx hb hts inX3 hown hK hP 0 rfl rfl 0 (by decide) (hts (Cond.fieldLink RX3 10 "FrozenIn" "now" "LFrozenIn$Sea;") (List.mem_of_getElem? (i := 1) rfl)) (fun _ h9 => h9) rfl dX3_nearest_70 ?_
        refine va_get (D := D) (cl := vwCl) (ci := 0) (v := .ref (a_now 3)) (C := RX1) (T := TX1) (N := 13) hx hb hts inX1 hown hK hP 1 rfl rfl 4 (by decide) (hts (Cond.fieldLink RX3 141 "FrozenIn$Sea" "kinds" "[I") (List.mem_of_getElem? (i := 3) rfl)) (fun _ h9 => h9) rfl dX3_nearest_73 ?_
        refine lv_iload_n hx hb dX3_nearest_76 rfl (lv_at hl 1 rfl) ?_
        obtain ⟨hi43, h42⟩ := ob_e h41
        refine va_iald hx hb hK hP 4 0 rfl rfl hi43 dX3_nearest_77 ?_
        refine lv_iload hx hb dX3_nearest_78 (lv_at hl 4 rfl) ?_
        refine lv_aload_n hx hb dX3_nearest_80 rfl (lv_at hl 0 rfl) ?_
        refine va_get (D := D) (cl := vwCl) (ci := 2) (v := .ref (a_now 0)) (C := RX3) (T := TX3) (N := 12) hx hb hts inX3 hown hK hP 0 rfl rfl 0 (by decide) (hts (Cond.fieldLink RX3 10 "FrozenIn" "now" "LFrozenIn$Sea;") (List.mem_of_getElem? (i := 1) rfl)) (fun _ h9 => h9) rfl dX3_nearest_81 ?_
        refine va_get (D := D) (cl := vwCl) (ci := 0) (v := .int g_now_month) (C := RX1) (T := TX1) (N := 13) hx hb hts inX1 hown hK hP 1 rfl rfl 0 (by decide) (hts (Cond.fieldLink RX3 138 "FrozenIn$Sea" "month" "I") (List.mem_of_getElem? (i := 4) rfl)) (fun _ h9 => h9) rfl dX3_nearest_84 ?_
        refine lv_iload hx hb dX3_nearest_87 (lv_at hl 8 rfl) ?_
        refine lv_iadd hx hb dX3_nearest_89 ?_
        refine lv_iconst (v := 1) hx hb dX3_nearest_90 (by decide) ?_
        refine lv_isub hx hb dX3_nearest_91 ?_
        obtain ⟨u44, hu45, h46⟩ := bd_e h42
        refine kc_I (W.runV (As := [.int (g_now_kinds p1.toNatClampNeg), .int x29, .int ((g_now_month + x33) - 1)]) (rest := []) ⟨hx, hb, hml, hown, hts⟩ (c_X1_nextCell l D cyI cyJ cyS N a_now g_now_month g_now_floes g_now_founds g_now_notes g_now_undos g_now_ways g_now_strengths (g_now_kinds p1.toNatClampNeg) x29 ((g_now_month + x33) - 1) u44 hu45) (cwV 3 hts gX3_nearest_X1_nextCell rfl rfl rfl (by decide +kernel) ⟨(Nat.le_of_ble_eq_true rfl), (Nat.le_of_ble_eq_true rfl)⟩) (preR_V (hP.sub (ws' := [oX1 a_now g_now_month g_now_floes g_now_founds g_now_notes g_now_undos, rI cyI (a_now 1) 12 g_now_ways, rI cyI (a_now 2) 12 g_now_strengths]) [1, 2, 3] rfl) hKK (va_recv hK hP (ci := 0) (q0 := 1) rfl rfl)) rfl rfl hl.1 rfl (lv_room (Nat.le_of_ble_eq_true rfl)) dX3_nearest_92 ⟨Nat.zero_le _, Nat.zero_le _⟩) ?_
        refine lv_istore (lv' := [(4, .int u44), (0, .ref (a 0)), (1, .int p1), (2, .int p2), (3, .int p3), (5, .int x30), (6, .int x31), (7, .int x32), (8, .int x33)]) hx hb dX3_nearest_95 hl (by decide) rfl (fun ls hl => ?_)
        refine lv_aload_n hx hb dX3_nearest_97 rfl (lv_at hl 1 rfl) ?_
        refine va_get (D := D) (cl := vwCl) (ci := 2) (v := .ref (a_now 0)) (C := RX3) (T := TX3) (N := 12) hx hb hts inX3 hown hK hP 0 rfl rfl 0 (by decide) (hts (Cond.fieldLink RX3 10 "FrozenIn" "now" "LFrozenIn$Sea;") (List.mem_of_getElem? (i := 1) rfl)) (fun _ h9 => h9) rfl dX3_nearest_98 ?_
        refine lv_aload_n hx hb dX3_nearest_101 rfl (lv_at hl 1 rfl) ?_
        refine va_get (D := D) (cl := vwCl) (ci := 2) (v := .ref (a_now 0)) (C := RX3) (T := TX3) (N := 12) hx hb hts inX3 hown hK hP 0 rfl rfl 0 (by decide) (hts (Cond.fieldLink RX3 10 "FrozenIn" "now" "LFrozenIn$Sea;") (List.mem_of_getElem? (i := 1) rfl)) (fun _ h9 => h9) rfl dX3_nearest_102 ?_
        refine va_get (D := D) (cl := vwCl) (ci := 0) (v := .ref (a_now 3)) (C := RX1) (T := TX1) (N := 13) hx hb hts inX1 hown hK hP 1 rfl rfl 4 (by decide) (hts (Cond.fieldLink RX3 141 "FrozenIn$Sea" "kinds" "[I") (List.mem_of_getElem? (i := 3) rfl)) (fun _ h9 => h9) rfl dX3_nearest_105 ?_
        refine lv_iload_n hx hb dX3_nearest_108 rfl (lv_at hl 3 rfl) ?_
        obtain ⟨hi48, h47⟩ := ob_e h46
        refine va_iald hx hb hK hP 4 0 rfl rfl hi48 dX3_nearest_109 ?_
        refine lv_iload hx hb dX3_nearest_110 (lv_at hl 5 rfl) ?_
        refine lv_aload_n hx hb dX3_nearest_112 rfl (lv_at hl 1 rfl) ?_
        refine va_get (D := D) (cl := vwCl) (ci := 2) (v := .ref (a_now 0)) (C := RX3) (T := TX3) (N := 12) hx hb hts inX3 hown hK hP 0 rfl rfl 0 (by decide) (hts (Cond.fieldLink RX3 10 "FrozenIn" "now" "LFrozenIn$Sea;") (List.mem_of_getElem? (i := 1) rfl)) (fun _ h9 => h9) rfl dX3_nearest_113 ?_
        refine va_get (D := D) (cl := vwCl) (ci := 0) (v := .int g_now_month) (C := RX1) (T := TX1) (N := 13) hx hb hts inX1 hown hK hP 1 rfl rfl 0 (by decide) (hts (Cond.fieldLink RX3 138 "FrozenIn$Sea" "month" "I") (List.mem_of_getElem? (i := 4) rfl)) (fun _ h9 => h9) rfl dX3_nearest_116 ?_
        refine lv_iload hx hb dX3_nearest_119 (lv_at hl 8 rfl) ?_
        refine lv_iadd hx hb dX3_nearest_121 ?_
        refine lv_iconst (v := 1) hx hb dX3_nearest_122 (by decide) ?_
        refine lv_isub hx hb dX3_nearest_123 ?_
        obtain ⟨u49, hu50, h51⟩ := bd_e h47
        refine kc_I (W.runV (As := [.int (g_now_kinds p2.toNatClampNeg), .int x30, .int ((g_now_month + x33) - 1)]) (rest := []) ⟨hx, hb, hml, hown, hts⟩ (c_X1_nextCell l D cyI cyJ cyS N a_now g_now_month g_now_floes g_now_founds g_now_notes g_now_undos g_now_ways g_now_strengths (g_now_kinds p2.toNatClampNeg) x30 ((g_now_month + x33) - 1) u49 hu50) (cwV 3 hts gX3_nearest_X1_nextCell rfl rfl rfl (by decide +kernel) ⟨(Nat.le_of_ble_eq_true rfl), (Nat.le_of_ble_eq_true rfl)⟩) (preR_V (hP.sub (ws' := [oX1 a_now g_now_month g_now_floes g_now_founds g_now_notes g_now_undos, rI cyI (a_now 1) 12 g_now_ways, rI cyI (a_now 2) 12 g_now_strengths]) [1, 2, 3] rfl) hKK (va_recv hK hP (ci := 0) (q0 := 1) rfl rfl)) rfl rfl hl.1 rfl (lv_room (Nat.le_of_ble_eq_true rfl)) dX3_nearest_124 ⟨Nat.zero_le _, Nat.zero_le _⟩) ?_
        refine lv_istore (lv' := [(5, .int u49), (4, .int u44), (0, .ref (a 0)), (1, .int p1), (2, .int p2), (3, .int p3), (6, .int x31), (7, .int x32), (8, .int x33)]) hx hb dX3_nearest_127 hl (by decide) rfl (fun ls hl => ?_)
        refine lv_iload hx hb dX3_nearest_129 (lv_at hl 1 rfl) ?_
        refine lv_iload hx hb dX3_nearest_131 (lv_at hl 0 rfl) ?_
        refine kc_I (W.runS (As := [.int u44, .int u49]) (rest := []) ⟨hx, hb, hml, hown, hts⟩ (c_X3_far l u44 u49 (T_X3_far u44 u49) rfl) (va_cwS 2 hts gX3_nearest_X3_far rfl rfl rfl (by decide +kernel) ⟨(Nat.le_of_ble_eq_true rfl), (Nat.le_of_ble_eq_true rfl)⟩) preT_S rfl rfl hl.1 rfl (lv_room (Nat.le_of_ble_eq_true rfl)) dX3_nearest_133 ⟨Nat.zero_le _, Nat.zero_le _⟩) ?_
        refine lv_iload hx hb dX3_nearest_136 (lv_at hl 7 rfl) ?_
        obtain ⟨j54, hj55, h56⟩ := jn_e h51
        have Jj54 : ∀ (x52 : Int32) (x53 : Int32) (H : Heap) (locs : List Loc) (ls : Array Slot), j54 x52 x53 = some R0 → va_P D vwCl [oX3 a a_now a_spare a_text g_above g_below g_bads g_nos g_fulls, oX1 a_now g_now_month g_now_floes g_now_founds g_now_notes g_now_undos, rI cyI (a_now 1) 12 g_now_ways, rI cyI (a_now 2) 12 g_now_strengths, rI cyI (a_now 3) 5 g_now_kinds, rI cyI (a_now 4) 5 g_now_cells] H → va_D A [oX3 a a_now a_spare a_text g_above g_below g_bads g_nos g_fulls, oX1 a_now g_now_month g_now_floes g_now_founds g_now_notes g_now_undos, rI cyI (a_now 1) 12 g_now_ways, rI cyI (a_now 2) 12 g_now_strengths, rI cyI (a_now 3) 5 g_now_kinds, rI cyI (a_now 4) 5 g_now_cells] → va_S A s.heap H locs → lv_has ls 9 [(0, .ref (a 0)), (1, .int p1), (2, .int p2), (3, .int p3), (4, .int u44), (5, .int u49), (6, .int x52), (7, .int x53), (8, .int x33)] → W p l e (headSpec wsX3_nearest rm_X3_nearest).room s m ([.ref (a 0), .int p1, .int p2, .int p3] : List Value).toArray below meth c H locs 0 0 (MQ below (va_Qi (fun (r : Int32) (_ : Unit) => r = R0.1) (fun _ t => va_P D vwCl [oX3 a a_now a_spare a_text g_above g_below R0.2 g_nos g_fulls, oX1 a_now g_now_month g_now_floes g_now_founds g_now_notes g_now_undos, rI cyI (a_now 1) 12 g_now_ways, rI cyI (a_now 2) 12 g_now_strengths, rI cyI (a_now 3) 5 g_now_kinds, rI cyI (a_now 4) 5 g_now_cells] t.heap ∧ va_D A [oX3 a a_now a_spare a_text g_above g_below R0.2 g_nos g_fulls, oX1 a_now g_now_month g_now_floes g_now_founds g_now_notes g_now_undos, rI cyI (a_now 1) 12 g_now_ways, rI cyI (a_now 2) 12 g_now_strengths, rI cyI (a_now 3) 5 g_now_kinds, rI cyI (a_now 4) 5 g_now_cells]) A) ([.ref (a 0), .int p1, .int p2, .int p3] : List Value).toArray s 0 0 A) (F0 m 154 ls []) := by
          intro x52 x53 H58 L59 ls h57 hP hD hS hl
          rw [hj55] at h57
          obtain ⟨x60, ex60, h61⟩ := lt_e h57
          refine lv_iinc (v := x60) (lv' := [(8, .int x60), (0, .ref (a 0)), (1, .int p1), (2, .int p2), (3, .int p3), (4, .int u44), (5, .int u49), (6, .int x52), (7, .int x53)]) hx hb dX3_nearest_154 hl (k := 8) rfl (by rw [ex60]; rfl) (by decide) rfl (fun ls hl => ?_)
          refine lv_goto (tgt := 58) hx hb dX3_nearest_157 (by decide) ?_
          exact ih u44 u49 x52 x53 x60 _ _ _ h61 hP hD hS (lv_sub hl [1, 2, 3, 4, 5, 6, 7, 8, 0] rfl)
        refine lv_icmp_ge (tgt := 154) hx hb dX3_nearest_138 (by decide) (fun c62 => ?_) (fun c62 => ?_)
        · have h63 := (if_pos c62).symm.trans h56
          exact Jj54 x31 x32 _ _ _ h63 hP hD hS (lv_sub hl [2, 3, 4, 5, 1, 0, 6, 7, 8] rfl)
        · have h64 := (if_neg c62).symm.trans h56
          refine lv_iload hx hb dX3_nearest_141 (lv_at hl 1 rfl) ?_
          refine lv_iload hx hb dX3_nearest_143 (lv_at hl 0 rfl) ?_
          refine kc_I (W.runS (As := [.int u44, .int u49]) (rest := []) ⟨hx, hb, hml, hown, hts⟩ (c_X3_far l u44 u49 (T_X3_far u44 u49) rfl) (va_cwS 2 hts gX3_nearest_X3_far rfl rfl rfl (by decide +kernel) ⟨(Nat.le_of_ble_eq_true rfl), (Nat.le_of_ble_eq_true rfl)⟩) preT_S rfl rfl hl.1 rfl (lv_room (Nat.le_of_ble_eq_true rfl)) dX3_nearest_145 ⟨Nat.zero_le _, Nat.zero_le _⟩) ?_
          obtain ⟨x65, ex65, h66⟩ := lt_e h64
          refine lv_nm ex65 ?_
          refine lv_istore (lv' := [(7, .int x65), (5, .int u49), (4, .int u44), (0, .ref (a 0)), (1, .int p1), (2, .int p2), (3, .int p3), (6, .int x31), (8, .int x33)]) hx hb dX3_nearest_148 hl (by decide) rfl (fun ls hl => ?_)
          refine lv_iload hx hb dX3_nearest_150 (lv_at hl 8 rfl) ?_
          refine lv_istore (lv' := [(6, .int x33), (7, .int x65), (5, .int u49), (4, .int u44), (0, .ref (a 0)), (1, .int p1), (2, .int p2), (3, .int p3), (8, .int x33)]) hx hb dX3_nearest_152 hl (by decide) rfl (fun ls hl => ?_)
          exact Jj54 x33 x65 _ _ _ h66 hP hD hS (lv_sub hl [4, 5, 6, 7, 3, 2, 0, 1, 8] rfl)
  unfold T_X3_nearest at hT
  refine lv_aload_n hx hb dX3_nearest_0 rfl (lv_at hl 0 rfl) ?_
  refine lv_iload_n hx hb dX3_nearest_1 rfl (lv_at hl 1 rfl) ?_
  refine lv_iload_n hx hb dX3_nearest_2 rfl (lv_at hl 2 rfl) ?_
  refine kc_Z (W.runV (As := [.int p1, .int p2]) (rest := []) ⟨hx, hb, hml, hown, hts⟩ (c_X3_areUnlikeFloes l D cyI cyJ cyS a a_now a_spare a_text g_above g_below g_bads g_nos g_fulls g_now_month g_now_floes g_now_founds g_now_notes g_now_undos p1 p2 (T_X3_areUnlikeFloes g_now_floes p1 p2) rfl) (cwV 2 hts gX3_nearest_X3_areUnlikeFloes rfl rfl rfl (by decide +kernel) ⟨(Nat.le_of_ble_eq_true rfl), (Nat.le_of_ble_eq_true rfl)⟩) (preR_V (hP.sub (ws' := [oX3 a a_now a_spare a_text g_above g_below g_bads g_nos g_fulls, oX1 a_now g_now_month g_now_floes g_now_founds g_now_notes g_now_undos]) [0, 1] rfl) hKK (va_recv hK hP (ci := 2) (q0 := 0) rfl rfl)) rfl rfl hl.1 rfl (lv_room (Nat.le_of_ble_eq_true rfl)) dX3_nearest_3 ⟨Nat.zero_le _, Nat.zero_le _⟩) (fun hn1 => ?_)
  obtain ⟨j2, hj3, h4⟩ := jn_e hT
  have Jj2 : ∀ (H : Heap) (locs : List Loc) (ls : Array Slot), j2 = some R0 → va_P D vwCl [oX3 a a_now a_spare a_text g_above g_below g_bads g_nos g_fulls, oX1 a_now g_now_month g_now_floes g_now_founds g_now_notes g_now_undos, rI cyI (a_now 1) 12 g_now_ways, rI cyI (a_now 2) 12 g_now_strengths, rI cyI (a_now 3) 5 g_now_kinds, rI cyI (a_now 4) 5 g_now_cells] H → va_D A [oX3 a a_now a_spare a_text g_above g_below g_bads g_nos g_fulls, oX1 a_now g_now_month g_now_floes g_now_founds g_now_notes g_now_undos, rI cyI (a_now 1) 12 g_now_ways, rI cyI (a_now 2) 12 g_now_strengths, rI cyI (a_now 3) 5 g_now_kinds, rI cyI (a_now 4) 5 g_now_cells] → va_S A s.heap H locs → lv_has ls 9 [(0, .ref (a 0))] → W p l e (headSpec wsX3_nearest rm_X3_nearest).room s m ([.ref (a 0), .int p1, .int p2, .int p3] : List Value).toArray below meth c H locs 0 0 (MQ below (va_Qi (fun (r : Int32) (_ : Unit) => r = R0.1) (fun _ t => va_P D vwCl [oX3 a a_now a_spare a_text g_above g_below R0.2 g_nos g_fulls, oX1 a_now g_now_month g_now_floes g_now_founds g_now_notes g_now_undos, rI cyI (a_now 1) 12 g_now_ways, rI cyI (a_now 2) 12 g_now_strengths, rI cyI (a_now 3) 5 g_now_kinds, rI cyI (a_now 4) 5 g_now_cells] t.heap ∧ va_D A [oX3 a a_now a_spare a_text g_above g_below R0.2 g_nos g_fulls, oX1 a_now g_now_month g_now_floes g_now_founds g_now_notes g_now_undos, rI cyI (a_now 1) 12 g_now_ways, rI cyI (a_now 2) 12 g_now_strengths, rI cyI (a_now 3) 5 g_now_kinds, rI cyI (a_now 4) 5 g_now_cells]) A) ([.ref (a 0), .int p1, .int p2, .int p3] : List Value).toArray s 0 0 A) (F0 m 16 ls []) := by
    intro H6 L7 ls h5 hP hD hS hl
    rw [hj3] at h5
    refine lv_aload_n hx hb dX3_nearest_16 rfl (lv_at hl 0 rfl) ?_
    obtain ⟨u8, hu9, h10⟩ := lt_e h5
    refine kw_I (wc := [oX3 a a_now a_spare a_text g_above g_below g_bads g_nos g_fulls]) (wr := [oX1 a_now g_now_month g_now_floes g_now_founds g_now_notes g_now_undos, rI cyI (a_now 1) 12 g_now_ways, rI cyI (a_now 2) 12 g_now_strengths, rI cyI (a_now 3) 5 g_now_kinds, rI cyI (a_now 4) 5 g_now_cells]) (ws' := [oX3 a a_now a_spare a_text g_above g_below u8.2 g_nos g_fulls, oX1 a_now g_now_month g_now_floes g_now_founds g_now_notes g_now_undos, rI cyI (a_now 1) 12 g_now_ways, rI cyI (a_now 2) 12 g_now_strengths, rI cyI (a_now 3) 5 g_now_kinds, rI cyI (a_now 4) 5 g_now_cells]) (va_runV (As := []) (rest := []) ⟨hx, hb, hml, hown, hts⟩ (c_X3_refuseBad l D cyI cyJ cyS a a_now a_spare a_text g_above g_below g_bads g_nos g_fulls H6.size u8 hu9.symm) (cwV 0 hts gX3_nearest_X3_refuseBad rfl rfl rfl (by decide +kernel) ⟨(Nat.le_of_ble_eq_true rfl), (Nat.le_of_ble_eq_true rfl)⟩) (preW_V (hP.sub (ws' := [oX3 a a_now a_spare a_text g_above g_below g_bads g_nos g_fulls]) [0] rfl) (hD.sub (ws' := [oX3 a a_now a_spare a_text g_above g_below g_bads g_nos g_fulls]) [0] (by decide) rfl) hKK (va_recv hK hP (ci := 2) (q0 := 0) rfl rfl)) rfl rfl hl.1 rfl (lv_room (Nat.le_of_ble_eq_true rfl)) dX3_nearest_17 ⟨Nat.zero_le _, Nat.zero_le _⟩) hP hD hS hA [0] [1, 2, 3, 4, 5] [5, 0, 1, 2, 3, 4] rfl rfl (by decide) (by decide) rfl (by decide) (fun H11 L12 hP hD hS => ?_)
    rw [← Option.some.inj h10]
    exact W.iret (v := u8.1) hx hb hr (fun t ht hW => ⟨⟨u8.1, (), rfl, rfl, ⟨by rw [ht]; exact hP, hD⟩⟩, hS.F ht⟩) hS.2.2 dX3_nearest_20
  refine lv_if_eq (tgt := 16) hx hb dX3_nearest_6 (by decide) (fun c13 => ?_) (fun c13 => ?_)
  · have h14 := (if_pos c13).symm.trans h4
    exact Jj2  _ _ _ h14 hP hD hS (lv_sub hl [0] rfl)
  · have h15 := (if_neg c13).symm.trans h4
    refine lv_iload_n hx hb dX3_nearest_9 rfl (lv_at hl 3 rfl) ?_
    refine kc_Z (W.runS (As := [.int p3]) (rest := []) ⟨hx, hb, hml, hown, hts⟩ (c_X3_isFirstOrSecond l p3 (T_X3_isFirstOrSecond p3) rfl) (va_cwS 1 hts gX3_nearest_X3_isFirstOrSecond rfl rfl rfl (by decide +kernel) ⟨(Nat.le_of_ble_eq_true rfl), (Nat.le_of_ble_eq_true rfl)⟩) preT_S rfl rfl hl.1 rfl (lv_room (Nat.le_of_ble_eq_true rfl)) dX3_nearest_10 ⟨Nat.zero_le _, Nat.zero_le _⟩) (fun hn16 => ?_)
    refine lv_if_ne (tgt := 21) hx hb dX3_nearest_13 (by decide) (fun c17 => ?_) (fun c17 => ?_)
    · have h18 := (if_neg c17).symm.trans h15
      refine lv_aload_n hx hb dX3_nearest_21 rfl (lv_at hl 0 rfl) ?_
      refine va_get (D := D) (cl := vwCl) (ci := 2) (v := .ref (a_now 0)) (C := RX3) (T := TX3) (N := 12) hx hb hts inX3 hown hK hP 0 rfl rfl 0 (by decide) (hts (Cond.fieldLink RX3 10 "FrozenIn" "now" "LFrozenIn$Sea;") (List.mem_of_getElem? (i := 1) rfl)) (fun _ h9 => h9) rfl dX3_nearest_22 ?_
      refine va_get (D := D) (cl := vwCl) (ci := 0) (v := .ref (a_now 4)) (C := RX1) (T := TX1) (N := 13) hx hb hts inX1 hown hK hP 1 rfl rfl 5 (by decide) (hts (Cond.fieldLink RX3 126 "FrozenIn$Sea" "cells" "[I") (List.mem_of_getElem? (i := 2) rfl)) (fun _ h9 => h9) rfl dX3_nearest_25 ?_
      refine lv_iload_n hx hb dX3_nearest_28 rfl (lv_at hl 1 rfl) ?_
      obtain ⟨hi20, h19⟩ := ob_e h18
      refine va_iald hx hb hK hP 5 0 rfl rfl hi20 dX3_nearest_29 ?_
      obtain ⟨x21, ex21, h22⟩ := lt_e h19
      refine lv_nm ex21 ?_
      refine lv_istore (lv' := [(4, .int x21), (0, .ref (a 0)), (1, .int p1), (2, .int p2), (3, .int p3)]) hx hb dX3_nearest_30 hl (by decide) rfl (fun ls hl => ?_)
      refine lv_aload_n hx hb dX3_nearest_32 rfl (lv_at hl 1 rfl) ?_
      refine va_get (D := D) (cl := vwCl) (ci := 2) (v := .ref (a_now 0)) (C := RX3) (T := TX3) (N := 12) hx hb hts inX3 hown hK hP 0 rfl rfl 0 (by decide) (hts (Cond.fieldLink RX3 10 "FrozenIn" "now" "LFrozenIn$Sea;") (List.mem_of_getElem? (i := 1) rfl)) (fun _ h9 => h9) rfl dX3_nearest_33 ?_
      refine va_get (D := D) (cl := vwCl) (ci := 0) (v := .ref (a_now 4)) (C := RX1) (T := TX1) (N := 13) hx hb hts inX1 hown hK hP 1 rfl rfl 5 (by decide) (hts (Cond.fieldLink RX3 126 "FrozenIn$Sea" "cells" "[I") (List.mem_of_getElem? (i := 2) rfl)) (fun _ h9 => h9) rfl dX3_nearest_36 ?_
      refine lv_iload_n hx hb dX3_nearest_39 rfl (lv_at hl 3 rfl) ?_
      obtain ⟨hi24, h23⟩ := ob_e h22
      refine va_iald hx hb hK hP 5 0 rfl rfl hi24 dX3_nearest_40 ?_
      obtain ⟨x25, ex25, h26⟩ := lt_e h23
      refine lv_nm ex25 ?_
      refine lv_istore (lv' := [(5, .int x25), (4, .int x21), (0, .ref (a 0)), (1, .int p1), (2, .int p2), (3, .int p3)]) hx hb dX3_nearest_41 hl (by decide) rfl (fun ls hl => ?_)
      refine lv_iconst (v := 0) hx hb dX3_nearest_43 (by decide) ?_
      refine lv_istore (lv' := [(6, .int 0), (5, .int x25), (4, .int x21), (0, .ref (a 0)), (1, .int p1), (2, .int p2), (3, .int p3)]) hx hb dX3_nearest_44 hl (by decide) rfl (fun ls hl => ?_)
      refine lv_iload hx hb dX3_nearest_46 (lv_at hl 2 rfl) ?_
      refine lv_iload hx hb dX3_nearest_48 (lv_at hl 1 rfl) ?_
      refine kc_I (W.runS (As := [.int x21, .int x25]) (rest := []) ⟨hx, hb, hml, hown, hts⟩ (c_X3_far l x21 x25 (T_X3_far x21 x25) rfl) (va_cwS 2 hts gX3_nearest_X3_far rfl rfl rfl (by decide +kernel) ⟨(Nat.le_of_ble_eq_true rfl), (Nat.le_of_ble_eq_true rfl)⟩) preT_S rfl rfl hl.1 rfl (lv_room (Nat.le_of_ble_eq_true rfl)) dX3_nearest_50 ⟨Nat.zero_le _, Nat.zero_le _⟩) ?_
      obtain ⟨x27, ex27, h28⟩ := lt_e h26
      refine lv_nm ex27 ?_
      refine lv_istore (lv' := [(7, .int x27), (6, .int 0), (5, .int x25), (4, .int x21), (0, .ref (a 0)), (1, .int p1), (2, .int p2), (3, .int p3)]) hx hb dX3_nearest_53 hl (by decide) rfl (fun ls hl => ?_)
      refine lv_iconst (v := 1) hx hb dX3_nearest_55 (by decide) ?_
      refine lv_istore (lv' := [(8, .int 1), (7, .int x27), (6, .int 0), (5, .int x25), (4, .int x21), (0, .ref (a 0)), (1, .int p1), (2, .int p2), (3, .int p3)]) hx hb dX3_nearest_56 hl (by decide) rfl (fun ls hl => ?_)
      refine L58 _ (fun x67 x68 H70 L71 ls h69 hP hD hS hl => ?_) N x21 x25 0 x27 1 _ _ _ h28 hP hD hS (lv_sub hl [5, 6, 7, 8, 4, 3, 2, 1, 0] rfl)
      refine lv_iload_n hx hb dX3_nearest_160 rfl (lv_at hl 0 rfl) ?_
      refine lv_if_ne (tgt := 169) hx hb dX3_nearest_161 (by decide) (fun c72 => ?_) (fun c72 => ?_)
      · have h73 := (if_neg c72).symm.trans h69
        refine lv_iload hx hb dX3_nearest_169 (lv_at hl 2 rfl) ?_
        rw [← Option.some.inj h73]
        exact W.iret (v := x68) hx hb hr (fun t ht hW => ⟨⟨x68, (), rfl, rfl, ⟨by rw [ht]; exact hP, hD⟩⟩, hS.F ht⟩) hS.2.2 dX3_nearest_171
      · have h74 := (if_pos c72).symm.trans h69
        refine lv_iload hx hb dX3_nearest_164 (lv_at hl 1 rfl) ?_
        refine lv_goto (tgt := 171) hx hb dX3_nearest_166 (by decide) ?_
        rw [← Option.some.inj h74]
        exact W.iret (v := x67) hx hb hr (fun t ht hW => ⟨⟨x67, (), rfl, rfl, ⟨by rw [ht]; exact hP, hD⟩⟩, hS.F ht⟩) hS.2.2 dX3_nearest_171
    · have h75 := (if_pos c17).symm.trans h15
      exact Jj2  _ _ _ h75 hP hD hS (lv_sub hl [0] rfl)
def T_X3_dogsAndBack_L2 (N : Nat) (p1 : Int32) (p2 : Int32) (g_now_month : Int32) (g_now_ways : Nat → Int32) (g_now_strengths : Nat → Int32) (g_now_kinds : Nat → Int32) (g_now_cells : Nat → Int32)  : Nat → Int32 → Option Int32
  | 0, _ => none
  | n + 1, x1 => (if 30 < x1 then (some (-1)) else (Option.bind (T_X1_cellBehind N g_now_month g_now_ways g_now_strengths g_now_kinds g_now_cells p1 x1) fun u8 => (if (x1 - p2) < (T_X3_dogMonths (T_X3_far 14 u8)) then (lt' (x1 + 1) fun x13 => (T_X3_dogsAndBack_L2 N p1 p2 g_now_month g_now_ways g_now_strengths g_now_kinds g_now_cells n x13)) else (some x1))))
theorem T_X3_dogsAndBack_L2_s (N : Nat) (p1 : Int32) (p2 : Int32) (g_now_month : Int32) (g_now_ways : Nat → Int32) (g_now_strengths : Nat → Int32) (g_now_kinds : Nat → Int32) (g_now_cells : Nat → Int32)  (n : Nat) (x1 : Int32) : T_X3_dogsAndBack_L2 N p1 p2 g_now_month g_now_ways g_now_strengths g_now_kinds g_now_cells  (n + 1) x1 = (if 30 < x1 then (some (-1)) else (Option.bind (T_X1_cellBehind N g_now_month g_now_ways g_now_strengths g_now_kinds g_now_cells p1 x1) fun u8 => (if (x1 - p2) < (T_X3_dogMonths (T_X3_far 14 u8)) then (lt' (x1 + 1) fun x13 => (T_X3_dogsAndBack_L2 N p1 p2 g_now_month g_now_ways g_now_strengths g_now_kinds g_now_cells n x13)) else (some x1)))) := rfl
def T_X3_dogsAndBack (N : Nat) (g_now_month : Int32) (g_now_ways : Nat → Int32) (g_now_strengths : Nat → Int32) (g_now_kinds : Nat → Int32) (g_now_cells : Nat → Int32) (p1 : Int32) (p2 : Int32) : Option Int32 :=
  (T_X3_dogsAndBack_L2 N p1 p2 g_now_month g_now_ways g_now_strengths g_now_kinds g_now_cells N p2)
abbrev rm_X3_dogsAndBack : Room := { frames := 5, cells := 0, slots := 0, locals := 123 }
set_option maxHeartbeats 4000000 in
set_option maxRecDepth 100000 in
theorem c_X3_dogsAndBack (l : Launch) (D : va_G) (cyI cyJ cyS : ClassId) (N : Nat) (a a_now a_spare a_text : Nat → Nat) (g_above : Int64) (g_below : Int64) (g_bads : Int32) (g_nos : Int32) (g_fulls : Int32) (g_now_month : Int32) (g_now_floes : Int32) (g_now_founds : Int32) (g_now_notes : Int32) (g_now_undos : Int32) (g_now_ways : Nat → Int32) (g_now_strengths : Nat → Int32) (g_now_kinds : Nat → Int32) (g_now_cells : Nat → Int32) (p1 : Int32) (p2 : Int32) (R0 : Int32) (hT : T_X3_dogsAndBack N g_now_month g_now_ways g_now_strengths g_now_kinds g_now_cells p1 p2 = some R0) : Met l yX3_dogsAndBack wsX3_dogsAndBack rm_X3_dogsAndBack (va_Pc [.ref (a 0), .int p1, .int p2] (preR D (tyS cyI cyJ cyS) [oX3 a a_now a_spare a_text g_above g_below g_bads g_nos g_fulls, oX1 a_now g_now_month g_now_floes g_now_founds g_now_notes g_now_undos, rI cyI (a_now 1) 12 g_now_ways, rI cyI (a_now 2) 12 g_now_strengths, rI cyI (a_now 3) 5 g_now_kinds, rI cyI (a_now 4) 5 g_now_cells])) (vp_Si (fun r => r = R0)) 0 0 (fun _ => False) := by
  refine Met.ofW (cc := cX3_dogsAndBack) (maxL := 4) (ret := (some .int)) (by decide) rfl ?_
  intro p e s m args below meth c s₁ B hml hv
  obtain ⟨rfl, hP, hKK⟩ := hv
  have hx := B.exec
  have hb := B.bytes
  have hr := B.returns
  have hts := atoms_spec (ws := wsX3_dogsAndBack) B.pre
  have hown : s.vm.findClass RX3 = some m.cls := findClass_of_methodNamed B.named
  have hlocks := B.notSynchronized
  have hK := hKK.1
  have inX3 : ∀ w ∈ wsX30, w ∈ wsX3_dogsAndBack := (fun _ h => List.mem_cons_of_mem _ (List.mem_append_left _ (List.mem_append_right _ h)))
  have inX1 : ∀ w ∈ wsX10, w ∈ wsX3_dogsAndBack := (fun _ h => List.mem_cons_of_mem _ (List.mem_append_right _ h))
  have hP : va_P D vwCl [oX3 a a_now a_spare a_text g_above g_below g_bads g_nos g_fulls, oX1 a_now g_now_month g_now_floes g_now_founds g_now_notes g_now_undos, rI cyI (a_now 1) 12 g_now_ways, rI cyI (a_now 2) 12 g_now_strengths, rI cyI (a_now 3) 5 g_now_kinds, rI cyI (a_now 4) 5 g_now_cells] s.heap := hP
  have hl := lv_entry [.ref (a 0), .int p1, .int p2] (n := 4) (Nat.le_of_ble_eq_true rfl)
  rw [lg_entry_eq]
  generalize (lg_sl [.ref (a 0), .int p1, .int p2] ++ List.replicate (4 - (lg_sl [.ref (a 0), .int p1, .int p2]).length) Slot.unset).toArray = ls at hl ⊢
  have hl : lv_has ls 4 [(0, .ref (a 0)), (1, .int p1), (2, .int p2)] := hl
  have L2 : ∀ (n : Nat), ∀ (x1 : Int32) (ls : Array Slot), T_X3_dogsAndBack_L2 N p1 p2 g_now_month g_now_ways g_now_strengths g_now_kinds g_now_cells n x1 = some R0 → lv_has ls 4 [(0, .ref (a 0)), (1, .int p1), (2, .int p2), (3, .int x1)] → W p l e (headSpec wsX3_dogsAndBack rm_X3_dogsAndBack).room s m ([.ref (a 0), .int p1, .int p2] : List Value).toArray below meth c s.heap [] 0 0 (MQ below (vp_Si (fun r => r = R0)) ([.ref (a 0), .int p1, .int p2] : List Value).toArray s 0 0 (fun _ => False)) (F0 m 2 ls []) := by
    intro n
    induction n with
    | zero => intro _ _ h; exact absurd h (fun z => by cases z)
    | succ n ih =>
      intro x1 ls h2 hl
      rw [T_X3_dogsAndBack_L2_s] at h2
      refine lv_iload_n hx hb dX3_dogsAndBack_2 rfl (lv_at hl 3 rfl) ?_
      refine lv_bipush (v := 30) hx hb dX3_dogsAndBack_3 (by decide) ?_
      refine lv_icmp_gt (tgt := 39) hx hb dX3_dogsAndBack_5 (by decide) (fun c5 => ?_) (fun c5 => ?_)
      · have h6 := (if_pos c5).symm.trans h2
        refine lv_iconst (v := (-1)) hx hb dX3_dogsAndBack_39 (by decide) ?_
        exact W.iret (v := (-1)) hx hb hr (fun t ht hW => ⟨(-1), rfl, (Option.some.inj h6), ht⟩) (fun q hq => by cases hq) dX3_dogsAndBack_40
      · have h7 := (if_neg c5).symm.trans h2
        refine lv_bipush (v := 14) hx hb dX3_dogsAndBack_8 (by decide) ?_
        refine lv_aload_n hx hb dX3_dogsAndBack_10 rfl (lv_at hl 0 rfl) ?_
        refine va_get (D := D) (cl := vwCl) (ci := 2) (v := .ref (a_now 0)) (C := RX3) (T := TX3) (N := 12) hx hb hts inX3 hown hK hP 0 rfl rfl 0 (by decide) (hts (Cond.fieldLink RX3 10 "FrozenIn" "now" "LFrozenIn$Sea;") (List.mem_of_getElem? (i := 1) rfl)) (fun _ h9 => h9) rfl dX3_dogsAndBack_11 ?_
        refine lv_iload_n hx hb dX3_dogsAndBack_14 rfl (lv_at hl 1 rfl) ?_
        refine lv_iload_n hx hb dX3_dogsAndBack_15 rfl (lv_at hl 3 rfl) ?_
        obtain ⟨u8, hu9, h10⟩ := bd_e h7
        refine kc_I (W.runV (As := [.int p1, .int x1]) (rest := [.int 14]) ⟨hx, hb, hml, hown, hts⟩ (c_X1_cellBehind l D cyI cyJ cyS N a_now g_now_month g_now_floes g_now_founds g_now_notes g_now_undos g_now_ways g_now_strengths g_now_kinds g_now_cells p1 x1 u8 hu9) (cwV 2 hts gX3_dogsAndBack_X1_cellBehind rfl rfl rfl (by decide +kernel) ⟨(Nat.le_of_ble_eq_true rfl), (Nat.le_of_ble_eq_true rfl)⟩) (preR_V (hP.sub (ws' := [oX1 a_now g_now_month g_now_floes g_now_founds g_now_notes g_now_undos, rI cyI (a_now 1) 12 g_now_ways, rI cyI (a_now 2) 12 g_now_strengths, rI cyI (a_now 3) 5 g_now_kinds, rI cyI (a_now 4) 5 g_now_cells]) [1, 2, 3, 4, 5] rfl) hKK (va_recv hK hP (ci := 0) (q0 := 1) rfl rfl)) rfl rfl hl.1 rfl (lv_room (Nat.le_of_ble_eq_true rfl)) dX3_dogsAndBack_16 ⟨Nat.zero_le _, Nat.zero_le _⟩) ?_
        refine kc_I (W.runS (As := [.int 14, .int u8]) (rest := []) ⟨hx, hb, hml, hown, hts⟩ (c_X3_far l 14 u8 (T_X3_far 14 u8) rfl) (va_cwS 2 hts gX3_dogsAndBack_X3_far rfl rfl rfl (by decide +kernel) ⟨(Nat.le_of_ble_eq_true rfl), (Nat.le_of_ble_eq_true rfl)⟩) preT_S rfl rfl hl.1 rfl (lv_room (Nat.le_of_ble_eq_true rfl)) dX3_dogsAndBack_19 ⟨Nat.zero_le _, Nat.zero_le _⟩) ?_
        refine kc_I (W.runS (As := [.int (T_X3_far 14 u8)]) (rest := []) ⟨hx, hb, hml, hown, hts⟩ (c_X3_dogMonths l (T_X3_far 14 u8) (T_X3_dogMonths (T_X3_far 14 u8)) rfl) (va_cwS 1 hts gX3_dogsAndBack_X3_dogMonths rfl rfl rfl (by decide +kernel) ⟨(Nat.le_of_ble_eq_true rfl), (Nat.le_of_ble_eq_true rfl)⟩) preT_S rfl rfl hl.1 rfl (lv_room (Nat.le_of_ble_eq_true rfl)) dX3_dogsAndBack_22 ⟨Nat.zero_le _, Nat.zero_le _⟩) ?_
        refine lv_iload_n hx hb dX3_dogsAndBack_25 rfl (lv_at hl 3 rfl) ?_
        refine lv_iload_n hx hb dX3_dogsAndBack_26 rfl (lv_at hl 2 rfl) ?_
        refine lv_isub hx hb dX3_dogsAndBack_27 ?_
        refine lv_icmp_gt (tgt := 33) hx hb dX3_dogsAndBack_28 (by decide) (fun c11 => ?_) (fun c11 => ?_)
        · have h12 := (if_pos c11).symm.trans h10
          obtain ⟨x13, ex13, h14⟩ := lt_e h12
          refine lv_iinc (v := x13) (lv' := [(3, .int x13), (0, .ref (a 0)), (1, .int p1), (2, .int p2)]) hx hb dX3_dogsAndBack_33 hl (k := 3) rfl (by rw [ex13]; rfl) (by decide) rfl (fun ls hl => ?_)
          refine lv_goto (tgt := 2) hx hb dX3_dogsAndBack_36 (by decide) ?_
          exact ih x13 _ h14 (lv_sub hl [1, 2, 3, 0] rfl)
        · have h15 := (if_neg c11).symm.trans h10
          refine lv_iload_n hx hb dX3_dogsAndBack_31 rfl (lv_at hl 3 rfl) ?_
          exact W.iret (v := x1) hx hb hr (fun t ht hW => ⟨x1, rfl, (Option.some.inj h15), ht⟩) (fun q hq => by cases hq) dX3_dogsAndBack_32
  unfold T_X3_dogsAndBack at hT
  refine lv_iload_n hx hb dX3_dogsAndBack_0 rfl (lv_at hl 2 rfl) ?_
  refine lv_istore_n (lv' := [(3, .int p2), (0, .ref (a 0)), (1, .int p1), (2, .int p2)]) hx hb dX3_dogsAndBack_1 rfl hl (by decide) rfl (fun ls hl => ?_)
  refine L2  N p2 _ hT (lv_sub hl [1, 2, 3, 0] rfl)
def T_X3_dogs (N : Nat) (g_bads : Int32) (g_now_month : Int32) (g_now_floes : Int32) (g_now_ways : Nat → Int32) (g_now_strengths : Nat → Int32) (g_now_kinds : Nat → Int32) (g_now_cells : Nat → Int32) (p1 : Int32) (p2 : Int32) : Option (Int32 × Int32) :=
  (jn (lt' (T_X3_refuseBad g_bads) fun u8 => (some (u8.1, u8.2))) fun j2 => (if (T_X3_isFloe g_now_floes p1) = 0 then j2 else (if (T_X3_isFirstOrSecond p2) = 0 then j2 else (ob p1 5 (lt' (if 1 < (T_X3_dogMonths (T_X3_far (g_now_cells p1.toNatClampNeg) 14)) then (T_X3_dogMonths (T_X3_far (g_now_cells p1.toNatClampNeg) 14)) else 1) fun x21 => (if p2 = 0 then (Option.bind (T_X3_dogsAndBack N g_now_month g_now_ways g_now_strengths g_now_kinds g_now_cells p1 x21) fun u26 => (some (u26, g_bads))) else (some (x21, g_bads))))))))
abbrev rm_X3_dogs : Room := { frames := 6, cells := 0, slots := 0, locals := 146 }
set_option maxHeartbeats 4000000 in
set_option maxRecDepth 100000 in
theorem c_X3_dogs (l : Launch) (D : va_G) (cyI cyJ cyS : ClassId) (N : Nat) (a a_now a_spare a_text : Nat → Nat) (g_above : Int64) (g_below : Int64) (g_bads : Int32) (g_nos : Int32) (g_fulls : Int32) (g_now_month : Int32) (g_now_floes : Int32) (g_now_founds : Int32) (g_now_notes : Int32) (g_now_undos : Int32) (g_now_ways : Nat → Int32) (g_now_strengths : Nat → Int32) (g_now_kinds : Nat → Int32) (g_now_cells : Nat → Int32) (p1 : Int32) (p2 : Int32) (sz : Nat) (R0 : Int32 × Int32) (hT : T_X3_dogs N g_bads g_now_month g_now_floes g_now_ways g_now_strengths g_now_kinds g_now_cells p1 p2 = some R0) : Met l yX3_dogs wsX3_dogs rm_X3_dogs (va_Pc [.ref (a 0), .int p1, .int p2] (preW D (tyS cyI cyJ cyS) [oX3 a a_now a_spare a_text g_above g_below g_bads g_nos g_fulls, oX1 a_now g_now_month g_now_floes g_now_founds g_now_notes g_now_undos, rI cyI (a_now 1) 12 g_now_ways, rI cyI (a_now 2) 12 g_now_strengths, rI cyI (a_now 3) 5 g_now_kinds, rI cyI (a_now 4) 5 g_now_cells] sz)) (va_Qi (fun (r : Int32) (_ : Unit) => r = R0.1) (fun _ t => va_P D vwCl [oX3 a a_now a_spare a_text g_above g_below R0.2 g_nos g_fulls, oX1 a_now g_now_month g_now_floes g_now_founds g_now_notes g_now_undos, rI cyI (a_now 1) 12 g_now_ways, rI cyI (a_now 2) 12 g_now_strengths, rI cyI (a_now 3) 5 g_now_kinds, rI cyI (a_now 4) 5 g_now_cells] t.heap ∧ va_D (va_A [oX3 a a_now a_spare a_text g_above g_below g_bads g_nos g_fulls, oX1 a_now g_now_month g_now_floes g_now_founds g_now_notes g_now_undos, rI cyI (a_now 1) 12 g_now_ways, rI cyI (a_now 2) 12 g_now_strengths, rI cyI (a_now 3) 5 g_now_kinds, rI cyI (a_now 4) 5 g_now_cells] sz) [oX3 a a_now a_spare a_text g_above g_below R0.2 g_nos g_fulls, oX1 a_now g_now_month g_now_floes g_now_founds g_now_notes g_now_undos, rI cyI (a_now 1) 12 g_now_ways, rI cyI (a_now 2) 12 g_now_strengths, rI cyI (a_now 3) 5 g_now_kinds, rI cyI (a_now 4) 5 g_now_cells]) (va_A [oX3 a a_now a_spare a_text g_above g_below g_bads g_nos g_fulls, oX1 a_now g_now_month g_now_floes g_now_founds g_now_notes g_now_undos, rI cyI (a_now 1) 12 g_now_ways, rI cyI (a_now 2) 12 g_now_strengths, rI cyI (a_now 3) 5 g_now_kinds, rI cyI (a_now 4) 5 g_now_cells] sz)) 0 0 (va_A [oX3 a a_now a_spare a_text g_above g_below g_bads g_nos g_fulls, oX1 a_now g_now_month g_now_floes g_now_founds g_now_notes g_now_undos, rI cyI (a_now 1) 12 g_now_ways, rI cyI (a_now 2) 12 g_now_strengths, rI cyI (a_now 3) 5 g_now_kinds, rI cyI (a_now 4) 5 g_now_cells] sz) := by
  refine Met.ofW (cc := cX3_dogs) (maxL := 4) (ret := (some .int)) (by decide) rfl ?_
  intro p e s m args below meth c s₁ B hml hv
  obtain ⟨rfl, hsz, hP, hKK, hD0⟩ := hv
  have hx := B.exec
  have hb := B.bytes
  have hr := B.returns
  have hts := atoms_spec (ws := wsX3_dogs) B.pre
  have hown : s.vm.findClass RX3 = some m.cls := findClass_of_methodNamed B.named
  have hlocks := B.notSynchronized
  have hK := hKK.1
  have inX3 : ∀ w ∈ wsX30, w ∈ wsX3_dogs := (fun _ h => List.mem_cons_of_mem _ (List.mem_append_left _ (List.mem_append_right _ h)))
  have inX1 : ∀ w ∈ wsX10, w ∈ wsX3_dogs := (fun _ h => List.mem_cons_of_mem _ (List.mem_append_right _ h))
  subst hsz
  have hD := hD0.self (sz := s.heap.size)
  generalize hAe : va_A [oX3 a a_now a_spare a_text g_above g_below g_bads g_nos g_fulls, oX1 a_now g_now_month g_now_floes g_now_founds g_now_notes g_now_undos, rI cyI (a_now 1) 12 g_now_ways, rI cyI (a_now 2) 12 g_now_strengths, rI cyI (a_now 3) 5 g_now_kinds, rI cyI (a_now 4) 5 g_now_cells] s.heap.size = A at hD ⊢
  have hA : ∀ q : Nat, s.heap.size ≤ q → A q := fun q h => by rw [← hAe]; exact Or.inr h
  have hS : va_S A s.heap s.heap [] := va_S.rf
  have hP : va_P D vwCl [oX3 a a_now a_spare a_text g_above g_below g_bads g_nos g_fulls, oX1 a_now g_now_month g_now_floes g_now_founds g_now_notes g_now_undos, rI cyI (a_now 1) 12 g_now_ways, rI cyI (a_now 2) 12 g_now_strengths, rI cyI (a_now 3) 5 g_now_kinds, rI cyI (a_now 4) 5 g_now_cells] s.heap := hP
  have hl := lv_entry [.ref (a 0), .int p1, .int p2] (n := 4) (Nat.le_of_ble_eq_true rfl)
  rw [lg_entry_eq]
  generalize (lg_sl [.ref (a 0), .int p1, .int p2] ++ List.replicate (4 - (lg_sl [.ref (a 0), .int p1, .int p2]).length) Slot.unset).toArray = ls at hl ⊢
  have hl : lv_has ls 4 [(0, .ref (a 0)), (1, .int p1), (2, .int p2)] := hl
  unfold T_X3_dogs at hT
  refine lv_aload_n hx hb dX3_dogs_0 rfl (lv_at hl 0 rfl) ?_
  refine lv_iload_n hx hb dX3_dogs_1 rfl (lv_at hl 1 rfl) ?_
  refine kc_Z (W.runV (As := [.int p1]) (rest := []) ⟨hx, hb, hml, hown, hts⟩ (c_X3_isFloe l D cyI cyJ cyS a a_now a_spare a_text g_above g_below g_bads g_nos g_fulls g_now_month g_now_floes g_now_founds g_now_notes g_now_undos p1 (T_X3_isFloe g_now_floes p1) rfl) (cwV 1 hts gX3_dogs_X3_isFloe rfl rfl rfl (by decide +kernel) ⟨(Nat.le_of_ble_eq_true rfl), (Nat.le_of_ble_eq_true rfl)⟩) (preR_V (hP.sub (ws' := [oX3 a a_now a_spare a_text g_above g_below g_bads g_nos g_fulls, oX1 a_now g_now_month g_now_floes g_now_founds g_now_notes g_now_undos]) [0, 1] rfl) hKK (va_recv hK hP (ci := 2) (q0 := 0) rfl rfl)) rfl rfl hl.1 rfl (lv_room (Nat.le_of_ble_eq_true rfl)) dX3_dogs_2 ⟨Nat.zero_le _, Nat.zero_le _⟩) (fun hn1 => ?_)
  obtain ⟨j2, hj3, h4⟩ := jn_e hT
  have Jj2 : ∀ (H : Heap) (locs : List Loc) (ls : Array Slot), j2 = some R0 → va_P D vwCl [oX3 a a_now a_spare a_text g_above g_below g_bads g_nos g_fulls, oX1 a_now g_now_month g_now_floes g_now_founds g_now_notes g_now_undos, rI cyI (a_now 1) 12 g_now_ways, rI cyI (a_now 2) 12 g_now_strengths, rI cyI (a_now 3) 5 g_now_kinds, rI cyI (a_now 4) 5 g_now_cells] H → va_D A [oX3 a a_now a_spare a_text g_above g_below g_bads g_nos g_fulls, oX1 a_now g_now_month g_now_floes g_now_founds g_now_notes g_now_undos, rI cyI (a_now 1) 12 g_now_ways, rI cyI (a_now 2) 12 g_now_strengths, rI cyI (a_now 3) 5 g_now_kinds, rI cyI (a_now 4) 5 g_now_cells] → va_S A s.heap H locs → lv_has ls 4 [(0, .ref (a 0))] → W p l e (headSpec wsX3_dogs rm_X3_dogs).room s m ([.ref (a 0), .int p1, .int p2] : List Value).toArray below meth c H locs 0 0 (MQ below (va_Qi (fun (r : Int32) (_ : Unit) => r = R0.1) (fun _ t => va_P D vwCl [oX3 a a_now a_spare a_text g_above g_below R0.2 g_nos g_fulls, oX1 a_now g_now_month g_now_floes g_now_founds g_now_notes g_now_undos, rI cyI (a_now 1) 12 g_now_ways, rI cyI (a_now 2) 12 g_now_strengths, rI cyI (a_now 3) 5 g_now_kinds, rI cyI (a_now 4) 5 g_now_cells] t.heap ∧ va_D A [oX3 a a_now a_spare a_text g_above g_below R0.2 g_nos g_fulls, oX1 a_now g_now_month g_now_floes g_now_founds g_now_notes g_now_undos, rI cyI (a_now 1) 12 g_now_ways, rI cyI (a_now 2) 12 g_now_strengths, rI cyI (a_now 3) 5 g_now_kinds, rI cyI (a_now 4) 5 g_now_cells]) A) ([.ref (a 0), .int p1, .int p2] : List Value).toArray s 0 0 A) (F0 m 15 ls []) := by
    intro H6 L7 ls h5 hP hD hS hl
    rw [hj3] at h5
    refine lv_aload_n hx hb dX3_dogs_15 rfl (lv_at hl 0 rfl) ?_
    obtain ⟨u8, hu9, h10⟩ := lt_e h5
    refine kw_I (wc := [oX3 a a_now a_spare a_text g_above g_below g_bads g_nos g_fulls]) (wr := [oX1 a_now g_now_month g_now_floes g_now_founds g_now_notes g_now_undos, rI cyI (a_now 1) 12 g_now_ways, rI cyI (a_now 2) 12 g_now_strengths, rI cyI (a_now 3) 5 g_now_kinds, rI cyI (a_now 4) 5 g_now_cells]) (ws' := [oX3 a a_now a_spare a_text g_above g_below u8.2 g_nos g_fulls, oX1 a_now g_now_month g_now_floes g_now_founds g_now_notes g_now_undos, rI cyI (a_now 1) 12 g_now_ways, rI cyI (a_now 2) 12 g_now_strengths, rI cyI (a_now 3) 5 g_now_kinds, rI cyI (a_now 4) 5 g_now_cells]) (va_runV (As := []) (rest := []) ⟨hx, hb, hml, hown, hts⟩ (c_X3_refuseBad l D cyI cyJ cyS a a_now a_spare a_text g_above g_below g_bads g_nos g_fulls H6.size u8 hu9.symm) (cwV 0 hts gX3_dogs_X3_refuseBad rfl rfl rfl (by decide +kernel) ⟨(Nat.le_of_ble_eq_true rfl), (Nat.le_of_ble_eq_true rfl)⟩) (preW_V (hP.sub (ws' := [oX3 a a_now a_spare a_text g_above g_below g_bads g_nos g_fulls]) [0] rfl) (hD.sub (ws' := [oX3 a a_now a_spare a_text g_above g_below g_bads g_nos g_fulls]) [0] (by decide) rfl) hKK (va_recv hK hP (ci := 2) (q0 := 0) rfl rfl)) rfl rfl hl.1 rfl (lv_room (Nat.le_of_ble_eq_true rfl)) dX3_dogs_16 ⟨Nat.zero_le _, Nat.zero_le _⟩) hP hD hS hA [0] [1, 2, 3, 4, 5] [5, 0, 1, 2, 3, 4] rfl rfl (by decide) (by decide) rfl (by decide) (fun H11 L12 hP hD hS => ?_)
    rw [← Option.some.inj h10]
    exact W.iret (v := u8.1) hx hb hr (fun t ht hW => ⟨⟨u8.1, (), rfl, rfl, ⟨by rw [ht]; exact hP, hD⟩⟩, hS.F ht⟩) hS.2.2 dX3_dogs_19
  refine lv_if_eq (tgt := 15) hx hb dX3_dogs_5 (by decide) (fun c13 => ?_) (fun c13 => ?_)
  · have h14 := (if_pos c13).symm.trans h4
    exact Jj2  _ _ _ h14 hP hD hS (lv_sub hl [0] rfl)
  · have h15 := (if_neg c13).symm.trans h4
    refine lv_iload_n hx hb dX3_dogs_8 rfl (lv_at hl 2 rfl) ?_
    refine kc_Z (W.runS (As := [.int p2]) (rest := []) ⟨hx, hb, hml, hown, hts⟩ (c_X3_isFirstOrSecond l p2 (T_X3_isFirstOrSecond p2) rfl) (va_cwS 1 hts gX3_dogs_X3_isFirstOrSecond rfl rfl rfl (by decide +kernel) ⟨(Nat.le_of_ble_eq_true rfl), (Nat.le_of_ble_eq_true rfl)⟩) preT_S rfl rfl hl.1 rfl (lv_room (Nat.le_of_ble_eq_true rfl)) dX3_dogs_9 ⟨Nat.zero_le _, Nat.zero_le _⟩) (fun hn16 => ?_)
    refine lv_if_ne (tgt := 20) hx hb dX3_dogs_12 (by decide) (fun c17 => ?_) (fun c17 => ?_)
    · have h18 := (if_neg c17).symm.trans h15
      refine lv_iconst (v := 1) hx hb dX3_dogs_20 (by decide) ?_
      refine lv_aload_n hx hb dX3_dogs_21 rfl (lv_at hl 0 rfl) ?_
      refine va_get (D := D) (cl := vwCl) (ci := 2) (v := .ref (a_now 0)) (C := RX3) (T := TX3) (N := 12) hx hb hts inX3 hown hK hP 0 rfl rfl 0 (by decide) (hts (Cond.fieldLink RX3 10 "FrozenIn" "now" "LFrozenIn$Sea;") (List.mem_of_getElem? (i := 1) rfl)) (fun _ h9 => h9) rfl dX3_dogs_22 ?_
      refine va_get (D := D) (cl := vwCl) (ci := 0) (v := .ref (a_now 4)) (C := RX1) (T := TX1) (N := 13) hx hb hts inX1 hown hK hP 1 rfl rfl 5 (by decide) (hts (Cond.fieldLink RX3 126 "FrozenIn$Sea" "cells" "[I") (List.mem_of_getElem? (i := 2) rfl)) (fun _ h9 => h9) rfl dX3_dogs_25 ?_
      refine lv_iload_n hx hb dX3_dogs_28 rfl (lv_at hl 1 rfl) ?_
      obtain ⟨hi20, h19⟩ := ob_e h18
      refine va_iald hx hb hK hP 5 0 rfl rfl hi20 dX3_dogs_29 ?_
      refine lv_bipush (v := 14) hx hb dX3_dogs_30 (by decide) ?_
      refine kc_I (W.runS (As := [.int (g_now_cells p1.toNatClampNeg), .int 14]) (rest := [.int 1]) ⟨hx, hb, hml, hown, hts⟩ (c_X3_far l (g_now_cells p1.toNatClampNeg) 14 (T_X3_far (g_now_cells p1.toNatClampNeg) 14) rfl) (va_cwS 2 hts gX3_dogs_X3_far rfl rfl rfl (by decide +kernel) ⟨(Nat.le_of_ble_eq_true rfl), (Nat.le_of_ble_eq_true rfl)⟩) preT_S rfl rfl hl.1 rfl (lv_room (Nat.le_of_ble_eq_true rfl)) dX3_dogs_32 ⟨Nat.zero_le _, Nat.zero_le _⟩) ?_
      refine kc_I (W.runS (As := [.int (T_X3_far (g_now_cells p1.toNatClampNeg) 14)]) (rest := [.int 1]) ⟨hx, hb, hml, hown, hts⟩ (c_X3_dogMonths l (T_X3_far (g_now_cells p1.toNatClampNeg) 14) (T_X3_dogMonths (T_X3_far (g_now_cells p1.toNatClampNeg) 14)) rfl) (va_cwS 1 hts gX3_dogs_X3_dogMonths rfl rfl rfl (by decide +kernel) ⟨(Nat.le_of_ble_eq_true rfl), (Nat.le_of_ble_eq_true rfl)⟩) preT_S rfl rfl hl.1 rfl (lv_room (Nat.le_of_ble_eq_true rfl)) dX3_dogs_35 ⟨Nat.zero_le _, Nat.zero_le _⟩) ?_
      refine va_mmax hx hb (hml.trans hl.1.symm) hown (hts (Cond.methodLink RX3 153 Lib.Math.max.name) (List.mem_of_getElem? (i := 3) rfl)) (hts (Cond.static Lib.Math.max.name) (List.mem_of_getElem? (i := 4) rfl)) (hts (Cond.initialized "java/lang/Math") (List.mem_of_getElem? (i := 5) rfl)) (hts (Cond.code Lib.Math.max.name Lib.Math.max.code 2 (some .int)) (List.mem_of_getElem? (i := 6) rfl)) (Nat.le_of_ble_eq_true rfl) (Nat.le_of_ble_eq_true rfl) (Nat.zero_le _) (Nat.zero_le _) dX3_dogs_38 ?_
      obtain ⟨x21, ex21, h22⟩ := lt_e h19
      refine lv_nm ex21 ?_
      refine lv_istore_n (lv' := [(3, .int x21), (0, .ref (a 0)), (1, .int p1), (2, .int p2)]) hx hb dX3_dogs_41 rfl hl (by decide) rfl (fun ls hl => ?_)
      refine lv_iload_n hx hb dX3_dogs_42 rfl (lv_at hl 3 rfl) ?_
      refine lv_if_ne (tgt := 55) hx hb dX3_dogs_43 (by decide) (fun c23 => ?_) (fun c23 => ?_)
      · have h24 := (if_neg c23).symm.trans h22
        refine lv_iload_n hx hb dX3_dogs_55 rfl (lv_at hl 0 rfl) ?_
        rw [← Option.some.inj h24]
        exact W.iret (v := x21) hx hb hr (fun t ht hW => ⟨⟨x21, (), rfl, rfl, ⟨by rw [ht]; exact hP, hD⟩⟩, hS.F ht⟩) hS.2.2 dX3_dogs_56
      · have h25 := (if_pos c23).symm.trans h22
        refine lv_aload_n hx hb dX3_dogs_46 rfl (lv_at hl 1 rfl) ?_
        refine lv_iload_n hx hb dX3_dogs_47 rfl (lv_at hl 2 rfl) ?_
        refine lv_iload_n hx hb dX3_dogs_48 rfl (lv_at hl 0 rfl) ?_
        obtain ⟨u26, hu27, h28⟩ := bd_e h25
        refine kc_I (W.runV (As := [.int p1, .int x21]) (rest := []) ⟨hx, hb, hml, hown, hts⟩ (c_X3_dogsAndBack l D cyI cyJ cyS N a a_now a_spare a_text g_above g_below g_bads g_nos g_fulls g_now_month g_now_floes g_now_founds g_now_notes g_now_undos g_now_ways g_now_strengths g_now_kinds g_now_cells p1 x21 u26 hu27) (cwV 2 hts gX3_dogs_X3_dogsAndBack rfl rfl rfl (by decide +kernel) ⟨(Nat.le_of_ble_eq_true rfl), (Nat.le_of_ble_eq_true rfl)⟩) (preR_V (hP.sub (ws' := [oX3 a a_now a_spare a_text g_above g_below g_bads g_nos g_fulls, oX1 a_now g_now_month g_now_floes g_now_founds g_now_notes g_now_undos, rI cyI (a_now 1) 12 g_now_ways, rI cyI (a_now 2) 12 g_now_strengths, rI cyI (a_now 3) 5 g_now_kinds, rI cyI (a_now 4) 5 g_now_cells]) [0, 1, 2, 3, 4, 5] rfl) hKK (va_recv hK hP (ci := 2) (q0 := 0) rfl rfl)) rfl rfl hl.1 rfl (lv_room (Nat.le_of_ble_eq_true rfl)) dX3_dogs_49 ⟨Nat.zero_le _, Nat.zero_le _⟩) ?_
        refine lv_goto (tgt := 56) hx hb dX3_dogs_52 (by decide) ?_
        rw [← Option.some.inj h28]
        exact W.iret (v := u26) hx hb hr (fun t ht hW => ⟨⟨u26, (), rfl, rfl, ⟨by rw [ht]; exact hP, hD⟩⟩, hS.F ht⟩) hS.2.2 dX3_dogs_56
    · have h29 := (if_pos c17).symm.trans h15
      exact Jj2  _ _ _ h29 hP hD hS (lv_sub hl [0] rfl)
def T_X3_found (N : Nat) (g_bads : Int32) (g_fulls : Int32) (g_now_founds : Int32) (g_now_foundRows : Nat → Int32) (p1 : Int32) (p2 : Int32) (p3 : Int32) : Option (Int32 × Int32 × Int32 × Int32 × (Nat → Int32)) :=
  (jn (lt' (T_X3_refuseBad g_bads) fun u8 => (some (u8.1, u8.2, g_fulls, g_now_founds, g_now_foundRows))) fun j2 => (if (T_X3_isKind p1) = 0 then j2 else (if (T_X3_within p2 1 60) = 0 then j2 else (if (T_X3_isCell p3) = 0 then j2 else (if g_now_founds < 4 then (Option.bind (T_X1_addFound N g_now_founds g_now_foundRows p1 p2 p3) fun u25 => (some (u25.1, g_bads, g_fulls, u25.1, u25.2))) else (lt' (T_X3_refuseFull g_fulls) fun u31 => (some (u31.1, g_bads, u31.2, g_now_founds, g_now_foundRows))))))))
abbrev rm_X3_found : Room := { frames := 2, cells := 0, slots := 0, locals := 42 }
set_option maxHeartbeats 4000000 in
set_option maxRecDepth 100000 in
theorem c_X3_found (l : Launch) (D : va_G) (cyI cyJ cyS : ClassId) (N : Nat) (a a_now a_spare a_text : Nat → Nat) (g_above : Int64) (g_below : Int64) (g_bads : Int32) (g_nos : Int32) (g_fulls : Int32) (g_now_month : Int32) (g_now_floes : Int32) (g_now_founds : Int32) (g_now_notes : Int32) (g_now_undos : Int32) (g_now_foundRows : Nat → Int32) (p1 : Int32) (p2 : Int32) (p3 : Int32) (sz : Nat) (R0 : Int32 × Int32 × Int32 × Int32 × (Nat → Int32)) (hT : T_X3_found N g_bads g_fulls g_now_founds g_now_foundRows p1 p2 p3 = some R0) : Met l yX3_found wsX3_found rm_X3_found (va_Pc [.ref (a 0), .int p1, .int p2, .int p3] (preW D (tyS cyI cyJ cyS) [oX3 a a_now a_spare a_text g_above g_below g_bads g_nos g_fulls, oX1 a_now g_now_month g_now_floes g_now_founds g_now_notes g_now_undos, rI cyI (a_now 6) 12 g_now_foundRows] sz)) (va_Qi (fun (r : Int32) (_ : Unit) => r = R0.1) (fun _ t => va_P D vwCl [oX3 a a_now a_spare a_text g_above g_below R0.2.1 g_nos R0.2.2.1, oX1 a_now g_now_month g_now_floes R0.2.2.2.1 g_now_notes g_now_undos, rI cyI (a_now 6) 12 R0.2.2.2.2] t.heap ∧ va_D (va_A [oX3 a a_now a_spare a_text g_above g_below g_bads g_nos g_fulls, oX1 a_now g_now_month g_now_floes g_now_founds g_now_notes g_now_undos, rI cyI (a_now 6) 12 g_now_foundRows] sz) [oX3 a a_now a_spare a_text g_above g_below R0.2.1 g_nos R0.2.2.1, oX1 a_now g_now_month g_now_floes R0.2.2.2.1 g_now_notes g_now_undos, rI cyI (a_now 6) 12 R0.2.2.2.2]) (va_A [oX3 a a_now a_spare a_text g_above g_below g_bads g_nos g_fulls, oX1 a_now g_now_month g_now_floes g_now_founds g_now_notes g_now_undos, rI cyI (a_now 6) 12 g_now_foundRows] sz)) 0 0 (va_A [oX3 a a_now a_spare a_text g_above g_below g_bads g_nos g_fulls, oX1 a_now g_now_month g_now_floes g_now_founds g_now_notes g_now_undos, rI cyI (a_now 6) 12 g_now_foundRows] sz) := by
  refine Met.ofW (cc := cX3_found) (maxL := 4) (ret := (some .int)) (by decide) rfl ?_
  intro p e s m args below meth c s₁ B hml hv
  obtain ⟨rfl, hsz, hP, hKK, hD0⟩ := hv
  have hx := B.exec
  have hb := B.bytes
  have hr := B.returns
  have hts := atoms_spec (ws := wsX3_found) B.pre
  have hown : s.vm.findClass RX3 = some m.cls := findClass_of_methodNamed B.named
  have hlocks := B.notSynchronized
  have hK := hKK.1
  have inX3 : ∀ w ∈ wsX30, w ∈ wsX3_found := (fun _ h => List.mem_cons_of_mem _ (List.mem_append_left _ (List.mem_append_right _ h)))
  have inX1 : ∀ w ∈ wsX10, w ∈ wsX3_found := (fun _ h => List.mem_cons_of_mem _ (List.mem_append_right _ h))
  subst hsz
  have hD := hD0.self (sz := s.heap.size)
  generalize hAe : va_A [oX3 a a_now a_spare a_text g_above g_below g_bads g_nos g_fulls, oX1 a_now g_now_month g_now_floes g_now_founds g_now_notes g_now_undos, rI cyI (a_now 6) 12 g_now_foundRows] s.heap.size = A at hD ⊢
  have hA : ∀ q : Nat, s.heap.size ≤ q → A q := fun q h => by rw [← hAe]; exact Or.inr h
  have hS : va_S A s.heap s.heap [] := va_S.rf
  have hP : va_P D vwCl [oX3 a a_now a_spare a_text g_above g_below g_bads g_nos g_fulls, oX1 a_now g_now_month g_now_floes g_now_founds g_now_notes g_now_undos, rI cyI (a_now 6) 12 g_now_foundRows] s.heap := hP
  have hl := lv_entry [.ref (a 0), .int p1, .int p2, .int p3] (n := 4) (Nat.le_of_ble_eq_true rfl)
  rw [lg_entry_eq]
  generalize (lg_sl [.ref (a 0), .int p1, .int p2, .int p3] ++ List.replicate (4 - (lg_sl [.ref (a 0), .int p1, .int p2, .int p3]).length) Slot.unset).toArray = ls at hl ⊢
  have hl : lv_has ls 4 [(0, .ref (a 0)), (1, .int p1), (2, .int p2), (3, .int p3)] := hl
  unfold T_X3_found at hT
  refine lv_iload_n hx hb dX3_found_0 rfl (lv_at hl 1 rfl) ?_
  refine kc_Z (W.runS (As := [.int p1]) (rest := []) ⟨hx, hb, hml, hown, hts⟩ (c_X3_isKind l p1 (T_X3_isKind p1) rfl) (va_cwS 1 hts gX3_found_X3_isKind rfl rfl rfl (by decide +kernel) ⟨(Nat.le_of_ble_eq_true rfl), (Nat.le_of_ble_eq_true rfl)⟩) preT_S rfl rfl hl.1 rfl (lv_room (Nat.le_of_ble_eq_true rfl)) dX3_found_1 ⟨Nat.zero_le _, Nat.zero_le _⟩) (fun hn1 => ?_)
  obtain ⟨j2, hj3, h4⟩ := jn_e hT
  have Jj2 : ∀ (H : Heap) (locs : List Loc) (ls : Array Slot), j2 = some R0 → va_P D vwCl [oX3 a a_now a_spare a_text g_above g_below g_bads g_nos g_fulls, oX1 a_now g_now_month g_now_floes g_now_founds g_now_notes g_now_undos, rI cyI (a_now 6) 12 g_now_foundRows] H → va_D A [oX3 a a_now a_spare a_text g_above g_below g_bads g_nos g_fulls, oX1 a_now g_now_month g_now_floes g_now_founds g_now_notes g_now_undos, rI cyI (a_now 6) 12 g_now_foundRows] → va_S A s.heap H locs → lv_has ls 4 [(0, .ref (a 0))] → W p l e (headSpec wsX3_found rm_X3_found).room s m ([.ref (a 0), .int p1, .int p2, .int p3] : List Value).toArray below meth c H locs 0 0 (MQ below (va_Qi (fun (r : Int32) (_ : Unit) => r = R0.1) (fun _ t => va_P D vwCl [oX3 a a_now a_spare a_text g_above g_below R0.2.1 g_nos R0.2.2.1, oX1 a_now g_now_month g_now_floes R0.2.2.2.1 g_now_notes g_now_undos, rI cyI (a_now 6) 12 R0.2.2.2.2] t.heap ∧ va_D A [oX3 a a_now a_spare a_text g_above g_below R0.2.1 g_nos R0.2.2.1, oX1 a_now g_now_month g_now_floes R0.2.2.2.1 g_now_notes g_now_undos, rI cyI (a_now 6) 12 R0.2.2.2.2]) A) ([.ref (a 0), .int p1, .int p2, .int p3] : List Value).toArray s 0 0 A) (F0 m 24 ls []) := by
    intro H6 L7 ls h5 hP hD hS hl
    rw [hj3] at h5
    refine lv_aload_n hx hb dX3_found_24 rfl (lv_at hl 0 rfl) ?_
    obtain ⟨u8, hu9, h10⟩ := lt_e h5
    refine kw_I (wc := [oX3 a a_now a_spare a_text g_above g_below g_bads g_nos g_fulls]) (wr := [oX1 a_now g_now_month g_now_floes g_now_founds g_now_notes g_now_undos, rI cyI (a_now 6) 12 g_now_foundRows]) (ws' := [oX3 a a_now a_spare a_text g_above g_below u8.2 g_nos g_fulls, oX1 a_now g_now_month g_now_floes g_now_founds g_now_notes g_now_undos, rI cyI (a_now 6) 12 g_now_foundRows]) (va_runV (As := []) (rest := []) ⟨hx, hb, hml, hown, hts⟩ (c_X3_refuseBad l D cyI cyJ cyS a a_now a_spare a_text g_above g_below g_bads g_nos g_fulls H6.size u8 hu9.symm) (cwV 0 hts gX3_found_X3_refuseBad rfl rfl rfl (by decide +kernel) ⟨(Nat.le_of_ble_eq_true rfl), (Nat.le_of_ble_eq_true rfl)⟩) (preW_V (hP.sub (ws' := [oX3 a a_now a_spare a_text g_above g_below g_bads g_nos g_fulls]) [0] rfl) (hD.sub (ws' := [oX3 a a_now a_spare a_text g_above g_below g_bads g_nos g_fulls]) [0] (by decide) rfl) hKK (va_recv hK hP (ci := 2) (q0 := 0) rfl rfl)) rfl rfl hl.1 rfl (lv_room (Nat.le_of_ble_eq_true rfl)) dX3_found_25 ⟨Nat.zero_le _, Nat.zero_le _⟩) hP hD hS hA [0] [1, 2] [2, 0, 1] rfl rfl (by decide) (by decide) rfl (by decide) (fun H11 L12 hP hD hS => ?_)
    rw [← Option.some.inj h10]
    exact W.iret (v := u8.1) hx hb hr (fun t ht hW => ⟨⟨u8.1, (), rfl, rfl, ⟨by rw [ht]; exact hP, hD⟩⟩, hS.F ht⟩) hS.2.2 dX3_found_28
  refine lv_if_eq (tgt := 24) hx hb dX3_found_4 (by decide) (fun c13 => ?_) (fun c13 => ?_)
  · have h14 := (if_pos c13).symm.trans h4
    exact Jj2  _ _ _ h14 hP hD hS (lv_sub hl [0] rfl)
  · have h15 := (if_neg c13).symm.trans h4
    refine lv_iload_n hx hb dX3_found_7 rfl (lv_at hl 2 rfl) ?_
    refine lv_iconst (v := 1) hx hb dX3_found_8 (by decide) ?_
    refine lv_bipush (v := 60) hx hb dX3_found_9 (by decide) ?_
    refine kc_Z (W.runS (As := [.int p2, .int 1, .int 60]) (rest := []) ⟨hx, hb, hml, hown, hts⟩ (c_X3_within l p2 1 60 (T_X3_within p2 1 60) rfl) (va_cwS 3 hts gX3_found_X3_within rfl rfl rfl (by decide +kernel) ⟨(Nat.le_of_ble_eq_true rfl), (Nat.le_of_ble_eq_true rfl)⟩) preT_S rfl rfl hl.1 rfl (lv_room (Nat.le_of_ble_eq_true rfl)) dX3_found_11 ⟨Nat.zero_le _, Nat.zero_le _⟩) (fun hn16 => ?_)
    refine lv_if_eq (tgt := 24) hx hb dX3_found_14 (by decide) (fun c17 => ?_) (fun c17 => ?_)
    · have h18 := (if_pos c17).symm.trans h15
      exact Jj2  _ _ _ h18 hP hD hS (lv_sub hl [0] rfl)
    · have h19 := (if_neg c17).symm.trans h15
      refine lv_iload_n hx hb dX3_found_17 rfl (lv_at hl 3 rfl) ?_
      refine kc_Z (W.runS (As := [.int p3]) (rest := []) ⟨hx, hb, hml, hown, hts⟩ (c_X3_isCell l p3 (T_X3_isCell p3) rfl) (va_cwS 1 hts gX3_found_X3_isCell rfl rfl rfl (by decide +kernel) ⟨(Nat.le_of_ble_eq_true rfl), (Nat.le_of_ble_eq_true rfl)⟩) preT_S rfl rfl hl.1 rfl (lv_room (Nat.le_of_ble_eq_true rfl)) dX3_found_18 ⟨Nat.zero_le _, Nat.zero_le _⟩) (fun hn20 => ?_)
      refine lv_if_ne (tgt := 29) hx hb dX3_found_21 (by decide) (fun c21 => ?_) (fun c21 => ?_)
      · have h22 := (if_neg c21).symm.trans h19
        refine lv_aload_n hx hb dX3_found_29 rfl (lv_at hl 0 rfl) ?_
        refine va_get (D := D) (cl := vwCl) (ci := 2) (v := .ref (a_now 0)) (C := RX3) (T := TX3) (N := 12) hx hb hts inX3 hown hK hP 0 rfl rfl 0 (by decide) (hts (Cond.fieldLink RX3 10 "FrozenIn" "now" "LFrozenIn$Sea;") (List.mem_of_getElem? (i := 1) rfl)) (fun _ h9 => h9) rfl dX3_found_30 ?_
        refine va_get (D := D) (cl := vwCl) (ci := 0) (v := .int g_now_founds) (C := RX1) (T := TX1) (N := 13) hx hb hts inX1 hown hK hP 1 rfl rfl 7 (by decide) (hts (Cond.fieldLink RX3 176 "FrozenIn$Sea" "founds" "I") (List.mem_of_getElem? (i := 2) rfl)) (fun _ h9 => h9) rfl dX3_found_33 ?_
        refine lv_iconst (v := 4) hx hb dX3_found_36 (by decide) ?_
        refine lv_icmp_lt (tgt := 45) hx hb dX3_found_37 (by decide) (fun c23 => ?_) (fun c23 => ?_)
        · have h24 := (if_pos c23).symm.trans h22
          refine lv_aload_n hx hb dX3_found_45 rfl (lv_at hl 0 rfl) ?_
          refine va_get (D := D) (cl := vwCl) (ci := 2) (v := .ref (a_now 0)) (C := RX3) (T := TX3) (N := 12) hx hb hts inX3 hown hK hP 0 rfl rfl 0 (by decide) (hts (Cond.fieldLink RX3 10 "FrozenIn" "now" "LFrozenIn$Sea;") (List.mem_of_getElem? (i := 1) rfl)) (fun _ h9 => h9) rfl dX3_found_46 ?_
          refine lv_iload_n hx hb dX3_found_49 rfl (lv_at hl 1 rfl) ?_
          refine lv_iload_n hx hb dX3_found_50 rfl (lv_at hl 2 rfl) ?_
          refine lv_iload_n hx hb dX3_found_51 rfl (lv_at hl 3 rfl) ?_
          obtain ⟨u25, hu26, h27⟩ := bd_e h24
          refine kw_V (wc := [oX1 a_now g_now_month g_now_floes g_now_founds g_now_notes g_now_undos, rI cyI (a_now 6) 12 g_now_foundRows]) (wr := [oX3 a a_now a_spare a_text g_above g_below g_bads g_nos g_fulls]) (ws' := [oX3 a a_now a_spare a_text g_above g_below g_bads g_nos g_fulls, oX1 a_now g_now_month g_now_floes u25.1 g_now_notes g_now_undos, rI cyI (a_now 6) 12 u25.2]) (va_runV (As := [.int p1, .int p2, .int p3]) (rest := []) ⟨hx, hb, hml, hown, hts⟩ (c_X1_addFound l D cyI cyJ cyS N a_now g_now_month g_now_floes g_now_founds g_now_notes g_now_undos g_now_foundRows p1 p2 p3 s.heap.size u25 hu26) (cwV 3 hts gX3_found_X1_addFound rfl rfl rfl (by decide +kernel) ⟨(Nat.le_of_ble_eq_true rfl), (Nat.le_of_ble_eq_true rfl)⟩) (preW_V (hP.sub (ws' := [oX1 a_now g_now_month g_now_floes g_now_founds g_now_notes g_now_undos, rI cyI (a_now 6) 12 g_now_foundRows]) [1, 2] rfl) (hD.sub (ws' := [oX1 a_now g_now_month g_now_floes g_now_founds g_now_notes g_now_undos, rI cyI (a_now 6) 12 g_now_foundRows]) [1, 2] (by decide) rfl) hKK (va_recv hK hP (ci := 0) (q0 := 1) rfl rfl)) rfl rfl hl.1 rfl (lv_room (Nat.le_of_ble_eq_true rfl)) dX3_found_52 ⟨Nat.zero_le _, Nat.zero_le _⟩) hP hD hS hA [1, 2] [0] [0, 1, 2] rfl rfl (by decide) (by decide) rfl (by decide) (fun H28 L29 hP hD hS => ?_)
          refine lv_aload_n hx hb dX3_found_55 rfl (lv_at hl 0 rfl) ?_
          refine va_get (D := D) (cl := vwCl) (ci := 2) (v := .ref (a_now 0)) (C := RX3) (T := TX3) (N := 12) hx hb hts inX3 hown hK hP 0 rfl rfl 0 (by decide) (hts (Cond.fieldLink RX3 10 "FrozenIn" "now" "LFrozenIn$Sea;") (List.mem_of_getElem? (i := 1) rfl)) (fun _ h9 => h9) rfl dX3_found_56 ?_
          refine va_get (D := D) (cl := vwCl) (ci := 0) (v := .int u25.1) (C := RX1) (T := TX1) (N := 13) hx hb hts inX1 hown hK hP 1 rfl rfl 7 (by decide) (hts (Cond.fieldLink RX3 176 "FrozenIn$Sea" "founds" "I") (List.mem_of_getElem? (i := 2) rfl)) (fun _ h9 => h9) rfl dX3_found_59 ?_
          rw [← Option.some.inj h27]
          exact W.iret (v := u25.1) hx hb hr (fun t ht hW => ⟨⟨u25.1, (), rfl, rfl, ⟨by rw [ht]; exact hP, hD⟩⟩, hS.F ht⟩) hS.2.2 dX3_found_62
        · have h30 := (if_neg c23).symm.trans h22
          refine lv_aload_n hx hb dX3_found_40 rfl (lv_at hl 0 rfl) ?_
          obtain ⟨u31, hu32, h33⟩ := lt_e h30
          refine kw_I (wc := [oX3 a a_now a_spare a_text g_above g_below g_bads g_nos g_fulls]) (wr := [oX1 a_now g_now_month g_now_floes g_now_founds g_now_notes g_now_undos, rI cyI (a_now 6) 12 g_now_foundRows]) (ws' := [oX3 a a_now a_spare a_text g_above g_below g_bads g_nos u31.2, oX1 a_now g_now_month g_now_floes g_now_founds g_now_notes g_now_undos, rI cyI (a_now 6) 12 g_now_foundRows]) (va_runV (As := []) (rest := []) ⟨hx, hb, hml, hown, hts⟩ (c_X3_refuseFull l D cyI cyJ cyS a a_now a_spare a_text g_above g_below g_bads g_nos g_fulls s.heap.size u31 hu32.symm) (cwV 0 hts gX3_found_X3_refuseFull rfl rfl rfl (by decide +kernel) ⟨(Nat.le_of_ble_eq_true rfl), (Nat.le_of_ble_eq_true rfl)⟩) (preW_V (hP.sub (ws' := [oX3 a a_now a_spare a_text g_above g_below g_bads g_nos g_fulls]) [0] rfl) (hD.sub (ws' := [oX3 a a_now a_spare a_text g_above g_below g_bads g_nos g_fulls]) [0] (by decide) rfl) hKK (va_recv hK hP (ci := 2) (q0 := 0) rfl rfl)) rfl rfl hl.1 rfl (lv_room (Nat.le_of_ble_eq_true rfl)) dX3_found_41 ⟨Nat.zero_le _, Nat.zero_le _⟩) hP hD hS hA [0] [1, 2] [2, 0, 1] rfl rfl (by decide) (by decide) rfl (by decide) (fun H34 L35 hP hD hS => ?_)
          rw [← Option.some.inj h33]
          exact W.iret (v := u31.1) hx hb hr (fun t ht hW => ⟨⟨u31.1, (), rfl, rfl, ⟨by rw [ht]; exact hP, hD⟩⟩, hS.F ht⟩) hS.2.2 dX3_found_44
      · have h36 := (if_pos c21).symm.trans h19
        exact Jj2  _ _ _ h36 hP hD hS (lv_sub hl [0] rfl)
def T_X3_whence_L20 (N : Nat) (g_now_founds : Int32) (g_now_ways : Nat → Int32) (g_now_strengths : Nat → Int32) (g_now_foundRows : Nat → Int32) (k49 : Int32 → Int32 → Option (Int32 × Int32)) : Nat → Int32 → Int32 → Int32 → Option (Int32 × Int32)
  | 0, _, _, _ => none
  | n + 1, x4, x5, x6 => (if x6 < 0 then (k49 x4 x5) else (Option.bind (T_X1_allFoundFrom N g_now_founds g_now_ways g_now_strengths g_now_foundRows x6) fun u15 => (jn (fun (x19 : Int32) (x20 : Int32) => (lt' (x6 + (-1)) fun x27 => (T_X3_whence_L20 N g_now_founds g_now_ways g_now_strengths g_now_foundRows k49 n x19 x20 x27))) fun j21 => (if u15 = 0 then (j21 x4 x5) else (lt' (x4 + 1) fun x32 => (j21 x32 x6))))))
theorem T_X3_whence_L20_s (N : Nat) (g_now_founds : Int32) (g_now_ways : Nat → Int32) (g_now_strengths : Nat → Int32) (g_now_foundRows : Nat → Int32) (k49 : Int32 → Int32 → Option (Int32 × Int32)) (n : Nat) (x4 : Int32) (x5 : Int32) (x6 : Int32) : T_X3_whence_L20 N g_now_founds g_now_ways g_now_strengths g_now_foundRows k49 (n + 1) x4 x5 x6 = (if x6 < 0 then (k49 x4 x5) else (Option.bind (T_X1_allFoundFrom N g_now_founds g_now_ways g_now_strengths g_now_foundRows x6) fun u15 => (jn (fun (x19 : Int32) (x20 : Int32) => (lt' (x6 + (-1)) fun x27 => (T_X3_whence_L20 N g_now_founds g_now_ways g_now_strengths g_now_foundRows k49 n x19 x20 x27))) fun j21 => (if u15 = 0 then (j21 x4 x5) else (lt' (x4 + 1) fun x32 => (j21 x32 x6)))))) := rfl
def T_X3_whence (N : Nat) (g_bads : Int32) (g_now_founds : Int32) (g_now_ways : Nat → Int32) (g_now_strengths : Nat → Int32) (g_now_foundRows : Nat → Int32) (p1 : Int32) : Option (Int32 × Int32) :=
  (if (T_X3_isFirstOrSecond p1) = 0 then (lt' (T_X3_refuseBad g_bads) fun u43 => (some (u43.1, u43.2))) else (T_X3_whence_L20 N g_now_founds g_now_ways g_now_strengths g_now_foundRows (fun (x34 : Int32) (x35 : Int32) => (if p1 = 0 then (some (x34, g_bads)) else (some (x35, g_bads)))) N 0 (-1) 35))
abbrev rm_X3_whence : Room := { frames := 5, cells := 0, slots := 0, locals := 124 }
set_option maxHeartbeats 4000000 in
set_option maxRecDepth 100000 in
theorem c_X3_whence (l : Launch) (D : va_G) (cyI cyJ cyS : ClassId) (N : Nat) (a a_now a_spare a_text : Nat → Nat) (g_above : Int64) (g_below : Int64) (g_bads : Int32) (g_nos : Int32) (g_fulls : Int32) (g_now_month : Int32) (g_now_floes : Int32) (g_now_founds : Int32) (g_now_notes : Int32) (g_now_undos : Int32) (g_now_ways : Nat → Int32) (g_now_strengths : Nat → Int32) (g_now_foundRows : Nat → Int32) (p1 : Int32) (sz : Nat) (R0 : Int32 × Int32) (hT : T_X3_whence N g_bads g_now_founds g_now_ways g_now_strengths g_now_foundRows p1 = some R0) : Met l yX3_whence wsX3_whence rm_X3_whence (va_Pc [.ref (a 0), .int p1] (preW D (tyS cyI cyJ cyS) [oX3 a a_now a_spare a_text g_above g_below g_bads g_nos g_fulls, oX1 a_now g_now_month g_now_floes g_now_founds g_now_notes g_now_undos, rI cyI (a_now 1) 12 g_now_ways, rI cyI (a_now 2) 12 g_now_strengths, rI cyI (a_now 6) 12 g_now_foundRows] sz)) (va_Qi (fun (r : Int32) (_ : Unit) => r = R0.1) (fun _ t => va_P D vwCl [oX3 a a_now a_spare a_text g_above g_below R0.2 g_nos g_fulls, oX1 a_now g_now_month g_now_floes g_now_founds g_now_notes g_now_undos, rI cyI (a_now 1) 12 g_now_ways, rI cyI (a_now 2) 12 g_now_strengths, rI cyI (a_now 6) 12 g_now_foundRows] t.heap ∧ va_D (va_A [oX3 a a_now a_spare a_text g_above g_below g_bads g_nos g_fulls, oX1 a_now g_now_month g_now_floes g_now_founds g_now_notes g_now_undos, rI cyI (a_now 1) 12 g_now_ways, rI cyI (a_now 2) 12 g_now_strengths, rI cyI (a_now 6) 12 g_now_foundRows] sz) [oX3 a a_now a_spare a_text g_above g_below R0.2 g_nos g_fulls, oX1 a_now g_now_month g_now_floes g_now_founds g_now_notes g_now_undos, rI cyI (a_now 1) 12 g_now_ways, rI cyI (a_now 2) 12 g_now_strengths, rI cyI (a_now 6) 12 g_now_foundRows]) (va_A [oX3 a a_now a_spare a_text g_above g_below g_bads g_nos g_fulls, oX1 a_now g_now_month g_now_floes g_now_founds g_now_notes g_now_undos, rI cyI (a_now 1) 12 g_now_ways, rI cyI (a_now 2) 12 g_now_strengths, rI cyI (a_now 6) 12 g_now_foundRows] sz)) 0 0 (va_A [oX3 a a_now a_spare a_text g_above g_below g_bads g_nos g_fulls, oX1 a_now g_now_month g_now_floes g_now_founds g_now_notes g_now_undos, rI cyI (a_now 1) 12 g_now_ways, rI cyI (a_now 2) 12 g_now_strengths, rI cyI (a_now 6) 12 g_now_foundRows] sz) := by
  refine Met.ofW (cc := cX3_whence) (maxL := 5) (ret := (some .int)) (by decide) rfl ?_
  intro p e s m args below meth c s₁ B hml hv
  obtain ⟨rfl, hsz, hP, hKK, hD0⟩ := hv
  have hx := B.exec
  have hb := B.bytes
  have hr := B.returns
  have hts := atoms_spec (ws := wsX3_whence) B.pre
  have hown : s.vm.findClass RX3 = some m.cls := findClass_of_methodNamed B.named
  have hlocks := B.notSynchronized
  have hK := hKK.1
  have inX3 : ∀ w ∈ wsX30, w ∈ wsX3_whence := (fun _ h => List.mem_cons_of_mem _ (List.mem_append_left _ (List.mem_append_right _ h)))
  have inX1 : ∀ w ∈ wsX10, w ∈ wsX3_whence := (fun _ h => List.mem_cons_of_mem _ (List.mem_append_right _ h))
  subst hsz
  have hD := hD0.self (sz := s.heap.size)
  generalize hAe : va_A [oX3 a a_now a_spare a_text g_above g_below g_bads g_nos g_fulls, oX1 a_now g_now_month g_now_floes g_now_founds g_now_notes g_now_undos, rI cyI (a_now 1) 12 g_now_ways, rI cyI (a_now 2) 12 g_now_strengths, rI cyI (a_now 6) 12 g_now_foundRows] s.heap.size = A at hD ⊢
  have hA : ∀ q : Nat, s.heap.size ≤ q → A q := fun q h => by rw [← hAe]; exact Or.inr h
  have hS : va_S A s.heap s.heap [] := va_S.rf
  have hP : va_P D vwCl [oX3 a a_now a_spare a_text g_above g_below g_bads g_nos g_fulls, oX1 a_now g_now_month g_now_floes g_now_founds g_now_notes g_now_undos, rI cyI (a_now 1) 12 g_now_ways, rI cyI (a_now 2) 12 g_now_strengths, rI cyI (a_now 6) 12 g_now_foundRows] s.heap := hP
  have hl := lv_entry [.ref (a 0), .int p1] (n := 5) (Nat.le_of_ble_eq_true rfl)
  rw [lg_entry_eq]
  generalize (lg_sl [.ref (a 0), .int p1] ++ List.replicate (5 - (lg_sl [.ref (a 0), .int p1]).length) Slot.unset).toArray = ls at hl ⊢
  have hl : lv_has ls 5 [(0, .ref (a 0)), (1, .int p1)] := hl
  have L20 : ∀ (k49 : Int32 → Int32 → Option (Int32 × Int32)) (hk49 : ∀ (x7 : Int32) (x8 : Int32) (H : Heap) (locs : List Loc) (ls : Array Slot), k49 x7 x8 = some R0 → va_P D vwCl [oX3 a a_now a_spare a_text g_above g_below g_bads g_nos g_fulls, oX1 a_now g_now_month g_now_floes g_now_founds g_now_notes g_now_undos, rI cyI (a_now 1) 12 g_now_ways, rI cyI (a_now 2) 12 g_now_strengths, rI cyI (a_now 6) 12 g_now_foundRows] H → va_D A [oX3 a a_now a_spare a_text g_above g_below g_bads g_nos g_fulls, oX1 a_now g_now_month g_now_floes g_now_founds g_now_notes g_now_undos, rI cyI (a_now 1) 12 g_now_ways, rI cyI (a_now 2) 12 g_now_strengths, rI cyI (a_now 6) 12 g_now_foundRows] → va_S A s.heap H locs → lv_has ls 5 [(1, .int p1), (2, .int x7), (3, .int x8)] → W p l e (headSpec wsX3_whence rm_X3_whence).room s m ([.ref (a 0), .int p1] : List Value).toArray below meth c H locs 0 0 (MQ below (va_Qi (fun (r : Int32) (_ : Unit) => r = R0.1) (fun _ t => va_P D vwCl [oX3 a a_now a_spare a_text g_above g_below R0.2 g_nos g_fulls, oX1 a_now g_now_month g_now_floes g_now_founds g_now_notes g_now_undos, rI cyI (a_now 1) 12 g_now_ways, rI cyI (a_now 2) 12 g_now_strengths, rI cyI (a_now 6) 12 g_now_foundRows] t.heap ∧ va_D A [oX3 a a_now a_spare a_text g_above g_below R0.2 g_nos g_fulls, oX1 a_now g_now_month g_now_floes g_now_founds g_now_notes g_now_undos, rI cyI (a_now 1) 12 g_now_ways, rI cyI (a_now 2) 12 g_now_strengths, rI cyI (a_now 6) 12 g_now_foundRows]) A) ([.ref (a 0), .int p1] : List Value).toArray s 0 0 A) (F0 m 49 ls [])) (n : Nat), ∀ (x4 : Int32) (x5 : Int32) (x6 : Int32) (H : Heap) (locs : List Loc) (ls : Array Slot), T_X3_whence_L20 N g_now_founds g_now_ways g_now_strengths g_now_foundRows k49 n x4 x5 x6 = some R0 → va_P D vwCl [oX3 a a_now a_spare a_text g_above g_below g_bads g_nos g_fulls, oX1 a_now g_now_month g_now_floes g_now_founds g_now_notes g_now_undos, rI cyI (a_now 1) 12 g_now_ways, rI cyI (a_now 2) 12 g_now_strengths, rI cyI (a_now 6) 12 g_now_foundRows] H → va_D A [oX3 a a_now a_spare a_text g_above g_below g_bads g_nos g_fulls, oX1 a_now g_now_month g_now_floes g_now_founds g_now_notes g_now_undos, rI cyI (a_now 1) 12 g_now_ways, rI cyI (a_now 2) 12 g_now_strengths, rI cyI (a_now 6) 12 g_now_foundRows] → va_S A s.heap H locs → lv_has ls 5 [(0, .ref (a 0)), (1, .int p1), (2, .int x4), (3, .int x5), (4, .int x6)] → W p l e (headSpec wsX3_whence rm_X3_whence).room s m ([.ref (a 0), .int p1] : List Value).toArray below meth c H locs 0 0 (MQ below (va_Qi (fun (r : Int32) (_ : Unit) => r = R0.1) (fun _ t => va_P D vwCl [oX3 a a_now a_spare a_text g_above g_below R0.2 g_nos g_fulls, oX1 a_now g_now_month g_now_floes g_now_founds g_now_notes g_now_undos, rI cyI (a_now 1) 12 g_now_ways, rI cyI (a_now 2) 12 g_now_strengths, rI cyI (a_now 6) 12 g_now_foundRows] t.heap ∧ va_D A [oX3 a a_now a_spare a_text g_above g_below R0.2 g_nos g_fulls, oX1 a_now g_now_month g_now_floes g_now_founds g_now_notes g_now_undos, rI cyI (a_now 1) 12 g_now_ways, rI cyI (a_now 2) 12 g_now_strengths, rI cyI (a_now 6) 12 g_now_foundRows]) A) ([.ref (a 0), .int p1] : List Value).toArray s 0 0 A) (F0 m 20 ls []) := by
    intro k49 hk49 n
    induction n with
    | zero => intro _ _ _ _ _ _ h; exact absurd h (fun z => by cases z)
    | succ n ih =>
      intro x4 x5 x6 H10 L11 ls h9 hP hD hS hl
      rw [T_X3_whence_L20_s] at h9
      refine lv_iload hx hb dX3_whence_20 (lv_at hl 4 rfl) ?_
      refine lv_if_lt (tgt := 49) hx hb dX3_whence_22 (by decide) (fun c12 => ?_) (fun c12 => ?_)
      · have h13 := (if_pos c12).symm.trans h9
        exact hk49 x4 x5 _ _ _ h13 hP hD hS (lv_sub hl [1, 2, 3] rfl)
      · have h14 := (if_neg c12).symm.trans h9
        refine lv_aload_n hx hb dX3_whence_25 rfl (lv_at hl 0 rfl) ?_
        refine va_get (D := D) (cl := vwCl) (ci := 2) (v := .ref (a_now 0)) (C := RX3) (T := TX3) (N := 12) hx hb hts inX3 hown hK hP 0 rfl rfl 0 (by decide) (hts (Cond.fieldLink RX3 10 "FrozenIn" "now" "LFrozenIn$Sea;") (List.mem_of_getElem? (i := 1) rfl)) (fun _ h9 => h9) rfl dX3_whence_26 ?_
        refine lv_iload hx hb dX3_whence_29 (lv_at hl 4 rfl) ?_
        obtain ⟨u15, hu16, h17⟩ := bd_e h14
        refine kc_Z (W.runV (As := [.int x6]) (rest := []) ⟨hx, hb, hml, hown, hts⟩ (c_X1_allFoundFrom l D cyI cyJ cyS N a_now g_now_month g_now_floes g_now_founds g_now_notes g_now_undos g_now_ways g_now_strengths g_now_foundRows x6 u15 hu16) (cwV 1 hts gX3_whence_X1_allFoundFrom rfl rfl rfl (by decide +kernel) ⟨(Nat.le_of_ble_eq_true rfl), (Nat.le_of_ble_eq_true rfl)⟩) (preR_V (hP.sub (ws' := [oX1 a_now g_now_month g_now_floes g_now_founds g_now_notes g_now_undos, rI cyI (a_now 1) 12 g_now_ways, rI cyI (a_now 2) 12 g_now_strengths, rI cyI (a_now 6) 12 g_now_foundRows]) [1, 2, 3, 4] rfl) hKK (va_recv hK hP (ci := 0) (q0 := 1) rfl rfl)) rfl rfl hl.1 rfl (lv_room (Nat.le_of_ble_eq_true rfl)) dX3_whence_31 ⟨Nat.zero_le _, Nat.zero_le _⟩) (fun hn18 => ?_)
        obtain ⟨j21, hj22, h23⟩ := jn_e h17
        have Jj21 : ∀ (x19 : Int32) (x20 : Int32) (H : Heap) (locs : List Loc) (ls : Array Slot), j21 x19 x20 = some R0 → va_P D vwCl [oX3 a a_now a_spare a_text g_above g_below g_bads g_nos g_fulls, oX1 a_now g_now_month g_now_floes g_now_founds g_now_notes g_now_undos, rI cyI (a_now 1) 12 g_now_ways, rI cyI (a_now 2) 12 g_now_strengths, rI cyI (a_now 6) 12 g_now_foundRows] H → va_D A [oX3 a a_now a_spare a_text g_above g_below g_bads g_nos g_fulls, oX1 a_now g_now_month g_now_floes g_now_founds g_now_notes g_now_undos, rI cyI (a_now 1) 12 g_now_ways, rI cyI (a_now 2) 12 g_now_strengths, rI cyI (a_now 6) 12 g_now_foundRows] → va_S A s.heap H locs → lv_has ls 5 [(0, .ref (a 0)), (1, .int p1), (2, .int x19), (3, .int x20), (4, .int x6)] → W p l e (headSpec wsX3_whence rm_X3_whence).room s m ([.ref (a 0), .int p1] : List Value).toArray below meth c H locs 0 0 (MQ below (va_Qi (fun (r : Int32) (_ : Unit) => r = R0.1) (fun _ t => va_P D vwCl [oX3 a a_now a_spare a_text g_above g_below R0.2 g_nos g_fulls, oX1 a_now g_now_month g_now_floes g_now_founds g_now_notes g_now_undos, rI cyI (a_now 1) 12 g_now_ways, rI cyI (a_now 2) 12 g_now_strengths, rI cyI (a_now 6) 12 g_now_foundRows] t.heap ∧ va_D A [oX3 a a_now a_spare a_text g_above g_below R0.2 g_nos g_fulls, oX1 a_now g_now_month g_now_floes g_now_founds g_now_notes g_now_undos, rI cyI (a_now 1) 12 g_now_ways, rI cyI (a_now 2) 12 g_now_strengths, rI cyI (a_now 6) 12 g_now_foundRows]) A) ([.ref (a 0), .int p1] : List Value).toArray s 0 0 A) (F0 m 43 ls []) := by
          intro x19 x20 H25 L26 ls h24 hP hD hS hl
          rw [hj22] at h24
          obtain ⟨x27, ex27, h28⟩ := lt_e h24
          refine lv_iinc (v := x27) (lv' := [(4, .int x27), (0, .ref (a 0)), (1, .int p1), (2, .int x19), (3, .int x20)]) hx hb dX3_whence_43 hl (k := 4) rfl (by rw [ex27]; rfl) (by decide) rfl (fun ls hl => ?_)
          refine lv_goto (tgt := 20) hx hb dX3_whence_46 (by decide) ?_
          exact ih x19 x20 x27 _ _ _ h28 hP hD hS (lv_sub hl [1, 2, 3, 4, 0] rfl)
        refine lv_if_eq (tgt := 43) hx hb dX3_whence_34 (by decide) (fun c29 => ?_) (fun c29 => ?_)
        · have h30 := (if_pos c29).symm.trans h23
          exact Jj21 x4 x5 _ _ _ h30 hP hD hS (lv_sub hl [0, 1, 2, 3, 4] rfl)
        · have h31 := (if_neg c29).symm.trans h23
          obtain ⟨x32, ex32, h33⟩ := lt_e h31
          refine lv_iinc (v := x32) (lv' := [(2, .int x32), (0, .ref (a 0)), (1, .int p1), (3, .int x5), (4, .int x6)]) hx hb dX3_whence_37 hl (k := 2) rfl (by rw [ex32]; rfl) (by decide) rfl (fun ls hl => ?_)
          refine lv_iload hx hb dX3_whence_40 (lv_at hl 4 rfl) ?_
          refine lv_istore_n (lv' := [(3, .int x6), (2, .int x32), (0, .ref (a 0)), (1, .int p1), (4, .int x6)]) hx hb dX3_whence_42 rfl hl (by decide) rfl (fun ls hl => ?_)
          exact Jj21 x32 x6 _ _ _ h33 hP hD hS (lv_sub hl [2, 3, 1, 0, 4] rfl)
  unfold T_X3_whence at hT
  refine lv_iload_n hx hb dX3_whence_0 rfl (lv_at hl 1 rfl) ?_
  refine kc_Z (W.runS (As := [.int p1]) (rest := []) ⟨hx, hb, hml, hown, hts⟩ (c_X3_isFirstOrSecond l p1 (T_X3_isFirstOrSecond p1) rfl) (va_cwS 1 hts gX3_whence_X3_isFirstOrSecond rfl rfl rfl (by decide +kernel) ⟨(Nat.le_of_ble_eq_true rfl), (Nat.le_of_ble_eq_true rfl)⟩) preT_S rfl rfl hl.1 rfl (lv_room (Nat.le_of_ble_eq_true rfl)) dX3_whence_1 ⟨Nat.zero_le _, Nat.zero_le _⟩) (fun hn1 => ?_)
  refine lv_if_ne (tgt := 12) hx hb dX3_whence_4 (by decide) (fun c2 => ?_) (fun c2 => ?_)
  · have h3 := (if_neg c2).symm.trans hT
    refine lv_iconst (v := 0) hx hb dX3_whence_12 (by decide) ?_
    refine lv_istore_n (lv' := [(2, .int 0), (0, .ref (a 0)), (1, .int p1)]) hx hb dX3_whence_13 rfl hl (by decide) rfl (fun ls hl => ?_)
    refine lv_iconst (v := (-1)) hx hb dX3_whence_14 (by decide) ?_
    refine lv_istore_n (lv' := [(3, .int (-1)), (2, .int 0), (0, .ref (a 0)), (1, .int p1)]) hx hb dX3_whence_15 rfl hl (by decide) rfl (fun ls hl => ?_)
    refine lv_bipush (v := 35) hx hb dX3_whence_16 (by decide) ?_
    refine lv_istore (lv' := [(4, .int 35), (3, .int (-1)), (2, .int 0), (0, .ref (a 0)), (1, .int p1)]) hx hb dX3_whence_18 hl (by decide) rfl (fun ls hl => ?_)
    refine L20 _ (fun x34 x35 H37 L38 ls h36 hP hD hS hl => ?_) N 0 (-1) 35 _ _ _ h3 hP hD hS (lv_sub hl [3, 4, 2, 1, 0] rfl)
    refine lv_iload_n hx hb dX3_whence_49 rfl (lv_at hl 0 rfl) ?_
    refine lv_if_ne (tgt := 57) hx hb dX3_whence_50 (by decide) (fun c39 => ?_) (fun c39 => ?_)
    · have h40 := (if_neg c39).symm.trans h36
      refine lv_iload_n hx hb dX3_whence_57 rfl (lv_at hl 2 rfl) ?_
      rw [← Option.some.inj h40]
      exact W.iret (v := x35) hx hb hr (fun t ht hW => ⟨⟨x35, (), rfl, rfl, ⟨by rw [ht]; exact hP, hD⟩⟩, hS.F ht⟩) hS.2.2 dX3_whence_58
    · have h41 := (if_pos c39).symm.trans h36
      refine lv_iload_n hx hb dX3_whence_53 rfl (lv_at hl 1 rfl) ?_
      refine lv_goto (tgt := 58) hx hb dX3_whence_54 (by decide) ?_
      rw [← Option.some.inj h41]
      exact W.iret (v := x34) hx hb hr (fun t ht hW => ⟨⟨x34, (), rfl, rfl, ⟨by rw [ht]; exact hP, hD⟩⟩, hS.F ht⟩) hS.2.2 dX3_whence_58
  · have h42 := (if_pos c2).symm.trans hT
    refine lv_aload_n hx hb dX3_whence_7 rfl (lv_at hl 0 rfl) ?_
    obtain ⟨u43, hu44, h45⟩ := lt_e h42
    refine kw_I (wc := [oX3 a a_now a_spare a_text g_above g_below g_bads g_nos g_fulls]) (wr := [oX1 a_now g_now_month g_now_floes g_now_founds g_now_notes g_now_undos, rI cyI (a_now 1) 12 g_now_ways, rI cyI (a_now 2) 12 g_now_strengths, rI cyI (a_now 6) 12 g_now_foundRows]) (ws' := [oX3 a a_now a_spare a_text g_above g_below u43.2 g_nos g_fulls, oX1 a_now g_now_month g_now_floes g_now_founds g_now_notes g_now_undos, rI cyI (a_now 1) 12 g_now_ways, rI cyI (a_now 2) 12 g_now_strengths, rI cyI (a_now 6) 12 g_now_foundRows]) (va_runV (As := []) (rest := []) ⟨hx, hb, hml, hown, hts⟩ (c_X3_refuseBad l D cyI cyJ cyS a a_now a_spare a_text g_above g_below g_bads g_nos g_fulls s.heap.size u43 hu44.symm) (cwV 0 hts gX3_whence_X3_refuseBad rfl rfl rfl (by decide +kernel) ⟨(Nat.le_of_ble_eq_true rfl), (Nat.le_of_ble_eq_true rfl)⟩) (preW_V (hP.sub (ws' := [oX3 a a_now a_spare a_text g_above g_below g_bads g_nos g_fulls]) [0] rfl) (hD.sub (ws' := [oX3 a a_now a_spare a_text g_above g_below g_bads g_nos g_fulls]) [0] (by decide) rfl) hKK (va_recv hK hP (ci := 2) (q0 := 0) rfl rfl)) rfl rfl hl.1 rfl (lv_room (Nat.le_of_ble_eq_true rfl)) dX3_whence_8 ⟨Nat.zero_le _, Nat.zero_le _⟩) hP hD hS hA [0] [1, 2, 3, 4] [4, 0, 1, 2, 3] rfl rfl (by decide) (by decide) rfl (by decide) (fun H46 L47 hP hD hS => ?_)
    rw [← Option.some.inj h45]
    exact W.iret (v := u43.1) hx hb hr (fun t ht hW => ⟨⟨u43.1, (), rfl, rfl, ⟨by rw [ht]; exact hP, hD⟩⟩, hS.F ht⟩) hS.2.2 dX3_whence_11
def T_X3_note (N : Nat) (g_bads : Int32) (g_fulls : Int32) (g_now_floes : Int32) (g_now_notes : Int32) (g_now_noteRows : Nat → Int32) (p1 : Int32) (p2 : Int32) (p3 : Int32) (p4 : Int32) (p5 : Int32) (p6 : Int32) (p7 : Int32) : Option (Int32 × Int32 × Int32 × Int32 × (Nat → Int32)) :=
  (jn (fun (x2 : Int32) => (if x2 = 0 then (lt' (T_X3_refuseBad g_bads) fun u25 => (some (u25.1, u25.2, g_fulls, g_now_notes, g_now_noteRows))) else (if g_now_notes < 6 then (Option.bind (T_X1_addNote N g_now_notes g_now_noteRows p1 p2 p3 p4 p5 p6 p7) fun u13 => (some (u13.1, g_bads, g_fulls, u13.1, u13.2))) else (lt' (T_X3_refuseFull g_fulls) fun u19 => (some (u19.1, g_bads, u19.2, g_now_notes, g_now_noteRows)))))) fun j3 => (jn (j3 0) fun j30 => (if (T_X3_isFloe g_now_floes p1) = 0 then j30 else (if (T_X3_within p2 0 99) = 0 then j30 else (if (T_X3_isWind p3 p4) = 0 then j30 else (if (T_X3_within p5 0 5) = 0 then j30 else (if (T_X3_isWind p6 p7) = 0 then j30 else (j3 1))))))))
abbrev rm_X3_note : Room := { frames := 2, cells := 0, slots := 0, locals := 43 }
set_option maxHeartbeats 4000000 in
set_option maxRecDepth 100000 in
theorem c_X3_note (l : Launch) (D : va_G) (cyI cyJ cyS : ClassId) (N : Nat) (a a_now a_spare a_text : Nat → Nat) (g_above : Int64) (g_below : Int64) (g_bads : Int32) (g_nos : Int32) (g_fulls : Int32) (g_now_month : Int32) (g_now_floes : Int32) (g_now_founds : Int32) (g_now_notes : Int32) (g_now_undos : Int32) (g_now_noteRows : Nat → Int32) (p1 : Int32) (p2 : Int32) (p3 : Int32) (p4 : Int32) (p5 : Int32) (p6 : Int32) (p7 : Int32) (sz : Nat) (R0 : Int32 × Int32 × Int32 × Int32 × (Nat → Int32)) (hT : T_X3_note N g_bads g_fulls g_now_floes g_now_notes g_now_noteRows p1 p2 p3 p4 p5 p6 p7 = some R0) : Met l yX3_note wsX3_note rm_X3_note (va_Pc [.ref (a 0), .int p1, .int p2, .int p3, .int p4, .int p5, .int p6, .int p7] (preW D (tyS cyI cyJ cyS) [oX3 a a_now a_spare a_text g_above g_below g_bads g_nos g_fulls, oX1 a_now g_now_month g_now_floes g_now_founds g_now_notes g_now_undos, rI cyI (a_now 7) 42 g_now_noteRows] sz)) (va_Qi (fun (r : Int32) (_ : Unit) => r = R0.1) (fun _ t => va_P D vwCl [oX3 a a_now a_spare a_text g_above g_below R0.2.1 g_nos R0.2.2.1, oX1 a_now g_now_month g_now_floes g_now_founds R0.2.2.2.1 g_now_undos, rI cyI (a_now 7) 42 R0.2.2.2.2] t.heap ∧ va_D (va_A [oX3 a a_now a_spare a_text g_above g_below g_bads g_nos g_fulls, oX1 a_now g_now_month g_now_floes g_now_founds g_now_notes g_now_undos, rI cyI (a_now 7) 42 g_now_noteRows] sz) [oX3 a a_now a_spare a_text g_above g_below R0.2.1 g_nos R0.2.2.1, oX1 a_now g_now_month g_now_floes g_now_founds R0.2.2.2.1 g_now_undos, rI cyI (a_now 7) 42 R0.2.2.2.2]) (va_A [oX3 a a_now a_spare a_text g_above g_below g_bads g_nos g_fulls, oX1 a_now g_now_month g_now_floes g_now_founds g_now_notes g_now_undos, rI cyI (a_now 7) 42 g_now_noteRows] sz)) 0 0 (va_A [oX3 a a_now a_spare a_text g_above g_below g_bads g_nos g_fulls, oX1 a_now g_now_month g_now_floes g_now_founds g_now_notes g_now_undos, rI cyI (a_now 7) 42 g_now_noteRows] sz) := by
  refine Met.ofW (cc := cX3_note) (maxL := 9) (ret := (some .int)) (by decide) rfl ?_
  intro p e s m args below meth c s₁ B hml hv
  obtain ⟨rfl, hsz, hP, hKK, hD0⟩ := hv
  have hx := B.exec
  have hb := B.bytes
  have hr := B.returns
  have hts := atoms_spec (ws := wsX3_note) B.pre
  have hown : s.vm.findClass RX3 = some m.cls := findClass_of_methodNamed B.named
  have hlocks := B.notSynchronized
  have hK := hKK.1
  have inX3 : ∀ w ∈ wsX30, w ∈ wsX3_note := (fun _ h => List.mem_cons_of_mem _ (List.mem_append_left _ (List.mem_append_right _ h)))
  have inX1 : ∀ w ∈ wsX10, w ∈ wsX3_note := (fun _ h => List.mem_cons_of_mem _ (List.mem_append_right _ h))
  subst hsz
  have hD := hD0.self (sz := s.heap.size)
  generalize hAe : va_A [oX3 a a_now a_spare a_text g_above g_below g_bads g_nos g_fulls, oX1 a_now g_now_month g_now_floes g_now_founds g_now_notes g_now_undos, rI cyI (a_now 7) 42 g_now_noteRows] s.heap.size = A at hD ⊢
  have hA : ∀ q : Nat, s.heap.size ≤ q → A q := fun q h => by rw [← hAe]; exact Or.inr h
  have hS : va_S A s.heap s.heap [] := va_S.rf
  have hP : va_P D vwCl [oX3 a a_now a_spare a_text g_above g_below g_bads g_nos g_fulls, oX1 a_now g_now_month g_now_floes g_now_founds g_now_notes g_now_undos, rI cyI (a_now 7) 42 g_now_noteRows] s.heap := hP
  have hl := lv_entry [.ref (a 0), .int p1, .int p2, .int p3, .int p4, .int p5, .int p6, .int p7] (n := 9) (Nat.le_of_ble_eq_true rfl)
  rw [lg_entry_eq]
  generalize (lg_sl [.ref (a 0), .int p1, .int p2, .int p3, .int p4, .int p5, .int p6, .int p7] ++ List.replicate (9 - (lg_sl [.ref (a 0), .int p1, .int p2, .int p3, .int p4, .int p5, .int p6, .int p7]).length) Slot.unset).toArray = ls at hl ⊢
  have hl : lv_has ls 9 [(0, .ref (a 0)), (1, .int p1), (2, .int p2), (3, .int p3), (4, .int p4), (5, .int p5), (6, .int p6), (7, .int p7)] := hl
  unfold T_X3_note at hT
  refine lv_aload_n hx hb dX3_note_0 rfl (lv_at hl 0 rfl) ?_
  refine lv_iload_n hx hb dX3_note_1 rfl (lv_at hl 1 rfl) ?_
  refine kc_Z (W.runV (As := [.int p1]) (rest := []) ⟨hx, hb, hml, hown, hts⟩ (c_X3_isFloe l D cyI cyJ cyS a a_now a_spare a_text g_above g_below g_bads g_nos g_fulls g_now_month g_now_floes g_now_founds g_now_notes g_now_undos p1 (T_X3_isFloe g_now_floes p1) rfl) (cwV 1 hts gX3_note_X3_isFloe rfl rfl rfl (by decide +kernel) ⟨(Nat.le_of_ble_eq_true rfl), (Nat.le_of_ble_eq_true rfl)⟩) (preR_V (hP.sub (ws' := [oX3 a a_now a_spare a_text g_above g_below g_bads g_nos g_fulls, oX1 a_now g_now_month g_now_floes g_now_founds g_now_notes g_now_undos]) [0, 1] rfl) hKK (va_recv hK hP (ci := 2) (q0 := 0) rfl rfl)) rfl rfl hl.1 rfl (lv_room (Nat.le_of_ble_eq_true rfl)) dX3_note_2 ⟨Nat.zero_le _, Nat.zero_le _⟩) (fun hn1 => ?_)
  obtain ⟨j3, hj4, h5⟩ := jn_e hT
  have Jj3 : ∀ (x2 : Int32) (H : Heap) (locs : List Loc) (ls : Array Slot), j3 x2 = some R0 → va_P D vwCl [oX3 a a_now a_spare a_text g_above g_below g_bads g_nos g_fulls, oX1 a_now g_now_month g_now_floes g_now_founds g_now_notes g_now_undos, rI cyI (a_now 7) 42 g_now_noteRows] H → va_D A [oX3 a a_now a_spare a_text g_above g_below g_bads g_nos g_fulls, oX1 a_now g_now_month g_now_floes g_now_founds g_now_notes g_now_undos, rI cyI (a_now 7) 42 g_now_noteRows] → va_S A s.heap H locs → lv_has ls 9 [(0, .ref (a 0)), (1, .int p1), (2, .int p2), (3, .int p3), (4, .int p4), (5, .int p5), (6, .int p6), (7, .int p7)] → W p l e (headSpec wsX3_note rm_X3_note).room s m ([.ref (a 0), .int p1, .int p2, .int p3, .int p4, .int p5, .int p6, .int p7] : List Value).toArray below meth c H locs 0 0 (MQ below (va_Qi (fun (r : Int32) (_ : Unit) => r = R0.1) (fun _ t => va_P D vwCl [oX3 a a_now a_spare a_text g_above g_below R0.2.1 g_nos R0.2.2.1, oX1 a_now g_now_month g_now_floes g_now_founds R0.2.2.2.1 g_now_undos, rI cyI (a_now 7) 42 R0.2.2.2.2] t.heap ∧ va_D A [oX3 a a_now a_spare a_text g_above g_below R0.2.1 g_nos R0.2.2.1, oX1 a_now g_now_month g_now_floes g_now_founds R0.2.2.2.1 g_now_undos, rI cyI (a_now 7) 42 R0.2.2.2.2]) A) ([.ref (a 0), .int p1, .int p2, .int p3, .int p4, .int p5, .int p6, .int p7] : List Value).toArray s 0 0 A) (F0 m 52 ls [.int x2]) := by
    intro x2 H7 L8 ls h6 hP hD hS hl
    rw [hj4] at h6
    refine lv_istore (lv' := [(8, .int x2), (0, .ref (a 0)), (1, .int p1), (2, .int p2), (3, .int p3), (4, .int p4), (5, .int p5), (6, .int p6), (7, .int p7)]) hx hb dX3_note_52 hl (by decide) rfl (fun ls hl => ?_)
    refine lv_iload hx hb dX3_note_54 (lv_at hl 0 rfl) ?_
    refine lv_if_ne (tgt := 64) hx hb dX3_note_56 (by decide) (fun c9 => ?_) (fun c9 => ?_)
    · have h10 := (if_neg c9).symm.trans h6
      refine lv_aload_n hx hb dX3_note_64 rfl (lv_at hl 1 rfl) ?_
      refine va_get (D := D) (cl := vwCl) (ci := 2) (v := .ref (a_now 0)) (C := RX3) (T := TX3) (N := 12) hx hb hts inX3 hown hK hP 0 rfl rfl 0 (by decide) (hts (Cond.fieldLink RX3 10 "FrozenIn" "now" "LFrozenIn$Sea;") (List.mem_of_getElem? (i := 1) rfl)) (fun _ h9 => h9) rfl dX3_note_65 ?_
      refine va_get (D := D) (cl := vwCl) (ci := 0) (v := .int g_now_notes) (C := RX1) (T := TX1) (N := 13) hx hb hts inX1 hown hK hP 1 rfl rfl 9 (by decide) (hts (Cond.fieldLink RX3 185 "FrozenIn$Sea" "notes" "I") (List.mem_of_getElem? (i := 2) rfl)) (fun _ h9 => h9) rfl dX3_note_68 ?_
      refine lv_bipush (v := 6) hx hb dX3_note_71 (by decide) ?_
      refine lv_icmp_lt (tgt := 81) hx hb dX3_note_73 (by decide) (fun c11 => ?_) (fun c11 => ?_)
      · have h12 := (if_pos c11).symm.trans h10
        refine lv_aload_n hx hb dX3_note_81 rfl (lv_at hl 1 rfl) ?_
        refine va_get (D := D) (cl := vwCl) (ci := 2) (v := .ref (a_now 0)) (C := RX3) (T := TX3) (N := 12) hx hb hts inX3 hown hK hP 0 rfl rfl 0 (by decide) (hts (Cond.fieldLink RX3 10 "FrozenIn" "now" "LFrozenIn$Sea;") (List.mem_of_getElem? (i := 1) rfl)) (fun _ h9 => h9) rfl dX3_note_82 ?_
        refine lv_iload_n hx hb dX3_note_85 rfl (lv_at hl 2 rfl) ?_
        refine lv_iload_n hx hb dX3_note_86 rfl (lv_at hl 3 rfl) ?_
        refine lv_iload_n hx hb dX3_note_87 rfl (lv_at hl 4 rfl) ?_
        refine lv_iload hx hb dX3_note_88 (lv_at hl 5 rfl) ?_
        refine lv_iload hx hb dX3_note_90 (lv_at hl 6 rfl) ?_
        refine lv_iload hx hb dX3_note_92 (lv_at hl 7 rfl) ?_
        refine lv_iload hx hb dX3_note_94 (lv_at hl 8 rfl) ?_
        obtain ⟨u13, hu14, h15⟩ := bd_e h12
        refine kw_V (wc := [oX1 a_now g_now_month g_now_floes g_now_founds g_now_notes g_now_undos, rI cyI (a_now 7) 42 g_now_noteRows]) (wr := [oX3 a a_now a_spare a_text g_above g_below g_bads g_nos g_fulls]) (ws' := [oX3 a a_now a_spare a_text g_above g_below g_bads g_nos g_fulls, oX1 a_now g_now_month g_now_floes g_now_founds u13.1 g_now_undos, rI cyI (a_now 7) 42 u13.2]) (va_runV (As := [.int p1, .int p2, .int p3, .int p4, .int p5, .int p6, .int p7]) (rest := []) ⟨hx, hb, hml, hown, hts⟩ (c_X1_addNote l D cyI cyJ cyS N a_now g_now_month g_now_floes g_now_founds g_now_notes g_now_undos g_now_noteRows p1 p2 p3 p4 p5 p6 p7 H7.size u13 hu14) (cwV 7 hts gX3_note_X1_addNote rfl rfl rfl (by decide +kernel) ⟨(Nat.le_of_ble_eq_true rfl), (Nat.le_of_ble_eq_true rfl)⟩) (preW_V (hP.sub (ws' := [oX1 a_now g_now_month g_now_floes g_now_founds g_now_notes g_now_undos, rI cyI (a_now 7) 42 g_now_noteRows]) [1, 2] rfl) (hD.sub (ws' := [oX1 a_now g_now_month g_now_floes g_now_founds g_now_notes g_now_undos, rI cyI (a_now 7) 42 g_now_noteRows]) [1, 2] (by decide) rfl) hKK (va_recv hK hP (ci := 0) (q0 := 1) rfl rfl)) rfl rfl hl.1 rfl (lv_room (Nat.le_of_ble_eq_true rfl)) dX3_note_96 ⟨Nat.zero_le _, Nat.zero_le _⟩) hP hD hS hA [1, 2] [0] [0, 1, 2] rfl rfl (by decide) (by decide) rfl (by decide) (fun H16 L17 hP hD hS => ?_)
        refine lv_aload_n hx hb dX3_note_99 rfl (lv_at hl 1 rfl) ?_
        refine va_get (D := D) (cl := vwCl) (ci := 2) (v := .ref (a_now 0)) (C := RX3) (T := TX3) (N := 12) hx hb hts inX3 hown hK hP 0 rfl rfl 0 (by decide) (hts (Cond.fieldLink RX3 10 "FrozenIn" "now" "LFrozenIn$Sea;") (List.mem_of_getElem? (i := 1) rfl)) (fun _ h9 => h9) rfl dX3_note_100 ?_
        refine va_get (D := D) (cl := vwCl) (ci := 0) (v := .int u13.1) (C := RX1) (T := TX1) (N := 13) hx hb hts inX1 hown hK hP 1 rfl rfl 9 (by decide) (hts (Cond.fieldLink RX3 185 "FrozenIn$Sea" "notes" "I") (List.mem_of_getElem? (i := 2) rfl)) (fun _ h9 => h9) rfl dX3_note_103 ?_
        rw [← Option.some.inj h15]
        exact W.iret (v := u13.1) hx hb hr (fun t ht hW => ⟨⟨u13.1, (), rfl, rfl, ⟨by rw [ht]; exact hP, hD⟩⟩, hS.F ht⟩) hS.2.2 dX3_note_106
      · have h18 := (if_neg c11).symm.trans h10
        refine lv_aload_n hx hb dX3_note_76 rfl (lv_at hl 1 rfl) ?_
        obtain ⟨u19, hu20, h21⟩ := lt_e h18
        refine kw_I (wc := [oX3 a a_now a_spare a_text g_above g_below g_bads g_nos g_fulls]) (wr := [oX1 a_now g_now_month g_now_floes g_now_founds g_now_notes g_now_undos, rI cyI (a_now 7) 42 g_now_noteRows]) (ws' := [oX3 a a_now a_spare a_text g_above g_below g_bads g_nos u19.2, oX1 a_now g_now_month g_now_floes g_now_founds g_now_notes g_now_undos, rI cyI (a_now 7) 42 g_now_noteRows]) (va_runV (As := []) (rest := []) ⟨hx, hb, hml, hown, hts⟩ (c_X3_refuseFull l D cyI cyJ cyS a a_now a_spare a_text g_above g_below g_bads g_nos g_fulls H7.size u19 hu20.symm) (cwV 0 hts gX3_note_X3_refuseFull rfl rfl rfl (by decide +kernel) ⟨(Nat.le_of_ble_eq_true rfl), (Nat.le_of_ble_eq_true rfl)⟩) (preW_V (hP.sub (ws' := [oX3 a a_now a_spare a_text g_above g_below g_bads g_nos g_fulls]) [0] rfl) (hD.sub (ws' := [oX3 a a_now a_spare a_text g_above g_below g_bads g_nos g_fulls]) [0] (by decide) rfl) hKK (va_recv hK hP (ci := 2) (q0 := 0) rfl rfl)) rfl rfl hl.1 rfl (lv_room (Nat.le_of_ble_eq_true rfl)) dX3_note_77 ⟨Nat.zero_le _, Nat.zero_le _⟩) hP hD hS hA [0] [1, 2] [2, 0, 1] rfl rfl (by decide) (by decide) rfl (by decide) (fun H22 L23 hP hD hS => ?_)
        rw [← Option.some.inj h21]
        exact W.iret (v := u19.1) hx hb hr (fun t ht hW => ⟨⟨u19.1, (), rfl, rfl, ⟨by rw [ht]; exact hP, hD⟩⟩, hS.F ht⟩) hS.2.2 dX3_note_80
    · have h24 := (if_pos c9).symm.trans h6
      refine lv_aload_n hx hb dX3_note_59 rfl (lv_at hl 1 rfl) ?_
      obtain ⟨u25, hu26, h27⟩ := lt_e h24
      refine kw_I (wc := [oX3 a a_now a_spare a_text g_above g_below g_bads g_nos g_fulls]) (wr := [oX1 a_now g_now_month g_now_floes g_now_founds g_now_notes g_now_undos, rI cyI (a_now 7) 42 g_now_noteRows]) (ws' := [oX3 a a_now a_spare a_text g_above g_below u25.2 g_nos g_fulls, oX1 a_now g_now_month g_now_floes g_now_founds g_now_notes g_now_undos, rI cyI (a_now 7) 42 g_now_noteRows]) (va_runV (As := []) (rest := []) ⟨hx, hb, hml, hown, hts⟩ (c_X3_refuseBad l D cyI cyJ cyS a a_now a_spare a_text g_above g_below g_bads g_nos g_fulls H7.size u25 hu26.symm) (cwV 0 hts gX3_note_X3_refuseBad rfl rfl rfl (by decide +kernel) ⟨(Nat.le_of_ble_eq_true rfl), (Nat.le_of_ble_eq_true rfl)⟩) (preW_V (hP.sub (ws' := [oX3 a a_now a_spare a_text g_above g_below g_bads g_nos g_fulls]) [0] rfl) (hD.sub (ws' := [oX3 a a_now a_spare a_text g_above g_below g_bads g_nos g_fulls]) [0] (by decide) rfl) hKK (va_recv hK hP (ci := 2) (q0 := 0) rfl rfl)) rfl rfl hl.1 rfl (lv_room (Nat.le_of_ble_eq_true rfl)) dX3_note_60 ⟨Nat.zero_le _, Nat.zero_le _⟩) hP hD hS hA [0] [1, 2] [2, 0, 1] rfl rfl (by decide) (by decide) rfl (by decide) (fun H28 L29 hP hD hS => ?_)
      rw [← Option.some.inj h27]
      exact W.iret (v := u25.1) hx hb hr (fun t ht hW => ⟨⟨u25.1, (), rfl, rfl, ⟨by rw [ht]; exact hP, hD⟩⟩, hS.F ht⟩) hS.2.2 dX3_note_63
  obtain ⟨j30, hj31, h32⟩ := jn_e h5
  have Jj30 : ∀ (H : Heap) (locs : List Loc) (ls : Array Slot), j30 = some R0 → va_P D vwCl [oX3 a a_now a_spare a_text g_above g_below g_bads g_nos g_fulls, oX1 a_now g_now_month g_now_floes g_now_founds g_now_notes g_now_undos, rI cyI (a_now 7) 42 g_now_noteRows] H → va_D A [oX3 a a_now a_spare a_text g_above g_below g_bads g_nos g_fulls, oX1 a_now g_now_month g_now_floes g_now_founds g_now_notes g_now_undos, rI cyI (a_now 7) 42 g_now_noteRows] → va_S A s.heap H locs → lv_has ls 9 [(0, .ref (a 0)), (1, .int p1), (2, .int p2), (3, .int p3), (4, .int p4), (5, .int p5), (6, .int p6), (7, .int p7)] → W p l e (headSpec wsX3_note rm_X3_note).room s m ([.ref (a 0), .int p1, .int p2, .int p3, .int p4, .int p5, .int p6, .int p7] : List Value).toArray below meth c H locs 0 0 (MQ below (va_Qi (fun (r : Int32) (_ : Unit) => r = R0.1) (fun _ t => va_P D vwCl [oX3 a a_now a_spare a_text g_above g_below R0.2.1 g_nos R0.2.2.1, oX1 a_now g_now_month g_now_floes g_now_founds R0.2.2.2.1 g_now_undos, rI cyI (a_now 7) 42 R0.2.2.2.2] t.heap ∧ va_D A [oX3 a a_now a_spare a_text g_above g_below R0.2.1 g_nos R0.2.2.1, oX1 a_now g_now_month g_now_floes g_now_founds R0.2.2.2.1 g_now_undos, rI cyI (a_now 7) 42 R0.2.2.2.2]) A) ([.ref (a 0), .int p1, .int p2, .int p3, .int p4, .int p5, .int p6, .int p7] : List Value).toArray s 0 0 A) (F0 m 51 ls []) := by
    intro H34 L35 ls h33 hP hD hS hl
    rw [hj31] at h33
    refine lv_iconst (v := 0) hx hb dX3_note_51 (by decide) ?_
    exact Jj3 0 _ _ _ h33 hP hD hS (lv_sub hl [0, 1, 2, 3, 4, 5, 6, 7] rfl)
  refine lv_if_eq (tgt := 51) hx hb dX3_note_5 (by decide) (fun c36 => ?_) (fun c36 => ?_)
  · have h37 := (if_pos c36).symm.trans h32
    exact Jj30  _ _ _ h37 hP hD hS (lv_sub hl [0, 1, 2, 3, 4, 5, 6, 7] rfl)
  · have h38 := (if_neg c36).symm.trans h32
    refine lv_iload_n hx hb dX3_note_8 rfl (lv_at hl 2 rfl) ?_
    refine lv_iconst (v := 0) hx hb dX3_note_9 (by decide) ?_
    refine lv_bipush (v := 99) hx hb dX3_note_10 (by decide) ?_
    refine kc_Z (W.runS (As := [.int p2, .int 0, .int 99]) (rest := []) ⟨hx, hb, hml, hown, hts⟩ (c_X3_within l p2 0 99 (T_X3_within p2 0 99) rfl) (va_cwS 3 hts gX3_note_X3_within rfl rfl rfl (by decide +kernel) ⟨(Nat.le_of_ble_eq_true rfl), (Nat.le_of_ble_eq_true rfl)⟩) preT_S rfl rfl hl.1 rfl (lv_room (Nat.le_of_ble_eq_true rfl)) dX3_note_12 ⟨Nat.zero_le _, Nat.zero_le _⟩) (fun hn39 => ?_)
    refine lv_if_eq (tgt := 51) hx hb dX3_note_15 (by decide) (fun c40 => ?_) (fun c40 => ?_)
    · have h41 := (if_pos c40).symm.trans h38
      exact Jj30  _ _ _ h41 hP hD hS (lv_sub hl [0, 1, 2, 3, 4, 5, 6, 7] rfl)
    · have h42 := (if_neg c40).symm.trans h38
      refine lv_iload_n hx hb dX3_note_18 rfl (lv_at hl 3 rfl) ?_
      refine lv_iload hx hb dX3_note_19 (lv_at hl 4 rfl) ?_
      refine kc_Z (W.runS (As := [.int p3, .int p4]) (rest := []) ⟨hx, hb, hml, hown, hts⟩ (c_X3_isWind l p3 p4 (T_X3_isWind p3 p4) rfl) (va_cwS 2 hts gX3_note_X3_isWind rfl rfl rfl (by decide +kernel) ⟨(Nat.le_of_ble_eq_true rfl), (Nat.le_of_ble_eq_true rfl)⟩) preT_S rfl rfl hl.1 rfl (lv_room (Nat.le_of_ble_eq_true rfl)) dX3_note_21 ⟨Nat.zero_le _, Nat.zero_le _⟩) (fun hn43 => ?_)
      refine lv_if_eq (tgt := 51) hx hb dX3_note_24 (by decide) (fun c44 => ?_) (fun c44 => ?_)
      · have h45 := (if_pos c44).symm.trans h42
        exact Jj30  _ _ _ h45 hP hD hS (lv_sub hl [0, 1, 2, 3, 4, 5, 6, 7] rfl)
      · have h46 := (if_neg c44).symm.trans h42
        refine lv_iload hx hb dX3_note_27 (lv_at hl 5 rfl) ?_
        refine lv_iconst (v := 0) hx hb dX3_note_29 (by decide) ?_
        refine lv_iconst (v := 5) hx hb dX3_note_30 (by decide) ?_
        refine kc_Z (W.runS (As := [.int p5, .int 0, .int 5]) (rest := []) ⟨hx, hb, hml, hown, hts⟩ (c_X3_within l p5 0 5 (T_X3_within p5 0 5) rfl) (va_cwS 3 hts gX3_note_X3_within rfl rfl rfl (by decide +kernel) ⟨(Nat.le_of_ble_eq_true rfl), (Nat.le_of_ble_eq_true rfl)⟩) preT_S rfl rfl hl.1 rfl (lv_room (Nat.le_of_ble_eq_true rfl)) dX3_note_31 ⟨Nat.zero_le _, Nat.zero_le _⟩) (fun hn47 => ?_)
        refine lv_if_eq (tgt := 51) hx hb dX3_note_34 (by decide) (fun c48 => ?_) (fun c48 => ?_)
        · have h49 := (if_pos c48).symm.trans h46
          exact Jj30  _ _ _ h49 hP hD hS (lv_sub hl [0, 1, 2, 3, 4, 5, 6, 7] rfl)
        · have h50 := (if_neg c48).symm.trans h46
          refine lv_iload hx hb dX3_note_37 (lv_at hl 6 rfl) ?_
          refine lv_iload hx hb dX3_note_39 (lv_at hl 7 rfl) ?_
          refine kc_Z (W.runS (As := [.int p6, .int p7]) (rest := []) ⟨hx, hb, hml, hown, hts⟩ (c_X3_isWind l p6 p7 (T_X3_isWind p6 p7) rfl) (va_cwS 2 hts gX3_note_X3_isWind rfl rfl rfl (by decide +kernel) ⟨(Nat.le_of_ble_eq_true rfl), (Nat.le_of_ble_eq_true rfl)⟩) preT_S rfl rfl hl.1 rfl (lv_room (Nat.le_of_ble_eq_true rfl)) dX3_note_41 ⟨Nat.zero_le _, Nat.zero_le _⟩) (fun hn51 => ?_)
          refine lv_if_eq (tgt := 51) hx hb dX3_note_44 (by decide) (fun c52 => ?_) (fun c52 => ?_)
          · have h53 := (if_pos c52).symm.trans h50
            exact Jj30  _ _ _ h53 hP hD hS (lv_sub hl [0, 1, 2, 3, 4, 5, 6, 7] rfl)
          · have h54 := (if_neg c52).symm.trans h50
            refine lv_iconst (v := 1) hx hb dX3_note_47 (by decide) ?_
            refine lv_goto (tgt := 52) hx hb dX3_note_48 (by decide) ?_
            exact Jj3 1 _ _ _ h54 hP hD hS (lv_sub hl [0, 1, 2, 3, 4, 5, 6, 7] rfl)
def T_X3_forget (g_bads : Int32) (g_now_founds : Int32) (g_now_notes : Int32) (p1 : Int32) : Int32 × Int32 × Int32 × Int32 :=
  (if (T_X3_isFirstOrSecond p1) = 0 then (lt' (T_X3_refuseBad g_bads) fun u30 => (u30.1, u30.2, g_now_founds, g_now_notes)) else (jn (fun (x4 : Int32) => (jn (fun (z11 : Int32) (z12 : Int32) => (x4, g_bads, z11, z12)) fun j13 => (if p1 = 0 then (j13 0 g_now_notes) else (j13 g_now_founds 0)))) fun j5 => (if p1 = 0 then (j5 g_now_founds) else (j5 g_now_notes))))
abbrev rm_X3_forget : Room := { frames := 2, cells := 0, slots := 0, locals := 42 }
set_option maxHeartbeats 4000000 in
set_option maxRecDepth 100000 in
theorem c_X3_forget (l : Launch) (D : va_G) (cyI cyJ cyS : ClassId) (a a_now a_spare a_text : Nat → Nat) (g_above : Int64) (g_below : Int64) (g_bads : Int32) (g_nos : Int32) (g_fulls : Int32) (g_now_month : Int32) (g_now_floes : Int32) (g_now_founds : Int32) (g_now_notes : Int32) (g_now_undos : Int32) (p1 : Int32) (sz : Nat) (R0 : Int32 × Int32 × Int32 × Int32) (hT : T_X3_forget g_bads g_now_founds g_now_notes p1 = R0) : Met l yX3_forget wsX3_forget rm_X3_forget (va_Pc [.ref (a 0), .int p1] (preW D (tyS cyI cyJ cyS) [oX3 a a_now a_spare a_text g_above g_below g_bads g_nos g_fulls, oX1 a_now g_now_month g_now_floes g_now_founds g_now_notes g_now_undos] sz)) (va_Qi (fun (r : Int32) (_ : Unit) => r = R0.1) (fun _ t => va_P D vwCl [oX3 a a_now a_spare a_text g_above g_below R0.2.1 g_nos g_fulls, oX1 a_now g_now_month g_now_floes R0.2.2.1 R0.2.2.2 g_now_undos] t.heap ∧ va_D (va_A [oX3 a a_now a_spare a_text g_above g_below g_bads g_nos g_fulls, oX1 a_now g_now_month g_now_floes g_now_founds g_now_notes g_now_undos] sz) [oX3 a a_now a_spare a_text g_above g_below R0.2.1 g_nos g_fulls, oX1 a_now g_now_month g_now_floes R0.2.2.1 R0.2.2.2 g_now_undos]) (va_A [oX3 a a_now a_spare a_text g_above g_below g_bads g_nos g_fulls, oX1 a_now g_now_month g_now_floes g_now_founds g_now_notes g_now_undos] sz)) 0 0 (va_A [oX3 a a_now a_spare a_text g_above g_below g_bads g_nos g_fulls, oX1 a_now g_now_month g_now_floes g_now_founds g_now_notes g_now_undos] sz) := by
  refine Met.ofW (cc := cX3_forget) (maxL := 3) (ret := (some .int)) (by decide) rfl ?_
  intro p e s m args below meth c s₁ B hml hv
  obtain ⟨rfl, hsz, hP, hKK, hD0⟩ := hv
  have hx := B.exec
  have hb := B.bytes
  have hr := B.returns
  have hts := atoms_spec (ws := wsX3_forget) B.pre
  have hown : s.vm.findClass RX3 = some m.cls := findClass_of_methodNamed B.named
  have hlocks := B.notSynchronized
  have hK := hKK.1
  have inX3 : ∀ w ∈ wsX30, w ∈ wsX3_forget := (fun _ h => List.mem_cons_of_mem _ (List.mem_append_left _ (List.mem_append_right _ h)))
  have inX1 : ∀ w ∈ wsX10, w ∈ wsX3_forget := (fun _ h => List.mem_cons_of_mem _ (List.mem_append_right _ h))
  subst hsz
  have hD := hD0.self (sz := s.heap.size)
  generalize hAe : va_A [oX3 a a_now a_spare a_text g_above g_below g_bads g_nos g_fulls, oX1 a_now g_now_month g_now_floes g_now_founds g_now_notes g_now_undos] s.heap.size = A at hD ⊢
  have hA : ∀ q : Nat, s.heap.size ≤ q → A q := fun q h => by rw [← hAe]; exact Or.inr h
  have hS : va_S A s.heap s.heap [] := va_S.rf
  have hP : va_P D vwCl [oX3 a a_now a_spare a_text g_above g_below g_bads g_nos g_fulls, oX1 a_now g_now_month g_now_floes g_now_founds g_now_notes g_now_undos] s.heap := hP
  have hl := lv_entry [.ref (a 0), .int p1] (n := 3) (Nat.le_of_ble_eq_true rfl)
  rw [lg_entry_eq]
  generalize (lg_sl [.ref (a 0), .int p1] ++ List.replicate (3 - (lg_sl [.ref (a 0), .int p1]).length) Slot.unset).toArray = ls at hl ⊢
  have hl : lv_has ls 3 [(0, .ref (a 0)), (1, .int p1)] := hl
  unfold T_X3_forget at hT
  refine lv_iload_n hx hb dX3_forget_0 rfl (lv_at hl 1 rfl) ?_
  refine kc_Z (W.runS (As := [.int p1]) (rest := []) ⟨hx, hb, hml, hown, hts⟩ (c_X3_isFirstOrSecond l p1 (T_X3_isFirstOrSecond p1) rfl) (va_cwS 1 hts gX3_forget_X3_isFirstOrSecond rfl rfl rfl (by decide +kernel) ⟨(Nat.le_of_ble_eq_true rfl), (Nat.le_of_ble_eq_true rfl)⟩) preT_S rfl rfl hl.1 rfl (lv_room (Nat.le_of_ble_eq_true rfl)) dX3_forget_1 ⟨Nat.zero_le _, Nat.zero_le _⟩) (fun hn1 => ?_)
  refine lv_if_ne (tgt := 12) hx hb dX3_forget_4 (by decide) (fun c2 => ?_) (fun c2 => ?_)
  · have h3 := (if_neg c2).symm.trans hT
    refine lv_iload_n hx hb dX3_forget_12 rfl (lv_at hl 1 rfl) ?_
    obtain ⟨j5, hj6, h7⟩ := jn_e h3
    have Jj5 : ∀ (x4 : Int32) (H : Heap) (locs : List Loc) (ls : Array Slot), j5 x4 = R0 → va_P D vwCl [oX3 a a_now a_spare a_text g_above g_below g_bads g_nos g_fulls, oX1 a_now g_now_month g_now_floes g_now_founds g_now_notes g_now_undos] H → va_D A [oX3 a a_now a_spare a_text g_above g_below g_bads g_nos g_fulls, oX1 a_now g_now_month g_now_floes g_now_founds g_now_notes g_now_undos] → va_S A s.heap H locs → lv_has ls 3 [(0, .ref (a 0)), (1, .int p1)] → W p l e (headSpec wsX3_forget rm_X3_forget).room s m ([.ref (a 0), .int p1] : List Value).toArray below meth c H locs 0 0 (MQ below (va_Qi (fun (r : Int32) (_ : Unit) => r = R0.1) (fun _ t => va_P D vwCl [oX3 a a_now a_spare a_text g_above g_below R0.2.1 g_nos g_fulls, oX1 a_now g_now_month g_now_floes R0.2.2.1 R0.2.2.2 g_now_undos] t.heap ∧ va_D A [oX3 a a_now a_spare a_text g_above g_below R0.2.1 g_nos g_fulls, oX1 a_now g_now_month g_now_floes R0.2.2.1 R0.2.2.2 g_now_undos]) A) ([.ref (a 0), .int p1] : List Value).toArray s 0 0 A) (F0 m 33 ls [.int x4]) := by
      intro x4 H9 L10 ls h8 hP hD hS hl
      rw [hj6] at h8
      refine lv_istore_n (lv' := [(2, .int x4), (0, .ref (a 0)), (1, .int p1)]) hx hb dX3_forget_33 rfl hl (by decide) rfl (fun ls hl => ?_)
      refine lv_iload_n hx hb dX3_forget_34 rfl (lv_at hl 2 rfl) ?_
      obtain ⟨j13, hj14, h15⟩ := jn_e h8
      have Jj13 : ∀ (z11 : Int32) (z12 : Int32) (H : Heap) (locs : List Loc) (ls : Array Slot), j13 z11 z12 = R0 → va_P D vwCl [oX3 a a_now a_spare a_text g_above g_below g_bads g_nos g_fulls, oX1 a_now g_now_month g_now_floes z11 z12 g_now_undos] H → va_D A [oX3 a a_now a_spare a_text g_above g_below g_bads g_nos g_fulls, oX1 a_now g_now_month g_now_floes z11 z12 g_now_undos] → va_S A s.heap H locs → lv_has ls 3 [(2, .int x4)] → W p l e (headSpec wsX3_forget rm_X3_forget).room s m ([.ref (a 0), .int p1] : List Value).toArray below meth c H locs 0 0 (MQ below (va_Qi (fun (r : Int32) (_ : Unit) => r = R0.1) (fun _ t => va_P D vwCl [oX3 a a_now a_spare a_text g_above g_below R0.2.1 g_nos g_fulls, oX1 a_now g_now_month g_now_floes R0.2.2.1 R0.2.2.2 g_now_undos] t.heap ∧ va_D A [oX3 a a_now a_spare a_text g_above g_below R0.2.1 g_nos g_fulls, oX1 a_now g_now_month g_now_floes R0.2.2.1 R0.2.2.2 g_now_undos]) A) ([.ref (a 0), .int p1] : List Value).toArray s 0 0 A) (F0 m 57 ls []) := by
        intro z11 z12 H17 L18 ls h16 hP hD hS hl
        rw [hj14] at h16
        refine lv_iload_n hx hb dX3_forget_57 rfl (lv_at hl 0 rfl) ?_
        rw [← h16]
        exact W.iret (v := x4) hx hb hr (fun t ht hW => ⟨⟨x4, (), rfl, rfl, ⟨by rw [ht]; exact hP, hD⟩⟩, hS.F ht⟩) hS.2.2 dX3_forget_58
      refine lv_if_ne (tgt := 49) hx hb dX3_forget_35 (by decide) (fun c19 => ?_) (fun c19 => ?_)
      · have h20 := (if_neg c19).symm.trans h15
        refine lv_aload_n hx hb dX3_forget_49 rfl (lv_at hl 1 rfl) ?_
        refine va_get (D := D) (cl := vwCl) (ci := 2) (v := .ref (a_now 0)) (C := RX3) (T := TX3) (N := 12) hx hb hts inX3 hown hK hP 0 rfl rfl 0 (by decide) (hts (Cond.fieldLink RX3 10 "FrozenIn" "now" "LFrozenIn$Sea;") (List.mem_of_getElem? (i := 1) rfl)) (fun _ h9 => h9) rfl dX3_forget_50 ?_
        refine lv_iconst (v := 0) hx hb dX3_forget_53 (by decide) ?_
        refine va_put (D := D) (cl := vwCl) (ci := 0) (v := .int 0) (ty := .int) (C := RX1) (T := TX1) (N := 13) hx hb hts inX1 tyX1 tyX1_ok nmX1 hown hK hP hD hS 1 rfl rfl 9 (by decide) (hts (Cond.fieldLink RX3 185 "FrozenIn$Sea" "notes" "I") (List.mem_of_getElem? (i := 3) rfl)) (fun _ h9 => h9) rfl (by decide +kernel) rfl rfl (Nat.le_of_ble_eq_true rfl) dX3_forget_54 (fun H21 L22 hP hD hS => ?_)
        have hP : va_P D vwCl [oX3 a a_now a_spare a_text g_above g_below g_bads g_nos g_fulls, oX1 a_now g_now_month g_now_floes g_now_founds 0 g_now_undos] H21 := hP
        have hD : va_D A [oX3 a a_now a_spare a_text g_above g_below g_bads g_nos g_fulls, oX1 a_now g_now_month g_now_floes g_now_founds 0 g_now_undos] := hD
        exact Jj13 g_now_founds 0 _ _ _ h20 hP hD hS (lv_sub hl [0] rfl)
      · have h23 := (if_pos c19).symm.trans h15
        refine lv_aload_n hx hb dX3_forget_38 rfl (lv_at hl 1 rfl) ?_
        refine va_get (D := D) (cl := vwCl) (ci := 2) (v := .ref (a_now 0)) (C := RX3) (T := TX3) (N := 12) hx hb hts inX3 hown hK hP 0 rfl rfl 0 (by decide) (hts (Cond.fieldLink RX3 10 "FrozenIn" "now" "LFrozenIn$Sea;") (List.mem_of_getElem? (i := 1) rfl)) (fun _ h9 => h9) rfl dX3_forget_39 ?_
        refine lv_iconst (v := 0) hx hb dX3_forget_42 (by decide) ?_
        refine va_put (D := D) (cl := vwCl) (ci := 0) (v := .int 0) (ty := .int) (C := RX1) (T := TX1) (N := 13) hx hb hts inX1 tyX1 tyX1_ok nmX1 hown hK hP hD hS 1 rfl rfl 7 (by decide) (hts (Cond.fieldLink RX3 176 "FrozenIn$Sea" "founds" "I") (List.mem_of_getElem? (i := 2) rfl)) (fun _ h9 => h9) rfl (by decide +kernel) rfl rfl (Nat.le_of_ble_eq_true rfl) dX3_forget_43 (fun H24 L25 hP hD hS => ?_)
        have hP : va_P D vwCl [oX3 a a_now a_spare a_text g_above g_below g_bads g_nos g_fulls, oX1 a_now g_now_month g_now_floes 0 g_now_notes g_now_undos] H24 := hP
        have hD : va_D A [oX3 a a_now a_spare a_text g_above g_below g_bads g_nos g_fulls, oX1 a_now g_now_month g_now_floes 0 g_now_notes g_now_undos] := hD
        refine lv_goto (tgt := 57) hx hb dX3_forget_46 (by decide) ?_
        exact Jj13 0 g_now_notes _ _ _ h23 hP hD hS (lv_sub hl [0] rfl)
    refine lv_if_ne (tgt := 26) hx hb dX3_forget_13 (by decide) (fun c26 => ?_) (fun c26 => ?_)
    · have h27 := (if_neg c26).symm.trans h7
      refine lv_aload_n hx hb dX3_forget_26 rfl (lv_at hl 0 rfl) ?_
      refine va_get (D := D) (cl := vwCl) (ci := 2) (v := .ref (a_now 0)) (C := RX3) (T := TX3) (N := 12) hx hb hts inX3 hown hK hP 0 rfl rfl 0 (by decide) (hts (Cond.fieldLink RX3 10 "FrozenIn" "now" "LFrozenIn$Sea;") (List.mem_of_getElem? (i := 1) rfl)) (fun _ h9 => h9) rfl dX3_forget_27 ?_
      refine va_get (D := D) (cl := vwCl) (ci := 0) (v := .int g_now_notes) (C := RX1) (T := TX1) (N := 13) hx hb hts inX1 hown hK hP 1 rfl rfl 9 (by decide) (hts (Cond.fieldLink RX3 185 "FrozenIn$Sea" "notes" "I") (List.mem_of_getElem? (i := 3) rfl)) (fun _ h9 => h9) rfl dX3_forget_30 ?_
      exact Jj5 g_now_notes _ _ _ h27 hP hD hS (lv_sub hl [0, 1] rfl)
    · have h28 := (if_pos c26).symm.trans h7
      refine lv_aload_n hx hb dX3_forget_16 rfl (lv_at hl 0 rfl) ?_
      refine va_get (D := D) (cl := vwCl) (ci := 2) (v := .ref (a_now 0)) (C := RX3) (T := TX3) (N := 12) hx hb hts inX3 hown hK hP 0 rfl rfl 0 (by decide) (hts (Cond.fieldLink RX3 10 "FrozenIn" "now" "LFrozenIn$Sea;") (List.mem_of_getElem? (i := 1) rfl)) (fun _ h9 => h9) rfl dX3_forget_17 ?_
      refine va_get (D := D) (cl := vwCl) (ci := 0) (v := .int g_now_founds) (C := RX1) (T := TX1) (N := 13) hx hb hts inX1 hown hK hP 1 rfl rfl 7 (by decide) (hts (Cond.fieldLink RX3 176 "FrozenIn$Sea" "founds" "I") (List.mem_of_getElem? (i := 2) rfl)) (fun _ h9 => h9) rfl dX3_forget_20 ?_
      refine lv_goto (tgt := 33) hx hb dX3_forget_23 (by decide) ?_
      exact Jj5 g_now_founds _ _ _ h28 hP hD hS (lv_sub hl [0, 1] rfl)
  · have h29 := (if_pos c2).symm.trans hT
    refine lv_aload_n hx hb dX3_forget_7 rfl (lv_at hl 0 rfl) ?_
    obtain ⟨u30, hu31, h32⟩ := lt_e h29
    refine kw_I (wc := [oX3 a a_now a_spare a_text g_above g_below g_bads g_nos g_fulls]) (wr := [oX1 a_now g_now_month g_now_floes g_now_founds g_now_notes g_now_undos]) (ws' := [oX3 a a_now a_spare a_text g_above g_below u30.2 g_nos g_fulls, oX1 a_now g_now_month g_now_floes g_now_founds g_now_notes g_now_undos]) (va_runV (As := []) (rest := []) ⟨hx, hb, hml, hown, hts⟩ (c_X3_refuseBad l D cyI cyJ cyS a a_now a_spare a_text g_above g_below g_bads g_nos g_fulls s.heap.size u30 hu31.symm) (cwV 0 hts gX3_forget_X3_refuseBad rfl rfl rfl (by decide +kernel) ⟨(Nat.le_of_ble_eq_true rfl), (Nat.le_of_ble_eq_true rfl)⟩) (preW_V (hP.sub (ws' := [oX3 a a_now a_spare a_text g_above g_below g_bads g_nos g_fulls]) [0] rfl) (hD.sub (ws' := [oX3 a a_now a_spare a_text g_above g_below g_bads g_nos g_fulls]) [0] (by decide) rfl) hKK (va_recv hK hP (ci := 2) (q0 := 0) rfl rfl)) rfl rfl hl.1 rfl (lv_room (Nat.le_of_ble_eq_true rfl)) dX3_forget_8 ⟨Nat.zero_le _, Nat.zero_le _⟩) hP hD hS hA [0] [1] [1, 0] rfl rfl (by decide) (by decide) rfl (by decide) (fun H33 L34 hP hD hS => ?_)
    rw [← h32]
    exact W.iret (v := u30.1) hx hb hr (fun t ht hW => ⟨⟨u30.1, (), rfl, rfl, ⟨by rw [ht]; exact hP, hD⟩⟩, hS.F ht⟩) hS.2.2 dX3_forget_11
def T_X3_is (N : Nat) (g_bads : Int32) (g_now_floes : Int32) (g_now_notes : Int32) (g_now_noteRows : Nat → Int32) (p1 : Int32) : Option (Int32 × Int32) :=
  (if (T_X3_isFloe g_now_floes p1) = 0 then (lt' (T_X3_refuseBad g_bads) fun u4 => (some (u4.1, u4.2))) else (Option.bind (T_X1_kindsByNotes N g_now_notes g_now_noteRows p1) fun u10 => (some (u10, g_bads))))
abbrev rm_X3_is : Room := { frames := 4, cells := 0, slots := 0, locals := 98 }
set_option maxHeartbeats 4000000 in
set_option maxRecDepth 100000 in
theorem c_X3_is (l : Launch) (D : va_G) (cyI cyJ cyS : ClassId) (N : Nat) (a a_now a_spare a_text : Nat → Nat) (g_above : Int64) (g_below : Int64) (g_bads : Int32) (g_nos : Int32) (g_fulls : Int32) (g_now_month : Int32) (g_now_floes : Int32) (g_now_founds : Int32) (g_now_notes : Int32) (g_now_undos : Int32) (g_now_noteRows : Nat → Int32) (p1 : Int32) (sz : Nat) (R0 : Int32 × Int32) (hT : T_X3_is N g_bads g_now_floes g_now_notes g_now_noteRows p1 = some R0) : Met l yX3_is wsX3_is rm_X3_is (va_Pc [.ref (a 0), .int p1] (preW D (tyS cyI cyJ cyS) [oX3 a a_now a_spare a_text g_above g_below g_bads g_nos g_fulls, oX1 a_now g_now_month g_now_floes g_now_founds g_now_notes g_now_undos, rI cyI (a_now 7) 42 g_now_noteRows] sz)) (va_Qi (fun (r : Int32) (_ : Unit) => r = R0.1) (fun _ t => va_P D vwCl [oX3 a a_now a_spare a_text g_above g_below R0.2 g_nos g_fulls, oX1 a_now g_now_month g_now_floes g_now_founds g_now_notes g_now_undos, rI cyI (a_now 7) 42 g_now_noteRows] t.heap ∧ va_D (va_A [oX3 a a_now a_spare a_text g_above g_below g_bads g_nos g_fulls, oX1 a_now g_now_month g_now_floes g_now_founds g_now_notes g_now_undos, rI cyI (a_now 7) 42 g_now_noteRows] sz) [oX3 a a_now a_spare a_text g_above g_below R0.2 g_nos g_fulls, oX1 a_now g_now_month g_now_floes g_now_founds g_now_notes g_now_undos, rI cyI (a_now 7) 42 g_now_noteRows]) (va_A [oX3 a a_now a_spare a_text g_above g_below g_bads g_nos g_fulls, oX1 a_now g_now_month g_now_floes g_now_founds g_now_notes g_now_undos, rI cyI (a_now 7) 42 g_now_noteRows] sz)) 0 0 (va_A [oX3 a a_now a_spare a_text g_above g_below g_bads g_nos g_fulls, oX1 a_now g_now_month g_now_floes g_now_founds g_now_notes g_now_undos, rI cyI (a_now 7) 42 g_now_noteRows] sz) := by
  refine Met.ofW (cc := cX3_is) (maxL := 2) (ret := (some .int)) (by decide) rfl ?_
  intro p e s m args below meth c s₁ B hml hv
  obtain ⟨rfl, hsz, hP, hKK, hD0⟩ := hv
  have hx := B.exec
  have hb := B.bytes
  have hr := B.returns
  have hts := atoms_spec (ws := wsX3_is) B.pre
  have hown : s.vm.findClass RX3 = some m.cls := findClass_of_methodNamed B.named
  have hlocks := B.notSynchronized
  have hK := hKK.1
  have inX3 : ∀ w ∈ wsX30, w ∈ wsX3_is := (fun _ h => List.mem_cons_of_mem _ (List.mem_append_left _ (List.mem_append_right _ h)))
  have inX1 : ∀ w ∈ wsX10, w ∈ wsX3_is := (fun _ h => List.mem_cons_of_mem _ (List.mem_append_right _ h))
  subst hsz
  have hD := hD0.self (sz := s.heap.size)
  generalize hAe : va_A [oX3 a a_now a_spare a_text g_above g_below g_bads g_nos g_fulls, oX1 a_now g_now_month g_now_floes g_now_founds g_now_notes g_now_undos, rI cyI (a_now 7) 42 g_now_noteRows] s.heap.size = A at hD ⊢
  have hA : ∀ q : Nat, s.heap.size ≤ q → A q := fun q h => by rw [← hAe]; exact Or.inr h
  have hS : va_S A s.heap s.heap [] := va_S.rf
  have hP : va_P D vwCl [oX3 a a_now a_spare a_text g_above g_below g_bads g_nos g_fulls, oX1 a_now g_now_month g_now_floes g_now_founds g_now_notes g_now_undos, rI cyI (a_now 7) 42 g_now_noteRows] s.heap := hP
  have hl := lv_entry [.ref (a 0), .int p1] (n := 2) (Nat.le_of_ble_eq_true rfl)
  rw [lg_entry_eq]
  generalize (lg_sl [.ref (a 0), .int p1] ++ List.replicate (2 - (lg_sl [.ref (a 0), .int p1]).length) Slot.unset).toArray = ls at hl ⊢
  have hl : lv_has ls 2 [(0, .ref (a 0)), (1, .int p1)] := hl
  unfold T_X3_is at hT
  refine lv_aload_n hx hb dX3_is_0 rfl (lv_at hl 0 rfl) ?_
  refine lv_iload_n hx hb dX3_is_1 rfl (lv_at hl 1 rfl) ?_
  refine kc_Z (W.runV (As := [.int p1]) (rest := []) ⟨hx, hb, hml, hown, hts⟩ (c_X3_isFloe l D cyI cyJ cyS a a_now a_spare a_text g_above g_below g_bads g_nos g_fulls g_now_month g_now_floes g_now_founds g_now_notes g_now_undos p1 (T_X3_isFloe g_now_floes p1) rfl) (cwV 1 hts gX3_is_X3_isFloe rfl rfl rfl (by decide +kernel) ⟨(Nat.le_of_ble_eq_true rfl), (Nat.le_of_ble_eq_true rfl)⟩) (preR_V (hP.sub (ws' := [oX3 a a_now a_spare a_text g_above g_below g_bads g_nos g_fulls, oX1 a_now g_now_month g_now_floes g_now_founds g_now_notes g_now_undos]) [0, 1] rfl) hKK (va_recv hK hP (ci := 2) (q0 := 0) rfl rfl)) rfl rfl hl.1 rfl (lv_room (Nat.le_of_ble_eq_true rfl)) dX3_is_2 ⟨Nat.zero_le _, Nat.zero_le _⟩) (fun hn1 => ?_)
  refine lv_if_eq (tgt := 19) hx hb dX3_is_5 (by decide) (fun c2 => ?_) (fun c2 => ?_)
  · have h3 := (if_pos c2).symm.trans hT
    refine lv_aload_n hx hb dX3_is_19 rfl (lv_at hl 0 rfl) ?_
    obtain ⟨u4, hu5, h6⟩ := lt_e h3
    refine kw_I (wc := [oX3 a a_now a_spare a_text g_above g_below g_bads g_nos g_fulls]) (wr := [oX1 a_now g_now_month g_now_floes g_now_founds g_now_notes g_now_undos, rI cyI (a_now 7) 42 g_now_noteRows]) (ws' := [oX3 a a_now a_spare a_text g_above g_below u4.2 g_nos g_fulls, oX1 a_now g_now_month g_now_floes g_now_founds g_now_notes g_now_undos, rI cyI (a_now 7) 42 g_now_noteRows]) (va_runV (As := []) (rest := []) ⟨hx, hb, hml, hown, hts⟩ (c_X3_refuseBad l D cyI cyJ cyS a a_now a_spare a_text g_above g_below g_bads g_nos g_fulls s.heap.size u4 hu5.symm) (cwV 0 hts gX3_is_X3_refuseBad rfl rfl rfl (by decide +kernel) ⟨(Nat.le_of_ble_eq_true rfl), (Nat.le_of_ble_eq_true rfl)⟩) (preW_V (hP.sub (ws' := [oX3 a a_now a_spare a_text g_above g_below g_bads g_nos g_fulls]) [0] rfl) (hD.sub (ws' := [oX3 a a_now a_spare a_text g_above g_below g_bads g_nos g_fulls]) [0] (by decide) rfl) hKK (va_recv hK hP (ci := 2) (q0 := 0) rfl rfl)) rfl rfl hl.1 rfl (lv_room (Nat.le_of_ble_eq_true rfl)) dX3_is_20 ⟨Nat.zero_le _, Nat.zero_le _⟩) hP hD hS hA [0] [1, 2] [2, 0, 1] rfl rfl (by decide) (by decide) rfl (by decide) (fun H7 L8 hP hD hS => ?_)
    rw [← Option.some.inj h6]
    exact W.iret (v := u4.1) hx hb hr (fun t ht hW => ⟨⟨u4.1, (), rfl, rfl, ⟨by rw [ht]; exact hP, hD⟩⟩, hS.F ht⟩) hS.2.2 dX3_is_23
  · have h9 := (if_neg c2).symm.trans hT
    refine lv_aload_n hx hb dX3_is_8 rfl (lv_at hl 0 rfl) ?_
    refine va_get (D := D) (cl := vwCl) (ci := 2) (v := .ref (a_now 0)) (C := RX3) (T := TX3) (N := 12) hx hb hts inX3 hown hK hP 0 rfl rfl 0 (by decide) (hts (Cond.fieldLink RX3 10 "FrozenIn" "now" "LFrozenIn$Sea;") (List.mem_of_getElem? (i := 1) rfl)) (fun _ h9 => h9) rfl dX3_is_9 ?_
    refine lv_iload_n hx hb dX3_is_12 rfl (lv_at hl 1 rfl) ?_
    obtain ⟨u10, hu11, h12⟩ := bd_e h9
    refine kc_I (W.runV (As := [.int p1]) (rest := []) ⟨hx, hb, hml, hown, hts⟩ (c_X1_kindsByNotes l D cyI cyJ cyS N a_now g_now_month g_now_floes g_now_founds g_now_notes g_now_undos g_now_noteRows p1 u10 hu11) (cwV 1 hts gX3_is_X1_kindsByNotes rfl rfl rfl (by decide +kernel) ⟨(Nat.le_of_ble_eq_true rfl), (Nat.le_of_ble_eq_true rfl)⟩) (preR_V (hP.sub (ws' := [oX1 a_now g_now_month g_now_floes g_now_founds g_now_notes g_now_undos, rI cyI (a_now 7) 42 g_now_noteRows]) [1, 2] rfl) hKK (va_recv hK hP (ci := 0) (q0 := 1) rfl rfl)) rfl rfl hl.1 rfl (lv_room (Nat.le_of_ble_eq_true rfl)) dX3_is_13 ⟨Nat.zero_le _, Nat.zero_le _⟩) ?_
    refine lv_goto (tgt := 23) hx hb dX3_is_16 (by decide) ?_
    rw [← Option.some.inj h12]
    exact W.iret (v := u10) hx hb hr (fun t ht hW => ⟨⟨u10, (), rfl, rfl, ⟨by rw [ht]; exact hP, hD⟩⟩, hS.F ht⟩) hS.2.2 dX3_is_23
def T_X3_waits_L37 (N : Nat) (p1 : Int32) (y12 : Int32) (g_bads : Int32) (g_now_month : Int32) (g_now_ways : Nat → Int32) (g_now_strengths : Nat → Int32) (g_now_cells : Nat → Int32)  : Nat → Int32 → Int32 → Int32 → Option (Int32 × Int32)
  | 0, _, _, _ => none
  | n + 1, x9, x10, x11 => (if 24 ≤ x11 then (some (x9, g_bads)) else (ob p1 5 (Option.bind (T_X1_mostAlike N g_now_ways g_now_strengths y12 (g_now_month + x11) ((g_now_cells p1.toNatClampNeg) - (g_now_cells p1.toNatClampNeg) / 6 * 6)) fun u21 => (jn (fun (x24 : Int32) (x25 : Int32) => (lt' (x11 + 1) fun x32 => (T_X3_waits_L37 N p1 y12 g_bads g_now_month g_now_ways g_now_strengths g_now_cells n x24 x25 x32))) fun j26 => (if x10 ≤ u21 then (j26 x9 x10) else (j26 x11 u21))))))
theorem T_X3_waits_L37_s (N : Nat) (p1 : Int32) (y12 : Int32) (g_bads : Int32) (g_now_month : Int32) (g_now_ways : Nat → Int32) (g_now_strengths : Nat → Int32) (g_now_cells : Nat → Int32)  (n : Nat) (x9 : Int32) (x10 : Int32) (x11 : Int32) : T_X3_waits_L37 N p1 y12 g_bads g_now_month g_now_ways g_now_strengths g_now_cells  (n + 1) x9 x10 x11 = (if 24 ≤ x11 then (some (x9, g_bads)) else (ob p1 5 (Option.bind (T_X1_mostAlike N g_now_ways g_now_strengths y12 (g_now_month + x11) ((g_now_cells p1.toNatClampNeg) - (g_now_cells p1.toNatClampNeg) / 6 * 6)) fun u21 => (jn (fun (x24 : Int32) (x25 : Int32) => (lt' (x11 + 1) fun x32 => (T_X3_waits_L37 N p1 y12 g_bads g_now_month g_now_ways g_now_strengths g_now_cells n x24 x25 x32))) fun j26 => (if x10 ≤ u21 then (j26 x9 x10) else (j26 x11 u21)))))) := rfl
def T_X3_waits (N : Nat) (g_bads : Int32) (g_now_month : Int32) (g_now_floes : Int32) (g_now_notes : Int32) (g_now_ways : Nat → Int32) (g_now_strengths : Nat → Int32) (g_now_cells : Nat → Int32) (g_now_noteRows : Nat → Int32) (p1 : Int32) : Option (Int32 × Int32) :=
  (if (T_X3_isFloe g_now_floes p1) = 0 then (lt' (T_X3_refuseBad g_bads) fun u39 => (some (u39.1, u39.2))) else (Option.bind (T_X1_kindsByNotes N g_now_notes g_now_noteRows p1) fun u4 => (if u4 = 0 then (some ((-1), g_bads)) else (T_X3_waits_L37 N p1 u4 g_bads g_now_month g_now_ways g_now_strengths g_now_cells N 0 7 0))))
abbrev rm_X3_waits : Room := { frames := 4, cells := 0, slots := 0, locals := 103 }
set_option maxHeartbeats 4000000 in
set_option maxRecDepth 100000 in
theorem c_X3_waits (l : Launch) (D : va_G) (cyI cyJ cyS : ClassId) (N : Nat) (a a_now a_spare a_text : Nat → Nat) (g_above : Int64) (g_below : Int64) (g_bads : Int32) (g_nos : Int32) (g_fulls : Int32) (g_now_month : Int32) (g_now_floes : Int32) (g_now_founds : Int32) (g_now_notes : Int32) (g_now_undos : Int32) (g_now_ways : Nat → Int32) (g_now_strengths : Nat → Int32) (g_now_cells : Nat → Int32) (g_now_noteRows : Nat → Int32) (p1 : Int32) (sz : Nat) (R0 : Int32 × Int32) (hT : T_X3_waits N g_bads g_now_month g_now_floes g_now_notes g_now_ways g_now_strengths g_now_cells g_now_noteRows p1 = some R0) : Met l yX3_waits wsX3_waits rm_X3_waits (va_Pc [.ref (a 0), .int p1] (preW D (tyS cyI cyJ cyS) [oX3 a a_now a_spare a_text g_above g_below g_bads g_nos g_fulls, oX1 a_now g_now_month g_now_floes g_now_founds g_now_notes g_now_undos, rI cyI (a_now 1) 12 g_now_ways, rI cyI (a_now 2) 12 g_now_strengths, rI cyI (a_now 4) 5 g_now_cells, rI cyI (a_now 7) 42 g_now_noteRows] sz)) (va_Qi (fun (r : Int32) (_ : Unit) => r = R0.1) (fun _ t => va_P D vwCl [oX3 a a_now a_spare a_text g_above g_below R0.2 g_nos g_fulls, oX1 a_now g_now_month g_now_floes g_now_founds g_now_notes g_now_undos, rI cyI (a_now 1) 12 g_now_ways, rI cyI (a_now 2) 12 g_now_strengths, rI cyI (a_now 4) 5 g_now_cells, rI cyI (a_now 7) 42 g_now_noteRows] t.heap ∧ va_D (va_A [oX3 a a_now a_spare a_text g_above g_below g_bads g_nos g_fulls, oX1 a_now g_now_month g_now_floes g_now_founds g_now_notes g_now_undos, rI cyI (a_now 1) 12 g_now_ways, rI cyI (a_now 2) 12 g_now_strengths, rI cyI (a_now 4) 5 g_now_cells, rI cyI (a_now 7) 42 g_now_noteRows] sz) [oX3 a a_now a_spare a_text g_above g_below R0.2 g_nos g_fulls, oX1 a_now g_now_month g_now_floes g_now_founds g_now_notes g_now_undos, rI cyI (a_now 1) 12 g_now_ways, rI cyI (a_now 2) 12 g_now_strengths, rI cyI (a_now 4) 5 g_now_cells, rI cyI (a_now 7) 42 g_now_noteRows]) (va_A [oX3 a a_now a_spare a_text g_above g_below g_bads g_nos g_fulls, oX1 a_now g_now_month g_now_floes g_now_founds g_now_notes g_now_undos, rI cyI (a_now 1) 12 g_now_ways, rI cyI (a_now 2) 12 g_now_strengths, rI cyI (a_now 4) 5 g_now_cells, rI cyI (a_now 7) 42 g_now_noteRows] sz)) 0 0 (va_A [oX3 a a_now a_spare a_text g_above g_below g_bads g_nos g_fulls, oX1 a_now g_now_month g_now_floes g_now_founds g_now_notes g_now_undos, rI cyI (a_now 1) 12 g_now_ways, rI cyI (a_now 2) 12 g_now_strengths, rI cyI (a_now 4) 5 g_now_cells, rI cyI (a_now 7) 42 g_now_noteRows] sz) := by
  refine Met.ofW (cc := cX3_waits) (maxL := 7) (ret := (some .int)) (by decide) rfl ?_
  intro p e s m args below meth c s₁ B hml hv
  obtain ⟨rfl, hsz, hP, hKK, hD0⟩ := hv
  have hx := B.exec
  have hb := B.bytes
  have hr := B.returns
  have hts := atoms_spec (ws := wsX3_waits) B.pre
  have hown : s.vm.findClass RX3 = some m.cls := findClass_of_methodNamed B.named
  have hlocks := B.notSynchronized
  have hK := hKK.1
  have inX3 : ∀ w ∈ wsX30, w ∈ wsX3_waits := (fun _ h => List.mem_cons_of_mem _ (List.mem_append_left _ (List.mem_append_right _ h)))
  have inX1 : ∀ w ∈ wsX10, w ∈ wsX3_waits := (fun _ h => List.mem_cons_of_mem _ (List.mem_append_right _ h))
  subst hsz
  have hD := hD0.self (sz := s.heap.size)
  generalize hAe : va_A [oX3 a a_now a_spare a_text g_above g_below g_bads g_nos g_fulls, oX1 a_now g_now_month g_now_floes g_now_founds g_now_notes g_now_undos, rI cyI (a_now 1) 12 g_now_ways, rI cyI (a_now 2) 12 g_now_strengths, rI cyI (a_now 4) 5 g_now_cells, rI cyI (a_now 7) 42 g_now_noteRows] s.heap.size = A at hD ⊢
  have hA : ∀ q : Nat, s.heap.size ≤ q → A q := fun q h => by rw [← hAe]; exact Or.inr h
  have hS : va_S A s.heap s.heap [] := va_S.rf
  have hP : va_P D vwCl [oX3 a a_now a_spare a_text g_above g_below g_bads g_nos g_fulls, oX1 a_now g_now_month g_now_floes g_now_founds g_now_notes g_now_undos, rI cyI (a_now 1) 12 g_now_ways, rI cyI (a_now 2) 12 g_now_strengths, rI cyI (a_now 4) 5 g_now_cells, rI cyI (a_now 7) 42 g_now_noteRows] s.heap := hP
  have hl := lv_entry [.ref (a 0), .int p1] (n := 7) (Nat.le_of_ble_eq_true rfl)
  rw [lg_entry_eq]
  generalize (lg_sl [.ref (a 0), .int p1] ++ List.replicate (7 - (lg_sl [.ref (a 0), .int p1]).length) Slot.unset).toArray = ls at hl ⊢
  have hl : lv_has ls 7 [(0, .ref (a 0)), (1, .int p1)] := hl
  have L37 : ∀ (y12 : Int32) (n : Nat), ∀ (x9 : Int32) (x10 : Int32) (x11 : Int32) (H : Heap) (locs : List Loc) (ls : Array Slot), T_X3_waits_L37 N p1 y12 g_bads g_now_month g_now_ways g_now_strengths g_now_cells n x9 x10 x11 = some R0 → va_P D vwCl [oX3 a a_now a_spare a_text g_above g_below g_bads g_nos g_fulls, oX1 a_now g_now_month g_now_floes g_now_founds g_now_notes g_now_undos, rI cyI (a_now 1) 12 g_now_ways, rI cyI (a_now 2) 12 g_now_strengths, rI cyI (a_now 4) 5 g_now_cells, rI cyI (a_now 7) 42 g_now_noteRows] H → va_D A [oX3 a a_now a_spare a_text g_above g_below g_bads g_nos g_fulls, oX1 a_now g_now_month g_now_floes g_now_founds g_now_notes g_now_undos, rI cyI (a_now 1) 12 g_now_ways, rI cyI (a_now 2) 12 g_now_strengths, rI cyI (a_now 4) 5 g_now_cells, rI cyI (a_now 7) 42 g_now_noteRows] → va_S A s.heap H locs → lv_has ls 7 [(0, .ref (a 0)), (1, .int p1), (2, .int y12), (3, .int x9), (4, .int x10), (5, .int x11)] → W p l e (headSpec wsX3_waits rm_X3_waits).room s m ([.ref (a 0), .int p1] : List Value).toArray below meth c H locs 0 0 (MQ below (va_Qi (fun (r : Int32) (_ : Unit) => r = R0.1) (fun _ t => va_P D vwCl [oX3 a a_now a_spare a_text g_above g_below R0.2 g_nos g_fulls, oX1 a_now g_now_month g_now_floes g_now_founds g_now_notes g_now_undos, rI cyI (a_now 1) 12 g_now_ways, rI cyI (a_now 2) 12 g_now_strengths, rI cyI (a_now 4) 5 g_now_cells, rI cyI (a_now 7) 42 g_now_noteRows] t.heap ∧ va_D A [oX3 a a_now a_spare a_text g_above g_below R0.2 g_nos g_fulls, oX1 a_now g_now_month g_now_floes g_now_founds g_now_notes g_now_undos, rI cyI (a_now 1) 12 g_now_ways, rI cyI (a_now 2) 12 g_now_strengths, rI cyI (a_now 4) 5 g_now_cells, rI cyI (a_now 7) 42 g_now_noteRows]) A) ([.ref (a 0), .int p1] : List Value).toArray s 0 0 A) (F0 m 37 ls []) := by
    intro y12 n
    induction n with
    | zero => intro _ _ _ _ _ _ h; exact absurd h (fun z => by cases z)
    | succ n ih =>
      intro x9 x10 x11 H14 L15 ls h13 hP hD hS hl
      rw [T_X3_waits_L37_s] at h13
      refine lv_iload hx hb dX3_waits_37 (lv_at hl 5 rfl) ?_
      refine lv_bipush (v := 24) hx hb dX3_waits_39 (by decide) ?_
      refine lv_icmp_ge (tgt := 96) hx hb dX3_waits_41 (by decide) (fun c16 => ?_) (fun c16 => ?_)
      · have h17 := (if_pos c16).symm.trans h13
        refine lv_iload_n hx hb dX3_waits_96 rfl (lv_at hl 3 rfl) ?_
        rw [← Option.some.inj h17]
        exact W.iret (v := x9) hx hb hr (fun t ht hW => ⟨⟨x9, (), rfl, rfl, ⟨by rw [ht]; exact hP, hD⟩⟩, hS.F ht⟩) hS.2.2 dX3_waits_97
      · have h18 := (if_neg c16).symm.trans h13
        refine lv_aload_n hx hb dX3_waits_44 rfl (lv_at hl 0 rfl) ?_
        refine va_get (D := D) (cl := vwCl) (ci := 2) (v := .ref (a_now 0)) (C := RX3) (T := TX3) (N := 12) hx hb hts inX3 hown hK hP 0 rfl rfl 0 (by decide) (hts (Cond.fieldLink RX3 10 "FrozenIn" "now" "LFrozenIn$Sea;") (List.mem_of_getElem? (i := 1) rfl)) (fun _ h9 => h9) rfl dX3_waits_45 ?_
        refine lv_iload_n hx hb dX3_waits_48 rfl (lv_at hl 2 rfl) ?_
        refine lv_aload_n hx hb dX3_waits_49 rfl (lv_at hl 0 rfl) ?_
        refine va_get (D := D) (cl := vwCl) (ci := 2) (v := .ref (a_now 0)) (C := RX3) (T := TX3) (N := 12) hx hb hts inX3 hown hK hP 0 rfl rfl 0 (by decide) (hts (Cond.fieldLink RX3 10 "FrozenIn" "now" "LFrozenIn$Sea;") (List.mem_of_getElem? (i := 1) rfl)) (fun _ h9 => h9) rfl dX3_waits_50 ?_
        refine va_get (D := D) (cl := vwCl) (ci := 0) (v := .int g_now_month) (C := RX1) (T := TX1) (N := 13) hx hb hts inX1 hown hK hP 1 rfl rfl 0 (by decide) (hts (Cond.fieldLink RX3 138 "FrozenIn$Sea" "month" "I") (List.mem_of_getElem? (i := 2) rfl)) (fun _ h9 => h9) rfl dX3_waits_53 ?_
        refine lv_iload hx hb dX3_waits_56 (lv_at hl 5 rfl) ?_
        refine lv_iadd hx hb dX3_waits_58 ?_
        refine lv_aload_n hx hb dX3_waits_59 rfl (lv_at hl 0 rfl) ?_
        refine va_get (D := D) (cl := vwCl) (ci := 2) (v := .ref (a_now 0)) (C := RX3) (T := TX3) (N := 12) hx hb hts inX3 hown hK hP 0 rfl rfl 0 (by decide) (hts (Cond.fieldLink RX3 10 "FrozenIn" "now" "LFrozenIn$Sea;") (List.mem_of_getElem? (i := 1) rfl)) (fun _ h9 => h9) rfl dX3_waits_60 ?_
        refine va_get (D := D) (cl := vwCl) (ci := 0) (v := .ref (a_now 4)) (C := RX1) (T := TX1) (N := 13) hx hb hts inX1 hown hK hP 1 rfl rfl 5 (by decide) (hts (Cond.fieldLink RX3 126 "FrozenIn$Sea" "cells" "[I") (List.mem_of_getElem? (i := 3) rfl)) (fun _ h9 => h9) rfl dX3_waits_63 ?_
        refine lv_iload_n hx hb dX3_waits_66 rfl (lv_at hl 1 rfl) ?_
        obtain ⟨hi20, h19⟩ := ob_e h18
        refine va_iald hx hb hK hP 4 0 rfl rfl hi20 dX3_waits_67 ?_
        refine lv_bipush (v := 6) hx hb dX3_waits_68 (by decide) ?_
        refine lv_irem hx hb dX3_waits_70 (by decide) ?_
        obtain ⟨u21, hu22, h23⟩ := bd_e h19
        refine kc_I (W.runV (As := [.int y12, .int (g_now_month + x11), .int ((g_now_cells p1.toNatClampNeg) - (g_now_cells p1.toNatClampNeg) / 6 * 6)]) (rest := []) ⟨hx, hb, hml, hown, hts⟩ (c_X1_mostAlike l D cyI cyJ cyS N a_now g_now_month g_now_floes g_now_founds g_now_notes g_now_undos g_now_ways g_now_strengths y12 (g_now_month + x11) ((g_now_cells p1.toNatClampNeg) - (g_now_cells p1.toNatClampNeg) / 6 * 6) u21 hu22) (cwV 3 hts gX3_waits_X1_mostAlike rfl rfl rfl (by decide +kernel) ⟨(Nat.le_of_ble_eq_true rfl), (Nat.le_of_ble_eq_true rfl)⟩) (preR_V (hP.sub (ws' := [oX1 a_now g_now_month g_now_floes g_now_founds g_now_notes g_now_undos, rI cyI (a_now 1) 12 g_now_ways, rI cyI (a_now 2) 12 g_now_strengths]) [1, 2, 3] rfl) hKK (va_recv hK hP (ci := 0) (q0 := 1) rfl rfl)) rfl rfl hl.1 rfl (lv_room (Nat.le_of_ble_eq_true rfl)) dX3_waits_71 ⟨Nat.zero_le _, Nat.zero_le _⟩) ?_
        refine lv_istore (lv' := [(6, .int u21), (0, .ref (a 0)), (1, .int p1), (2, .int y12), (3, .int x9), (4, .int x10), (5, .int x11)]) hx hb dX3_waits_74 hl (by decide) rfl (fun ls hl => ?_)
        refine lv_iload hx hb dX3_waits_76 (lv_at hl 0 rfl) ?_
        refine lv_iload hx hb dX3_waits_78 (lv_at hl 5 rfl) ?_
        obtain ⟨j26, hj27, h28⟩ := jn_e h23
        have Jj26 : ∀ (x24 : Int32) (x25 : Int32) (H : Heap) (locs : List Loc) (ls : Array Slot), j26 x24 x25 = some R0 → va_P D vwCl [oX3 a a_now a_spare a_text g_above g_below g_bads g_nos g_fulls, oX1 a_now g_now_month g_now_floes g_now_founds g_now_notes g_now_undos, rI cyI (a_now 1) 12 g_now_ways, rI cyI (a_now 2) 12 g_now_strengths, rI cyI (a_now 4) 5 g_now_cells, rI cyI (a_now 7) 42 g_now_noteRows] H → va_D A [oX3 a a_now a_spare a_text g_above g_below g_bads g_nos g_fulls, oX1 a_now g_now_month g_now_floes g_now_founds g_now_notes g_now_undos, rI cyI (a_now 1) 12 g_now_ways, rI cyI (a_now 2) 12 g_now_strengths, rI cyI (a_now 4) 5 g_now_cells, rI cyI (a_now 7) 42 g_now_noteRows] → va_S A s.heap H locs → lv_has ls 7 [(0, .ref (a 0)), (1, .int p1), (2, .int y12), (3, .int x24), (4, .int x25), (5, .int x11)] → W p l e (headSpec wsX3_waits rm_X3_waits).room s m ([.ref (a 0), .int p1] : List Value).toArray below meth c H locs 0 0 (MQ below (va_Qi (fun (r : Int32) (_ : Unit) => r = R0.1) (fun _ t => va_P D vwCl [oX3 a a_now a_spare a_text g_above g_below R0.2 g_nos g_fulls, oX1 a_now g_now_month g_now_floes g_now_founds g_now_notes g_now_undos, rI cyI (a_now 1) 12 g_now_ways, rI cyI (a_now 2) 12 g_now_strengths, rI cyI (a_now 4) 5 g_now_cells, rI cyI (a_now 7) 42 g_now_noteRows] t.heap ∧ va_D A [oX3 a a_now a_spare a_text g_above g_below R0.2 g_nos g_fulls, oX1 a_now g_now_month g_now_floes g_now_founds g_now_notes g_now_undos, rI cyI (a_now 1) 12 g_now_ways, rI cyI (a_now 2) 12 g_now_strengths, rI cyI (a_now 4) 5 g_now_cells, rI cyI (a_now 7) 42 g_now_noteRows]) A) ([.ref (a 0), .int p1] : List Value).toArray s 0 0 A) (F0 m 90 ls []) := by
          intro x24 x25 H30 L31 ls h29 hP hD hS hl
          rw [hj27] at h29
          obtain ⟨x32, ex32, h33⟩ := lt_e h29
          refine lv_iinc (v := x32) (lv' := [(5, .int x32), (0, .ref (a 0)), (1, .int p1), (2, .int y12), (3, .int x24), (4, .int x25)]) hx hb dX3_waits_90 hl (k := 5) rfl (by rw [ex32]; rfl) (by decide) rfl (fun ls hl => ?_)
          refine lv_goto (tgt := 37) hx hb dX3_waits_93 (by decide) ?_
          exact ih x24 x25 x32 _ _ _ h33 hP hD hS (lv_sub hl [1, 2, 3, 4, 5, 0] rfl)
        refine lv_icmp_ge (tgt := 90) hx hb dX3_waits_80 (by decide) (fun c34 => ?_) (fun c34 => ?_)
        · have h35 := (if_pos c34).symm.trans h28
          exact Jj26 x9 x10 _ _ _ h35 hP hD hS (lv_sub hl [1, 2, 3, 4, 5, 6] rfl)
        · have h36 := (if_neg c34).symm.trans h28
          refine lv_iload hx hb dX3_waits_83 (lv_at hl 0 rfl) ?_
          refine lv_istore (lv' := [(4, .int u21), (6, .int u21), (0, .ref (a 0)), (1, .int p1), (2, .int y12), (3, .int x9), (5, .int x11)]) hx hb dX3_waits_85 hl (by decide) rfl (fun ls hl => ?_)
          refine lv_iload hx hb dX3_waits_87 (lv_at hl 6 rfl) ?_
          refine lv_istore_n (lv' := [(3, .int x11), (4, .int u21), (6, .int u21), (0, .ref (a 0)), (1, .int p1), (2, .int y12), (5, .int x11)]) hx hb dX3_waits_89 rfl hl (by decide) rfl (fun ls hl => ?_)
          exact Jj26 x11 u21 _ _ _ h36 hP hD hS (lv_sub hl [3, 4, 5, 0, 1, 6] rfl)
  unfold T_X3_waits at hT
  refine lv_aload_n hx hb dX3_waits_0 rfl (lv_at hl 0 rfl) ?_
  refine lv_iload_n hx hb dX3_waits_1 rfl (lv_at hl 1 rfl) ?_
  refine kc_Z (W.runV (As := [.int p1]) (rest := []) ⟨hx, hb, hml, hown, hts⟩ (c_X3_isFloe l D cyI cyJ cyS a a_now a_spare a_text g_above g_below g_bads g_nos g_fulls g_now_month g_now_floes g_now_founds g_now_notes g_now_undos p1 (T_X3_isFloe g_now_floes p1) rfl) (cwV 1 hts gX3_waits_X3_isFloe rfl rfl rfl (by decide +kernel) ⟨(Nat.le_of_ble_eq_true rfl), (Nat.le_of_ble_eq_true rfl)⟩) (preR_V (hP.sub (ws' := [oX3 a a_now a_spare a_text g_above g_below g_bads g_nos g_fulls, oX1 a_now g_now_month g_now_floes g_now_founds g_now_notes g_now_undos]) [0, 1] rfl) hKK (va_recv hK hP (ci := 2) (q0 := 0) rfl rfl)) rfl rfl hl.1 rfl (lv_room (Nat.le_of_ble_eq_true rfl)) dX3_waits_2 ⟨Nat.zero_le _, Nat.zero_le _⟩) (fun hn1 => ?_)
  refine lv_if_ne (tgt := 13) hx hb dX3_waits_5 (by decide) (fun c2 => ?_) (fun c2 => ?_)
  · have h3 := (if_neg c2).symm.trans hT
    refine lv_aload_n hx hb dX3_waits_13 rfl (lv_at hl 0 rfl) ?_
    refine va_get (D := D) (cl := vwCl) (ci := 2) (v := .ref (a_now 0)) (C := RX3) (T := TX3) (N := 12) hx hb hts inX3 hown hK hP 0 rfl rfl 0 (by decide) (hts (Cond.fieldLink RX3 10 "FrozenIn" "now" "LFrozenIn$Sea;") (List.mem_of_getElem? (i := 1) rfl)) (fun _ h9 => h9) rfl dX3_waits_14 ?_
    refine lv_iload_n hx hb dX3_waits_17 rfl (lv_at hl 1 rfl) ?_
    obtain ⟨u4, hu5, h6⟩ := bd_e h3
    refine kc_I (W.runV (As := [.int p1]) (rest := []) ⟨hx, hb, hml, hown, hts⟩ (c_X1_kindsByNotes l D cyI cyJ cyS N a_now g_now_month g_now_floes g_now_founds g_now_notes g_now_undos g_now_noteRows p1 u4 hu5) (cwV 1 hts gX3_waits_X1_kindsByNotes rfl rfl rfl (by decide +kernel) ⟨(Nat.le_of_ble_eq_true rfl), (Nat.le_of_ble_eq_true rfl)⟩) (preR_V (hP.sub (ws' := [oX1 a_now g_now_month g_now_floes g_now_founds g_now_notes g_now_undos, rI cyI (a_now 7) 42 g_now_noteRows]) [1, 5] rfl) hKK (va_recv hK hP (ci := 0) (q0 := 1) rfl rfl)) rfl rfl hl.1 rfl (lv_room (Nat.le_of_ble_eq_true rfl)) dX3_waits_18 ⟨Nat.zero_le _, Nat.zero_le _⟩) ?_
    refine lv_istore_n (lv' := [(2, .int u4), (0, .ref (a 0)), (1, .int p1)]) hx hb dX3_waits_21 rfl hl (by decide) rfl (fun ls hl => ?_)
    refine lv_iload_n hx hb dX3_waits_22 rfl (lv_at hl 0 rfl) ?_
    refine lv_if_ne (tgt := 28) hx hb dX3_waits_23 (by decide) (fun c7 => ?_) (fun c7 => ?_)
    · have h8 := (if_neg c7).symm.trans h6
      refine lv_iconst (v := 0) hx hb dX3_waits_28 (by decide) ?_
      refine lv_istore_n (lv' := [(3, .int 0), (2, .int u4), (0, .ref (a 0)), (1, .int p1)]) hx hb dX3_waits_29 rfl hl (by decide) rfl (fun ls hl => ?_)
      refine lv_bipush (v := 7) hx hb dX3_waits_30 (by decide) ?_
      refine lv_istore (lv' := [(4, .int 7), (3, .int 0), (2, .int u4), (0, .ref (a 0)), (1, .int p1)]) hx hb dX3_waits_32 hl (by decide) rfl (fun ls hl => ?_)
      refine lv_iconst (v := 0) hx hb dX3_waits_34 (by decide) ?_
      refine lv_istore (lv' := [(5, .int 0), (4, .int 7), (3, .int 0), (2, .int u4), (0, .ref (a 0)), (1, .int p1)]) hx hb dX3_waits_35 hl (by decide) rfl (fun ls hl => ?_)
      refine L37 u4 N 0 7 0 _ _ _ h8 hP hD hS (lv_sub hl [4, 5, 3, 2, 1, 0] rfl)
    · have h37 := (if_pos c7).symm.trans h6
      refine lv_iconst (v := (-1)) hx hb dX3_waits_26 (by decide) ?_
      rw [← Option.some.inj h37]
      exact W.iret (v := (-1)) hx hb hr (fun t ht hW => ⟨⟨(-1), (), rfl, rfl, ⟨by rw [ht]; exact hP, hD⟩⟩, hS.F ht⟩) hS.2.2 dX3_waits_27
  · have h38 := (if_pos c2).symm.trans hT
    refine lv_aload_n hx hb dX3_waits_8 rfl (lv_at hl 0 rfl) ?_
    obtain ⟨u39, hu40, h41⟩ := lt_e h38
    refine kw_I (wc := [oX3 a a_now a_spare a_text g_above g_below g_bads g_nos g_fulls]) (wr := [oX1 a_now g_now_month g_now_floes g_now_founds g_now_notes g_now_undos, rI cyI (a_now 1) 12 g_now_ways, rI cyI (a_now 2) 12 g_now_strengths, rI cyI (a_now 4) 5 g_now_cells, rI cyI (a_now 7) 42 g_now_noteRows]) (ws' := [oX3 a a_now a_spare a_text g_above g_below u39.2 g_nos g_fulls, oX1 a_now g_now_month g_now_floes g_now_founds g_now_notes g_now_undos, rI cyI (a_now 1) 12 g_now_ways, rI cyI (a_now 2) 12 g_now_strengths, rI cyI (a_now 4) 5 g_now_cells, rI cyI (a_now 7) 42 g_now_noteRows]) (va_runV (As := []) (rest := []) ⟨hx, hb, hml, hown, hts⟩ (c_X3_refuseBad l D cyI cyJ cyS a a_now a_spare a_text g_above g_below g_bads g_nos g_fulls s.heap.size u39 hu40.symm) (cwV 0 hts gX3_waits_X3_refuseBad rfl rfl rfl (by decide +kernel) ⟨(Nat.le_of_ble_eq_true rfl), (Nat.le_of_ble_eq_true rfl)⟩) (preW_V (hP.sub (ws' := [oX3 a a_now a_spare a_text g_above g_below g_bads g_nos g_fulls]) [0] rfl) (hD.sub (ws' := [oX3 a a_now a_spare a_text g_above g_below g_bads g_nos g_fulls]) [0] (by decide) rfl) hKK (va_recv hK hP (ci := 2) (q0 := 0) rfl rfl)) rfl rfl hl.1 rfl (lv_room (Nat.le_of_ble_eq_true rfl)) dX3_waits_9 ⟨Nat.zero_le _, Nat.zero_le _⟩) hP hD hS hA [0] [1, 2, 3, 4, 5] [5, 0, 1, 2, 3, 4] rfl rfl (by decide) (by decide) rfl (by decide) (fun H42 L43 hP hD hS => ?_)
    rw [← Option.some.inj h41]
    exact W.iret (v := u39.1) hx hb hr (fun t ht hW => ⟨⟨u39.1, (), rfl, rfl, ⟨by rw [ht]; exact hP, hD⟩⟩, hS.F ht⟩) hS.2.2 dX3_waits_12
def T_X3_weighLeaving_L2 (N : Nat) (p1 : Int32) (p2 : Int32) (g_now_month : Int32) (g_now_ways : Nat → Int32) (g_now_strengths : Nat → Int32) (g_now_kinds : Nat → Int32) (g_now_cells : Nat → Int32) (g_now_foods : Nat → Int32)  : Nat → Int32 → (Nat → Int32) → Option ((Nat → Int32))
  | 0, _, _ => none
  | n + 1, x1, z2 => (if 6 ≤ x1 then (some z2) else (Option.bind (T_X1_cellBehind N g_now_month g_now_ways g_now_strengths g_now_kinds g_now_cells p1 x1) fun u9 => (Option.bind (T_X1_cellBehind N g_now_month g_now_ways g_now_strengths g_now_kinds g_now_cells p2 x1) fun u12 => (lt' (T_X3_far u9 u12) fun x15 => (Option.bind (T_X1_foodBehind N g_now_foods p2 x1) fun u17 => (ob x1 12 (Option.bind (T_X1_foodBehind N g_now_foods p1 x1) fun u24 => (ob (6 + x1) 12 (lt' (x1 + 1) fun x31 => (T_X3_weighLeaving_L2 N p1 p2 g_now_month g_now_ways g_now_strengths g_now_kinds g_now_cells g_now_foods n x31 (upd (upd z2 x1.toNatClampNeg (u17 - x15)) (6 + x1).toNatClampNeg (u24 - x15))))))))))))
theorem T_X3_weighLeaving_L2_s (N : Nat) (p1 : Int32) (p2 : Int32) (g_now_month : Int32) (g_now_ways : Nat → Int32) (g_now_strengths : Nat → Int32) (g_now_kinds : Nat → Int32) (g_now_cells : Nat → Int32) (g_now_foods : Nat → Int32)  (n : Nat) (x1 : Int32) (z2 : Nat → Int32) : T_X3_weighLeaving_L2 N p1 p2 g_now_month g_now_ways g_now_strengths g_now_kinds g_now_cells g_now_foods  (n + 1) x1 z2 = (if 6 ≤ x1 then (some z2) else (Option.bind (T_X1_cellBehind N g_now_month g_now_ways g_now_strengths g_now_kinds g_now_cells p1 x1) fun u9 => (Option.bind (T_X1_cellBehind N g_now_month g_now_ways g_now_strengths g_now_kinds g_now_cells p2 x1) fun u12 => (lt' (T_X3_far u9 u12) fun x15 => (Option.bind (T_X1_foodBehind N g_now_foods p2 x1) fun u17 => (ob x1 12 (Option.bind (T_X1_foodBehind N g_now_foods p1 x1) fun u24 => (ob (6 + x1) 12 (lt' (x1 + 1) fun x31 => (T_X3_weighLeaving_L2 N p1 p2 g_now_month g_now_ways g_now_strengths g_now_kinds g_now_cells g_now_foods n x31 (upd (upd z2 x1.toNatClampNeg (u17 - x15)) (6 + x1).toNatClampNeg (u24 - x15)))))))))))) := rfl
def T_X3_weighLeaving (N : Nat) (g_now_month : Int32) (g_now_ways : Nat → Int32) (g_now_strengths : Nat → Int32) (g_now_kinds : Nat → Int32) (g_now_cells : Nat → Int32) (g_now_foods : Nat → Int32) (g_gains : Nat → Int32) (p1 : Int32) (p2 : Int32) : Option (Nat → Int32) :=
  (T_X3_weighLeaving_L2 N p1 p2 g_now_month g_now_ways g_now_strengths g_now_kinds g_now_cells g_now_foods N 0 g_gains)
abbrev rm_X3_weighLeaving : Room := { frames := 5, cells := 0, slots := 0, locals := 123 }
set_option maxHeartbeats 4000000 in
set_option maxRecDepth 100000 in
theorem c_X3_weighLeaving (l : Launch) (D : va_G) (cyI cyJ cyS : ClassId) (N : Nat) (a a_now a_spare a_text : Nat → Nat) (g_above : Int64) (g_below : Int64) (g_bads : Int32) (g_nos : Int32) (g_fulls : Int32) (g_now_month : Int32) (g_now_floes : Int32) (g_now_founds : Int32) (g_now_notes : Int32) (g_now_undos : Int32) (g_now_ways : Nat → Int32) (g_now_strengths : Nat → Int32) (g_now_kinds : Nat → Int32) (g_now_cells : Nat → Int32) (g_now_foods : Nat → Int32) (g_gains : Nat → Int32) (p1 : Int32) (p2 : Int32) (sz : Nat) (R0 : (Nat → Int32)) (hT : T_X3_weighLeaving N g_now_month g_now_ways g_now_strengths g_now_kinds g_now_cells g_now_foods g_gains p1 p2 = some R0) : Met l yX3_weighLeaving wsX3_weighLeaving rm_X3_weighLeaving (va_Pc [.ref (a 0), .int p1, .int p2] (preW D (tyS cyI cyJ cyS) [oX3 a a_now a_spare a_text g_above g_below g_bads g_nos g_fulls, oX1 a_now g_now_month g_now_floes g_now_founds g_now_notes g_now_undos, rI cyI (a_now 1) 12 g_now_ways, rI cyI (a_now 2) 12 g_now_strengths, rI cyI (a_now 3) 5 g_now_kinds, rI cyI (a_now 4) 5 g_now_cells, rI cyI (a_now 5) 5 g_now_foods, rI cyI (a 4) 12 g_gains] sz)) (va_Qv (fun (_ : Unit) => True) (fun _ t => va_P D vwCl [oX3 a a_now a_spare a_text g_above g_below g_bads g_nos g_fulls, oX1 a_now g_now_month g_now_floes g_now_founds g_now_notes g_now_undos, rI cyI (a_now 1) 12 g_now_ways, rI cyI (a_now 2) 12 g_now_strengths, rI cyI (a_now 3) 5 g_now_kinds, rI cyI (a_now 4) 5 g_now_cells, rI cyI (a_now 5) 5 g_now_foods, rI cyI (a 4) 12 R0] t.heap ∧ va_D (va_A [oX3 a a_now a_spare a_text g_above g_below g_bads g_nos g_fulls, oX1 a_now g_now_month g_now_floes g_now_founds g_now_notes g_now_undos, rI cyI (a_now 1) 12 g_now_ways, rI cyI (a_now 2) 12 g_now_strengths, rI cyI (a_now 3) 5 g_now_kinds, rI cyI (a_now 4) 5 g_now_cells, rI cyI (a_now 5) 5 g_now_foods, rI cyI (a 4) 12 g_gains] sz) [oX3 a a_now a_spare a_text g_above g_below g_bads g_nos g_fulls, oX1 a_now g_now_month g_now_floes g_now_founds g_now_notes g_now_undos, rI cyI (a_now 1) 12 g_now_ways, rI cyI (a_now 2) 12 g_now_strengths, rI cyI (a_now 3) 5 g_now_kinds, rI cyI (a_now 4) 5 g_now_cells, rI cyI (a_now 5) 5 g_now_foods, rI cyI (a 4) 12 R0]) (va_A [oX3 a a_now a_spare a_text g_above g_below g_bads g_nos g_fulls, oX1 a_now g_now_month g_now_floes g_now_founds g_now_notes g_now_undos, rI cyI (a_now 1) 12 g_now_ways, rI cyI (a_now 2) 12 g_now_strengths, rI cyI (a_now 3) 5 g_now_kinds, rI cyI (a_now 4) 5 g_now_cells, rI cyI (a_now 5) 5 g_now_foods, rI cyI (a 4) 12 g_gains] sz)) 0 0 (va_A [oX3 a a_now a_spare a_text g_above g_below g_bads g_nos g_fulls, oX1 a_now g_now_month g_now_floes g_now_founds g_now_notes g_now_undos, rI cyI (a_now 1) 12 g_now_ways, rI cyI (a_now 2) 12 g_now_strengths, rI cyI (a_now 3) 5 g_now_kinds, rI cyI (a_now 4) 5 g_now_cells, rI cyI (a_now 5) 5 g_now_foods, rI cyI (a 4) 12 g_gains] sz) := by
  refine Met.ofW (cc := cX3_weighLeaving) (maxL := 5) (ret := none) (by decide) rfl ?_
  intro p e s m args below meth c s₁ B hml hv
  obtain ⟨rfl, hsz, hP, hKK, hD0⟩ := hv
  have hx := B.exec
  have hb := B.bytes
  have hr := B.returns
  have hts := atoms_spec (ws := wsX3_weighLeaving) B.pre
  have hown : s.vm.findClass RX3 = some m.cls := findClass_of_methodNamed B.named
  have hlocks := B.notSynchronized
  have hK := hKK.1
  have inX3 : ∀ w ∈ wsX30, w ∈ wsX3_weighLeaving := (fun _ h => List.mem_cons_of_mem _ (List.mem_append_left _ (List.mem_append_right _ h)))
  have inX1 : ∀ w ∈ wsX10, w ∈ wsX3_weighLeaving := (fun _ h => List.mem_cons_of_mem _ (List.mem_append_right _ h))
  subst hsz
  have hD := hD0.self (sz := s.heap.size)
  generalize hAe : va_A [oX3 a a_now a_spare a_text g_above g_below g_bads g_nos g_fulls, oX1 a_now g_now_month g_now_floes g_now_founds g_now_notes g_now_undos, rI cyI (a_now 1) 12 g_now_ways, rI cyI (a_now 2) 12 g_now_strengths, rI cyI (a_now 3) 5 g_now_kinds, rI cyI (a_now 4) 5 g_now_cells, rI cyI (a_now 5) 5 g_now_foods, rI cyI (a 4) 12 g_gains] s.heap.size = A at hD ⊢
  have hA : ∀ q : Nat, s.heap.size ≤ q → A q := fun q h => by rw [← hAe]; exact Or.inr h
  have hS : va_S A s.heap s.heap [] := va_S.rf
  have hP : va_P D vwCl [oX3 a a_now a_spare a_text g_above g_below g_bads g_nos g_fulls, oX1 a_now g_now_month g_now_floes g_now_founds g_now_notes g_now_undos, rI cyI (a_now 1) 12 g_now_ways, rI cyI (a_now 2) 12 g_now_strengths, rI cyI (a_now 3) 5 g_now_kinds, rI cyI (a_now 4) 5 g_now_cells, rI cyI (a_now 5) 5 g_now_foods, rI cyI (a 4) 12 g_gains] s.heap := hP
  have hl := lv_entry [.ref (a 0), .int p1, .int p2] (n := 5) (Nat.le_of_ble_eq_true rfl)
  rw [lg_entry_eq]
  generalize (lg_sl [.ref (a 0), .int p1, .int p2] ++ List.replicate (5 - (lg_sl [.ref (a 0), .int p1, .int p2]).length) Slot.unset).toArray = ls at hl ⊢
  have hl : lv_has ls 5 [(0, .ref (a 0)), (1, .int p1), (2, .int p2)] := hl
  have L2 : ∀ (n : Nat), ∀ (x1 : Int32) (z2 : Nat → Int32) (H : Heap) (locs : List Loc) (ls : Array Slot), T_X3_weighLeaving_L2 N p1 p2 g_now_month g_now_ways g_now_strengths g_now_kinds g_now_cells g_now_foods n x1 z2 = some R0 → va_P D vwCl [oX3 a a_now a_spare a_text g_above g_below g_bads g_nos g_fulls, oX1 a_now g_now_month g_now_floes g_now_founds g_now_notes g_now_undos, rI cyI (a_now 1) 12 g_now_ways, rI cyI (a_now 2) 12 g_now_strengths, rI cyI (a_now 3) 5 g_now_kinds, rI cyI (a_now 4) 5 g_now_cells, rI cyI (a_now 5) 5 g_now_foods, rI cyI (a 4) 12 z2] H → va_D A [oX3 a a_now a_spare a_text g_above g_below g_bads g_nos g_fulls, oX1 a_now g_now_month g_now_floes g_now_founds g_now_notes g_now_undos, rI cyI (a_now 1) 12 g_now_ways, rI cyI (a_now 2) 12 g_now_strengths, rI cyI (a_now 3) 5 g_now_kinds, rI cyI (a_now 4) 5 g_now_cells, rI cyI (a_now 5) 5 g_now_foods, rI cyI (a 4) 12 z2] → va_S A s.heap H locs → lv_has ls 5 [(0, .ref (a 0)), (1, .int p1), (2, .int p2), (3, .int x1)] → W p l e (headSpec wsX3_weighLeaving rm_X3_weighLeaving).room s m ([.ref (a 0), .int p1, .int p2] : List Value).toArray below meth c H locs 0 0 (MQ below (va_Qv (fun (_ : Unit) => True) (fun _ t => va_P D vwCl [oX3 a a_now a_spare a_text g_above g_below g_bads g_nos g_fulls, oX1 a_now g_now_month g_now_floes g_now_founds g_now_notes g_now_undos, rI cyI (a_now 1) 12 g_now_ways, rI cyI (a_now 2) 12 g_now_strengths, rI cyI (a_now 3) 5 g_now_kinds, rI cyI (a_now 4) 5 g_now_cells, rI cyI (a_now 5) 5 g_now_foods, rI cyI (a 4) 12 R0] t.heap ∧ va_D A [oX3 a a_now a_spare a_text g_above g_below g_bads g_nos g_fulls, oX1 a_now g_now_month g_now_floes g_now_founds g_now_notes g_now_undos, rI cyI (a_now 1) 12 g_now_ways, rI cyI (a_now 2) 12 g_now_strengths, rI cyI (a_now 3) 5 g_now_kinds, rI cyI (a_now 4) 5 g_now_cells, rI cyI (a_now 5) 5 g_now_foods, rI cyI (a 4) 12 R0]) A) ([.ref (a 0), .int p1, .int p2] : List Value).toArray s 0 0 A) (F0 m 2 ls []) := by
    intro n
    induction n with
    | zero => intro _ _ _ _ _ h; exact absurd h (fun z => by cases z)
    | succ n ih =>
      intro x1 z2 H4 L5 ls h3 hP hD hS hl
      rw [T_X3_weighLeaving_L2_s] at h3
      refine lv_iload_n hx hb dX3_weighLeaving_2 rfl (lv_at hl 3 rfl) ?_
      refine lv_bipush (v := 6) hx hb dX3_weighLeaving_3 (by decide) ?_
      refine lv_icmp_ge (tgt := 76) hx hb dX3_weighLeaving_5 (by decide) (fun c6 => ?_) (fun c6 => ?_)
      · have h7 := (if_pos c6).symm.trans h3
        rw [← Option.some.inj h7]
        exact W.vret hx hb hr (fun t ht hW => ⟨⟨(), rfl, trivial, ⟨by rw [ht]; exact hP, hD⟩⟩, hS.F ht⟩) hS.2.2 dX3_weighLeaving_76
      · have h8 := (if_neg c6).symm.trans h3
        refine lv_aload_n hx hb dX3_weighLeaving_8 rfl (lv_at hl 0 rfl) ?_
        refine va_get (D := D) (cl := vwCl) (ci := 2) (v := .ref (a_now 0)) (C := RX3) (T := TX3) (N := 12) hx hb hts inX3 hown hK hP 0 rfl rfl 0 (by decide) (hts (Cond.fieldLink RX3 10 "FrozenIn" "now" "LFrozenIn$Sea;") (List.mem_of_getElem? (i := 1) rfl)) (fun _ h9 => h9) rfl dX3_weighLeaving_9 ?_
        refine lv_iload_n hx hb dX3_weighLeaving_12 rfl (lv_at hl 1 rfl) ?_
        refine lv_iload_n hx hb dX3_weighLeaving_13 rfl (lv_at hl 3 rfl) ?_
        obtain ⟨u9, hu10, h11⟩ := bd_e h8
        refine kc_I (W.runV (As := [.int p1, .int x1]) (rest := []) ⟨hx, hb, hml, hown, hts⟩ (c_X1_cellBehind l D cyI cyJ cyS N a_now g_now_month g_now_floes g_now_founds g_now_notes g_now_undos g_now_ways g_now_strengths g_now_kinds g_now_cells p1 x1 u9 hu10) (cwV 2 hts gX3_weighLeaving_X1_cellBehind rfl rfl rfl (by decide +kernel) ⟨(Nat.le_of_ble_eq_true rfl), (Nat.le_of_ble_eq_true rfl)⟩) (preR_V (hP.sub (ws' := [oX1 a_now g_now_month g_now_floes g_now_founds g_now_notes g_now_undos, rI cyI (a_now 1) 12 g_now_ways, rI cyI (a_now 2) 12 g_now_strengths, rI cyI (a_now 3) 5 g_now_kinds, rI cyI (a_now 4) 5 g_now_cells]) [1, 2, 3, 4, 5] rfl) hKK (va_recv hK hP (ci := 0) (q0 := 1) rfl rfl)) rfl rfl hl.1 rfl (lv_room (Nat.le_of_ble_eq_true rfl)) dX3_weighLeaving_14 ⟨Nat.zero_le _, Nat.zero_le _⟩) ?_
        refine lv_aload_n hx hb dX3_weighLeaving_17 rfl (lv_at hl 0 rfl) ?_
        refine va_get (D := D) (cl := vwCl) (ci := 2) (v := .ref (a_now 0)) (C := RX3) (T := TX3) (N := 12) hx hb hts inX3 hown hK hP 0 rfl rfl 0 (by decide) (hts (Cond.fieldLink RX3 10 "FrozenIn" "now" "LFrozenIn$Sea;") (List.mem_of_getElem? (i := 1) rfl)) (fun _ h9 => h9) rfl dX3_weighLeaving_18 ?_
        refine lv_iload_n hx hb dX3_weighLeaving_21 rfl (lv_at hl 2 rfl) ?_
        refine lv_iload_n hx hb dX3_weighLeaving_22 rfl (lv_at hl 3 rfl) ?_
        obtain ⟨u12, hu13, h14⟩ := bd_e h11
        refine kc_I (W.runV (As := [.int p2, .int x1]) (rest := [.int u9]) ⟨hx, hb, hml, hown, hts⟩ (c_X1_cellBehind l D cyI cyJ cyS N a_now g_now_month g_now_floes g_now_founds g_now_notes g_now_undos g_now_ways g_now_strengths g_now_kinds g_now_cells p2 x1 u12 hu13) (cwV 2 hts gX3_weighLeaving_X1_cellBehind rfl rfl rfl (by decide +kernel) ⟨(Nat.le_of_ble_eq_true rfl), (Nat.le_of_ble_eq_true rfl)⟩) (preR_V (hP.sub (ws' := [oX1 a_now g_now_month g_now_floes g_now_founds g_now_notes g_now_undos, rI cyI (a_now 1) 12 g_now_ways, rI cyI (a_now 2) 12 g_now_strengths, rI cyI (a_now 3) 5 g_now_kinds, rI cyI (a_now 4) 5 g_now_cells]) [1, 2, 3, 4, 5] rfl) hKK (va_recv hK hP (ci := 0) (q0 := 1) rfl rfl)) rfl rfl hl.1 rfl (lv_room (Nat.le_of_ble_eq_true rfl)) dX3_weighLeaving_23 ⟨Nat.zero_le _, Nat.zero_le _⟩) ?_
        refine kc_I (W.runS (As := [.int u9, .int u12]) (rest := []) ⟨hx, hb, hml, hown, hts⟩ (c_X3_far l u9 u12 (T_X3_far u9 u12) rfl) (va_cwS 2 hts gX3_weighLeaving_X3_far rfl rfl rfl (by decide +kernel) ⟨(Nat.le_of_ble_eq_true rfl), (Nat.le_of_ble_eq_true rfl)⟩) preT_S rfl rfl hl.1 rfl (lv_room (Nat.le_of_ble_eq_true rfl)) dX3_weighLeaving_26 ⟨Nat.zero_le _, Nat.zero_le _⟩) ?_
        obtain ⟨x15, ex15, h16⟩ := lt_e h14
        refine lv_nm ex15 ?_
        refine lv_istore (lv' := [(4, .int x15), (0, .ref (a 0)), (1, .int p1), (2, .int p2), (3, .int x1)]) hx hb dX3_weighLeaving_29 hl (by decide) rfl (fun ls hl => ?_)
        refine lv_aload_n hx hb dX3_weighLeaving_31 rfl (lv_at hl 1 rfl) ?_
        refine va_get (D := D) (cl := vwCl) (ci := 2) (v := .ref (a 4)) (C := RX3) (T := TX3) (N := 12) hx hb hts inX3 hown hK hP 0 rfl rfl 6 (by decide) (hts (Cond.fieldLink RX3 37 "FrozenIn" "gains" "[I") (List.mem_of_getElem? (i := 2) rfl)) (fun _ h9 => h9) rfl dX3_weighLeaving_32 ?_
        refine lv_iload_n hx hb dX3_weighLeaving_35 rfl (lv_at hl 4 rfl) ?_
        refine lv_aload_n hx hb dX3_weighLeaving_36 rfl (lv_at hl 1 rfl) ?_
        refine va_get (D := D) (cl := vwCl) (ci := 2) (v := .ref (a_now 0)) (C := RX3) (T := TX3) (N := 12) hx hb hts inX3 hown hK hP 0 rfl rfl 0 (by decide) (hts (Cond.fieldLink RX3 10 "FrozenIn" "now" "LFrozenIn$Sea;") (List.mem_of_getElem? (i := 1) rfl)) (fun _ h9 => h9) rfl dX3_weighLeaving_37 ?_
        refine lv_iload_n hx hb dX3_weighLeaving_40 rfl (lv_at hl 3 rfl) ?_
        refine lv_iload_n hx hb dX3_weighLeaving_41 rfl (lv_at hl 4 rfl) ?_
        obtain ⟨u17, hu18, h19⟩ := bd_e h16
        refine kc_I (W.runV (As := [.int p2, .int x1]) (rest := [.int x1, .ref (a 4)]) ⟨hx, hb, hml, hown, hts⟩ (c_X1_foodBehind l D cyI cyJ cyS N a_now g_now_month g_now_floes g_now_founds g_now_notes g_now_undos g_now_foods p2 x1 u17 hu18) (cwV 2 hts gX3_weighLeaving_X1_foodBehind rfl rfl rfl (by decide +kernel) ⟨(Nat.le_of_ble_eq_true rfl), (Nat.le_of_ble_eq_true rfl)⟩) (preR_V (hP.sub (ws' := [oX1 a_now g_now_month g_now_floes g_now_founds g_now_notes g_now_undos, rI cyI (a_now 5) 5 g_now_foods]) [1, 6] rfl) hKK (va_recv hK hP (ci := 0) (q0 := 1) rfl rfl)) rfl rfl hl.1 rfl (lv_room (Nat.le_of_ble_eq_true rfl)) dX3_weighLeaving_42 ⟨Nat.zero_le _, Nat.zero_le _⟩) ?_
        refine lv_iload hx hb dX3_weighLeaving_45 (lv_at hl 0 rfl) ?_
        refine lv_isub hx hb dX3_weighLeaving_47 ?_
        obtain ⟨hi21, h20⟩ := ob_e h19
        refine va_iast hx hb hK hP hD hS 7 0 rfl rfl hi21 dX3_weighLeaving_48 (fun H22 L23 hP hD hS => ?_)
        have hP : va_P D vwCl [oX3 a a_now a_spare a_text g_above g_below g_bads g_nos g_fulls, oX1 a_now g_now_month g_now_floes g_now_founds g_now_notes g_now_undos, rI cyI (a_now 1) 12 g_now_ways, rI cyI (a_now 2) 12 g_now_strengths, rI cyI (a_now 3) 5 g_now_kinds, rI cyI (a_now 4) 5 g_now_cells, rI cyI (a_now 5) 5 g_now_foods, rI cyI (a 4) 12 (upd z2 x1.toNatClampNeg (u17 - x15))] H22 := hP
        have hD : va_D A [oX3 a a_now a_spare a_text g_above g_below g_bads g_nos g_fulls, oX1 a_now g_now_month g_now_floes g_now_founds g_now_notes g_now_undos, rI cyI (a_now 1) 12 g_now_ways, rI cyI (a_now 2) 12 g_now_strengths, rI cyI (a_now 3) 5 g_now_kinds, rI cyI (a_now 4) 5 g_now_cells, rI cyI (a_now 5) 5 g_now_foods, rI cyI (a 4) 12 (upd z2 x1.toNatClampNeg (u17 - x15))] := hD
        refine lv_aload_n hx hb dX3_weighLeaving_49 rfl (lv_at hl 1 rfl) ?_
        refine va_get (D := D) (cl := vwCl) (ci := 2) (v := .ref (a 4)) (C := RX3) (T := TX3) (N := 12) hx hb hts inX3 hown hK hP 0 rfl rfl 6 (by decide) (hts (Cond.fieldLink RX3 37 "FrozenIn" "gains" "[I") (List.mem_of_getElem? (i := 2) rfl)) (fun _ h9 => h9) rfl dX3_weighLeaving_50 ?_
        refine lv_bipush (v := 6) hx hb dX3_weighLeaving_53 (by decide) ?_
        refine lv_iload_n hx hb dX3_weighLeaving_55 rfl (lv_at hl 4 rfl) ?_
        refine lv_iadd hx hb dX3_weighLeaving_56 ?_
        refine lv_aload_n hx hb dX3_weighLeaving_57 rfl (lv_at hl 1 rfl) ?_
        refine va_get (D := D) (cl := vwCl) (ci := 2) (v := .ref (a_now 0)) (C := RX3) (T := TX3) (N := 12) hx hb hts inX3 hown hK hP 0 rfl rfl 0 (by decide) (hts (Cond.fieldLink RX3 10 "FrozenIn" "now" "LFrozenIn$Sea;") (List.mem_of_getElem? (i := 1) rfl)) (fun _ h9 => h9) rfl dX3_weighLeaving_58 ?_
        refine lv_iload_n hx hb dX3_weighLeaving_61 rfl (lv_at hl 2 rfl) ?_
        refine lv_iload_n hx hb dX3_weighLeaving_62 rfl (lv_at hl 4 rfl) ?_
        obtain ⟨u24, hu25, h26⟩ := bd_e h20
        refine kc_I (W.runV (As := [.int p1, .int x1]) (rest := [.int (6 + x1), .ref (a 4)]) ⟨hx, hb, hml, hown, hts⟩ (c_X1_foodBehind l D cyI cyJ cyS N a_now g_now_month g_now_floes g_now_founds g_now_notes g_now_undos g_now_foods p1 x1 u24 hu25) (cwV 2 hts gX3_weighLeaving_X1_foodBehind rfl rfl rfl (by decide +kernel) ⟨(Nat.le_of_ble_eq_true rfl), (Nat.le_of_ble_eq_true rfl)⟩) (preR_V (hP.sub (ws' := [oX1 a_now g_now_month g_now_floes g_now_founds g_now_notes g_now_undos, rI cyI (a_now 5) 5 g_now_foods]) [1, 6] rfl) hKK (va_recv hK hP (ci := 0) (q0 := 1) rfl rfl)) rfl rfl hl.1 rfl (lv_room (Nat.le_of_ble_eq_true rfl)) dX3_weighLeaving_63 ⟨Nat.zero_le _, Nat.zero_le _⟩) ?_
        refine lv_iload hx hb dX3_weighLeaving_66 (lv_at hl 0 rfl) ?_
        refine lv_isub hx hb dX3_weighLeaving_68 ?_
        obtain ⟨hi28, h27⟩ := ob_e h26
        refine va_iast hx hb hK hP hD hS 7 0 rfl rfl hi28 dX3_weighLeaving_69 (fun H29 L30 hP hD hS => ?_)
        have hP : va_P D vwCl [oX3 a a_now a_spare a_text g_above g_below g_bads g_nos g_fulls, oX1 a_now g_now_month g_now_floes g_now_founds g_now_notes g_now_undos, rI cyI (a_now 1) 12 g_now_ways, rI cyI (a_now 2) 12 g_now_strengths, rI cyI (a_now 3) 5 g_now_kinds, rI cyI (a_now 4) 5 g_now_cells, rI cyI (a_now 5) 5 g_now_foods, rI cyI (a 4) 12 (upd (upd z2 x1.toNatClampNeg (u17 - x15)) (6 + x1).toNatClampNeg (u24 - x15))] H29 := hP
        have hD : va_D A [oX3 a a_now a_spare a_text g_above g_below g_bads g_nos g_fulls, oX1 a_now g_now_month g_now_floes g_now_founds g_now_notes g_now_undos, rI cyI (a_now 1) 12 g_now_ways, rI cyI (a_now 2) 12 g_now_strengths, rI cyI (a_now 3) 5 g_now_kinds, rI cyI (a_now 4) 5 g_now_cells, rI cyI (a_now 5) 5 g_now_foods, rI cyI (a 4) 12 (upd (upd z2 x1.toNatClampNeg (u17 - x15)) (6 + x1).toNatClampNeg (u24 - x15))] := hD
        obtain ⟨x31, ex31, h32⟩ := lt_e h27
        refine lv_iinc (v := x31) (lv' := [(3, .int x31), (4, .int x15), (0, .ref (a 0)), (1, .int p1), (2, .int p2)]) hx hb dX3_weighLeaving_70 hl (k := 4) rfl (by rw [ex31]; rfl) (by decide) rfl (fun ls hl => ?_)
        refine lv_goto (tgt := 2) hx hb dX3_weighLeaving_73 (by decide) ?_
        exact ih x31 (upd (upd z2 x1.toNatClampNeg (u17 - x15)) (6 + x1).toNatClampNeg (u24 - x15)) _ _ _ h32 hP hD hS (lv_sub hl [2, 3, 4, 0] rfl)
  unfold T_X3_weighLeaving at hT
  refine lv_iconst (v := 0) hx hb dX3_weighLeaving_0 (by decide) ?_
  refine lv_istore_n (lv' := [(3, .int 0), (0, .ref (a 0)), (1, .int p1), (2, .int p2)]) hx hb dX3_weighLeaving_1 rfl hl (by decide) rfl (fun ls hl => ?_)
  refine L2  N 0 g_gains _ _ _ hT hP hD hS (lv_sub hl [1, 2, 3, 0] rfl)
def T_X3_gain (N : Nat) (g_gains : Nat → Int32) (p1 : Int32) (p2 : Int32) (p3 : Int32) : Option Int32 :=
  (ob (p1 + p2) 12 (jn (fun (x3 : Int32) => (some ((g_gains (p1 + p2).toNatClampNeg) - x3))) fun j4 => (if p2 = p3 then (j4 5) else (j4 0))))
abbrev rm_X3_gain : Room := { frames := 0, cells := 0, slots := 0, locals := 0 }
set_option maxHeartbeats 4000000 in
set_option maxRecDepth 100000 in
theorem c_X3_gain (l : Launch) (D : va_G) (cyI cyJ cyS : ClassId) (N : Nat) (a a_now a_spare a_text : Nat → Nat) (g_above : Int64) (g_below : Int64) (g_bads : Int32) (g_nos : Int32) (g_fulls : Int32) (g_gains : Nat → Int32) (p1 : Int32) (p2 : Int32) (p3 : Int32) (R0 : Int32) (hT : T_X3_gain N g_gains p1 p2 p3 = some R0) : Met l yX3_gain wsX3_gain rm_X3_gain (va_Pc [.ref (a 0), .int p1, .int p2, .int p3] (preR D (tyS cyI cyJ cyS) [oX3 a a_now a_spare a_text g_above g_below g_bads g_nos g_fulls, rI cyI (a 4) 12 g_gains])) (vp_Si (fun r => r = R0)) 0 0 (fun _ => False) := by
  refine Met.ofW (cc := cX3_gain) (maxL := 4) (ret := (some .int)) (by decide) rfl ?_
  intro p e s m args below meth c s₁ B hml hv
  obtain ⟨rfl, hP, hKK⟩ := hv
  have hx := B.exec
  have hb := B.bytes
  have hr := B.returns
  have hts := atoms_spec (ws := wsX3_gain) B.pre
  have hown : s.vm.findClass RX3 = some m.cls := findClass_of_methodNamed B.named
  have hlocks := B.notSynchronized
  have hK := hKK.1
  have inX3 : ∀ w ∈ wsX30, w ∈ wsX3_gain := (fun _ h => List.mem_cons_of_mem _ (List.mem_append_right _ h))
  have hP : va_P D vwCl [oX3 a a_now a_spare a_text g_above g_below g_bads g_nos g_fulls, rI cyI (a 4) 12 g_gains] s.heap := hP
  have hl := lv_entry [.ref (a 0), .int p1, .int p2, .int p3] (n := 4) (Nat.le_of_ble_eq_true rfl)
  rw [lg_entry_eq]
  generalize (lg_sl [.ref (a 0), .int p1, .int p2, .int p3] ++ List.replicate (4 - (lg_sl [.ref (a 0), .int p1, .int p2, .int p3]).length) Slot.unset).toArray = ls at hl ⊢
  have hl : lv_has ls 4 [(0, .ref (a 0)), (1, .int p1), (2, .int p2), (3, .int p3)] := hl
  unfold T_X3_gain at hT
  refine lv_aload_n hx hb dX3_gain_0 rfl (lv_at hl 0 rfl) ?_
  refine va_get (D := D) (cl := vwCl) (ci := 2) (v := .ref (a 4)) (C := RX3) (T := TX3) (N := 12) hx hb hts inX3 hown hK hP 0 rfl rfl 6 (by decide) (hts (Cond.fieldLink RX3 37 "FrozenIn" "gains" "[I") (List.mem_of_getElem? (i := 1) rfl)) (fun _ h9 => h9) rfl dX3_gain_1 ?_
  refine lv_iload_n hx hb dX3_gain_4 rfl (lv_at hl 1 rfl) ?_
  refine lv_iload_n hx hb dX3_gain_5 rfl (lv_at hl 2 rfl) ?_
  refine lv_iadd hx hb dX3_gain_6 ?_
  obtain ⟨hi2, h1⟩ := ob_e hT
  refine va_iald hx hb hK hP 1 0 rfl rfl hi2 dX3_gain_7 ?_
  refine lv_iload_n hx hb dX3_gain_8 rfl (lv_at hl 2 rfl) ?_
  refine lv_iload_n hx hb dX3_gain_9 rfl (lv_at hl 3 rfl) ?_
  obtain ⟨j4, hj5, h6⟩ := jn_e h1
  have Jj4 : ∀ (x3 : Int32) (ls : Array Slot), j4 x3 = some R0 → lv_has ls 4 [] → W p l e (headSpec wsX3_gain rm_X3_gain).room s m ([.ref (a 0), .int p1, .int p2, .int p3] : List Value).toArray below meth c s.heap [] 0 0 (MQ below (vp_Si (fun r => r = R0)) ([.ref (a 0), .int p1, .int p2, .int p3] : List Value).toArray s 0 0 (fun _ => False)) (F0 m 18 ls [.int x3, .int (g_gains (p1 + p2).toNatClampNeg)]) := by
    intro x3 ls h7 hl
    rw [hj5] at h7
    refine lv_isub hx hb dX3_gain_18 ?_
    exact W.iret (v := (g_gains (p1 + p2).toNatClampNeg) - x3) hx hb hr (fun t ht hW => ⟨(g_gains (p1 + p2).toNatClampNeg) - x3, rfl, (Option.some.inj h7), ht⟩) (fun q hq => by cases hq) dX3_gain_19
  refine lv_icmp_ne (tgt := 17) hx hb dX3_gain_10 (by decide) (fun c8 => ?_) (fun c8 => ?_)
  · have h9 := (if_neg c8).symm.trans h6
    refine lv_iconst (v := 0) hx hb dX3_gain_17 (by decide) ?_
    exact Jj4 0 _ h9 (lv_sub hl [] rfl)
  · have h10 := (if_pos c8).symm.trans h6
    refine lv_iconst (v := 5) hx hb dX3_gain_13 (by decide) ?_
    refine lv_goto (tgt := 18) hx hb dX3_gain_14 (by decide) ?_
    exact Jj4 5 _ h10 (lv_sub hl [] rfl)
def T_X3_rests_L2 (N : Nat) (p1 : Int32) (p2 : Int32) (g_gains : Nat → Int32) (k44 : Option Int32) : Nat → Int32 → Option Int32
  | 0, _ => none
  | n + 1, x1 => (if 6 ≤ x1 then (some 1) else (Option.bind (T_X3_gain N g_gains 0 x1 p2) fun u8 => (Option.bind (T_X3_gain N g_gains 0 p1 p2) fun u11 => (if u11 < u8 then k44 else (Option.bind (T_X3_gain N g_gains 6 x1 p1) fun u17 => (Option.bind (T_X3_gain N g_gains 6 p2 p1) fun u20 => (if u17 ≤ u20 then (lt' (x1 + 1) fun x25 => (T_X3_rests_L2 N p1 p2 g_gains k44 n x25)) else k44)))))))
theorem T_X3_rests_L2_s (N : Nat) (p1 : Int32) (p2 : Int32) (g_gains : Nat → Int32) (k44 : Option Int32) (n : Nat) (x1 : Int32) : T_X3_rests_L2 N p1 p2 g_gains k44 (n + 1) x1 = (if 6 ≤ x1 then (some 1) else (Option.bind (T_X3_gain N g_gains 0 x1 p2) fun u8 => (Option.bind (T_X3_gain N g_gains 0 p1 p2) fun u11 => (if u11 < u8 then k44 else (Option.bind (T_X3_gain N g_gains 6 x1 p1) fun u17 => (Option.bind (T_X3_gain N g_gains 6 p2 p1) fun u20 => (if u17 ≤ u20 then (lt' (x1 + 1) fun x25 => (T_X3_rests_L2 N p1 p2 g_gains k44 n x25)) else k44))))))) := rfl
def T_X3_rests (N : Nat) (g_gains : Nat → Int32) (p1 : Int32) (p2 : Int32) : Option Int32 :=
  (T_X3_rests_L2 N p1 p2 g_gains (some 0) N 0)
abbrev rm_X3_rests : Room := { frames := 1, cells := 0, slots := 0, locals := 23 }
set_option maxHeartbeats 4000000 in
set_option maxRecDepth 100000 in
theorem c_X3_rests (l : Launch) (D : va_G) (cyI cyJ cyS : ClassId) (N : Nat) (a a_now a_spare a_text : Nat → Nat) (g_above : Int64) (g_below : Int64) (g_bads : Int32) (g_nos : Int32) (g_fulls : Int32) (g_gains : Nat → Int32) (p1 : Int32) (p2 : Int32) (R0 : Int32) (hT : T_X3_rests N g_gains p1 p2 = some R0) : Met l yX3_rests wsX3_rests rm_X3_rests (va_Pc [.ref (a 0), .int p1, .int p2] (preR D (tyS cyI cyJ cyS) [oX3 a a_now a_spare a_text g_above g_below g_bads g_nos g_fulls, rI cyI (a 4) 12 g_gains])) (vp_Si (fun r => r = R0 ∧ nb r)) 0 0 (fun _ => False) := by
  refine Met.ofW (cc := cX3_rests) (maxL := 4) (ret := (some .boolean)) (by decide) rfl ?_
  intro p e s m args below meth c s₁ B hml hv
  obtain ⟨rfl, hP, hKK⟩ := hv
  have hx := B.exec
  have hb := B.bytes
  have hr := B.returns
  have hts := atoms_spec (ws := wsX3_rests) B.pre
  have hown : s.vm.findClass RX3 = some m.cls := findClass_of_methodNamed B.named
  have hlocks := B.notSynchronized
  have hK := hKK.1
  have inX3 : ∀ w ∈ wsX30, w ∈ wsX3_rests := (fun _ h => List.mem_cons_of_mem _ (List.mem_append_right _ h))
  have hP : va_P D vwCl [oX3 a a_now a_spare a_text g_above g_below g_bads g_nos g_fulls, rI cyI (a 4) 12 g_gains] s.heap := hP
  have hl := lv_entry [.ref (a 0), .int p1, .int p2] (n := 4) (Nat.le_of_ble_eq_true rfl)
  rw [lg_entry_eq]
  generalize (lg_sl [.ref (a 0), .int p1, .int p2] ++ List.replicate (4 - (lg_sl [.ref (a 0), .int p1, .int p2]).length) Slot.unset).toArray = ls at hl ⊢
  have hl : lv_has ls 4 [(0, .ref (a 0)), (1, .int p1), (2, .int p2)] := hl
  have L2 : ∀ (k44 : Option Int32) (hk44 : ∀ (ls : Array Slot), k44 = some R0 → lv_has ls 4 [] → W p l e (headSpec wsX3_rests rm_X3_rests).room s m ([.ref (a 0), .int p1, .int p2] : List Value).toArray below meth c s.heap [] 0 0 (MQ below (vp_Si (fun r => r = R0 ∧ nb r)) ([.ref (a 0), .int p1, .int p2] : List Value).toArray s 0 0 (fun _ => False)) (F0 m 44 ls [])) (n : Nat), ∀ (x1 : Int32) (ls : Array Slot), T_X3_rests_L2 N p1 p2 g_gains k44 n x1 = some R0 → lv_has ls 4 [(0, .ref (a 0)), (1, .int p1), (2, .int p2), (3, .int x1)] → W p l e (headSpec wsX3_rests rm_X3_rests).room s m ([.ref (a 0), .int p1, .int p2] : List Value).toArray below meth c s.heap [] 0 0 (MQ below (vp_Si (fun r => r = R0 ∧ nb r)) ([.ref (a 0), .int p1, .int p2] : List Value).toArray s 0 0 (fun _ => False)) (F0 m 2 ls []) := by
    intro k44 hk44 n
    induction n with
    | zero => intro _ _ h; exact absurd h (fun z => by cases z)
    | succ n ih =>
      intro x1 ls h2 hl
      rw [T_X3_rests_L2_s] at h2
      refine lv_iload_n hx hb dX3_rests_2 rfl (lv_at hl 3 rfl) ?_
      refine lv_bipush (v := 6) hx hb dX3_rests_3 (by decide) ?_
      refine lv_icmp_ge (tgt := 52) hx hb dX3_rests_5 (by decide) (fun c5 => ?_) (fun c5 => ?_)
      · have h6 := (if_pos c5).symm.trans h2
        refine lv_iconst (v := 1) hx hb dX3_rests_52 (by decide) ?_
        exact W.zret (v := 1) hx hb hr (nb_n nb_1) (fun t ht hW => ⟨1, rfl, ⟨Option.some.inj h6, nb_1⟩, ht⟩) (fun q hq => by cases hq) dX3_rests_53
      · have h7 := (if_neg c5).symm.trans h2
        refine lv_aload_n hx hb dX3_rests_8 rfl (lv_at hl 0 rfl) ?_
        refine lv_iconst (v := 0) hx hb dX3_rests_9 (by decide) ?_
        refine lv_iload_n hx hb dX3_rests_10 rfl (lv_at hl 3 rfl) ?_
        refine lv_iload_n hx hb dX3_rests_11 rfl (lv_at hl 2 rfl) ?_
        obtain ⟨u8, hu9, h10⟩ := bd_e h7
        refine kc_I (W.runV (As := [.int 0, .int x1, .int p2]) (rest := []) ⟨hx, hb, hml, hown, hts⟩ (c_X3_gain l D cyI cyJ cyS N a a_now a_spare a_text g_above g_below g_bads g_nos g_fulls g_gains 0 x1 p2 u8 hu9) (cwV 3 hts gX3_rests_X3_gain rfl rfl rfl (by decide +kernel) ⟨(Nat.le_of_ble_eq_true rfl), (Nat.le_of_ble_eq_true rfl)⟩) (preR_V (hP.sub (ws' := [oX3 a a_now a_spare a_text g_above g_below g_bads g_nos g_fulls, rI cyI (a 4) 12 g_gains]) [0, 1] rfl) hKK (va_recv hK hP (ci := 2) (q0 := 0) rfl rfl)) rfl rfl hl.1 rfl (lv_room (Nat.le_of_ble_eq_true rfl)) dX3_rests_12 ⟨Nat.zero_le _, Nat.zero_le _⟩) ?_
        refine lv_aload_n hx hb dX3_rests_15 rfl (lv_at hl 0 rfl) ?_
        refine lv_iconst (v := 0) hx hb dX3_rests_16 (by decide) ?_
        refine lv_iload_n hx hb dX3_rests_17 rfl (lv_at hl 1 rfl) ?_
        refine lv_iload_n hx hb dX3_rests_18 rfl (lv_at hl 2 rfl) ?_
        obtain ⟨u11, hu12, h13⟩ := bd_e h10
        refine kc_I (W.runV (As := [.int 0, .int p1, .int p2]) (rest := [.int u8]) ⟨hx, hb, hml, hown, hts⟩ (c_X3_gain l D cyI cyJ cyS N a a_now a_spare a_text g_above g_below g_bads g_nos g_fulls g_gains 0 p1 p2 u11 hu12) (cwV 3 hts gX3_rests_X3_gain rfl rfl rfl (by decide +kernel) ⟨(Nat.le_of_ble_eq_true rfl), (Nat.le_of_ble_eq_true rfl)⟩) (preR_V (hP.sub (ws' := [oX3 a a_now a_spare a_text g_above g_below g_bads g_nos g_fulls, rI cyI (a 4) 12 g_gains]) [0, 1] rfl) hKK (va_recv hK hP (ci := 2) (q0 := 0) rfl rfl)) rfl rfl hl.1 rfl (lv_room (Nat.le_of_ble_eq_true rfl)) dX3_rests_19 ⟨Nat.zero_le _, Nat.zero_le _⟩) ?_
        refine lv_icmp_gt (tgt := 44) hx hb dX3_rests_22 (by decide) (fun c14 => ?_) (fun c14 => ?_)
        · have h15 := (if_pos c14).symm.trans h13
          exact hk44  _ h15 (lv_sub hl [] rfl)
        · have h16 := (if_neg c14).symm.trans h13
          refine lv_aload_n hx hb dX3_rests_25 rfl (lv_at hl 0 rfl) ?_
          refine lv_bipush (v := 6) hx hb dX3_rests_26 (by decide) ?_
          refine lv_iload_n hx hb dX3_rests_28 rfl (lv_at hl 3 rfl) ?_
          refine lv_iload_n hx hb dX3_rests_29 rfl (lv_at hl 1 rfl) ?_
          obtain ⟨u17, hu18, h19⟩ := bd_e h16
          refine kc_I (W.runV (As := [.int 6, .int x1, .int p1]) (rest := []) ⟨hx, hb, hml, hown, hts⟩ (c_X3_gain l D cyI cyJ cyS N a a_now a_spare a_text g_above g_below g_bads g_nos g_fulls g_gains 6 x1 p1 u17 hu18) (cwV 3 hts gX3_rests_X3_gain rfl rfl rfl (by decide +kernel) ⟨(Nat.le_of_ble_eq_true rfl), (Nat.le_of_ble_eq_true rfl)⟩) (preR_V (hP.sub (ws' := [oX3 a a_now a_spare a_text g_above g_below g_bads g_nos g_fulls, rI cyI (a 4) 12 g_gains]) [0, 1] rfl) hKK (va_recv hK hP (ci := 2) (q0 := 0) rfl rfl)) rfl rfl hl.1 rfl (lv_room (Nat.le_of_ble_eq_true rfl)) dX3_rests_30 ⟨Nat.zero_le _, Nat.zero_le _⟩) ?_
          refine lv_aload_n hx hb dX3_rests_33 rfl (lv_at hl 0 rfl) ?_
          refine lv_bipush (v := 6) hx hb dX3_rests_34 (by decide) ?_
          refine lv_iload_n hx hb dX3_rests_36 rfl (lv_at hl 2 rfl) ?_
          refine lv_iload_n hx hb dX3_rests_37 rfl (lv_at hl 1 rfl) ?_
          obtain ⟨u20, hu21, h22⟩ := bd_e h19
          refine kc_I (W.runV (As := [.int 6, .int p2, .int p1]) (rest := [.int u17]) ⟨hx, hb, hml, hown, hts⟩ (c_X3_gain l D cyI cyJ cyS N a a_now a_spare a_text g_above g_below g_bads g_nos g_fulls g_gains 6 p2 p1 u20 hu21) (cwV 3 hts gX3_rests_X3_gain rfl rfl rfl (by decide +kernel) ⟨(Nat.le_of_ble_eq_true rfl), (Nat.le_of_ble_eq_true rfl)⟩) (preR_V (hP.sub (ws' := [oX3 a a_now a_spare a_text g_above g_below g_bads g_nos g_fulls, rI cyI (a 4) 12 g_gains]) [0, 1] rfl) hKK (va_recv hK hP (ci := 2) (q0 := 0) rfl rfl)) rfl rfl hl.1 rfl (lv_room (Nat.le_of_ble_eq_true rfl)) dX3_rests_38 ⟨Nat.zero_le _, Nat.zero_le _⟩) ?_
          refine lv_icmp_le (tgt := 46) hx hb dX3_rests_41 (by decide) (fun c23 => ?_) (fun c23 => ?_)
          · have h24 := (if_pos c23).symm.trans h22
            obtain ⟨x25, ex25, h26⟩ := lt_e h24
            refine lv_iinc (v := x25) (lv' := [(3, .int x25), (0, .ref (a 0)), (1, .int p1), (2, .int p2)]) hx hb dX3_rests_46 hl (k := 3) rfl (by rw [ex25]; rfl) (by decide) rfl (fun ls hl => ?_)
            refine lv_goto (tgt := 2) hx hb dX3_rests_49 (by decide) ?_
            exact ih x25 _ h26 (lv_sub hl [1, 2, 3, 0] rfl)
          · have h27 := (if_neg c23).symm.trans h22
            exact hk44  _ h27 (lv_sub hl [] rfl)
  unfold T_X3_rests at hT
  refine lv_iconst (v := 0) hx hb dX3_rests_0 (by decide) ?_
  refine lv_istore_n (lv' := [(3, .int 0), (0, .ref (a 0)), (1, .int p1), (2, .int p2)]) hx hb dX3_rests_1 rfl hl (by decide) rfl (fun ls hl => ?_)
  refine L2 _ (fun ls h28 hl => ?_) N 0 _ hT (lv_sub hl [1, 2, 3, 0] rfl)
  refine lv_iconst (v := 0) hx hb dX3_rests_44 (by decide) ?_
  exact W.zret (v := 0) hx hb hr (nb_n nb_0) (fun t ht hW => ⟨0, rfl, ⟨Option.some.inj h28, nb_0⟩, ht⟩) (fun q hq => by cases hq) dX3_rests_45
def T_X3_leave_L39 (N : Nat) (p3 : Int32) (g_bads : Int32) (y22 : Nat → Int32) (k81 : Int32 → Option (Int32 × Int32 × (Nat → Int32))) : Nat → Int32 → Int32 → Option (Int32 × Int32 × (Nat → Int32))
  | 0, _, _ => none
  | n + 1, x20, x21 => (if 36 ≤ x21 then (k81 x20) else (Option.bind (T_X3_rests N y22 (x21 / 6) (x21 - x21 / 6 * 6)) fun u30 => (jn (fun (x34 : Int32) => (lt' (x21 + 1) fun x41 => (T_X3_leave_L39 N p3 g_bads y22 k81 n x34 x41))) fun j35 => (if u30 = 0 then (j35 x20) else (if x20 = p3 then (some (x21, g_bads, y22)) else (lt' (x20 + 1) fun x48 => (j35 x48)))))))
theorem T_X3_leave_L39_s (N : Nat) (p3 : Int32) (g_bads : Int32) (y22 : Nat → Int32) (k81 : Int32 → Option (Int32 × Int32 × (Nat → Int32))) (n : Nat) (x20 : Int32) (x21 : Int32) : T_X3_leave_L39 N p3 g_bads y22 k81 (n + 1) x20 x21 = (if 36 ≤ x21 then (k81 x20) else (Option.bind (T_X3_rests N y22 (x21 / 6) (x21 - x21 / 6 * 6)) fun u30 => (jn (fun (x34 : Int32) => (lt' (x21 + 1) fun x41 => (T_X3_leave_L39 N p3 g_bads y22 k81 n x34 x41))) fun j35 => (if u30 = 0 then (j35 x20) else (if x20 = p3 then (some (x21, g_bads, y22)) else (lt' (x20 + 1) fun x48 => (j35 x48))))))) := rfl
def T_X3_leave (N : Nat) (g_bads : Int32) (g_now_month : Int32) (g_now_floes : Int32) (g_now_ways : Nat → Int32) (g_now_strengths : Nat → Int32) (g_now_kinds : Nat → Int32) (g_now_cells : Nat → Int32) (g_now_foods : Nat → Int32) (g_gains : Nat → Int32) (p1 : Int32) (p2 : Int32) (p3 : Int32) : Option (Int32 × Int32 × (Nat → Int32)) :=
  (jn (some ((-10), g_bads + 1, g_gains)) fun j2 => (if (T_X3_areUnlikeFloes g_now_floes p1 p2) = 0 then j2 else (if (-1) ≤ p3 then (Option.bind (T_X3_weighLeaving N g_now_month g_now_ways g_now_strengths g_now_kinds g_now_cells g_now_foods g_gains p1 p2) fun u15 => (T_X3_leave_L39 N p3 g_bads u15 (fun (x51 : Int32) => (if p3 = (-1) then (some (x51, g_bads, u15)) else (some ((-5), g_bads, u15)))) N 0 0)) else j2)))
abbrev rm_X3_leave : Room := { frames := 6, cells := 0, slots := 0, locals := 147 }
set_option maxHeartbeats 4000000 in
set_option maxRecDepth 100000 in
theorem c_X3_leave (l : Launch) (D : va_G) (cyI cyJ cyS : ClassId) (N : Nat) (a a_now a_spare a_text : Nat → Nat) (g_above : Int64) (g_below : Int64) (g_bads : Int32) (g_nos : Int32) (g_fulls : Int32) (g_now_month : Int32) (g_now_floes : Int32) (g_now_founds : Int32) (g_now_notes : Int32) (g_now_undos : Int32) (g_now_ways : Nat → Int32) (g_now_strengths : Nat → Int32) (g_now_kinds : Nat → Int32) (g_now_cells : Nat → Int32) (g_now_foods : Nat → Int32) (g_gains : Nat → Int32) (p1 : Int32) (p2 : Int32) (p3 : Int32) (sz : Nat) (R0 : Int32 × Int32 × (Nat → Int32)) (hT : T_X3_leave N g_bads g_now_month g_now_floes g_now_ways g_now_strengths g_now_kinds g_now_cells g_now_foods g_gains p1 p2 p3 = some R0) : Met l yX3_leave wsX3_leave rm_X3_leave (va_Pc [.ref (a 0), .int p1, .int p2, .int p3] (preW D (tyS cyI cyJ cyS) [oX3 a a_now a_spare a_text g_above g_below g_bads g_nos g_fulls, oX1 a_now g_now_month g_now_floes g_now_founds g_now_notes g_now_undos, rI cyI (a_now 1) 12 g_now_ways, rI cyI (a_now 2) 12 g_now_strengths, rI cyI (a_now 3) 5 g_now_kinds, rI cyI (a_now 4) 5 g_now_cells, rI cyI (a_now 5) 5 g_now_foods, rI cyI (a 4) 12 g_gains] sz)) (va_Qi (fun (r : Int32) (_ : Unit) => r = R0.1) (fun _ t => va_P D vwCl [oX3 a a_now a_spare a_text g_above g_below R0.2.1 g_nos g_fulls, oX1 a_now g_now_month g_now_floes g_now_founds g_now_notes g_now_undos, rI cyI (a_now 1) 12 g_now_ways, rI cyI (a_now 2) 12 g_now_strengths, rI cyI (a_now 3) 5 g_now_kinds, rI cyI (a_now 4) 5 g_now_cells, rI cyI (a_now 5) 5 g_now_foods, rI cyI (a 4) 12 R0.2.2] t.heap ∧ va_D (va_A [oX3 a a_now a_spare a_text g_above g_below g_bads g_nos g_fulls, oX1 a_now g_now_month g_now_floes g_now_founds g_now_notes g_now_undos, rI cyI (a_now 1) 12 g_now_ways, rI cyI (a_now 2) 12 g_now_strengths, rI cyI (a_now 3) 5 g_now_kinds, rI cyI (a_now 4) 5 g_now_cells, rI cyI (a_now 5) 5 g_now_foods, rI cyI (a 4) 12 g_gains] sz) [oX3 a a_now a_spare a_text g_above g_below R0.2.1 g_nos g_fulls, oX1 a_now g_now_month g_now_floes g_now_founds g_now_notes g_now_undos, rI cyI (a_now 1) 12 g_now_ways, rI cyI (a_now 2) 12 g_now_strengths, rI cyI (a_now 3) 5 g_now_kinds, rI cyI (a_now 4) 5 g_now_cells, rI cyI (a_now 5) 5 g_now_foods, rI cyI (a 4) 12 R0.2.2]) (va_A [oX3 a a_now a_spare a_text g_above g_below g_bads g_nos g_fulls, oX1 a_now g_now_month g_now_floes g_now_founds g_now_notes g_now_undos, rI cyI (a_now 1) 12 g_now_ways, rI cyI (a_now 2) 12 g_now_strengths, rI cyI (a_now 3) 5 g_now_kinds, rI cyI (a_now 4) 5 g_now_cells, rI cyI (a_now 5) 5 g_now_foods, rI cyI (a 4) 12 g_gains] sz)) 0 0 (va_A [oX3 a a_now a_spare a_text g_above g_below g_bads g_nos g_fulls, oX1 a_now g_now_month g_now_floes g_now_founds g_now_notes g_now_undos, rI cyI (a_now 1) 12 g_now_ways, rI cyI (a_now 2) 12 g_now_strengths, rI cyI (a_now 3) 5 g_now_kinds, rI cyI (a_now 4) 5 g_now_cells, rI cyI (a_now 5) 5 g_now_foods, rI cyI (a 4) 12 g_gains] sz) := by
  refine Met.ofW (cc := cX3_leave) (maxL := 6) (ret := (some .int)) (by decide) rfl ?_
  intro p e s m args below meth c s₁ B hml hv
  obtain ⟨rfl, hsz, hP, hKK, hD0⟩ := hv
  have hx := B.exec
  have hb := B.bytes
  have hr := B.returns
  have hts := atoms_spec (ws := wsX3_leave) B.pre
  have hown : s.vm.findClass RX3 = some m.cls := findClass_of_methodNamed B.named
  have hlocks := B.notSynchronized
  have hK := hKK.1
  have inX3 : ∀ w ∈ wsX30, w ∈ wsX3_leave := (fun _ h => List.mem_cons_of_mem _ (List.mem_append_left _ (List.mem_append_right _ h)))
  have inX1 : ∀ w ∈ wsX10, w ∈ wsX3_leave := (fun _ h => List.mem_cons_of_mem _ (List.mem_append_right _ h))
  subst hsz
  have hD := hD0.self (sz := s.heap.size)
  generalize hAe : va_A [oX3 a a_now a_spare a_text g_above g_below g_bads g_nos g_fulls, oX1 a_now g_now_month g_now_floes g_now_founds g_now_notes g_now_undos, rI cyI (a_now 1) 12 g_now_ways, rI cyI (a_now 2) 12 g_now_strengths, rI cyI (a_now 3) 5 g_now_kinds, rI cyI (a_now 4) 5 g_now_cells, rI cyI (a_now 5) 5 g_now_foods, rI cyI (a 4) 12 g_gains] s.heap.size = A at hD ⊢
  have hA : ∀ q : Nat, s.heap.size ≤ q → A q := fun q h => by rw [← hAe]; exact Or.inr h
  have hS : va_S A s.heap s.heap [] := va_S.rf
  have hP : va_P D vwCl [oX3 a a_now a_spare a_text g_above g_below g_bads g_nos g_fulls, oX1 a_now g_now_month g_now_floes g_now_founds g_now_notes g_now_undos, rI cyI (a_now 1) 12 g_now_ways, rI cyI (a_now 2) 12 g_now_strengths, rI cyI (a_now 3) 5 g_now_kinds, rI cyI (a_now 4) 5 g_now_cells, rI cyI (a_now 5) 5 g_now_foods, rI cyI (a 4) 12 g_gains] s.heap := hP
  have hl := lv_entry [.ref (a 0), .int p1, .int p2, .int p3] (n := 6) (Nat.le_of_ble_eq_true rfl)
  rw [lg_entry_eq]
  generalize (lg_sl [.ref (a 0), .int p1, .int p2, .int p3] ++ List.replicate (6 - (lg_sl [.ref (a 0), .int p1, .int p2, .int p3]).length) Slot.unset).toArray = ls at hl ⊢
  have hl : lv_has ls 6 [(0, .ref (a 0)), (1, .int p1), (2, .int p2), (3, .int p3)] := hl
  have L39 : ∀ (y22 : Nat → Int32) (k81 : Int32 → Option (Int32 × Int32 × (Nat → Int32))) (hk81 : ∀ (x23 : Int32) (H : Heap) (locs : List Loc) (ls : Array Slot), k81 x23 = some R0 → va_P D vwCl [oX3 a a_now a_spare a_text g_above g_below g_bads g_nos g_fulls, oX1 a_now g_now_month g_now_floes g_now_founds g_now_notes g_now_undos, rI cyI (a_now 1) 12 g_now_ways, rI cyI (a_now 2) 12 g_now_strengths, rI cyI (a_now 3) 5 g_now_kinds, rI cyI (a_now 4) 5 g_now_cells, rI cyI (a_now 5) 5 g_now_foods, rI cyI (a 4) 12 y22] H → va_D A [oX3 a a_now a_spare a_text g_above g_below g_bads g_nos g_fulls, oX1 a_now g_now_month g_now_floes g_now_founds g_now_notes g_now_undos, rI cyI (a_now 1) 12 g_now_ways, rI cyI (a_now 2) 12 g_now_strengths, rI cyI (a_now 3) 5 g_now_kinds, rI cyI (a_now 4) 5 g_now_cells, rI cyI (a_now 5) 5 g_now_foods, rI cyI (a 4) 12 y22] → va_S A s.heap H locs → lv_has ls 6 [(3, .int p3), (4, .int x23)] → W p l e (headSpec wsX3_leave rm_X3_leave).room s m ([.ref (a 0), .int p1, .int p2, .int p3] : List Value).toArray below meth c H locs 0 0 (MQ below (va_Qi (fun (r : Int32) (_ : Unit) => r = R0.1) (fun _ t => va_P D vwCl [oX3 a a_now a_spare a_text g_above g_below R0.2.1 g_nos g_fulls, oX1 a_now g_now_month g_now_floes g_now_founds g_now_notes g_now_undos, rI cyI (a_now 1) 12 g_now_ways, rI cyI (a_now 2) 12 g_now_strengths, rI cyI (a_now 3) 5 g_now_kinds, rI cyI (a_now 4) 5 g_now_cells, rI cyI (a_now 5) 5 g_now_foods, rI cyI (a 4) 12 R0.2.2] t.heap ∧ va_D A [oX3 a a_now a_spare a_text g_above g_below R0.2.1 g_nos g_fulls, oX1 a_now g_now_month g_now_floes g_now_founds g_now_notes g_now_undos, rI cyI (a_now 1) 12 g_now_ways, rI cyI (a_now 2) 12 g_now_strengths, rI cyI (a_now 3) 5 g_now_kinds, rI cyI (a_now 4) 5 g_now_cells, rI cyI (a_now 5) 5 g_now_foods, rI cyI (a 4) 12 R0.2.2]) A) ([.ref (a 0), .int p1, .int p2, .int p3] : List Value).toArray s 0 0 A) (F0 m 81 ls [])) (n : Nat), ∀ (x20 : Int32) (x21 : Int32) (H : Heap) (locs : List Loc) (ls : Array Slot), T_X3_leave_L39 N p3 g_bads y22 k81 n x20 x21 = some R0 → va_P D vwCl [oX3 a a_now a_spare a_text g_above g_below g_bads g_nos g_fulls, oX1 a_now g_now_month g_now_floes g_now_founds g_now_notes g_now_undos, rI cyI (a_now 1) 12 g_now_ways, rI cyI (a_now 2) 12 g_now_strengths, rI cyI (a_now 3) 5 g_now_kinds, rI cyI (a_now 4) 5 g_now_cells, rI cyI (a_now 5) 5 g_now_foods, rI cyI (a 4) 12 y22] H → va_D A [oX3 a a_now a_spare a_text g_above g_below g_bads g_nos g_fulls, oX1 a_now g_now_month g_now_floes g_now_founds g_now_notes g_now_undos, rI cyI (a_now 1) 12 g_now_ways, rI cyI (a_now 2) 12 g_now_strengths, rI cyI (a_now 3) 5 g_now_kinds, rI cyI (a_now 4) 5 g_now_cells, rI cyI (a_now 5) 5 g_now_foods, rI cyI (a 4) 12 y22] → va_S A s.heap H locs → lv_has ls 6 [(0, .ref (a 0)), (3, .int p3), (4, .int x20), (5, .int x21)] → W p l e (headSpec wsX3_leave rm_X3_leave).room s m ([.ref (a 0), .int p1, .int p2, .int p3] : List Value).toArray below meth c H locs 0 0 (MQ below (va_Qi (fun (r : Int32) (_ : Unit) => r = R0.1) (fun _ t => va_P D vwCl [oX3 a a_now a_spare a_text g_above g_below R0.2.1 g_nos g_fulls, oX1 a_now g_now_month g_now_floes g_now_founds g_now_notes g_now_undos, rI cyI (a_now 1) 12 g_now_ways, rI cyI (a_now 2) 12 g_now_strengths, rI cyI (a_now 3) 5 g_now_kinds, rI cyI (a_now 4) 5 g_now_cells, rI cyI (a_now 5) 5 g_now_foods, rI cyI (a 4) 12 R0.2.2] t.heap ∧ va_D A [oX3 a a_now a_spare a_text g_above g_below R0.2.1 g_nos g_fulls, oX1 a_now g_now_month g_now_floes g_now_founds g_now_notes g_now_undos, rI cyI (a_now 1) 12 g_now_ways, rI cyI (a_now 2) 12 g_now_strengths, rI cyI (a_now 3) 5 g_now_kinds, rI cyI (a_now 4) 5 g_now_cells, rI cyI (a_now 5) 5 g_now_foods, rI cyI (a 4) 12 R0.2.2]) A) ([.ref (a 0), .int p1, .int p2, .int p3] : List Value).toArray s 0 0 A) (F0 m 39 ls []) := by
    intro y22 k81 hk81 n
    induction n with
    | zero => intro _ _ _ _ _ h; exact absurd h (fun z => by cases z)
    | succ n ih =>
      intro x20 x21 H25 L26 ls h24 hP hD hS hl
      rw [T_X3_leave_L39_s] at h24
      refine lv_iload hx hb dX3_leave_39 (lv_at hl 3 rfl) ?_
      refine lv_bipush (v := 36) hx hb dX3_leave_41 (by decide) ?_
      refine lv_icmp_ge (tgt := 81) hx hb dX3_leave_43 (by decide) (fun c27 => ?_) (fun c27 => ?_)
      · have h28 := (if_pos c27).symm.trans h24
        exact hk81 x20 _ _ _ h28 hP hD hS (lv_sub hl [1, 2] rfl)
      · have h29 := (if_neg c27).symm.trans h24
        refine lv_aload_n hx hb dX3_leave_46 rfl (lv_at hl 0 rfl) ?_
        refine lv_iload hx hb dX3_leave_47 (lv_at hl 3 rfl) ?_
        refine lv_bipush (v := 6) hx hb dX3_leave_49 (by decide) ?_
        refine lv_idiv hx hb dX3_leave_51 (by decide) ?_
        refine lv_iload hx hb dX3_leave_52 (lv_at hl 3 rfl) ?_
        refine lv_bipush (v := 6) hx hb dX3_leave_54 (by decide) ?_
        refine lv_irem hx hb dX3_leave_56 (by decide) ?_
        obtain ⟨u30, hu31, h32⟩ := bd_e h29
        refine kc_Z (W.runV (As := [.int (x21 / 6), .int (x21 - x21 / 6 * 6)]) (rest := []) ⟨hx, hb, hml, hown, hts⟩ (c_X3_rests l D cyI cyJ cyS N a a_now a_spare a_text g_above g_below g_bads g_nos g_fulls y22 (x21 / 6) (x21 - x21 / 6 * 6) u30 hu31) (cwV 2 hts gX3_leave_X3_rests rfl rfl rfl (by decide +kernel) ⟨(Nat.le_of_ble_eq_true rfl), (Nat.le_of_ble_eq_true rfl)⟩) (preR_V (hP.sub (ws' := [oX3 a a_now a_spare a_text g_above g_below g_bads g_nos g_fulls, rI cyI (a 4) 12 y22]) [0, 7] rfl) hKK (va_recv hK hP (ci := 2) (q0 := 0) rfl rfl)) rfl rfl hl.1 rfl (lv_room (Nat.le_of_ble_eq_true rfl)) dX3_leave_57 ⟨Nat.zero_le _, Nat.zero_le _⟩) (fun hn33 => ?_)
        obtain ⟨j35, hj36, h37⟩ := jn_e h32
        have Jj35 : ∀ (x34 : Int32) (H : Heap) (locs : List Loc) (ls : Array Slot), j35 x34 = some R0 → va_P D vwCl [oX3 a a_now a_spare a_text g_above g_below g_bads g_nos g_fulls, oX1 a_now g_now_month g_now_floes g_now_founds g_now_notes g_now_undos, rI cyI (a_now 1) 12 g_now_ways, rI cyI (a_now 2) 12 g_now_strengths, rI cyI (a_now 3) 5 g_now_kinds, rI cyI (a_now 4) 5 g_now_cells, rI cyI (a_now 5) 5 g_now_foods, rI cyI (a 4) 12 y22] H → va_D A [oX3 a a_now a_spare a_text g_above g_below g_bads g_nos g_fulls, oX1 a_now g_now_month g_now_floes g_now_founds g_now_notes g_now_undos, rI cyI (a_now 1) 12 g_now_ways, rI cyI (a_now 2) 12 g_now_strengths, rI cyI (a_now 3) 5 g_now_kinds, rI cyI (a_now 4) 5 g_now_cells, rI cyI (a_now 5) 5 g_now_foods, rI cyI (a 4) 12 y22] → va_S A s.heap H locs → lv_has ls 6 [(0, .ref (a 0)), (3, .int p3), (4, .int x34), (5, .int x21)] → W p l e (headSpec wsX3_leave rm_X3_leave).room s m ([.ref (a 0), .int p1, .int p2, .int p3] : List Value).toArray below meth c H locs 0 0 (MQ below (va_Qi (fun (r : Int32) (_ : Unit) => r = R0.1) (fun _ t => va_P D vwCl [oX3 a a_now a_spare a_text g_above g_below R0.2.1 g_nos g_fulls, oX1 a_now g_now_month g_now_floes g_now_founds g_now_notes g_now_undos, rI cyI (a_now 1) 12 g_now_ways, rI cyI (a_now 2) 12 g_now_strengths, rI cyI (a_now 3) 5 g_now_kinds, rI cyI (a_now 4) 5 g_now_cells, rI cyI (a_now 5) 5 g_now_foods, rI cyI (a 4) 12 R0.2.2] t.heap ∧ va_D A [oX3 a a_now a_spare a_text g_above g_below R0.2.1 g_nos g_fulls, oX1 a_now g_now_month g_now_floes g_now_founds g_now_notes g_now_undos, rI cyI (a_now 1) 12 g_now_ways, rI cyI (a_now 2) 12 g_now_strengths, rI cyI (a_now 3) 5 g_now_kinds, rI cyI (a_now 4) 5 g_now_cells, rI cyI (a_now 5) 5 g_now_foods, rI cyI (a 4) 12 R0.2.2]) A) ([.ref (a 0), .int p1, .int p2, .int p3] : List Value).toArray s 0 0 A) (F0 m 75 ls []) := by
          intro x34 H39 L40 ls h38 hP hD hS hl
          rw [hj36] at h38
          obtain ⟨x41, ex41, h42⟩ := lt_e h38
          refine lv_iinc (v := x41) (lv' := [(5, .int x41), (0, .ref (a 0)), (3, .int p3), (4, .int x34)]) hx hb dX3_leave_75 hl (k := 3) rfl (by rw [ex41]; rfl) (by decide) rfl (fun ls hl => ?_)
          refine lv_goto (tgt := 39) hx hb dX3_leave_78 (by decide) ?_
          exact ih x34 x41 _ _ _ h42 hP hD hS (lv_sub hl [1, 2, 3, 0] rfl)
        refine lv_if_eq (tgt := 75) hx hb dX3_leave_60 (by decide) (fun c43 => ?_) (fun c43 => ?_)
        · have h44 := (if_pos c43).symm.trans h37
          exact Jj35 x20 _ _ _ h44 hP hD hS (lv_sub hl [0, 1, 2, 3] rfl)
        · have h45 := (if_neg c43).symm.trans h37
          refine lv_iload hx hb dX3_leave_63 (lv_at hl 2 rfl) ?_
          refine lv_iload_n hx hb dX3_leave_65 rfl (lv_at hl 1 rfl) ?_
          refine lv_icmp_ne (tgt := 72) hx hb dX3_leave_66 (by decide) (fun c46 => ?_) (fun c46 => ?_)
          · have h47 := (if_neg c46).symm.trans h45
            obtain ⟨x48, ex48, h49⟩ := lt_e h47
            refine lv_iinc (v := x48) (lv' := [(4, .int x48), (0, .ref (a 0)), (3, .int p3), (5, .int x21)]) hx hb dX3_leave_72 hl (k := 2) rfl (by rw [ex48]; rfl) (by decide) rfl (fun ls hl => ?_)
            exact Jj35 x48 _ _ _ h49 hP hD hS (lv_sub hl [1, 2, 0, 3] rfl)
          · have h50 := (if_pos c46).symm.trans h45
            refine lv_iload hx hb dX3_leave_69 (lv_at hl 3 rfl) ?_
            rw [← Option.some.inj h50]
            exact W.iret (v := x21) hx hb hr (fun t ht hW => ⟨⟨x21, (), rfl, rfl, ⟨by rw [ht]; exact hP, hD⟩⟩, hS.F ht⟩) hS.2.2 dX3_leave_71
  unfold T_X3_leave at hT
  refine lv_aload_n hx hb dX3_leave_0 rfl (lv_at hl 0 rfl) ?_
  refine lv_iload_n hx hb dX3_leave_1 rfl (lv_at hl 1 rfl) ?_
  refine lv_iload_n hx hb dX3_leave_2 rfl (lv_at hl 2 rfl) ?_
  refine kc_Z (W.runV (As := [.int p1, .int p2]) (rest := []) ⟨hx, hb, hml, hown, hts⟩ (c_X3_areUnlikeFloes l D cyI cyJ cyS a a_now a_spare a_text g_above g_below g_bads g_nos g_fulls g_now_month g_now_floes g_now_founds g_now_notes g_now_undos p1 p2 (T_X3_areUnlikeFloes g_now_floes p1 p2) rfl) (cwV 2 hts gX3_leave_X3_areUnlikeFloes rfl rfl rfl (by decide +kernel) ⟨(Nat.le_of_ble_eq_true rfl), (Nat.le_of_ble_eq_true rfl)⟩) (preR_V (hP.sub (ws' := [oX3 a a_now a_spare a_text g_above g_below g_bads g_nos g_fulls, oX1 a_now g_now_month g_now_floes g_now_founds g_now_notes g_now_undos]) [0, 1] rfl) hKK (va_recv hK hP (ci := 2) (q0 := 0) rfl rfl)) rfl rfl hl.1 rfl (lv_room (Nat.le_of_ble_eq_true rfl)) dX3_leave_3 ⟨Nat.zero_le _, Nat.zero_le _⟩) (fun hn1 => ?_)
  obtain ⟨j2, hj3, h4⟩ := jn_e hT
  have Jj2 : ∀ (H : Heap) (locs : List Loc) (ls : Array Slot), j2 = some R0 → va_P D vwCl [oX3 a a_now a_spare a_text g_above g_below g_bads g_nos g_fulls, oX1 a_now g_now_month g_now_floes g_now_founds g_now_notes g_now_undos, rI cyI (a_now 1) 12 g_now_ways, rI cyI (a_now 2) 12 g_now_strengths, rI cyI (a_now 3) 5 g_now_kinds, rI cyI (a_now 4) 5 g_now_cells, rI cyI (a_now 5) 5 g_now_foods, rI cyI (a 4) 12 g_gains] H → va_D A [oX3 a a_now a_spare a_text g_above g_below g_bads g_nos g_fulls, oX1 a_now g_now_month g_now_floes g_now_founds g_now_notes g_now_undos, rI cyI (a_now 1) 12 g_now_ways, rI cyI (a_now 2) 12 g_now_strengths, rI cyI (a_now 3) 5 g_now_kinds, rI cyI (a_now 4) 5 g_now_cells, rI cyI (a_now 5) 5 g_now_foods, rI cyI (a 4) 12 g_gains] → va_S A s.heap H locs → lv_has ls 6 [(0, .ref (a 0))] → W p l e (headSpec wsX3_leave rm_X3_leave).room s m ([.ref (a 0), .int p1, .int p2, .int p3] : List Value).toArray below meth c H locs 0 0 (MQ below (va_Qi (fun (r : Int32) (_ : Unit) => r = R0.1) (fun _ t => va_P D vwCl [oX3 a a_now a_spare a_text g_above g_below R0.2.1 g_nos g_fulls, oX1 a_now g_now_month g_now_floes g_now_founds g_now_notes g_now_undos, rI cyI (a_now 1) 12 g_now_ways, rI cyI (a_now 2) 12 g_now_strengths, rI cyI (a_now 3) 5 g_now_kinds, rI cyI (a_now 4) 5 g_now_cells, rI cyI (a_now 5) 5 g_now_foods, rI cyI (a 4) 12 R0.2.2] t.heap ∧ va_D A [oX3 a a_now a_spare a_text g_above g_below R0.2.1 g_nos g_fulls, oX1 a_now g_now_month g_now_floes g_now_founds g_now_notes g_now_undos, rI cyI (a_now 1) 12 g_now_ways, rI cyI (a_now 2) 12 g_now_strengths, rI cyI (a_now 3) 5 g_now_kinds, rI cyI (a_now 4) 5 g_now_cells, rI cyI (a_now 5) 5 g_now_foods, rI cyI (a 4) 12 R0.2.2]) A) ([.ref (a 0), .int p1, .int p2, .int p3] : List Value).toArray s 0 0 A) (F0 m 14 ls []) := by
    intro H6 L7 ls h5 hP hD hS hl
    rw [hj3] at h5
    refine lv_aload_n hx hb dX3_leave_14 rfl (lv_at hl 0 rfl) ?_
    refine lv_dup hx hb dX3_leave_15 rfl ?_
    refine va_get (D := D) (cl := vwCl) (ci := 2) (v := .int g_bads) (C := RX3) (T := TX3) (N := 12) hx hb hts inX3 hown hK hP 0 rfl rfl 9 (by decide) (hts (Cond.fieldLink RX3 198 "FrozenIn" "bads" "I") (List.mem_of_getElem? (i := 1) rfl)) (fun _ h9 => h9) rfl dX3_leave_16 ?_
    refine lv_iconst (v := 1) hx hb dX3_leave_19 (by decide) ?_
    refine lv_iadd hx hb dX3_leave_20 ?_
    refine va_put (D := D) (cl := vwCl) (ci := 2) (v := .int (g_bads + 1)) (ty := .int) (C := RX3) (T := TX3) (N := 12) hx hb hts inX3 tyX3 tyX3_ok nmX3 hown hK hP hD hS 0 rfl rfl 9 (by decide) (hts (Cond.fieldLink RX3 198 "FrozenIn" "bads" "I") (List.mem_of_getElem? (i := 1) rfl)) (fun _ h9 => h9) rfl (by decide +kernel) rfl rfl (Nat.le_of_ble_eq_true rfl) dX3_leave_21 (fun H8 L9 hP hD hS => ?_)
    have hP : va_P D vwCl [oX3 a a_now a_spare a_text g_above g_below (g_bads + 1) g_nos g_fulls, oX1 a_now g_now_month g_now_floes g_now_founds g_now_notes g_now_undos, rI cyI (a_now 1) 12 g_now_ways, rI cyI (a_now 2) 12 g_now_strengths, rI cyI (a_now 3) 5 g_now_kinds, rI cyI (a_now 4) 5 g_now_cells, rI cyI (a_now 5) 5 g_now_foods, rI cyI (a 4) 12 g_gains] H8 := hP
    have hD : va_D A [oX3 a a_now a_spare a_text g_above g_below (g_bads + 1) g_nos g_fulls, oX1 a_now g_now_month g_now_floes g_now_founds g_now_notes g_now_undos, rI cyI (a_now 1) 12 g_now_ways, rI cyI (a_now 2) 12 g_now_strengths, rI cyI (a_now 3) 5 g_now_kinds, rI cyI (a_now 4) 5 g_now_cells, rI cyI (a_now 5) 5 g_now_foods, rI cyI (a 4) 12 g_gains] := hD
    refine lv_bipush (v := (-10)) hx hb dX3_leave_24 (by decide) ?_
    rw [← Option.some.inj h5]
    exact W.iret (v := (-10)) hx hb hr (fun t ht hW => ⟨⟨(-10), (), rfl, rfl, ⟨by rw [ht]; exact hP, hD⟩⟩, hS.F ht⟩) hS.2.2 dX3_leave_26
  refine lv_if_eq (tgt := 14) hx hb dX3_leave_6 (by decide) (fun c10 => ?_) (fun c10 => ?_)
  · have h11 := (if_pos c10).symm.trans h4
    exact Jj2  _ _ _ h11 hP hD hS (lv_sub hl [0] rfl)
  · have h12 := (if_neg c10).symm.trans h4
    refine lv_iload_n hx hb dX3_leave_9 rfl (lv_at hl 3 rfl) ?_
    refine lv_iconst (v := (-1)) hx hb dX3_leave_10 (by decide) ?_
    refine lv_icmp_ge (tgt := 27) hx hb dX3_leave_11 (by decide) (fun c13 => ?_) (fun c13 => ?_)
    · have h14 := (if_pos c13).symm.trans h12
      refine lv_aload_n hx hb dX3_leave_27 rfl (lv_at hl 0 rfl) ?_
      refine lv_iload_n hx hb dX3_leave_28 rfl (lv_at hl 1 rfl) ?_
      refine lv_iload_n hx hb dX3_leave_29 rfl (lv_at hl 2 rfl) ?_
      obtain ⟨u15, hu16, h17⟩ := bd_e h14
      refine kw_V (wc := [oX3 a a_now a_spare a_text g_above g_below g_bads g_nos g_fulls, oX1 a_now g_now_month g_now_floes g_now_founds g_now_notes g_now_undos, rI cyI (a_now 1) 12 g_now_ways, rI cyI (a_now 2) 12 g_now_strengths, rI cyI (a_now 3) 5 g_now_kinds, rI cyI (a_now 4) 5 g_now_cells, rI cyI (a_now 5) 5 g_now_foods, rI cyI (a 4) 12 g_gains]) (wr := []) (ws' := [oX3 a a_now a_spare a_text g_above g_below g_bads g_nos g_fulls, oX1 a_now g_now_month g_now_floes g_now_founds g_now_notes g_now_undos, rI cyI (a_now 1) 12 g_now_ways, rI cyI (a_now 2) 12 g_now_strengths, rI cyI (a_now 3) 5 g_now_kinds, rI cyI (a_now 4) 5 g_now_cells, rI cyI (a_now 5) 5 g_now_foods, rI cyI (a 4) 12 u15]) (va_runV (As := [.int p1, .int p2]) (rest := []) ⟨hx, hb, hml, hown, hts⟩ (c_X3_weighLeaving l D cyI cyJ cyS N a a_now a_spare a_text g_above g_below g_bads g_nos g_fulls g_now_month g_now_floes g_now_founds g_now_notes g_now_undos g_now_ways g_now_strengths g_now_kinds g_now_cells g_now_foods g_gains p1 p2 s.heap.size u15 hu16) (cwV 2 hts gX3_leave_X3_weighLeaving rfl rfl rfl (by decide +kernel) ⟨(Nat.le_of_ble_eq_true rfl), (Nat.le_of_ble_eq_true rfl)⟩) (preW_V (hP.sub (ws' := [oX3 a a_now a_spare a_text g_above g_below g_bads g_nos g_fulls, oX1 a_now g_now_month g_now_floes g_now_founds g_now_notes g_now_undos, rI cyI (a_now 1) 12 g_now_ways, rI cyI (a_now 2) 12 g_now_strengths, rI cyI (a_now 3) 5 g_now_kinds, rI cyI (a_now 4) 5 g_now_cells, rI cyI (a_now 5) 5 g_now_foods, rI cyI (a 4) 12 g_gains]) [0, 1, 2, 3, 4, 5, 6, 7] rfl) (hD.sub (ws' := [oX3 a a_now a_spare a_text g_above g_below g_bads g_nos g_fulls, oX1 a_now g_now_month g_now_floes g_now_founds g_now_notes g_now_undos, rI cyI (a_now 1) 12 g_now_ways, rI cyI (a_now 2) 12 g_now_strengths, rI cyI (a_now 3) 5 g_now_kinds, rI cyI (a_now 4) 5 g_now_cells, rI cyI (a_now 5) 5 g_now_foods, rI cyI (a 4) 12 g_gains]) [0, 1, 2, 3, 4, 5, 6, 7] (by decide) rfl) hKK (va_recv hK hP (ci := 2) (q0 := 0) rfl rfl)) rfl rfl hl.1 rfl (lv_room (Nat.le_of_ble_eq_true rfl)) dX3_leave_30 ⟨Nat.zero_le _, Nat.zero_le _⟩) hP hD hS hA [0, 1, 2, 3, 4, 5, 6, 7] [] [0, 1, 2, 3, 4, 5, 6, 7] rfl rfl (by decide) (by decide) rfl (by decide) (fun H18 L19 hP hD hS => ?_)
      refine lv_iconst (v := 0) hx hb dX3_leave_33 (by decide) ?_
      refine lv_istore (lv' := [(4, .int 0), (0, .ref (a 0)), (1, .int p1), (2, .int p2), (3, .int p3)]) hx hb dX3_leave_34 hl (by decide) rfl (fun ls hl => ?_)
      refine lv_iconst (v := 0) hx hb dX3_leave_36 (by decide) ?_
      refine lv_istore (lv' := [(5, .int 0), (4, .int 0), (0, .ref (a 0)), (1, .int p1), (2, .int p2), (3, .int p3)]) hx hb dX3_leave_37 hl (by decide) rfl (fun ls hl => ?_)
      refine L39 u15 _ (fun x51 H53 L54 ls h52 hP hD hS hl => ?_) N 0 0 _ _ _ h17 hP hD hS (lv_sub hl [2, 5, 1, 0] rfl)
      refine lv_iload_n hx hb dX3_leave_81 rfl (lv_at hl 0 rfl) ?_
      refine lv_iconst (v := (-1)) hx hb dX3_leave_82 (by decide) ?_
      refine lv_icmp_ne (tgt := 91) hx hb dX3_leave_83 (by decide) (fun c55 => ?_) (fun c55 => ?_)
      · have h56 := (if_neg c55).symm.trans h52
        refine lv_bipush (v := (-5)) hx hb dX3_leave_91 (by decide) ?_
        rw [← Option.some.inj h56]
        exact W.iret (v := (-5)) hx hb hr (fun t ht hW => ⟨⟨(-5), (), rfl, rfl, ⟨by rw [ht]; exact hP, hD⟩⟩, hS.F ht⟩) hS.2.2 dX3_leave_93
      · have h57 := (if_pos c55).symm.trans h52
        refine lv_iload hx hb dX3_leave_86 (lv_at hl 1 rfl) ?_
        refine lv_goto (tgt := 93) hx hb dX3_leave_88 (by decide) ?_
        rw [← Option.some.inj h57]
        exact W.iret (v := x51) hx hb hr (fun t ht hW => ⟨⟨x51, (), rfl, rfl, ⟨by rw [ht]; exact hP, hD⟩⟩, hS.F ht⟩) hS.2.2 dX3_leave_93
    · have h58 := (if_neg c13).symm.trans h12
      exact Jj2  _ _ _ h58 hP hD hS (lv_sub hl [0] rfl)
def T_X3_driftOdds_L25 (N : Nat) (p1 : Int32) (p2 : Int32) (p3 : Int32) (y12 : Int32) (g_now_ways : Nat → Int32) (g_now_strengths : Nat → Int32) (g_odds : Nat → Int64) (k106 : (Nat → Int64) → Option ((Nat → Int64) × (Nat → Int64))) : Nat → Int32 → (Nat → Int64) → Option ((Nat → Int64) × (Nat → Int64))
  | 0, _, _ => none
  | n + 1, x10, z11 => (if 36 ≤ x10 then (k106 z11) else (lt' (T_X0_cellBy p1 x10 p2 y12 0) fun x20 => (Option.bind (T_X1_nextCell N g_now_ways g_now_strengths p1 x10 p2) fun u22 => (ob x20 36 (ob x10 36 (ob x20 36 (ob u22 36 (ob x10 36 (ob u22 36 (lt' (x10 + 1) fun x41 => (T_X3_driftOdds_L25 N p1 p2 p3 y12 g_now_ways g_now_strengths g_odds k106 n x41 (vp_updL (vp_updL z11 x20.toNatClampNeg ((z11 x20.toNatClampNeg) + ((g_odds x10.toNatClampNeg) * p3.toInt64))) u22.toNatClampNeg (((vp_updL z11 x20.toNatClampNeg ((z11 x20.toNatClampNeg) + ((g_odds x10.toNatClampNeg) * p3.toInt64))) u22.toNatClampNeg) + ((g_odds x10.toNatClampNeg) * ((10 - p3).toInt64)))))))))))))))
theorem T_X3_driftOdds_L25_s (N : Nat) (p1 : Int32) (p2 : Int32) (p3 : Int32) (y12 : Int32) (g_now_ways : Nat → Int32) (g_now_strengths : Nat → Int32) (g_odds : Nat → Int64) (k106 : (Nat → Int64) → Option ((Nat → Int64) × (Nat → Int64))) (n : Nat) (x10 : Int32) (z11 : Nat → Int64) : T_X3_driftOdds_L25 N p1 p2 p3 y12 g_now_ways g_now_strengths g_odds k106 (n + 1) x10 z11 = (if 36 ≤ x10 then (k106 z11) else (lt' (T_X0_cellBy p1 x10 p2 y12 0) fun x20 => (Option.bind (T_X1_nextCell N g_now_ways g_now_strengths p1 x10 p2) fun u22 => (ob x20 36 (ob x10 36 (ob x20 36 (ob u22 36 (ob x10 36 (ob u22 36 (lt' (x10 + 1) fun x41 => (T_X3_driftOdds_L25 N p1 p2 p3 y12 g_now_ways g_now_strengths g_odds k106 n x41 (vp_updL (vp_updL z11 x20.toNatClampNeg ((z11 x20.toNatClampNeg) + ((g_odds x10.toNatClampNeg) * p3.toInt64))) u22.toNatClampNeg (((vp_updL z11 x20.toNatClampNeg ((z11 x20.toNatClampNeg) + ((g_odds x10.toNatClampNeg) * p3.toInt64))) u22.toNatClampNeg) + ((g_odds x10.toNatClampNeg) * ((10 - p3).toInt64))))))))))))))) := rfl
def T_X3_driftOdds (N : Nat) (g_now_ways : Nat → Int32) (g_now_strengths : Nat → Int32) (g_odds : Nat → Int64) (g_nextOdds : Nat → Int64) (p1 : Int32) (p2 : Int32) (p3 : Int32) : Option ((Nat → Int64) × (Nat → Int64)) :=
  (Option.bind (T_J7_fill_d0a16 N 36 g_nextOdds 0) fun u1 => (ob (p2 - p2 / 12 * 12) 12 (lt' (g_now_ways (p2 - p2 / 12 * 12).toNatClampNeg) fun x8 => (T_X3_driftOdds_L25 N p1 p2 p3 x8 g_now_ways g_now_strengths g_odds (fun (z43 : Nat → Int64) => (gc 0 0 36 36 36 (some (va_cpy z43 g_odds (0 : Int32).toNatClampNeg (0 : Int32).toNatClampNeg (36 : Int32).toNatClampNeg, z43)))) N 0 u1))))
abbrev rm_X3_driftOdds : Room := { frames := 3, cells := 0, slots := 0, locals := 75 }
set_option maxHeartbeats 4000000 in
set_option maxRecDepth 100000 in
theorem c_X3_driftOdds (l : Launch) (D : va_G) (cyI cyJ cyS : ClassId) (N : Nat) (a a_now a_spare a_text : Nat → Nat) (g_above : Int64) (g_below : Int64) (g_bads : Int32) (g_nos : Int32) (g_fulls : Int32) (g_now_month : Int32) (g_now_floes : Int32) (g_now_founds : Int32) (g_now_notes : Int32) (g_now_undos : Int32) (g_now_ways : Nat → Int32) (g_now_strengths : Nat → Int32) (g_odds : Nat → Int64) (g_nextOdds : Nat → Int64) (p1 : Int32) (p2 : Int32) (p3 : Int32) (sz : Nat) (R0 : (Nat → Int64) × (Nat → Int64)) (hT : T_X3_driftOdds N g_now_ways g_now_strengths g_odds g_nextOdds p1 p2 p3 = some R0) : Met l yX3_driftOdds wsX3_driftOdds rm_X3_driftOdds (va_Pc [.ref (a 0), .int p1, .int p2, .int p3] (preW D (tyS cyI cyJ cyS) [oX3 a a_now a_spare a_text g_above g_below g_bads g_nos g_fulls, oX1 a_now g_now_month g_now_floes g_now_founds g_now_notes g_now_undos, rI cyI (a_now 1) 12 g_now_ways, rI cyI (a_now 2) 12 g_now_strengths, rJ cyJ (a 2) 36 g_odds, rJ cyJ (a 3) 36 g_nextOdds] sz)) (va_Qv (fun (_ : Unit) => True) (fun _ t => va_P D vwCl [oX3 a a_now a_spare a_text g_above g_below g_bads g_nos g_fulls, oX1 a_now g_now_month g_now_floes g_now_founds g_now_notes g_now_undos, rI cyI (a_now 1) 12 g_now_ways, rI cyI (a_now 2) 12 g_now_strengths, rJ cyJ (a 2) 36 R0.1, rJ cyJ (a 3) 36 R0.2] t.heap ∧ va_D (va_A [oX3 a a_now a_spare a_text g_above g_below g_bads g_nos g_fulls, oX1 a_now g_now_month g_now_floes g_now_founds g_now_notes g_now_undos, rI cyI (a_now 1) 12 g_now_ways, rI cyI (a_now 2) 12 g_now_strengths, rJ cyJ (a 2) 36 g_odds, rJ cyJ (a 3) 36 g_nextOdds] sz) [oX3 a a_now a_spare a_text g_above g_below g_bads g_nos g_fulls, oX1 a_now g_now_month g_now_floes g_now_founds g_now_notes g_now_undos, rI cyI (a_now 1) 12 g_now_ways, rI cyI (a_now 2) 12 g_now_strengths, rJ cyJ (a 2) 36 R0.1, rJ cyJ (a 3) 36 R0.2]) (va_A [oX3 a a_now a_spare a_text g_above g_below g_bads g_nos g_fulls, oX1 a_now g_now_month g_now_floes g_now_founds g_now_notes g_now_undos, rI cyI (a_now 1) 12 g_now_ways, rI cyI (a_now 2) 12 g_now_strengths, rJ cyJ (a 2) 36 g_odds, rJ cyJ (a 3) 36 g_nextOdds] sz)) 0 0 (va_A [oX3 a a_now a_spare a_text g_above g_below g_bads g_nos g_fulls, oX1 a_now g_now_month g_now_floes g_now_founds g_now_notes g_now_undos, rI cyI (a_now 1) 12 g_now_ways, rI cyI (a_now 2) 12 g_now_strengths, rJ cyJ (a 2) 36 g_odds, rJ cyJ (a 3) 36 g_nextOdds] sz) := by
  refine Met.ofW (cc := cX3_driftOdds) (maxL := 8) (ret := none) (by decide) rfl ?_
  intro p e s m args below meth c s₁ B hml hv
  obtain ⟨rfl, hsz, hP, hKK, hD0⟩ := hv
  have hx := B.exec
  have hb := B.bytes
  have hr := B.returns
  have hts := atoms_spec (ws := wsX3_driftOdds) B.pre
  have hown : s.vm.findClass RX3 = some m.cls := findClass_of_methodNamed B.named
  have hlocks := B.notSynchronized
  have hK := hKK.1
  have inX3 : ∀ w ∈ wsX30, w ∈ wsX3_driftOdds := (fun _ h => List.mem_cons_of_mem _ (List.mem_append_left _ (List.mem_append_right _ h)))
  have inX1 : ∀ w ∈ wsX10, w ∈ wsX3_driftOdds := (fun _ h => List.mem_cons_of_mem _ (List.mem_append_right _ h))
  subst hsz
  have hD := hD0.self (sz := s.heap.size)
  generalize hAe : va_A [oX3 a a_now a_spare a_text g_above g_below g_bads g_nos g_fulls, oX1 a_now g_now_month g_now_floes g_now_founds g_now_notes g_now_undos, rI cyI (a_now 1) 12 g_now_ways, rI cyI (a_now 2) 12 g_now_strengths, rJ cyJ (a 2) 36 g_odds, rJ cyJ (a 3) 36 g_nextOdds] s.heap.size = A at hD ⊢
  have hA : ∀ q : Nat, s.heap.size ≤ q → A q := fun q h => by rw [← hAe]; exact Or.inr h
  have hS : va_S A s.heap s.heap [] := va_S.rf
  have hP : va_P D vwCl [oX3 a a_now a_spare a_text g_above g_below g_bads g_nos g_fulls, oX1 a_now g_now_month g_now_floes g_now_founds g_now_notes g_now_undos, rI cyI (a_now 1) 12 g_now_ways, rI cyI (a_now 2) 12 g_now_strengths, rJ cyJ (a 2) 36 g_odds, rJ cyJ (a 3) 36 g_nextOdds] s.heap := hP
  have hl := lv_entry [.ref (a 0), .int p1, .int p2, .int p3] (n := 8) (Nat.le_of_ble_eq_true rfl)
  rw [lg_entry_eq]
  generalize (lg_sl [.ref (a 0), .int p1, .int p2, .int p3] ++ List.replicate (8 - (lg_sl [.ref (a 0), .int p1, .int p2, .int p3]).length) Slot.unset).toArray = ls at hl ⊢
  have hl : lv_has ls 8 [(0, .ref (a 0)), (1, .int p1), (2, .int p2), (3, .int p3)] := hl
  have L25 : ∀ (y12 : Int32) (k106 : (Nat → Int64) → Option ((Nat → Int64) × (Nat → Int64))) (hk106 : ∀ (z13 : Nat → Int64) (H : Heap) (locs : List Loc) (ls : Array Slot), k106 z13 = some R0 → va_P D vwCl [oX3 a a_now a_spare a_text g_above g_below g_bads g_nos g_fulls, oX1 a_now g_now_month g_now_floes g_now_founds g_now_notes g_now_undos, rI cyI (a_now 1) 12 g_now_ways, rI cyI (a_now 2) 12 g_now_strengths, rJ cyJ (a 2) 36 g_odds, rJ cyJ (a 3) 36 z13] H → va_D A [oX3 a a_now a_spare a_text g_above g_below g_bads g_nos g_fulls, oX1 a_now g_now_month g_now_floes g_now_founds g_now_notes g_now_undos, rI cyI (a_now 1) 12 g_now_ways, rI cyI (a_now 2) 12 g_now_strengths, rJ cyJ (a 2) 36 g_odds, rJ cyJ (a 3) 36 z13] → va_S A s.heap H locs → lv_has ls 8 [(0, .ref (a 0))] → W p l e (headSpec wsX3_driftOdds rm_X3_driftOdds).room s m ([.ref (a 0), .int p1, .int p2, .int p3] : List Value).toArray below meth c H locs 0 0 (MQ below (va_Qv (fun (_ : Unit) => True) (fun _ t => va_P D vwCl [oX3 a a_now a_spare a_text g_above g_below g_bads g_nos g_fulls, oX1 a_now g_now_month g_now_floes g_now_founds g_now_notes g_now_undos, rI cyI (a_now 1) 12 g_now_ways, rI cyI (a_now 2) 12 g_now_strengths, rJ cyJ (a 2) 36 R0.1, rJ cyJ (a 3) 36 R0.2] t.heap ∧ va_D A [oX3 a a_now a_spare a_text g_above g_below g_bads g_nos g_fulls, oX1 a_now g_now_month g_now_floes g_now_founds g_now_notes g_now_undos, rI cyI (a_now 1) 12 g_now_ways, rI cyI (a_now 2) 12 g_now_strengths, rJ cyJ (a 2) 36 R0.1, rJ cyJ (a 3) 36 R0.2]) A) ([.ref (a 0), .int p1, .int p2, .int p3] : List Value).toArray s 0 0 A) (F0 m 106 ls [])) (n : Nat), ∀ (x10 : Int32) (z11 : Nat → Int64) (H : Heap) (locs : List Loc) (ls : Array Slot), T_X3_driftOdds_L25 N p1 p2 p3 y12 g_now_ways g_now_strengths g_odds k106 n x10 z11 = some R0 → va_P D vwCl [oX3 a a_now a_spare a_text g_above g_below g_bads g_nos g_fulls, oX1 a_now g_now_month g_now_floes g_now_founds g_now_notes g_now_undos, rI cyI (a_now 1) 12 g_now_ways, rI cyI (a_now 2) 12 g_now_strengths, rJ cyJ (a 2) 36 g_odds, rJ cyJ (a 3) 36 z11] H → va_D A [oX3 a a_now a_spare a_text g_above g_below g_bads g_nos g_fulls, oX1 a_now g_now_month g_now_floes g_now_founds g_now_notes g_now_undos, rI cyI (a_now 1) 12 g_now_ways, rI cyI (a_now 2) 12 g_now_strengths, rJ cyJ (a 2) 36 g_odds, rJ cyJ (a 3) 36 z11] → va_S A s.heap H locs → lv_has ls 8 [(0, .ref (a 0)), (1, .int p1), (2, .int p2), (3, .int p3), (4, .int y12), (5, .int x10)] → W p l e (headSpec wsX3_driftOdds rm_X3_driftOdds).room s m ([.ref (a 0), .int p1, .int p2, .int p3] : List Value).toArray below meth c H locs 0 0 (MQ below (va_Qv (fun (_ : Unit) => True) (fun _ t => va_P D vwCl [oX3 a a_now a_spare a_text g_above g_below g_bads g_nos g_fulls, oX1 a_now g_now_month g_now_floes g_now_founds g_now_notes g_now_undos, rI cyI (a_now 1) 12 g_now_ways, rI cyI (a_now 2) 12 g_now_strengths, rJ cyJ (a 2) 36 R0.1, rJ cyJ (a 3) 36 R0.2] t.heap ∧ va_D A [oX3 a a_now a_spare a_text g_above g_below g_bads g_nos g_fulls, oX1 a_now g_now_month g_now_floes g_now_founds g_now_notes g_now_undos, rI cyI (a_now 1) 12 g_now_ways, rI cyI (a_now 2) 12 g_now_strengths, rJ cyJ (a 2) 36 R0.1, rJ cyJ (a 3) 36 R0.2]) A) ([.ref (a 0), .int p1, .int p2, .int p3] : List Value).toArray s 0 0 A) (F0 m 25 ls []) := by
    intro y12 k106 hk106 n
    induction n with
    | zero => intro _ _ _ _ _ h; exact absurd h (fun z => by cases z)
    | succ n ih =>
      intro x10 z11 H15 L16 ls h14 hP hD hS hl
      rw [T_X3_driftOdds_L25_s] at h14
      refine lv_iload hx hb dX3_driftOdds_25 (lv_at hl 5 rfl) ?_
      refine lv_bipush (v := 36) hx hb dX3_driftOdds_27 (by decide) ?_
      refine lv_icmp_ge (tgt := 106) hx hb dX3_driftOdds_29 (by decide) (fun c17 => ?_) (fun c17 => ?_)
      · have h18 := (if_pos c17).symm.trans h14
        exact hk106 z11 _ _ _ h18 hP hD hS (lv_sub hl [0] rfl)
      · have h19 := (if_neg c17).symm.trans h14
        refine lv_iload_n hx hb dX3_driftOdds_32 rfl (lv_at hl 1 rfl) ?_
        refine lv_iload hx hb dX3_driftOdds_33 (lv_at hl 5 rfl) ?_
        refine lv_iload_n hx hb dX3_driftOdds_35 rfl (lv_at hl 2 rfl) ?_
        refine lv_iload hx hb dX3_driftOdds_36 (lv_at hl 4 rfl) ?_
        refine lv_iconst (v := 0) hx hb dX3_driftOdds_38 (by decide) ?_
        refine kc_I (W.runS (As := [.int p1, .int x10, .int p2, .int y12, .int 0]) (rest := []) ⟨hx, hb, hml, hown, hts⟩ (c_X0_cellBy l p1 x10 p2 y12 0 (T_X0_cellBy p1 x10 p2 y12 0) rfl) (va_cwS 5 hts gX3_driftOdds_X0_cellBy rfl rfl rfl (by decide +kernel) ⟨(Nat.le_of_ble_eq_true rfl), (Nat.le_of_ble_eq_true rfl)⟩) preT_S rfl rfl hl.1 rfl (lv_room (Nat.le_of_ble_eq_true rfl)) dX3_driftOdds_39 ⟨Nat.zero_le _, Nat.zero_le _⟩) ?_
        obtain ⟨x20, ex20, h21⟩ := lt_e h19
        refine lv_nm ex20 ?_
        refine lv_istore (lv' := [(6, .int x20), (0, .ref (a 0)), (1, .int p1), (2, .int p2), (3, .int p3), (4, .int y12), (5, .int x10)]) hx hb dX3_driftOdds_42 hl (by decide) rfl (fun ls hl => ?_)
        refine lv_aload_n hx hb dX3_driftOdds_44 rfl (lv_at hl 1 rfl) ?_
        refine va_get (D := D) (cl := vwCl) (ci := 2) (v := .ref (a_now 0)) (C := RX3) (T := TX3) (N := 12) hx hb hts inX3 hown hK hP 0 rfl rfl 0 (by decide) (hts (Cond.fieldLink RX3 10 "FrozenIn" "now" "LFrozenIn$Sea;") (List.mem_of_getElem? (i := 2) rfl)) (fun _ h9 => h9) rfl dX3_driftOdds_45 ?_
        refine lv_iload_n hx hb dX3_driftOdds_48 rfl (lv_at hl 2 rfl) ?_
        refine lv_iload hx hb dX3_driftOdds_49 (lv_at hl 6 rfl) ?_
        refine lv_iload_n hx hb dX3_driftOdds_51 rfl (lv_at hl 3 rfl) ?_
        obtain ⟨u22, hu23, h24⟩ := bd_e h21
        refine kc_I (W.runV (As := [.int p1, .int x10, .int p2]) (rest := []) ⟨hx, hb, hml, hown, hts⟩ (c_X1_nextCell l D cyI cyJ cyS N a_now g_now_month g_now_floes g_now_founds g_now_notes g_now_undos g_now_ways g_now_strengths p1 x10 p2 u22 hu23) (cwV 3 hts gX3_driftOdds_X1_nextCell rfl rfl rfl (by decide +kernel) ⟨(Nat.le_of_ble_eq_true rfl), (Nat.le_of_ble_eq_true rfl)⟩) (preR_V (hP.sub (ws' := [oX1 a_now g_now_month g_now_floes g_now_founds g_now_notes g_now_undos, rI cyI (a_now 1) 12 g_now_ways, rI cyI (a_now 2) 12 g_now_strengths]) [1, 2, 3] rfl) hKK (va_recv hK hP (ci := 0) (q0 := 1) rfl rfl)) rfl rfl hl.1 rfl (lv_room (Nat.le_of_ble_eq_true rfl)) dX3_driftOdds_52 ⟨Nat.zero_le _, Nat.zero_le _⟩) ?_
        refine lv_istore (lv' := [(7, .int u22), (6, .int x20), (0, .ref (a 0)), (1, .int p1), (2, .int p2), (3, .int p3), (4, .int y12), (5, .int x10)]) hx hb dX3_driftOdds_55 hl (by decide) rfl (fun ls hl => ?_)
        refine lv_aload_n hx hb dX3_driftOdds_57 rfl (lv_at hl 2 rfl) ?_
        refine va_get (D := D) (cl := vwCl) (ci := 2) (v := .ref (a 3)) (C := RX3) (T := TX3) (N := 12) hx hb hts inX3 hown hK hP 0 rfl rfl 5 (by decide) (hts (Cond.fieldLink RX3 34 "FrozenIn" "nextOdds" "[J") (List.mem_of_getElem? (i := 1) rfl)) (fun _ h9 => h9) rfl dX3_driftOdds_58 ?_
        refine lv_iload hx hb dX3_driftOdds_61 (lv_at hl 1 rfl) ?_
        refine lv_dup2_11 hx hb dX3_driftOdds_63 rfl rfl ?_
        obtain ⟨hi26, h25⟩ := ob_e h24
        refine va_lald hx hb hK hP 5 1 rfl rfl hi26 dX3_driftOdds_64 ?_
        refine lv_aload_n hx hb dX3_driftOdds_65 rfl (lv_at hl 2 rfl) ?_
        refine va_get (D := D) (cl := vwCl) (ci := 2) (v := .ref (a 2)) (C := RX3) (T := TX3) (N := 12) hx hb hts inX3 hown hK hP 0 rfl rfl 4 (by decide) (hts (Cond.fieldLink RX3 30 "FrozenIn" "odds" "[J") (List.mem_of_getElem? (i := 4) rfl)) (fun _ h9 => h9) rfl dX3_driftOdds_66 ?_
        refine lv_iload hx hb dX3_driftOdds_69 (lv_at hl 7 rfl) ?_
        obtain ⟨hi28, h27⟩ := ob_e h25
        refine va_lald hx hb hK hP 4 1 rfl rfl hi28 dX3_driftOdds_71 ?_
        refine lv_iload_n hx hb dX3_driftOdds_72 rfl (lv_at hl 5 rfl) ?_
        refine lv_i2l (v := p3.toInt64) hx hb dX3_driftOdds_73 rfl ?_
        refine lv_lmul hx hb dX3_driftOdds_74 ?_
        refine lv_ladd hx hb dX3_driftOdds_75 ?_
        obtain ⟨hi30, h29⟩ := ob_e h27
        refine va_last hx hb hK hP hD hS 5 1 rfl rfl hi30 dX3_driftOdds_76 (fun H31 L32 hP hD hS => ?_)
        have hP : va_P D vwCl [oX3 a a_now a_spare a_text g_above g_below g_bads g_nos g_fulls, oX1 a_now g_now_month g_now_floes g_now_founds g_now_notes g_now_undos, rI cyI (a_now 1) 12 g_now_ways, rI cyI (a_now 2) 12 g_now_strengths, rJ cyJ (a 2) 36 g_odds, rJ cyJ (a 3) 36 (vp_updL z11 x20.toNatClampNeg ((z11 x20.toNatClampNeg) + ((g_odds x10.toNatClampNeg) * p3.toInt64)))] H31 := hP
        have hD : va_D A [oX3 a a_now a_spare a_text g_above g_below g_bads g_nos g_fulls, oX1 a_now g_now_month g_now_floes g_now_founds g_now_notes g_now_undos, rI cyI (a_now 1) 12 g_now_ways, rI cyI (a_now 2) 12 g_now_strengths, rJ cyJ (a 2) 36 g_odds, rJ cyJ (a 3) 36 (vp_updL z11 x20.toNatClampNeg ((z11 x20.toNatClampNeg) + ((g_odds x10.toNatClampNeg) * p3.toInt64)))] := hD
        refine lv_aload_n hx hb dX3_driftOdds_77 rfl (lv_at hl 2 rfl) ?_
        refine va_get (D := D) (cl := vwCl) (ci := 2) (v := .ref (a 3)) (C := RX3) (T := TX3) (N := 12) hx hb hts inX3 hown hK hP 0 rfl rfl 5 (by decide) (hts (Cond.fieldLink RX3 34 "FrozenIn" "nextOdds" "[J") (List.mem_of_getElem? (i := 1) rfl)) (fun _ h9 => h9) rfl dX3_driftOdds_78 ?_
        refine lv_iload hx hb dX3_driftOdds_81 (lv_at hl 0 rfl) ?_
        refine lv_dup2_11 hx hb dX3_driftOdds_83 rfl rfl ?_
        obtain ⟨hi34, h33⟩ := ob_e h29
        refine va_lald hx hb hK hP 5 1 rfl rfl hi34 dX3_driftOdds_84 ?_
        refine lv_aload_n hx hb dX3_driftOdds_85 rfl (lv_at hl 2 rfl) ?_
        refine va_get (D := D) (cl := vwCl) (ci := 2) (v := .ref (a 2)) (C := RX3) (T := TX3) (N := 12) hx hb hts inX3 hown hK hP 0 rfl rfl 4 (by decide) (hts (Cond.fieldLink RX3 30 "FrozenIn" "odds" "[J") (List.mem_of_getElem? (i := 4) rfl)) (fun _ h9 => h9) rfl dX3_driftOdds_86 ?_
        refine lv_iload hx hb dX3_driftOdds_89 (lv_at hl 7 rfl) ?_
        obtain ⟨hi36, h35⟩ := ob_e h33
        refine va_lald hx hb hK hP 4 1 rfl rfl hi36 dX3_driftOdds_91 ?_
        refine lv_bipush (v := 10) hx hb dX3_driftOdds_92 (by decide) ?_
        refine lv_iload_n hx hb dX3_driftOdds_94 rfl (lv_at hl 5 rfl) ?_
        refine lv_isub hx hb dX3_driftOdds_95 ?_
        refine lv_i2l (v := (10 - p3).toInt64) hx hb dX3_driftOdds_96 rfl ?_
        refine lv_lmul hx hb dX3_driftOdds_97 ?_
        refine lv_ladd hx hb dX3_driftOdds_98 ?_
        obtain ⟨hi38, h37⟩ := ob_e h35
        refine va_last hx hb hK hP hD hS 5 1 rfl rfl hi38 dX3_driftOdds_99 (fun H39 L40 hP hD hS => ?_)
        have hP : va_P D vwCl [oX3 a a_now a_spare a_text g_above g_below g_bads g_nos g_fulls, oX1 a_now g_now_month g_now_floes g_now_founds g_now_notes g_now_undos, rI cyI (a_now 1) 12 g_now_ways, rI cyI (a_now 2) 12 g_now_strengths, rJ cyJ (a 2) 36 g_odds, rJ cyJ (a 3) 36 (vp_updL (vp_updL z11 x20.toNatClampNeg ((z11 x20.toNatClampNeg) + ((g_odds x10.toNatClampNeg) * p3.toInt64))) u22.toNatClampNeg (((vp_updL z11 x20.toNatClampNeg ((z11 x20.toNatClampNeg) + ((g_odds x10.toNatClampNeg) * p3.toInt64))) u22.toNatClampNeg) + ((g_odds x10.toNatClampNeg) * ((10 - p3).toInt64))))] H39 := hP
        have hD : va_D A [oX3 a a_now a_spare a_text g_above g_below g_bads g_nos g_fulls, oX1 a_now g_now_month g_now_floes g_now_founds g_now_notes g_now_undos, rI cyI (a_now 1) 12 g_now_ways, rI cyI (a_now 2) 12 g_now_strengths, rJ cyJ (a 2) 36 g_odds, rJ cyJ (a 3) 36 (vp_updL (vp_updL z11 x20.toNatClampNeg ((z11 x20.toNatClampNeg) + ((g_odds x10.toNatClampNeg) * p3.toInt64))) u22.toNatClampNeg (((vp_updL z11 x20.toNatClampNeg ((z11 x20.toNatClampNeg) + ((g_odds x10.toNatClampNeg) * p3.toInt64))) u22.toNatClampNeg) + ((g_odds x10.toNatClampNeg) * ((10 - p3).toInt64))))] := hD
        obtain ⟨x41, ex41, h42⟩ := lt_e h37
        refine lv_iinc (v := x41) (lv' := [(5, .int x41), (7, .int u22), (6, .int x20), (0, .ref (a 0)), (1, .int p1), (2, .int p2), (3, .int p3), (4, .int y12)]) hx hb dX3_driftOdds_100 hl (k := 7) rfl (by rw [ex41]; rfl) (by decide) rfl (fun ls hl => ?_)
        refine lv_goto (tgt := 25) hx hb dX3_driftOdds_103 (by decide) ?_
        exact ih x41 (vp_updL (vp_updL z11 x20.toNatClampNeg ((z11 x20.toNatClampNeg) + ((g_odds x10.toNatClampNeg) * p3.toInt64))) u22.toNatClampNeg (((vp_updL z11 x20.toNatClampNeg ((z11 x20.toNatClampNeg) + ((g_odds x10.toNatClampNeg) * p3.toInt64))) u22.toNatClampNeg) + ((g_odds x10.toNatClampNeg) * ((10 - p3).toInt64)))) _ _ _ h42 hP hD hS (lv_sub hl [3, 4, 5, 6, 7, 0] rfl)
  unfold T_X3_driftOdds at hT
  refine lv_aload_n hx hb dX3_driftOdds_0 rfl (lv_at hl 0 rfl) ?_
  refine va_get (D := D) (cl := vwCl) (ci := 2) (v := .ref (a 3)) (C := RX3) (T := TX3) (N := 12) hx hb hts inX3 hown hK hP 0 rfl rfl 5 (by decide) (hts (Cond.fieldLink RX3 34 "FrozenIn" "nextOdds" "[J") (List.mem_of_getElem? (i := 1) rfl)) (fun _ h9 => h9) rfl dX3_driftOdds_1 ?_
  refine lv_lconst (v := 0) hx hb dX3_driftOdds_4 (by decide) ?_
  obtain ⟨u1, hu2, h3⟩ := bd_e hT
  refine kw_V (wc := [rJ cyJ (a 3) 36 g_nextOdds]) (wr := [oX3 a a_now a_spare a_text g_above g_below g_bads g_nos g_fulls, oX1 a_now g_now_month g_now_floes g_now_founds g_now_notes g_now_undos, rI cyI (a_now 1) 12 g_now_ways, rI cyI (a_now 2) 12 g_now_strengths, rJ cyJ (a 2) 36 g_odds]) (ws' := [oX3 a a_now a_spare a_text g_above g_below g_bads g_nos g_fulls, oX1 a_now g_now_month g_now_floes g_now_founds g_now_notes g_now_undos, rI cyI (a_now 1) 12 g_now_ways, rI cyI (a_now 2) 12 g_now_strengths, rJ cyJ (a 2) 36 g_odds, rJ cyJ (a 3) 36 u1]) (va_runS (As := [.ref (a 3), .long 0]) (rest := []) ⟨hx, hb, hml, hown, hts⟩ (c_J7_fill_d0a16 l D cyI cyJ cyS N (a 3) 36 g_nextOdds 0 s.heap.size u1 hu2) (va_cwS 2 hts gX3_driftOdds_J7_fill_d0a16 rfl rfl rfl (by decide +kernel) ⟨(Nat.le_of_ble_eq_true rfl), (Nat.le_of_ble_eq_true rfl)⟩) (preW_S (hP.sub (ws' := [rJ cyJ (a 3) 36 g_nextOdds]) [5] rfl) (hD.sub (ws' := [rJ cyJ (a 3) 36 g_nextOdds]) [5] (by decide) rfl) hKK) rfl rfl hl.1 rfl (lv_room (Nat.le_of_ble_eq_true rfl)) dX3_driftOdds_5 ⟨Nat.zero_le _, Nat.zero_le _⟩) hP hD hS hA [5] [0, 1, 2, 3, 4] [0, 1, 2, 3, 4, 5] rfl rfl (by decide) (by decide) rfl (by decide) (fun H4 L5 hP hD hS => ?_)
  refine lv_aload_n hx hb dX3_driftOdds_8 rfl (lv_at hl 0 rfl) ?_
  refine va_get (D := D) (cl := vwCl) (ci := 2) (v := .ref (a_now 0)) (C := RX3) (T := TX3) (N := 12) hx hb hts inX3 hown hK hP 0 rfl rfl 0 (by decide) (hts (Cond.fieldLink RX3 10 "FrozenIn" "now" "LFrozenIn$Sea;") (List.mem_of_getElem? (i := 2) rfl)) (fun _ h9 => h9) rfl dX3_driftOdds_9 ?_
  refine va_get (D := D) (cl := vwCl) (ci := 0) (v := .ref (a_now 1)) (C := RX1) (T := TX1) (N := 13) hx hb hts inX1 hown hK hP 1 rfl rfl 1 (by decide) (hts (Cond.fieldLink RX3 65 "FrozenIn$Sea" "ways" "[I") (List.mem_of_getElem? (i := 3) rfl)) (fun _ h9 => h9) rfl dX3_driftOdds_12 ?_
  refine lv_iload_n hx hb dX3_driftOdds_15 rfl (lv_at hl 2 rfl) ?_
  refine lv_bipush (v := 12) hx hb dX3_driftOdds_16 (by decide) ?_
  refine lv_irem hx hb dX3_driftOdds_18 (by decide) ?_
  obtain ⟨hi7, h6⟩ := ob_e h3
  refine va_iald hx hb hK hP 2 0 rfl rfl hi7 dX3_driftOdds_19 ?_
  obtain ⟨x8, ex8, h9⟩ := lt_e h6
  refine lv_nm ex8 ?_
  refine lv_istore (lv' := [(4, .int x8), (0, .ref (a 0)), (1, .int p1), (2, .int p2), (3, .int p3)]) hx hb dX3_driftOdds_20 hl (by decide) rfl (fun ls hl => ?_)
  refine lv_iconst (v := 0) hx hb dX3_driftOdds_22 (by decide) ?_
  refine lv_istore (lv' := [(5, .int 0), (4, .int x8), (0, .ref (a 0)), (1, .int p1), (2, .int p2), (3, .int p3)]) hx hb dX3_driftOdds_23 hl (by decide) rfl (fun ls hl => ?_)
  refine L25 x8 _ (fun z43 H45 L46 ls h44 hP hD hS hl => ?_) N 0 u1 _ _ _ h9 hP hD hS (lv_sub hl [2, 3, 4, 5, 1, 0] rfl)
  refine lv_aload_n hx hb dX3_driftOdds_106 rfl (lv_at hl 0 rfl) ?_
  refine va_get (D := D) (cl := vwCl) (ci := 2) (v := .ref (a 3)) (C := RX3) (T := TX3) (N := 12) hx hb hts inX3 hown hK hP 0 rfl rfl 5 (by decide) (hts (Cond.fieldLink RX3 34 "FrozenIn" "nextOdds" "[J") (List.mem_of_getElem? (i := 1) rfl)) (fun _ h9 => h9) rfl dX3_driftOdds_107 ?_
  refine lv_iconst (v := 0) hx hb dX3_driftOdds_110 (by decide) ?_
  refine lv_aload_n hx hb dX3_driftOdds_111 rfl (lv_at hl 0 rfl) ?_
  refine va_get (D := D) (cl := vwCl) (ci := 2) (v := .ref (a 2)) (C := RX3) (T := TX3) (N := 12) hx hb hts inX3 hown hK hP 0 rfl rfl 4 (by decide) (hts (Cond.fieldLink RX3 30 "FrozenIn" "odds" "[J") (List.mem_of_getElem? (i := 4) rfl)) (fun _ h9 => h9) rfl dX3_driftOdds_112 ?_
  refine lv_iconst (v := 0) hx hb dX3_driftOdds_115 (by decide) ?_
  refine lv_bipush (v := 36) hx hb dX3_driftOdds_116 (by decide) ?_
  obtain ⟨⟨g48, g49, g50, g51, g52⟩, h47⟩ := gc_e h44
  refine va_copyl hx hb (hml.trans hl.1.symm) hown (hts (Cond.methodLink RX3 262 arraycopyName) (List.mem_of_getElem? (i := 5) rfl)) (hts (Cond.native arraycopyName) (List.mem_of_getElem? (i := 6) rfl)) (hts (Cond.static arraycopyName) (List.mem_of_getElem? (i := 7) rfl)) (hts (Cond.initialized "java/lang/System") (List.mem_of_getElem? (i := 8) rfl)) hK hP hD hS 5 4 1 1 rfl rfl rfl rfl rfl g48 g49 g50 g51 g52 (fun _ _ => rfl) (Nat.le_of_ble_eq_true rfl) (Nat.le_of_ble_eq_true rfl) dX3_driftOdds_118 (fun H53 L54 hP hD hS => ?_)
  have hP : va_P D vwCl [oX3 a a_now a_spare a_text g_above g_below g_bads g_nos g_fulls, oX1 a_now g_now_month g_now_floes g_now_founds g_now_notes g_now_undos, rI cyI (a_now 1) 12 g_now_ways, rI cyI (a_now 2) 12 g_now_strengths, rJ cyJ (a 2) 36 (va_cpy z43 g_odds (0 : Int32).toNatClampNeg (0 : Int32).toNatClampNeg (36 : Int32).toNatClampNeg), rJ cyJ (a 3) 36 z43] H53 := hP
  have hD : va_D A [oX3 a a_now a_spare a_text g_above g_below g_bads g_nos g_fulls, oX1 a_now g_now_month g_now_floes g_now_founds g_now_notes g_now_undos, rI cyI (a_now 1) 12 g_now_ways, rI cyI (a_now 2) 12 g_now_strengths, rJ cyJ (a 2) 36 (va_cpy z43 g_odds (0 : Int32).toNatClampNeg (0 : Int32).toNatClampNeg (36 : Int32).toNatClampNeg), rJ cyJ (a 3) 36 z43] := hD
  rw [← Option.some.inj h47]
  exact W.vret hx hb hr (fun t ht hW => ⟨⟨(), rfl, trivial, ⟨by rw [ht]; exact hP, hD⟩⟩, hS.F ht⟩) hS.2.2 dX3_driftOdds_121
def T_X3_setFraction (N : Nat) (g_above : Int64) (g_below : Int64) (p1 : Int64) (p3 : Int64) : Option (Int64 × Int64) :=
  (Option.bind (T_X3_commonDivisor N p1 p3) fun u1 => (if (lg_cmp u1 0) ≤ 0 then (some (g_above, g_below)) else (nz u1 (nz u1 (some (p1 / u1, p3 / u1))))))
abbrev rm_X3_setFraction : Room := { frames := 1, cells := 0, slots := 0, locals := 30 }
set_option maxHeartbeats 4000000 in
set_option maxRecDepth 100000 in
theorem c_X3_setFraction (l : Launch) (D : va_G) (cyI cyJ cyS : ClassId) (N : Nat) (a a_now a_spare a_text : Nat → Nat) (g_above : Int64) (g_below : Int64) (g_bads : Int32) (g_nos : Int32) (g_fulls : Int32) (p1 : Int64) (p3 : Int64) (sz : Nat) (R0 : Int64 × Int64) (hT : T_X3_setFraction N g_above g_below p1 p3 = some R0) : Met l yX3_setFraction wsX3_setFraction rm_X3_setFraction (va_Pc [.ref (a 0), .long p1, .long p3] (preW D (tyS cyI cyJ cyS) [oX3 a a_now a_spare a_text g_above g_below g_bads g_nos g_fulls] sz)) (va_Qv (fun (_ : Unit) => True) (fun _ t => va_P D vwCl [oX3 a a_now a_spare a_text R0.1 R0.2 g_bads g_nos g_fulls] t.heap ∧ va_D (va_A [oX3 a a_now a_spare a_text g_above g_below g_bads g_nos g_fulls] sz) [oX3 a a_now a_spare a_text R0.1 R0.2 g_bads g_nos g_fulls]) (va_A [oX3 a a_now a_spare a_text g_above g_below g_bads g_nos g_fulls] sz)) 0 0 (va_A [oX3 a a_now a_spare a_text g_above g_below g_bads g_nos g_fulls] sz) := by
  refine Met.ofW (cc := cX3_setFraction) (maxL := 7) (ret := none) (by decide) rfl ?_
  intro p e s m args below meth c s₁ B hml hv
  obtain ⟨rfl, hsz, hP, hKK, hD0⟩ := hv
  have hx := B.exec
  have hb := B.bytes
  have hr := B.returns
  have hts := atoms_spec (ws := wsX3_setFraction) B.pre
  have hown : s.vm.findClass RX3 = some m.cls := findClass_of_methodNamed B.named
  have hlocks := B.notSynchronized
  have hK := hKK.1
  have inX3 : ∀ w ∈ wsX30, w ∈ wsX3_setFraction := (fun _ h => List.mem_cons_of_mem _ (List.mem_append_right _ h))
  subst hsz
  have hD := hD0.self (sz := s.heap.size)
  generalize hAe : va_A [oX3 a a_now a_spare a_text g_above g_below g_bads g_nos g_fulls] s.heap.size = A at hD ⊢
  have hA : ∀ q : Nat, s.heap.size ≤ q → A q := fun q h => by rw [← hAe]; exact Or.inr h
  have hS : va_S A s.heap s.heap [] := va_S.rf
  have hP : va_P D vwCl [oX3 a a_now a_spare a_text g_above g_below g_bads g_nos g_fulls] s.heap := hP
  have hl := lv_entry [.ref (a 0), .long p1, .long p3] (n := 7) (Nat.le_of_ble_eq_true rfl)
  rw [lg_entry_eq]
  generalize (lg_sl [.ref (a 0), .long p1, .long p3] ++ List.replicate (7 - (lg_sl [.ref (a 0), .long p1, .long p3]).length) Slot.unset).toArray = ls at hl ⊢
  have hl : lv_has ls 7 [(0, .ref (a 0)), (1, .long p1), (3, .long p3)] := hl
  unfold T_X3_setFraction at hT
  refine lv_lload_n hx hb dX3_setFraction_0 rfl (lv_at hl 1 rfl) ?_
  refine lv_lload_n hx hb dX3_setFraction_1 rfl (lv_at hl 2 rfl) ?_
  obtain ⟨u1, hu2, h3⟩ := bd_e hT
  refine kc_L (W.runS (As := [.long p1, .long p3]) (rest := []) ⟨hx, hb, hml, hown, hts⟩ (c_X3_commonDivisor l N p1 p3 u1 hu2) (va_cwS 2 hts gX3_setFraction_X3_commonDivisor rfl rfl rfl (by decide +kernel) ⟨(Nat.le_of_ble_eq_true rfl), (Nat.le_of_ble_eq_true rfl)⟩) preT_S rfl rfl hl.1 rfl (lv_room (Nat.le_of_ble_eq_true rfl)) dX3_setFraction_2 ⟨Nat.zero_le _, Nat.zero_le _⟩) ?_
  refine lv_lstore (lv' := [(5, .long u1), (0, .ref (a 0)), (1, .long p1), (3, .long p3)]) hx hb dX3_setFraction_5 hl (by decide) rfl (fun ls hl => ?_)
  refine lv_lload hx hb dX3_setFraction_7 (lv_at hl 0 rfl) ?_
  refine lv_lconst (v := 0) hx hb dX3_setFraction_9 (by decide) ?_
  refine W.lcmp hx hb dX3_setFraction_10 ?_
  refine lv_if_le (tgt := 30) hx hb dX3_setFraction_11 (by decide) (fun c4 => ?_) (fun c4 => ?_)
  · have h5 := (if_pos c4).symm.trans h3
    rw [← Option.some.inj h5]
    exact W.vret hx hb hr (fun t ht hW => ⟨⟨(), rfl, trivial, ⟨by rw [ht]; exact hP, hD⟩⟩, hS.F ht⟩) hS.2.2 dX3_setFraction_30
  · have h6 := (if_neg c4).symm.trans h3
    refine lv_aload_n hx hb dX3_setFraction_14 rfl (lv_at hl 1 rfl) ?_
    refine lv_lload_n hx hb dX3_setFraction_15 rfl (lv_at hl 2 rfl) ?_
    refine lv_lload hx hb dX3_setFraction_16 (lv_at hl 0 rfl) ?_
    obtain ⟨hn8, h7⟩ := nz_e h6
    refine lv_ldiv hx hb dX3_setFraction_18 hn8 ?_
    refine va_put (D := D) (cl := vwCl) (ci := 2) (v := .long (p1 / u1)) (ty := .long) (C := RX3) (T := TX3) (N := 12) hx hb hts inX3 tyX3 tyX3_ok nmX3 hown hK hP hD hS 0 rfl rfl 7 (by decide) (hts (Cond.fieldLink RX3 227 "FrozenIn" "above" "J") (List.mem_of_getElem? (i := 1) rfl)) (fun _ h9 => h9) rfl (by decide +kernel) rfl rfl (Nat.le_of_ble_eq_true rfl) dX3_setFraction_19 (fun H9 L10 hP hD hS => ?_)
    have hP : va_P D vwCl [oX3 a a_now a_spare a_text (p1 / u1) g_below g_bads g_nos g_fulls] H9 := hP
    have hD : va_D A [oX3 a a_now a_spare a_text (p1 / u1) g_below g_bads g_nos g_fulls] := hD
    refine lv_aload_n hx hb dX3_setFraction_22 rfl (lv_at hl 1 rfl) ?_
    refine lv_lload_n hx hb dX3_setFraction_23 rfl (lv_at hl 3 rfl) ?_
    refine lv_lload hx hb dX3_setFraction_24 (lv_at hl 0 rfl) ?_
    obtain ⟨hn12, h11⟩ := nz_e h7
    refine lv_ldiv hx hb dX3_setFraction_26 hn12 ?_
    refine va_put (D := D) (cl := vwCl) (ci := 2) (v := .long (p3 / u1)) (ty := .long) (C := RX3) (T := TX3) (N := 12) hx hb hts inX3 tyX3 tyX3_ok nmX3 hown hK hP hD hS 0 rfl rfl 8 (by decide) (hts (Cond.fieldLink RX3 41 "FrozenIn" "below" "J") (List.mem_of_getElem? (i := 2) rfl)) (fun _ h9 => h9) rfl (by decide +kernel) rfl rfl (Nat.le_of_ble_eq_true rfl) dX3_setFraction_27 (fun H13 L14 hP hD hS => ?_)
    have hP : va_P D vwCl [oX3 a a_now a_spare a_text (p1 / u1) (p3 / u1) g_bads g_nos g_fulls] H13 := hP
    have hD : va_D A [oX3 a a_now a_spare a_text (p1 / u1) (p3 / u1) g_bads g_nos g_fulls] := hD
    rw [← Option.some.inj h11]
    exact W.vret hx hb hr (fun t ht hW => ⟨⟨(), rfl, trivial, ⟨by rw [ht]; exact hP, hD⟩⟩, hS.F ht⟩) hS.2.2 dX3_setFraction_30
def T_X3_calms_L62 (N : Nat) (p1 : Int32) (p2 : Int32) (p3 : Int32) (g_now_month : Int32) (g_now_ways : Nat → Int32) (g_now_strengths : Nat → Int32) (g_now_kinds : Nat → Int32) (k106 : Int64 → (Nat → Int64) → (Nat → Int64) → Option (Int32 × Int64 × Int64 × Int32 × (Nat → Int64) × (Nat → Int64))) : Nat → Int64 → Int32 → (Nat → Int64) → (Nat → Int64) → Option (Int32 × Int64 × Int64 × Int32 × (Nat → Int64) × (Nat → Int64))
  | 0, _, _, _, _ => none
  | n + 1, x34, x35, z36, z37 => (if p2 ≤ x35 then (k106 x34 z36 z37) else (ob p1 5 (Option.bind (T_X3_driftOdds N g_now_ways g_now_strengths z36 z37 (g_now_kinds p1.toNatClampNeg) (g_now_month + x35) p3) fun u49 => (lt' (x34 * 10) fun x54 => (lt' (x35 + 1) fun x56 => (T_X3_calms_L62 N p1 p2 p3 g_now_month g_now_ways g_now_strengths g_now_kinds k106 n x54 x56 u49.1 u49.2))))))
theorem T_X3_calms_L62_s (N : Nat) (p1 : Int32) (p2 : Int32) (p3 : Int32) (g_now_month : Int32) (g_now_ways : Nat → Int32) (g_now_strengths : Nat → Int32) (g_now_kinds : Nat → Int32) (k106 : Int64 → (Nat → Int64) → (Nat → Int64) → Option (Int32 × Int64 × Int64 × Int32 × (Nat → Int64) × (Nat → Int64))) (n : Nat) (x34 : Int64) (x35 : Int32) (z36 : Nat → Int64) (z37 : Nat → Int64) : T_X3_calms_L62 N p1 p2 p3 g_now_month g_now_ways g_now_strengths g_now_kinds k106 (n + 1) x34 x35 z36 z37 = (if p2 ≤ x35 then (k106 x34 z36 z37) else (ob p1 5 (Option.bind (T_X3_driftOdds N g_now_ways g_now_strengths z36 z37 (g_now_kinds p1.toNatClampNeg) (g_now_month + x35) p3) fun u49 => (lt' (x34 * 10) fun x54 => (lt' (x35 + 1) fun x56 => (T_X3_calms_L62 N p1 p2 p3 g_now_month g_now_ways g_now_strengths g_now_kinds k106 n x54 x56 u49.1 u49.2)))))) := rfl
def T_X3_calms_L112 (N : Nat) (y67 : Nat → Int64) (k137 : Int64 → Option (Int32 × Int64 × Int64 × Int32 × (Nat → Int64) × (Nat → Int64))) : Nat → Int64 → Int32 → Option (Int32 × Int64 × Int64 × Int32 × (Nat → Int64) × (Nat → Int64))
  | 0, _, _ => none
  | n + 1, x64, x65 => (if 36 ≤ x65 then (k137 x64) else (ob x65 36 (lt' (x64 + (y67 x65.toNatClampNeg)) fun x78 => (lt' (x65 + 6) fun x80 => (T_X3_calms_L112 N y67 k137 n x78 x80)))))
theorem T_X3_calms_L112_s (N : Nat) (y67 : Nat → Int64) (k137 : Int64 → Option (Int32 × Int64 × Int64 × Int32 × (Nat → Int64) × (Nat → Int64))) (n : Nat) (x64 : Int64) (x65 : Int32) : T_X3_calms_L112 N y67 k137 (n + 1) x64 x65 = (if 36 ≤ x65 then (k137 x64) else (ob x65 36 (lt' (x64 + (y67 x65.toNatClampNeg)) fun x78 => (lt' (x65 + 6) fun x80 => (T_X3_calms_L112 N y67 k137 n x78 x80))))) := rfl
def T_X3_calms (N : Nat) (g_above : Int64) (g_below : Int64) (g_bads : Int32) (g_now_month : Int32) (g_now_floes : Int32) (g_now_ways : Nat → Int32) (g_now_strengths : Nat → Int32) (g_now_kinds : Nat → Int32) (g_now_cells : Nat → Int32) (g_odds : Nat → Int64) (g_nextOdds : Nat → Int64) (p1 : Int32) (p2 : Int32) (p3 : Int32) : Option (Int32 × Int64 × Int64 × Int32 × (Nat → Int64) × (Nat → Int64)) :=
  (jn (lt' (T_X3_refuseBad g_bads) fun u8 => (some (u8.1, g_above, g_below, u8.2, g_odds, g_nextOdds))) fun j2 => (if (T_X3_isFloe g_now_floes p1) = 0 then j2 else (if (T_X3_within p2 0 8) = 0 then j2 else (if (T_X3_within p3 0 10) = 0 then j2 else (Option.bind (T_J7_fill_d0a16 N 36 g_odds 0) fun u23 => (ob p1 5 (ob (g_now_cells p1.toNatClampNeg) 36 (T_X3_calms_L62 N p1 p2 p3 g_now_month g_now_ways g_now_strengths g_now_kinds (fun (x58 : Int64) (z59 : Nat → Int64) (z60 : Nat → Int64) => (T_X3_calms_L112 N z59 (fun (x82 : Int64) => (Option.bind (T_X3_setFraction N g_above g_below x82 x58) fun u86 => (some (1, u86.1, u86.2, g_bads, z59, z60)))) N 0 5)) N 1 0 (vp_updL u23 (g_now_cells p1.toNatClampNeg).toNatClampNeg 1) g_nextOdds))))))))
abbrev rm_X3_calms : Room := { frames := 4, cells := 0, slots := 0, locals := 102 }
set_option maxHeartbeats 4000000 in
set_option maxRecDepth 100000 in
theorem c_X3_calms (l : Launch) (D : va_G) (cyI cyJ cyS : ClassId) (N : Nat) (a a_now a_spare a_text : Nat → Nat) (g_above : Int64) (g_below : Int64) (g_bads : Int32) (g_nos : Int32) (g_fulls : Int32) (g_now_month : Int32) (g_now_floes : Int32) (g_now_founds : Int32) (g_now_notes : Int32) (g_now_undos : Int32) (g_now_ways : Nat → Int32) (g_now_strengths : Nat → Int32) (g_now_kinds : Nat → Int32) (g_now_cells : Nat → Int32) (g_odds : Nat → Int64) (g_nextOdds : Nat → Int64) (p1 : Int32) (p2 : Int32) (p3 : Int32) (sz : Nat) (R0 : Int32 × Int64 × Int64 × Int32 × (Nat → Int64) × (Nat → Int64)) (hT : T_X3_calms N g_above g_below g_bads g_now_month g_now_floes g_now_ways g_now_strengths g_now_kinds g_now_cells g_odds g_nextOdds p1 p2 p3 = some R0) : Met l yX3_calms wsX3_calms rm_X3_calms (va_Pc [.ref (a 0), .int p1, .int p2, .int p3] (preW D (tyS cyI cyJ cyS) [oX3 a a_now a_spare a_text g_above g_below g_bads g_nos g_fulls, oX1 a_now g_now_month g_now_floes g_now_founds g_now_notes g_now_undos, rI cyI (a_now 1) 12 g_now_ways, rI cyI (a_now 2) 12 g_now_strengths, rI cyI (a_now 3) 5 g_now_kinds, rI cyI (a_now 4) 5 g_now_cells, rJ cyJ (a 2) 36 g_odds, rJ cyJ (a 3) 36 g_nextOdds] sz)) (va_Qi (fun (r : Int32) (_ : Unit) => r = R0.1) (fun _ t => va_P D vwCl [oX3 a a_now a_spare a_text R0.2.1 R0.2.2.1 R0.2.2.2.1 g_nos g_fulls, oX1 a_now g_now_month g_now_floes g_now_founds g_now_notes g_now_undos, rI cyI (a_now 1) 12 g_now_ways, rI cyI (a_now 2) 12 g_now_strengths, rI cyI (a_now 3) 5 g_now_kinds, rI cyI (a_now 4) 5 g_now_cells, rJ cyJ (a 2) 36 R0.2.2.2.2.1, rJ cyJ (a 3) 36 R0.2.2.2.2.2] t.heap ∧ va_D (va_A [oX3 a a_now a_spare a_text g_above g_below g_bads g_nos g_fulls, oX1 a_now g_now_month g_now_floes g_now_founds g_now_notes g_now_undos, rI cyI (a_now 1) 12 g_now_ways, rI cyI (a_now 2) 12 g_now_strengths, rI cyI (a_now 3) 5 g_now_kinds, rI cyI (a_now 4) 5 g_now_cells, rJ cyJ (a 2) 36 g_odds, rJ cyJ (a 3) 36 g_nextOdds] sz) [oX3 a a_now a_spare a_text R0.2.1 R0.2.2.1 R0.2.2.2.1 g_nos g_fulls, oX1 a_now g_now_month g_now_floes g_now_founds g_now_notes g_now_undos, rI cyI (a_now 1) 12 g_now_ways, rI cyI (a_now 2) 12 g_now_strengths, rI cyI (a_now 3) 5 g_now_kinds, rI cyI (a_now 4) 5 g_now_cells, rJ cyJ (a 2) 36 R0.2.2.2.2.1, rJ cyJ (a 3) 36 R0.2.2.2.2.2]) (va_A [oX3 a a_now a_spare a_text g_above g_below g_bads g_nos g_fulls, oX1 a_now g_now_month g_now_floes g_now_founds g_now_notes g_now_undos, rI cyI (a_now 1) 12 g_now_ways, rI cyI (a_now 2) 12 g_now_strengths, rI cyI (a_now 3) 5 g_now_kinds, rI cyI (a_now 4) 5 g_now_cells, rJ cyJ (a 2) 36 g_odds, rJ cyJ (a 3) 36 g_nextOdds] sz)) 0 0 (va_A [oX3 a a_now a_spare a_text g_above g_below g_bads g_nos g_fulls, oX1 a_now g_now_month g_now_floes g_now_founds g_now_notes g_now_undos, rI cyI (a_now 1) 12 g_now_ways, rI cyI (a_now 2) 12 g_now_strengths, rI cyI (a_now 3) 5 g_now_kinds, rI cyI (a_now 4) 5 g_now_cells, rJ cyJ (a 2) 36 g_odds, rJ cyJ (a 3) 36 g_nextOdds] sz) := by
  refine Met.ofW (cc := cX3_calms) (maxL := 9) (ret := (some .int)) (by decide) rfl ?_
  intro p e s m args below meth c s₁ B hml hv
  obtain ⟨rfl, hsz, hP, hKK, hD0⟩ := hv
  have hx := B.exec
  have hb := B.bytes
  have hr := B.returns
  have hts := atoms_spec (ws := wsX3_calms) B.pre
  have hown : s.vm.findClass RX3 = some m.cls := findClass_of_methodNamed B.named
  have hlocks := B.notSynchronized
  have hK := hKK.1
  have inX3 : ∀ w ∈ wsX30, w ∈ wsX3_calms := (fun _ h => List.mem_cons_of_mem _ (List.mem_append_left _ (List.mem_append_right _ h)))
  have inX1 : ∀ w ∈ wsX10, w ∈ wsX3_calms := (fun _ h => List.mem_cons_of_mem _ (List.mem_append_right _ h))
  subst hsz
  have hD := hD0.self (sz := s.heap.size)
  generalize hAe : va_A [oX3 a a_now a_spare a_text g_above g_below g_bads g_nos g_fulls, oX1 a_now g_now_month g_now_floes g_now_founds g_now_notes g_now_undos, rI cyI (a_now 1) 12 g_now_ways, rI cyI (a_now 2) 12 g_now_strengths, rI cyI (a_now 3) 5 g_now_kinds, rI cyI (a_now 4) 5 g_now_cells, rJ cyJ (a 2) 36 g_odds, rJ cyJ (a 3) 36 g_nextOdds] s.heap.size = A at hD ⊢
  have hA : ∀ q : Nat, s.heap.size ≤ q → A q := fun q h => by rw [← hAe]; exact Or.inr h
  have hS : va_S A s.heap s.heap [] := va_S.rf
  have hP : va_P D vwCl [oX3 a a_now a_spare a_text g_above g_below g_bads g_nos g_fulls, oX1 a_now g_now_month g_now_floes g_now_founds g_now_notes g_now_undos, rI cyI (a_now 1) 12 g_now_ways, rI cyI (a_now 2) 12 g_now_strengths, rI cyI (a_now 3) 5 g_now_kinds, rI cyI (a_now 4) 5 g_now_cells, rJ cyJ (a 2) 36 g_odds, rJ cyJ (a 3) 36 g_nextOdds] s.heap := hP
  have hl := lv_entry [.ref (a 0), .int p1, .int p2, .int p3] (n := 9) (Nat.le_of_ble_eq_true rfl)
  rw [lg_entry_eq]
  generalize (lg_sl [.ref (a 0), .int p1, .int p2, .int p3] ++ List.replicate (9 - (lg_sl [.ref (a 0), .int p1, .int p2, .int p3]).length) Slot.unset).toArray = ls at hl ⊢
  have hl : lv_has ls 9 [(0, .ref (a 0)), (1, .int p1), (2, .int p2), (3, .int p3)] := hl
  have L62 : ∀ (k106 : Int64 → (Nat → Int64) → (Nat → Int64) → Option (Int32 × Int64 × Int64 × Int32 × (Nat → Int64) × (Nat → Int64))) (hk106 : ∀ (x38 : Int64) (z39 : Nat → Int64) (z40 : Nat → Int64) (H : Heap) (locs : List Loc) (ls : Array Slot), k106 x38 z39 z40 = some R0 → va_P D vwCl [oX3 a a_now a_spare a_text g_above g_below g_bads g_nos g_fulls, oX1 a_now g_now_month g_now_floes g_now_founds g_now_notes g_now_undos, rI cyI (a_now 1) 12 g_now_ways, rI cyI (a_now 2) 12 g_now_strengths, rI cyI (a_now 3) 5 g_now_kinds, rI cyI (a_now 4) 5 g_now_cells, rJ cyJ (a 2) 36 z39, rJ cyJ (a 3) 36 z40] H → va_D A [oX3 a a_now a_spare a_text g_above g_below g_bads g_nos g_fulls, oX1 a_now g_now_month g_now_floes g_now_founds g_now_notes g_now_undos, rI cyI (a_now 1) 12 g_now_ways, rI cyI (a_now 2) 12 g_now_strengths, rI cyI (a_now 3) 5 g_now_kinds, rI cyI (a_now 4) 5 g_now_cells, rJ cyJ (a 2) 36 z39, rJ cyJ (a 3) 36 z40] → va_S A s.heap H locs → lv_has ls 9 [(0, .ref (a 0)), (4, .long x38)] → W p l e (headSpec wsX3_calms rm_X3_calms).room s m ([.ref (a 0), .int p1, .int p2, .int p3] : List Value).toArray below meth c H locs 0 0 (MQ below (va_Qi (fun (r : Int32) (_ : Unit) => r = R0.1) (fun _ t => va_P D vwCl [oX3 a a_now a_spare a_text R0.2.1 R0.2.2.1 R0.2.2.2.1 g_nos g_fulls, oX1 a_now g_now_month g_now_floes g_now_founds g_now_notes g_now_undos, rI cyI (a_now 1) 12 g_now_ways, rI cyI (a_now 2) 12 g_now_strengths, rI cyI (a_now 3) 5 g_now_kinds, rI cyI (a_now 4) 5 g_now_cells, rJ cyJ (a 2) 36 R0.2.2.2.2.1, rJ cyJ (a 3) 36 R0.2.2.2.2.2] t.heap ∧ va_D A [oX3 a a_now a_spare a_text R0.2.1 R0.2.2.1 R0.2.2.2.1 g_nos g_fulls, oX1 a_now g_now_month g_now_floes g_now_founds g_now_notes g_now_undos, rI cyI (a_now 1) 12 g_now_ways, rI cyI (a_now 2) 12 g_now_strengths, rI cyI (a_now 3) 5 g_now_kinds, rI cyI (a_now 4) 5 g_now_cells, rJ cyJ (a 2) 36 R0.2.2.2.2.1, rJ cyJ (a 3) 36 R0.2.2.2.2.2]) A) ([.ref (a 0), .int p1, .int p2, .int p3] : List Value).toArray s 0 0 A) (F0 m 106 ls [])) (n : Nat), ∀ (x34 : Int64) (x35 : Int32) (z36 : Nat → Int64) (z37 : Nat → Int64) (H : Heap) (locs : List Loc) (ls : Array Slot), T_X3_calms_L62 N p1 p2 p3 g_now_month g_now_ways g_now_strengths g_now_kinds k106 n x34 x35 z36 z37 = some R0 → va_P D vwCl [oX3 a a_now a_spare a_text g_above g_below g_bads g_nos g_fulls, oX1 a_now g_now_month g_now_floes g_now_founds g_now_notes g_now_undos, rI cyI (a_now 1) 12 g_now_ways, rI cyI (a_now 2) 12 g_now_strengths, rI cyI (a_now 3) 5 g_now_kinds, rI cyI (a_now 4) 5 g_now_cells, rJ cyJ (a 2) 36 z36, rJ cyJ (a 3) 36 z37] H → va_D A [oX3 a a_now a_spare a_text g_above g_below g_bads g_nos g_fulls, oX1 a_now g_now_month g_now_floes g_now_founds g_now_notes g_now_undos, rI cyI (a_now 1) 12 g_now_ways, rI cyI (a_now 2) 12 g_now_strengths, rI cyI (a_now 3) 5 g_now_kinds, rI cyI (a_now 4) 5 g_now_cells, rJ cyJ (a 2) 36 z36, rJ cyJ (a 3) 36 z37] → va_S A s.heap H locs → lv_has ls 9 [(0, .ref (a 0)), (1, .int p1), (2, .int p2), (3, .int p3), (4, .long x34), (6, .int x35)] → W p l e (headSpec wsX3_calms rm_X3_calms).room s m ([.ref (a 0), .int p1, .int p2, .int p3] : List Value).toArray below meth c H locs 0 0 (MQ below (va_Qi (fun (r : Int32) (_ : Unit) => r = R0.1) (fun _ t => va_P D vwCl [oX3 a a_now a_spare a_text R0.2.1 R0.2.2.1 R0.2.2.2.1 g_nos g_fulls, oX1 a_now g_now_month g_now_floes g_now_founds g_now_notes g_now_undos, rI cyI (a_now 1) 12 g_now_ways, rI cyI (a_now 2) 12 g_now_strengths, rI cyI (a_now 3) 5 g_now_kinds, rI cyI (a_now 4) 5 g_now_cells, rJ cyJ (a 2) 36 R0.2.2.2.2.1, rJ cyJ (a 3) 36 R0.2.2.2.2.2] t.heap ∧ va_D A [oX3 a a_now a_spare a_text R0.2.1 R0.2.2.1 R0.2.2.2.1 g_nos g_fulls, oX1 a_now g_now_month g_now_floes g_now_founds g_now_notes g_now_undos, rI cyI (a_now 1) 12 g_now_ways, rI cyI (a_now 2) 12 g_now_strengths, rI cyI (a_now 3) 5 g_now_kinds, rI cyI (a_now 4) 5 g_now_cells, rJ cyJ (a 2) 36 R0.2.2.2.2.1, rJ cyJ (a 3) 36 R0.2.2.2.2.2]) A) ([.ref (a 0), .int p1, .int p2, .int p3] : List Value).toArray s 0 0 A) (F0 m 62 ls []) := by
    intro k106 hk106 n
    induction n with
    | zero => intro _ _ _ _ _ _ _ h; exact absurd h (fun z => by cases z)
    | succ n ih =>
      intro x34 x35 z36 z37 H42 L43 ls h41 hP hD hS hl
      rw [T_X3_calms_L62_s] at h41
      refine lv_iload hx hb dX3_calms_62 (lv_at hl 5 rfl) ?_
      refine lv_iload_n hx hb dX3_calms_64 rfl (lv_at hl 2 rfl) ?_
      refine lv_icmp_ge (tgt := 106) hx hb dX3_calms_65 (by decide) (fun c44 => ?_) (fun c44 => ?_)
      · have h45 := (if_pos c44).symm.trans h41
        exact hk106 x34 z36 z37 _ _ _ h45 hP hD hS (lv_sub hl [0, 4] rfl)
      · have h46 := (if_neg c44).symm.trans h41
        refine lv_aload_n hx hb dX3_calms_68 rfl (lv_at hl 0 rfl) ?_
        refine lv_aload_n hx hb dX3_calms_69 rfl (lv_at hl 0 rfl) ?_
        refine va_get (D := D) (cl := vwCl) (ci := 2) (v := .ref (a_now 0)) (C := RX3) (T := TX3) (N := 12) hx hb hts inX3 hown hK hP 0 rfl rfl 0 (by decide) (hts (Cond.fieldLink RX3 10 "FrozenIn" "now" "LFrozenIn$Sea;") (List.mem_of_getElem? (i := 2) rfl)) (fun _ h9 => h9) rfl dX3_calms_70 ?_
        refine va_get (D := D) (cl := vwCl) (ci := 0) (v := .ref (a_now 3)) (C := RX1) (T := TX1) (N := 13) hx hb hts inX1 hown hK hP 1 rfl rfl 4 (by decide) (hts (Cond.fieldLink RX3 141 "FrozenIn$Sea" "kinds" "[I") (List.mem_of_getElem? (i := 4) rfl)) (fun _ h9 => h9) rfl dX3_calms_73 ?_
        refine lv_iload_n hx hb dX3_calms_76 rfl (lv_at hl 1 rfl) ?_
        obtain ⟨hi48, h47⟩ := ob_e h46
        refine va_iald hx hb hK hP 4 0 rfl rfl hi48 dX3_calms_77 ?_
        refine lv_aload_n hx hb dX3_calms_78 rfl (lv_at hl 0 rfl) ?_
        refine va_get (D := D) (cl := vwCl) (ci := 2) (v := .ref (a_now 0)) (C := RX3) (T := TX3) (N := 12) hx hb hts inX3 hown hK hP 0 rfl rfl 0 (by decide) (hts (Cond.fieldLink RX3 10 "FrozenIn" "now" "LFrozenIn$Sea;") (List.mem_of_getElem? (i := 2) rfl)) (fun _ h9 => h9) rfl dX3_calms_79 ?_
        refine va_get (D := D) (cl := vwCl) (ci := 0) (v := .int g_now_month) (C := RX1) (T := TX1) (N := 13) hx hb hts inX1 hown hK hP 1 rfl rfl 0 (by decide) (hts (Cond.fieldLink RX3 138 "FrozenIn$Sea" "month" "I") (List.mem_of_getElem? (i := 5) rfl)) (fun _ h9 => h9) rfl dX3_calms_82 ?_
        refine lv_iload hx hb dX3_calms_85 (lv_at hl 5 rfl) ?_
        refine lv_iadd hx hb dX3_calms_87 ?_
        refine lv_iload_n hx hb dX3_calms_88 rfl (lv_at hl 3 rfl) ?_
        obtain ⟨u49, hu50, h51⟩ := bd_e h47
        refine kw_V (wc := [oX3 a a_now a_spare a_text g_above g_below g_bads g_nos g_fulls, oX1 a_now g_now_month g_now_floes g_now_founds g_now_notes g_now_undos, rI cyI (a_now 1) 12 g_now_ways, rI cyI (a_now 2) 12 g_now_strengths, rJ cyJ (a 2) 36 z36, rJ cyJ (a 3) 36 z37]) (wr := [rI cyI (a_now 3) 5 g_now_kinds, rI cyI (a_now 4) 5 g_now_cells]) (ws' := [oX3 a a_now a_spare a_text g_above g_below g_bads g_nos g_fulls, oX1 a_now g_now_month g_now_floes g_now_founds g_now_notes g_now_undos, rI cyI (a_now 1) 12 g_now_ways, rI cyI (a_now 2) 12 g_now_strengths, rI cyI (a_now 3) 5 g_now_kinds, rI cyI (a_now 4) 5 g_now_cells, rJ cyJ (a 2) 36 u49.1, rJ cyJ (a 3) 36 u49.2]) (va_runV (As := [.int (g_now_kinds p1.toNatClampNeg), .int (g_now_month + x35), .int p3]) (rest := []) ⟨hx, hb, hml, hown, hts⟩ (c_X3_driftOdds l D cyI cyJ cyS N a a_now a_spare a_text g_above g_below g_bads g_nos g_fulls g_now_month g_now_floes g_now_founds g_now_notes g_now_undos g_now_ways g_now_strengths z36 z37 (g_now_kinds p1.toNatClampNeg) (g_now_month + x35) p3 H42.size u49 hu50) (cwV 3 hts gX3_calms_X3_driftOdds rfl rfl rfl (by decide +kernel) ⟨(Nat.le_of_ble_eq_true rfl), (Nat.le_of_ble_eq_true rfl)⟩) (preW_V (hP.sub (ws' := [oX3 a a_now a_spare a_text g_above g_below g_bads g_nos g_fulls, oX1 a_now g_now_month g_now_floes g_now_founds g_now_notes g_now_undos, rI cyI (a_now 1) 12 g_now_ways, rI cyI (a_now 2) 12 g_now_strengths, rJ cyJ (a 2) 36 z36, rJ cyJ (a 3) 36 z37]) [0, 1, 2, 3, 6, 7] rfl) (hD.sub (ws' := [oX3 a a_now a_spare a_text g_above g_below g_bads g_nos g_fulls, oX1 a_now g_now_month g_now_floes g_now_founds g_now_notes g_now_undos, rI cyI (a_now 1) 12 g_now_ways, rI cyI (a_now 2) 12 g_now_strengths, rJ cyJ (a 2) 36 z36, rJ cyJ (a 3) 36 z37]) [0, 1, 2, 3, 6, 7] (by decide) rfl) hKK (va_recv hK hP (ci := 2) (q0 := 0) rfl rfl)) rfl rfl hl.1 rfl (lv_room (Nat.le_of_ble_eq_true rfl)) dX3_calms_89 ⟨Nat.zero_le _, Nat.zero_le _⟩) hP hD hS hA [0, 1, 2, 3, 6, 7] [4, 5] [2, 3, 4, 5, 0, 1, 6, 7] rfl rfl (by decide) (by decide) rfl (by decide) (fun H52 L53 hP hD hS => ?_)
        refine lv_lload hx hb dX3_calms_92 (lv_at hl 4 rfl) ?_
        refine lv_ldc2 (v := 10) hx hb hown (hts (Cond.constantLong RX3 217 (10)) (List.mem_of_getElem? (i := 6) rfl)) dX3_calms_94 ?_
        refine lv_lmul hx hb dX3_calms_97 ?_
        obtain ⟨x54, ex54, h55⟩ := lt_e h51
        refine lv_nml ex54 ?_
        refine lv_lstore (lv' := [(4, .long x54), (0, .ref (a 0)), (1, .int p1), (2, .int p2), (3, .int p3), (6, .int x35)]) hx hb dX3_calms_98 hl (by decide) rfl (fun ls hl => ?_)
        obtain ⟨x56, ex56, h57⟩ := lt_e h55
        refine lv_iinc (v := x56) (lv' := [(6, .int x56), (4, .long x54), (0, .ref (a 0)), (1, .int p1), (2, .int p2), (3, .int p3)]) hx hb dX3_calms_100 hl (k := 5) rfl (by rw [ex56]; rfl) (by decide) rfl (fun ls hl => ?_)
        refine lv_goto (tgt := 62) hx hb dX3_calms_103 (by decide) ?_
        exact ih x54 x56 u49.1 u49.2 _ _ _ h57 hP hD hS (lv_sub hl [2, 3, 4, 5, 1, 0] rfl)
  have L112 : ∀ (y66 : Int64) (y67 : Nat → Int64) (y68 : Nat → Int64) (k137 : Int64 → Option (Int32 × Int64 × Int64 × Int32 × (Nat → Int64) × (Nat → Int64))) (hk137 : ∀ (x69 : Int64) (H : Heap) (locs : List Loc) (ls : Array Slot), k137 x69 = some R0 → va_P D vwCl [oX3 a a_now a_spare a_text g_above g_below g_bads g_nos g_fulls, oX1 a_now g_now_month g_now_floes g_now_founds g_now_notes g_now_undos, rI cyI (a_now 1) 12 g_now_ways, rI cyI (a_now 2) 12 g_now_strengths, rI cyI (a_now 3) 5 g_now_kinds, rI cyI (a_now 4) 5 g_now_cells, rJ cyJ (a 2) 36 y67, rJ cyJ (a 3) 36 y68] H → va_D A [oX3 a a_now a_spare a_text g_above g_below g_bads g_nos g_fulls, oX1 a_now g_now_month g_now_floes g_now_founds g_now_notes g_now_undos, rI cyI (a_now 1) 12 g_now_ways, rI cyI (a_now 2) 12 g_now_strengths, rI cyI (a_now 3) 5 g_now_kinds, rI cyI (a_now 4) 5 g_now_cells, rJ cyJ (a 2) 36 y67, rJ cyJ (a 3) 36 y68] → va_S A s.heap H locs → lv_has ls 9 [(0, .ref (a 0)), (4, .long y66), (6, .long x69)] → W p l e (headSpec wsX3_calms rm_X3_calms).room s m ([.ref (a 0), .int p1, .int p2, .int p3] : List Value).toArray below meth c H locs 0 0 (MQ below (va_Qi (fun (r : Int32) (_ : Unit) => r = R0.1) (fun _ t => va_P D vwCl [oX3 a a_now a_spare a_text R0.2.1 R0.2.2.1 R0.2.2.2.1 g_nos g_fulls, oX1 a_now g_now_month g_now_floes g_now_founds g_now_notes g_now_undos, rI cyI (a_now 1) 12 g_now_ways, rI cyI (a_now 2) 12 g_now_strengths, rI cyI (a_now 3) 5 g_now_kinds, rI cyI (a_now 4) 5 g_now_cells, rJ cyJ (a 2) 36 R0.2.2.2.2.1, rJ cyJ (a 3) 36 R0.2.2.2.2.2] t.heap ∧ va_D A [oX3 a a_now a_spare a_text R0.2.1 R0.2.2.1 R0.2.2.2.1 g_nos g_fulls, oX1 a_now g_now_month g_now_floes g_now_founds g_now_notes g_now_undos, rI cyI (a_now 1) 12 g_now_ways, rI cyI (a_now 2) 12 g_now_strengths, rI cyI (a_now 3) 5 g_now_kinds, rI cyI (a_now 4) 5 g_now_cells, rJ cyJ (a 2) 36 R0.2.2.2.2.1, rJ cyJ (a 3) 36 R0.2.2.2.2.2]) A) ([.ref (a 0), .int p1, .int p2, .int p3] : List Value).toArray s 0 0 A) (F0 m 137 ls [])) (n : Nat), ∀ (x64 : Int64) (x65 : Int32) (H : Heap) (locs : List Loc) (ls : Array Slot), T_X3_calms_L112 N y67 k137 n x64 x65 = some R0 → va_P D vwCl [oX3 a a_now a_spare a_text g_above g_below g_bads g_nos g_fulls, oX1 a_now g_now_month g_now_floes g_now_founds g_now_notes g_now_undos, rI cyI (a_now 1) 12 g_now_ways, rI cyI (a_now 2) 12 g_now_strengths, rI cyI (a_now 3) 5 g_now_kinds, rI cyI (a_now 4) 5 g_now_cells, rJ cyJ (a 2) 36 y67, rJ cyJ (a 3) 36 y68] H → va_D A [oX3 a a_now a_spare a_text g_above g_below g_bads g_nos g_fulls, oX1 a_now g_now_month g_now_floes g_now_founds g_now_notes g_now_undos, rI cyI (a_now 1) 12 g_now_ways, rI cyI (a_now 2) 12 g_now_strengths, rI cyI (a_now 3) 5 g_now_kinds, rI cyI (a_now 4) 5 g_now_cells, rJ cyJ (a 2) 36 y67, rJ cyJ (a 3) 36 y68] → va_S A s.heap H locs → lv_has ls 9 [(0, .ref (a 0)), (4, .long y66), (6, .long x64), (8, .int x65)] → W p l e (headSpec wsX3_calms rm_X3_calms).room s m ([.ref (a 0), .int p1, .int p2, .int p3] : List Value).toArray below meth c H locs 0 0 (MQ below (va_Qi (fun (r : Int32) (_ : Unit) => r = R0.1) (fun _ t => va_P D vwCl [oX3 a a_now a_spare a_text R0.2.1 R0.2.2.1 R0.2.2.2.1 g_nos g_fulls, oX1 a_now g_now_month g_now_floes g_now_founds g_now_notes g_now_undos, rI cyI (a_now 1) 12 g_now_ways, rI cyI (a_now 2) 12 g_now_strengths, rI cyI (a_now 3) 5 g_now_kinds, rI cyI (a_now 4) 5 g_now_cells, rJ cyJ (a 2) 36 R0.2.2.2.2.1, rJ cyJ (a 3) 36 R0.2.2.2.2.2] t.heap ∧ va_D A [oX3 a a_now a_spare a_text R0.2.1 R0.2.2.1 R0.2.2.2.1 g_nos g_fulls, oX1 a_now g_now_month g_now_floes g_now_founds g_now_notes g_now_undos, rI cyI (a_now 1) 12 g_now_ways, rI cyI (a_now 2) 12 g_now_strengths, rI cyI (a_now 3) 5 g_now_kinds, rI cyI (a_now 4) 5 g_now_cells, rJ cyJ (a 2) 36 R0.2.2.2.2.1, rJ cyJ (a 3) 36 R0.2.2.2.2.2]) A) ([.ref (a 0), .int p1, .int p2, .int p3] : List Value).toArray s 0 0 A) (F0 m 112 ls []) := by
    intro y66 y67 y68 k137 hk137 n
    induction n with
    | zero => intro _ _ _ _ _ h; exact absurd h (fun z => by cases z)
    | succ n ih =>
      intro x64 x65 H71 L72 ls h70 hP hD hS hl
      rw [T_X3_calms_L112_s] at h70
      refine lv_iload hx hb dX3_calms_112 (lv_at hl 3 rfl) ?_
      refine lv_bipush (v := 36) hx hb dX3_calms_114 (by decide) ?_
      refine lv_icmp_ge (tgt := 137) hx hb dX3_calms_116 (by decide) (fun c73 => ?_) (fun c73 => ?_)
      · have h74 := (if_pos c73).symm.trans h70
        exact hk137 x64 _ _ _ h74 hP hD hS (lv_sub hl [0, 1, 2] rfl)
      · have h75 := (if_neg c73).symm.trans h70
        refine lv_lload hx hb dX3_calms_119 (lv_at hl 2 rfl) ?_
        refine lv_aload_n hx hb dX3_calms_121 rfl (lv_at hl 0 rfl) ?_
        refine va_get (D := D) (cl := vwCl) (ci := 2) (v := .ref (a 2)) (C := RX3) (T := TX3) (N := 12) hx hb hts inX3 hown hK hP 0 rfl rfl 4 (by decide) (hts (Cond.fieldLink RX3 30 "FrozenIn" "odds" "[J") (List.mem_of_getElem? (i := 1) rfl)) (fun _ h9 => h9) rfl dX3_calms_122 ?_
        refine lv_iload hx hb dX3_calms_125 (lv_at hl 3 rfl) ?_
        obtain ⟨hi77, h76⟩ := ob_e h75
        refine va_lald hx hb hK hP 6 1 rfl rfl hi77 dX3_calms_127 ?_
        refine lv_ladd hx hb dX3_calms_128 ?_
        obtain ⟨x78, ex78, h79⟩ := lt_e h76
        refine lv_nml ex78 ?_
        refine lv_lstore (lv' := [(6, .long x78), (0, .ref (a 0)), (4, .long y66), (8, .int x65)]) hx hb dX3_calms_129 hl (by decide) rfl (fun ls hl => ?_)
        obtain ⟨x80, ex80, h81⟩ := lt_e h79
        refine lv_iinc (v := x80) (lv' := [(8, .int x80), (6, .long x78), (0, .ref (a 0)), (4, .long y66)]) hx hb dX3_calms_131 hl (k := 3) rfl (by rw [ex80]; rfl) (by decide) rfl (fun ls hl => ?_)
        refine lv_goto (tgt := 112) hx hb dX3_calms_134 (by decide) ?_
        exact ih x78 x80 _ _ _ h81 hP hD hS (lv_sub hl [2, 3, 1, 0] rfl)
  unfold T_X3_calms at hT
  refine lv_aload_n hx hb dX3_calms_0 rfl (lv_at hl 0 rfl) ?_
  refine lv_iload_n hx hb dX3_calms_1 rfl (lv_at hl 1 rfl) ?_
  refine kc_Z (W.runV (As := [.int p1]) (rest := []) ⟨hx, hb, hml, hown, hts⟩ (c_X3_isFloe l D cyI cyJ cyS a a_now a_spare a_text g_above g_below g_bads g_nos g_fulls g_now_month g_now_floes g_now_founds g_now_notes g_now_undos p1 (T_X3_isFloe g_now_floes p1) rfl) (cwV 1 hts gX3_calms_X3_isFloe rfl rfl rfl (by decide +kernel) ⟨(Nat.le_of_ble_eq_true rfl), (Nat.le_of_ble_eq_true rfl)⟩) (preR_V (hP.sub (ws' := [oX3 a a_now a_spare a_text g_above g_below g_bads g_nos g_fulls, oX1 a_now g_now_month g_now_floes g_now_founds g_now_notes g_now_undos]) [0, 1] rfl) hKK (va_recv hK hP (ci := 2) (q0 := 0) rfl rfl)) rfl rfl hl.1 rfl (lv_room (Nat.le_of_ble_eq_true rfl)) dX3_calms_2 ⟨Nat.zero_le _, Nat.zero_le _⟩) (fun hn1 => ?_)
  obtain ⟨j2, hj3, h4⟩ := jn_e hT
  have Jj2 : ∀ (H : Heap) (locs : List Loc) (ls : Array Slot), j2 = some R0 → va_P D vwCl [oX3 a a_now a_spare a_text g_above g_below g_bads g_nos g_fulls, oX1 a_now g_now_month g_now_floes g_now_founds g_now_notes g_now_undos, rI cyI (a_now 1) 12 g_now_ways, rI cyI (a_now 2) 12 g_now_strengths, rI cyI (a_now 3) 5 g_now_kinds, rI cyI (a_now 4) 5 g_now_cells, rJ cyJ (a 2) 36 g_odds, rJ cyJ (a 3) 36 g_nextOdds] H → va_D A [oX3 a a_now a_spare a_text g_above g_below g_bads g_nos g_fulls, oX1 a_now g_now_month g_now_floes g_now_founds g_now_notes g_now_undos, rI cyI (a_now 1) 12 g_now_ways, rI cyI (a_now 2) 12 g_now_strengths, rI cyI (a_now 3) 5 g_now_kinds, rI cyI (a_now 4) 5 g_now_cells, rJ cyJ (a 2) 36 g_odds, rJ cyJ (a 3) 36 g_nextOdds] → va_S A s.heap H locs → lv_has ls 9 [(0, .ref (a 0))] → W p l e (headSpec wsX3_calms rm_X3_calms).room s m ([.ref (a 0), .int p1, .int p2, .int p3] : List Value).toArray below meth c H locs 0 0 (MQ below (va_Qi (fun (r : Int32) (_ : Unit) => r = R0.1) (fun _ t => va_P D vwCl [oX3 a a_now a_spare a_text R0.2.1 R0.2.2.1 R0.2.2.2.1 g_nos g_fulls, oX1 a_now g_now_month g_now_floes g_now_founds g_now_notes g_now_undos, rI cyI (a_now 1) 12 g_now_ways, rI cyI (a_now 2) 12 g_now_strengths, rI cyI (a_now 3) 5 g_now_kinds, rI cyI (a_now 4) 5 g_now_cells, rJ cyJ (a 2) 36 R0.2.2.2.2.1, rJ cyJ (a 3) 36 R0.2.2.2.2.2] t.heap ∧ va_D A [oX3 a a_now a_spare a_text R0.2.1 R0.2.2.1 R0.2.2.2.1 g_nos g_fulls, oX1 a_now g_now_month g_now_floes g_now_founds g_now_notes g_now_undos, rI cyI (a_now 1) 12 g_now_ways, rI cyI (a_now 2) 12 g_now_strengths, rI cyI (a_now 3) 5 g_now_kinds, rI cyI (a_now 4) 5 g_now_cells, rJ cyJ (a 2) 36 R0.2.2.2.2.1, rJ cyJ (a 3) 36 R0.2.2.2.2.2]) A) ([.ref (a 0), .int p1, .int p2, .int p3] : List Value).toArray s 0 0 A) (F0 m 28 ls []) := by
    intro H6 L7 ls h5 hP hD hS hl
    rw [hj3] at h5
    refine lv_aload_n hx hb dX3_calms_28 rfl (lv_at hl 0 rfl) ?_
    obtain ⟨u8, hu9, h10⟩ := lt_e h5
    refine kw_I (wc := [oX3 a a_now a_spare a_text g_above g_below g_bads g_nos g_fulls]) (wr := [oX1 a_now g_now_month g_now_floes g_now_founds g_now_notes g_now_undos, rI cyI (a_now 1) 12 g_now_ways, rI cyI (a_now 2) 12 g_now_strengths, rI cyI (a_now 3) 5 g_now_kinds, rI cyI (a_now 4) 5 g_now_cells, rJ cyJ (a 2) 36 g_odds, rJ cyJ (a 3) 36 g_nextOdds]) (ws' := [oX3 a a_now a_spare a_text g_above g_below u8.2 g_nos g_fulls, oX1 a_now g_now_month g_now_floes g_now_founds g_now_notes g_now_undos, rI cyI (a_now 1) 12 g_now_ways, rI cyI (a_now 2) 12 g_now_strengths, rI cyI (a_now 3) 5 g_now_kinds, rI cyI (a_now 4) 5 g_now_cells, rJ cyJ (a 2) 36 g_odds, rJ cyJ (a 3) 36 g_nextOdds]) (va_runV (As := []) (rest := []) ⟨hx, hb, hml, hown, hts⟩ (c_X3_refuseBad l D cyI cyJ cyS a a_now a_spare a_text g_above g_below g_bads g_nos g_fulls H6.size u8 hu9.symm) (cwV 0 hts gX3_calms_X3_refuseBad rfl rfl rfl (by decide +kernel) ⟨(Nat.le_of_ble_eq_true rfl), (Nat.le_of_ble_eq_true rfl)⟩) (preW_V (hP.sub (ws' := [oX3 a a_now a_spare a_text g_above g_below g_bads g_nos g_fulls]) [0] rfl) (hD.sub (ws' := [oX3 a a_now a_spare a_text g_above g_below g_bads g_nos g_fulls]) [0] (by decide) rfl) hKK (va_recv hK hP (ci := 2) (q0 := 0) rfl rfl)) rfl rfl hl.1 rfl (lv_room (Nat.le_of_ble_eq_true rfl)) dX3_calms_29 ⟨Nat.zero_le _, Nat.zero_le _⟩) hP hD hS hA [0] [1, 2, 3, 4, 5, 6, 7] [7, 0, 1, 2, 3, 4, 5, 6] rfl rfl (by decide) (by decide) rfl (by decide) (fun H11 L12 hP hD hS => ?_)
    rw [← Option.some.inj h10]
    exact W.iret (v := u8.1) hx hb hr (fun t ht hW => ⟨⟨u8.1, (), rfl, rfl, ⟨by rw [ht]; exact hP, hD⟩⟩, hS.F ht⟩) hS.2.2 dX3_calms_32
  refine lv_if_eq (tgt := 28) hx hb dX3_calms_5 (by decide) (fun c13 => ?_) (fun c13 => ?_)
  · have h14 := (if_pos c13).symm.trans h4
    exact Jj2  _ _ _ h14 hP hD hS (lv_sub hl [0] rfl)
  · have h15 := (if_neg c13).symm.trans h4
    refine lv_iload_n hx hb dX3_calms_8 rfl (lv_at hl 2 rfl) ?_
    refine lv_iconst (v := 0) hx hb dX3_calms_9 (by decide) ?_
    refine lv_bipush (v := 8) hx hb dX3_calms_10 (by decide) ?_
    refine kc_Z (W.runS (As := [.int p2, .int 0, .int 8]) (rest := []) ⟨hx, hb, hml, hown, hts⟩ (c_X3_within l p2 0 8 (T_X3_within p2 0 8) rfl) (va_cwS 3 hts gX3_calms_X3_within rfl rfl rfl (by decide +kernel) ⟨(Nat.le_of_ble_eq_true rfl), (Nat.le_of_ble_eq_true rfl)⟩) preT_S rfl rfl hl.1 rfl (lv_room (Nat.le_of_ble_eq_true rfl)) dX3_calms_12 ⟨Nat.zero_le _, Nat.zero_le _⟩) (fun hn16 => ?_)
    refine lv_if_eq (tgt := 28) hx hb dX3_calms_15 (by decide) (fun c17 => ?_) (fun c17 => ?_)
    · have h18 := (if_pos c17).symm.trans h15
      exact Jj2  _ _ _ h18 hP hD hS (lv_sub hl [0] rfl)
    · have h19 := (if_neg c17).symm.trans h15
      refine lv_iload_n hx hb dX3_calms_18 rfl (lv_at hl 3 rfl) ?_
      refine lv_iconst (v := 0) hx hb dX3_calms_19 (by decide) ?_
      refine lv_bipush (v := 10) hx hb dX3_calms_20 (by decide) ?_
      refine kc_Z (W.runS (As := [.int p3, .int 0, .int 10]) (rest := []) ⟨hx, hb, hml, hown, hts⟩ (c_X3_within l p3 0 10 (T_X3_within p3 0 10) rfl) (va_cwS 3 hts gX3_calms_X3_within rfl rfl rfl (by decide +kernel) ⟨(Nat.le_of_ble_eq_true rfl), (Nat.le_of_ble_eq_true rfl)⟩) preT_S rfl rfl hl.1 rfl (lv_room (Nat.le_of_ble_eq_true rfl)) dX3_calms_22 ⟨Nat.zero_le _, Nat.zero_le _⟩) (fun hn20 => ?_)
      refine lv_if_ne (tgt := 33) hx hb dX3_calms_25 (by decide) (fun c21 => ?_) (fun c21 => ?_)
      · have h22 := (if_neg c21).symm.trans h19
        refine lv_aload_n hx hb dX3_calms_33 rfl (lv_at hl 0 rfl) ?_
        refine va_get (D := D) (cl := vwCl) (ci := 2) (v := .ref (a 2)) (C := RX3) (T := TX3) (N := 12) hx hb hts inX3 hown hK hP 0 rfl rfl 4 (by decide) (hts (Cond.fieldLink RX3 30 "FrozenIn" "odds" "[J") (List.mem_of_getElem? (i := 1) rfl)) (fun _ h9 => h9) rfl dX3_calms_34 ?_
        refine lv_lconst (v := 0) hx hb dX3_calms_37 (by decide) ?_
        obtain ⟨u23, hu24, h25⟩ := bd_e h22
        refine kw_V (wc := [rJ cyJ (a 2) 36 g_odds]) (wr := [oX3 a a_now a_spare a_text g_above g_below g_bads g_nos g_fulls, oX1 a_now g_now_month g_now_floes g_now_founds g_now_notes g_now_undos, rI cyI (a_now 1) 12 g_now_ways, rI cyI (a_now 2) 12 g_now_strengths, rI cyI (a_now 3) 5 g_now_kinds, rI cyI (a_now 4) 5 g_now_cells, rJ cyJ (a 3) 36 g_nextOdds]) (ws' := [oX3 a a_now a_spare a_text g_above g_below g_bads g_nos g_fulls, oX1 a_now g_now_month g_now_floes g_now_founds g_now_notes g_now_undos, rI cyI (a_now 1) 12 g_now_ways, rI cyI (a_now 2) 12 g_now_strengths, rI cyI (a_now 3) 5 g_now_kinds, rI cyI (a_now 4) 5 g_now_cells, rJ cyJ (a 2) 36 u23, rJ cyJ (a 3) 36 g_nextOdds]) (va_runS (As := [.ref (a 2), .long 0]) (rest := []) ⟨hx, hb, hml, hown, hts⟩ (c_J7_fill_d0a16 l D cyI cyJ cyS N (a 2) 36 g_odds 0 s.heap.size u23 hu24) (va_cwS 2 hts gX3_calms_J7_fill_d0a16 rfl rfl rfl (by decide +kernel) ⟨(Nat.le_of_ble_eq_true rfl), (Nat.le_of_ble_eq_true rfl)⟩) (preW_S (hP.sub (ws' := [rJ cyJ (a 2) 36 g_odds]) [6] rfl) (hD.sub (ws' := [rJ cyJ (a 2) 36 g_odds]) [6] (by decide) rfl) hKK) rfl rfl hl.1 rfl (lv_room (Nat.le_of_ble_eq_true rfl)) dX3_calms_38 ⟨Nat.zero_le _, Nat.zero_le _⟩) hP hD hS hA [6] [0, 1, 2, 3, 4, 5, 7] [0, 1, 2, 3, 4, 5, 7, 6] rfl rfl (by decide) (by decide) rfl (by decide) (fun H26 L27 hP hD hS => ?_)
        refine lv_aload_n hx hb dX3_calms_41 rfl (lv_at hl 0 rfl) ?_
        refine va_get (D := D) (cl := vwCl) (ci := 2) (v := .ref (a 2)) (C := RX3) (T := TX3) (N := 12) hx hb hts inX3 hown hK hP 0 rfl rfl 4 (by decide) (hts (Cond.fieldLink RX3 30 "FrozenIn" "odds" "[J") (List.mem_of_getElem? (i := 1) rfl)) (fun _ h9 => h9) rfl dX3_calms_42 ?_
        refine lv_aload_n hx hb dX3_calms_45 rfl (lv_at hl 0 rfl) ?_
        refine va_get (D := D) (cl := vwCl) (ci := 2) (v := .ref (a_now 0)) (C := RX3) (T := TX3) (N := 12) hx hb hts inX3 hown hK hP 0 rfl rfl 0 (by decide) (hts (Cond.fieldLink RX3 10 "FrozenIn" "now" "LFrozenIn$Sea;") (List.mem_of_getElem? (i := 2) rfl)) (fun _ h9 => h9) rfl dX3_calms_46 ?_
        refine va_get (D := D) (cl := vwCl) (ci := 0) (v := .ref (a_now 4)) (C := RX1) (T := TX1) (N := 13) hx hb hts inX1 hown hK hP 1 rfl rfl 5 (by decide) (hts (Cond.fieldLink RX3 126 "FrozenIn$Sea" "cells" "[I") (List.mem_of_getElem? (i := 3) rfl)) (fun _ h9 => h9) rfl dX3_calms_49 ?_
        refine lv_iload_n hx hb dX3_calms_52 rfl (lv_at hl 1 rfl) ?_
        obtain ⟨hi29, h28⟩ := ob_e h25
        refine va_iald hx hb hK hP 5 0 rfl rfl hi29 dX3_calms_53 ?_
        refine lv_lconst (v := 1) hx hb dX3_calms_54 (by decide) ?_
        obtain ⟨hi31, h30⟩ := ob_e h28
        refine va_last hx hb hK hP hD hS 6 1 rfl rfl hi31 dX3_calms_55 (fun H32 L33 hP hD hS => ?_)
        have hP : va_P D vwCl [oX3 a a_now a_spare a_text g_above g_below g_bads g_nos g_fulls, oX1 a_now g_now_month g_now_floes g_now_founds g_now_notes g_now_undos, rI cyI (a_now 1) 12 g_now_ways, rI cyI (a_now 2) 12 g_now_strengths, rI cyI (a_now 3) 5 g_now_kinds, rI cyI (a_now 4) 5 g_now_cells, rJ cyJ (a 2) 36 (vp_updL u23 (g_now_cells p1.toNatClampNeg).toNatClampNeg 1), rJ cyJ (a 3) 36 g_nextOdds] H32 := hP
        have hD : va_D A [oX3 a a_now a_spare a_text g_above g_below g_bads g_nos g_fulls, oX1 a_now g_now_month g_now_floes g_now_founds g_now_notes g_now_undos, rI cyI (a_now 1) 12 g_now_ways, rI cyI (a_now 2) 12 g_now_strengths, rI cyI (a_now 3) 5 g_now_kinds, rI cyI (a_now 4) 5 g_now_cells, rJ cyJ (a 2) 36 (vp_updL u23 (g_now_cells p1.toNatClampNeg).toNatClampNeg 1), rJ cyJ (a 3) 36 g_nextOdds] := hD
        refine lv_lconst (v := 1) hx hb dX3_calms_56 (by decide) ?_
        refine lv_lstore (lv' := [(4, .long 1), (0, .ref (a 0)), (1, .int p1), (2, .int p2), (3, .int p3)]) hx hb dX3_calms_57 hl (by decide) rfl (fun ls hl => ?_)
        refine lv_iconst (v := 0) hx hb dX3_calms_59 (by decide) ?_
        refine lv_istore (lv' := [(6, .int 0), (4, .long 1), (0, .ref (a 0)), (1, .int p1), (2, .int p2), (3, .int p3)]) hx hb dX3_calms_60 hl (by decide) rfl (fun ls hl => ?_)
        refine L62 _ (fun x58 z59 z60 H62 L63 ls h61 hP hD hS hl => ?_) N 1 0 (vp_updL u23 (g_now_cells p1.toNatClampNeg).toNatClampNeg 1) g_nextOdds _ _ _ h30 hP hD hS (lv_sub hl [2, 3, 4, 5, 1, 0] rfl)
        refine lv_lconst (v := 0) hx hb dX3_calms_106 (by decide) ?_
        refine lv_lstore (lv' := [(6, .long 0), (0, .ref (a 0)), (4, .long x58)]) hx hb dX3_calms_107 hl (by decide) rfl (fun ls hl => ?_)
        refine lv_iconst (v := 5) hx hb dX3_calms_109 (by decide) ?_
        refine lv_istore (lv' := [(8, .int 5), (6, .long 0), (0, .ref (a 0)), (4, .long x58)]) hx hb dX3_calms_110 hl (by decide) rfl (fun ls hl => ?_)
        refine L112 x58 z59 z60 _ (fun x82 H84 L85 ls h83 hP hD hS hl => ?_) N 0 5 _ _ _ h61 hP hD hS (lv_sub hl [2, 3, 1, 0] rfl)
        refine lv_aload_n hx hb dX3_calms_137 rfl (lv_at hl 0 rfl) ?_
        refine lv_lload hx hb dX3_calms_138 (lv_at hl 2 rfl) ?_
        refine lv_lload hx hb dX3_calms_140 (lv_at hl 1 rfl) ?_
        obtain ⟨u86, hu87, h88⟩ := bd_e h83
        refine kw_V (wc := [oX3 a a_now a_spare a_text g_above g_below g_bads g_nos g_fulls]) (wr := [oX1 a_now g_now_month g_now_floes g_now_founds g_now_notes g_now_undos, rI cyI (a_now 1) 12 g_now_ways, rI cyI (a_now 2) 12 g_now_strengths, rI cyI (a_now 3) 5 g_now_kinds, rI cyI (a_now 4) 5 g_now_cells, rJ cyJ (a 2) 36 z59, rJ cyJ (a 3) 36 z60]) (ws' := [oX3 a a_now a_spare a_text u86.1 u86.2 g_bads g_nos g_fulls, oX1 a_now g_now_month g_now_floes g_now_founds g_now_notes g_now_undos, rI cyI (a_now 1) 12 g_now_ways, rI cyI (a_now 2) 12 g_now_strengths, rI cyI (a_now 3) 5 g_now_kinds, rI cyI (a_now 4) 5 g_now_cells, rJ cyJ (a 2) 36 z59, rJ cyJ (a 3) 36 z60]) (va_runV (As := [.long x82, .long x58]) (rest := []) ⟨hx, hb, hml, hown, hts⟩ (c_X3_setFraction l D cyI cyJ cyS N a a_now a_spare a_text g_above g_below g_bads g_nos g_fulls x82 x58 H84.size u86 hu87) (cwV 2 hts gX3_calms_X3_setFraction rfl rfl rfl (by decide +kernel) ⟨(Nat.le_of_ble_eq_true rfl), (Nat.le_of_ble_eq_true rfl)⟩) (preW_V (hP.sub (ws' := [oX3 a a_now a_spare a_text g_above g_below g_bads g_nos g_fulls]) [0] rfl) (hD.sub (ws' := [oX3 a a_now a_spare a_text g_above g_below g_bads g_nos g_fulls]) [0] (by decide) rfl) hKK (va_recv hK hP (ci := 2) (q0 := 0) rfl rfl)) rfl rfl hl.1 rfl (lv_room (Nat.le_of_ble_eq_true rfl)) dX3_calms_142 ⟨Nat.zero_le _, Nat.zero_le _⟩) hP hD hS hA [0] [1, 2, 3, 4, 5, 6, 7] [7, 0, 1, 2, 3, 4, 5, 6] rfl rfl (by decide) (by decide) rfl (by decide) (fun H89 L90 hP hD hS => ?_)
        refine lv_iconst (v := 1) hx hb dX3_calms_145 (by decide) ?_
        rw [← Option.some.inj h88]
        exact W.iret (v := 1) hx hb hr (fun t ht hW => ⟨⟨1, (), rfl, rfl, ⟨by rw [ht]; exact hP, hD⟩⟩, hS.F ht⟩) hS.2.2 dX3_calms_146
      · have h91 := (if_pos c21).symm.trans h19
        exact Jj2  _ _ _ h91 hP hD hS (lv_sub hl [0] rfl)
def T_X3_years_L30 (N : Nat) (p1 : Int32) (p2 : Int32) (g_bads : Int32) (g_now_month : Int32) (g_now_floes : Int32) (g_now_kinds : Nat → Int32) (g_now_cells : Nat → Int32)  : Nat → Int32 → Int32 → Option (Int32 × Int32)
  | 0, _, _ => none
  | n + 1, x19, x20 => (if g_now_floes ≤ x20 then (some (x19, g_bads)) else (Option.bind (T_X1_cellBySeed N g_now_month g_now_kinds g_now_cells x20 p1 p2) fun u27 => (jn (fun (x31 : Int32) => (lt' (x20 + 1) fun x38 => (T_X3_years_L30 N p1 p2 g_bads g_now_month g_now_floes g_now_kinds g_now_cells n x31 x38))) fun j32 => (if (T_X3_isOut u27) = 0 then (j32 x19) else (lt' (x19 + 1) fun x43 => (j32 x43))))))
theorem T_X3_years_L30_s (N : Nat) (p1 : Int32) (p2 : Int32) (g_bads : Int32) (g_now_month : Int32) (g_now_floes : Int32) (g_now_kinds : Nat → Int32) (g_now_cells : Nat → Int32)  (n : Nat) (x19 : Int32) (x20 : Int32) : T_X3_years_L30 N p1 p2 g_bads g_now_month g_now_floes g_now_kinds g_now_cells  (n + 1) x19 x20 = (if g_now_floes ≤ x20 then (some (x19, g_bads)) else (Option.bind (T_X1_cellBySeed N g_now_month g_now_kinds g_now_cells x20 p1 p2) fun u27 => (jn (fun (x31 : Int32) => (lt' (x20 + 1) fun x38 => (T_X3_years_L30 N p1 p2 g_bads g_now_month g_now_floes g_now_kinds g_now_cells n x31 x38))) fun j32 => (if (T_X3_isOut u27) = 0 then (j32 x19) else (lt' (x19 + 1) fun x43 => (j32 x43)))))) := rfl
def T_X3_years (N : Nat) (g_bads : Int32) (g_now_month : Int32) (g_now_floes : Int32) (g_now_kinds : Nat → Int32) (g_now_cells : Nat → Int32) (p1 : Int32) (p2 : Int32) : Option (Int32 × Int32) :=
  (jn (lt' (T_X3_refuseBad g_bads) fun u8 => (some (u8.1, u8.2))) fun j2 => (if (T_X3_within p1 0 999999) = 0 then j2 else (if (T_X3_within p2 0 60) = 0 then j2 else (T_X3_years_L30 N p1 p2 g_bads g_now_month g_now_floes g_now_kinds g_now_cells N 0 0))))
abbrev rm_X3_years : Room := { frames := 3, cells := 0, slots := 0, locals := 80 }
set_option maxHeartbeats 4000000 in
set_option maxRecDepth 100000 in
theorem c_X3_years (l : Launch) (D : va_G) (cyI cyJ cyS : ClassId) (N : Nat) (a a_now a_spare a_text : Nat → Nat) (g_above : Int64) (g_below : Int64) (g_bads : Int32) (g_nos : Int32) (g_fulls : Int32) (g_now_month : Int32) (g_now_floes : Int32) (g_now_founds : Int32) (g_now_notes : Int32) (g_now_undos : Int32) (g_now_kinds : Nat → Int32) (g_now_cells : Nat → Int32) (p1 : Int32) (p2 : Int32) (sz : Nat) (R0 : Int32 × Int32) (hT : T_X3_years N g_bads g_now_month g_now_floes g_now_kinds g_now_cells p1 p2 = some R0) : Met l yX3_years wsX3_years rm_X3_years (va_Pc [.ref (a 0), .int p1, .int p2] (preW D (tyS cyI cyJ cyS) [oX3 a a_now a_spare a_text g_above g_below g_bads g_nos g_fulls, oX1 a_now g_now_month g_now_floes g_now_founds g_now_notes g_now_undos, rI cyI (a_now 3) 5 g_now_kinds, rI cyI (a_now 4) 5 g_now_cells] sz)) (va_Qi (fun (r : Int32) (_ : Unit) => r = R0.1) (fun _ t => va_P D vwCl [oX3 a a_now a_spare a_text g_above g_below R0.2 g_nos g_fulls, oX1 a_now g_now_month g_now_floes g_now_founds g_now_notes g_now_undos, rI cyI (a_now 3) 5 g_now_kinds, rI cyI (a_now 4) 5 g_now_cells] t.heap ∧ va_D (va_A [oX3 a a_now a_spare a_text g_above g_below g_bads g_nos g_fulls, oX1 a_now g_now_month g_now_floes g_now_founds g_now_notes g_now_undos, rI cyI (a_now 3) 5 g_now_kinds, rI cyI (a_now 4) 5 g_now_cells] sz) [oX3 a a_now a_spare a_text g_above g_below R0.2 g_nos g_fulls, oX1 a_now g_now_month g_now_floes g_now_founds g_now_notes g_now_undos, rI cyI (a_now 3) 5 g_now_kinds, rI cyI (a_now 4) 5 g_now_cells]) (va_A [oX3 a a_now a_spare a_text g_above g_below g_bads g_nos g_fulls, oX1 a_now g_now_month g_now_floes g_now_founds g_now_notes g_now_undos, rI cyI (a_now 3) 5 g_now_kinds, rI cyI (a_now 4) 5 g_now_cells] sz)) 0 0 (va_A [oX3 a a_now a_spare a_text g_above g_below g_bads g_nos g_fulls, oX1 a_now g_now_month g_now_floes g_now_founds g_now_notes g_now_undos, rI cyI (a_now 3) 5 g_now_kinds, rI cyI (a_now 4) 5 g_now_cells] sz) := by
  refine Met.ofW (cc := cX3_years) (maxL := 5) (ret := (some .int)) (by decide) rfl ?_
  intro p e s m args below meth c s₁ B hml hv
  obtain ⟨rfl, hsz, hP, hKK, hD0⟩ := hv
  have hx := B.exec
  have hb := B.bytes
  have hr := B.returns
  have hts := atoms_spec (ws := wsX3_years) B.pre
  have hown : s.vm.findClass RX3 = some m.cls := findClass_of_methodNamed B.named
  have hlocks := B.notSynchronized
  have hK := hKK.1
  have inX3 : ∀ w ∈ wsX30, w ∈ wsX3_years := (fun _ h => List.mem_cons_of_mem _ (List.mem_append_left _ (List.mem_append_right _ h)))
  have inX1 : ∀ w ∈ wsX10, w ∈ wsX3_years := (fun _ h => List.mem_cons_of_mem _ (List.mem_append_right _ h))
  subst hsz
  have hD := hD0.self (sz := s.heap.size)
  generalize hAe : va_A [oX3 a a_now a_spare a_text g_above g_below g_bads g_nos g_fulls, oX1 a_now g_now_month g_now_floes g_now_founds g_now_notes g_now_undos, rI cyI (a_now 3) 5 g_now_kinds, rI cyI (a_now 4) 5 g_now_cells] s.heap.size = A at hD ⊢
  have hA : ∀ q : Nat, s.heap.size ≤ q → A q := fun q h => by rw [← hAe]; exact Or.inr h
  have hS : va_S A s.heap s.heap [] := va_S.rf
  have hP : va_P D vwCl [oX3 a a_now a_spare a_text g_above g_below g_bads g_nos g_fulls, oX1 a_now g_now_month g_now_floes g_now_founds g_now_notes g_now_undos, rI cyI (a_now 3) 5 g_now_kinds, rI cyI (a_now 4) 5 g_now_cells] s.heap := hP
  have hl := lv_entry [.ref (a 0), .int p1, .int p2] (n := 5) (Nat.le_of_ble_eq_true rfl)
  rw [lg_entry_eq]
  generalize (lg_sl [.ref (a 0), .int p1, .int p2] ++ List.replicate (5 - (lg_sl [.ref (a 0), .int p1, .int p2]).length) Slot.unset).toArray = ls at hl ⊢
  have hl : lv_has ls 5 [(0, .ref (a 0)), (1, .int p1), (2, .int p2)] := hl
  have L30 : ∀ (n : Nat), ∀ (x19 : Int32) (x20 : Int32) (H : Heap) (locs : List Loc) (ls : Array Slot), T_X3_years_L30 N p1 p2 g_bads g_now_month g_now_floes g_now_kinds g_now_cells n x19 x20 = some R0 → va_P D vwCl [oX3 a a_now a_spare a_text g_above g_below g_bads g_nos g_fulls, oX1 a_now g_now_month g_now_floes g_now_founds g_now_notes g_now_undos, rI cyI (a_now 3) 5 g_now_kinds, rI cyI (a_now 4) 5 g_now_cells] H → va_D A [oX3 a a_now a_spare a_text g_above g_below g_bads g_nos g_fulls, oX1 a_now g_now_month g_now_floes g_now_founds g_now_notes g_now_undos, rI cyI (a_now 3) 5 g_now_kinds, rI cyI (a_now 4) 5 g_now_cells] → va_S A s.heap H locs → lv_has ls 5 [(0, .ref (a 0)), (1, .int p1), (2, .int p2), (3, .int x19), (4, .int x20)] → W p l e (headSpec wsX3_years rm_X3_years).room s m ([.ref (a 0), .int p1, .int p2] : List Value).toArray below meth c H locs 0 0 (MQ below (va_Qi (fun (r : Int32) (_ : Unit) => r = R0.1) (fun _ t => va_P D vwCl [oX3 a a_now a_spare a_text g_above g_below R0.2 g_nos g_fulls, oX1 a_now g_now_month g_now_floes g_now_founds g_now_notes g_now_undos, rI cyI (a_now 3) 5 g_now_kinds, rI cyI (a_now 4) 5 g_now_cells] t.heap ∧ va_D A [oX3 a a_now a_spare a_text g_above g_below R0.2 g_nos g_fulls, oX1 a_now g_now_month g_now_floes g_now_founds g_now_notes g_now_undos, rI cyI (a_now 3) 5 g_now_kinds, rI cyI (a_now 4) 5 g_now_cells]) A) ([.ref (a 0), .int p1, .int p2] : List Value).toArray s 0 0 A) (F0 m 30 ls []) := by
    intro n
    induction n with
    | zero => intro _ _ _ _ _ h; exact absurd h (fun z => by cases z)
    | succ n ih =>
      intro x19 x20 H22 L23 ls h21 hP hD hS hl
      rw [T_X3_years_L30_s] at h21
      refine lv_iload hx hb dX3_years_30 (lv_at hl 4 rfl) ?_
      refine lv_aload_n hx hb dX3_years_32 rfl (lv_at hl 0 rfl) ?_
      refine va_get (D := D) (cl := vwCl) (ci := 2) (v := .ref (a_now 0)) (C := RX3) (T := TX3) (N := 12) hx hb hts inX3 hown hK hP 0 rfl rfl 0 (by decide) (hts (Cond.fieldLink RX3 10 "FrozenIn" "now" "LFrozenIn$Sea;") (List.mem_of_getElem? (i := 2) rfl)) (fun _ h9 => h9) rfl dX3_years_33 ?_
      refine va_get (D := D) (cl := vwCl) (ci := 0) (v := .int g_now_floes) (C := RX1) (T := TX1) (N := 13) hx hb hts inX1 hown hK hP 1 rfl rfl 3 (by decide) (hts (Cond.fieldLink RX3 53 "FrozenIn$Sea" "floes" "I") (List.mem_of_getElem? (i := 3) rfl)) (fun _ h9 => h9) rfl dX3_years_36 ?_
      refine lv_icmp_ge (tgt := 68) hx hb dX3_years_39 (by decide) (fun c24 => ?_) (fun c24 => ?_)
      · have h25 := (if_pos c24).symm.trans h21
        refine lv_iload_n hx hb dX3_years_68 rfl (lv_at hl 3 rfl) ?_
        rw [← Option.some.inj h25]
        exact W.iret (v := x19) hx hb hr (fun t ht hW => ⟨⟨x19, (), rfl, rfl, ⟨by rw [ht]; exact hP, hD⟩⟩, hS.F ht⟩) hS.2.2 dX3_years_69
      · have h26 := (if_neg c24).symm.trans h21
        refine lv_aload_n hx hb dX3_years_42 rfl (lv_at hl 0 rfl) ?_
        refine va_get (D := D) (cl := vwCl) (ci := 2) (v := .ref (a_now 0)) (C := RX3) (T := TX3) (N := 12) hx hb hts inX3 hown hK hP 0 rfl rfl 0 (by decide) (hts (Cond.fieldLink RX3 10 "FrozenIn" "now" "LFrozenIn$Sea;") (List.mem_of_getElem? (i := 2) rfl)) (fun _ h9 => h9) rfl dX3_years_43 ?_
        refine lv_iload hx hb dX3_years_46 (lv_at hl 4 rfl) ?_
        refine lv_iload_n hx hb dX3_years_48 rfl (lv_at hl 1 rfl) ?_
        refine lv_iload_n hx hb dX3_years_49 rfl (lv_at hl 2 rfl) ?_
        obtain ⟨u27, hu28, h29⟩ := bd_e h26
        refine kc_I (W.runV (As := [.int x20, .int p1, .int p2]) (rest := []) ⟨hx, hb, hml, hown, hts⟩ (c_X1_cellBySeed l D cyI cyJ cyS N a_now g_now_month g_now_floes g_now_founds g_now_notes g_now_undos g_now_kinds g_now_cells x20 p1 p2 u27 hu28) (cwV 3 hts gX3_years_X1_cellBySeed rfl rfl rfl (by decide +kernel) ⟨(Nat.le_of_ble_eq_true rfl), (Nat.le_of_ble_eq_true rfl)⟩) (preR_V (hP.sub (ws' := [oX1 a_now g_now_month g_now_floes g_now_founds g_now_notes g_now_undos, rI cyI (a_now 3) 5 g_now_kinds, rI cyI (a_now 4) 5 g_now_cells]) [1, 2, 3] rfl) hKK (va_recv hK hP (ci := 0) (q0 := 1) rfl rfl)) rfl rfl hl.1 rfl (lv_room (Nat.le_of_ble_eq_true rfl)) dX3_years_50 ⟨Nat.zero_le _, Nat.zero_le _⟩) ?_
        refine kc_Z (W.runS (As := [.int u27]) (rest := []) ⟨hx, hb, hml, hown, hts⟩ (c_X3_isOut l u27 (T_X3_isOut u27) rfl) (va_cwS 1 hts gX3_years_X3_isOut rfl rfl rfl (by decide +kernel) ⟨(Nat.le_of_ble_eq_true rfl), (Nat.le_of_ble_eq_true rfl)⟩) preT_S rfl rfl hl.1 rfl (lv_room (Nat.le_of_ble_eq_true rfl)) dX3_years_53 ⟨Nat.zero_le _, Nat.zero_le _⟩) (fun hn30 => ?_)
        obtain ⟨j32, hj33, h34⟩ := jn_e h29
        have Jj32 : ∀ (x31 : Int32) (H : Heap) (locs : List Loc) (ls : Array Slot), j32 x31 = some R0 → va_P D vwCl [oX3 a a_now a_spare a_text g_above g_below g_bads g_nos g_fulls, oX1 a_now g_now_month g_now_floes g_now_founds g_now_notes g_now_undos, rI cyI (a_now 3) 5 g_now_kinds, rI cyI (a_now 4) 5 g_now_cells] H → va_D A [oX3 a a_now a_spare a_text g_above g_below g_bads g_nos g_fulls, oX1 a_now g_now_month g_now_floes g_now_founds g_now_notes g_now_undos, rI cyI (a_now 3) 5 g_now_kinds, rI cyI (a_now 4) 5 g_now_cells] → va_S A s.heap H locs → lv_has ls 5 [(0, .ref (a 0)), (1, .int p1), (2, .int p2), (3, .int x31), (4, .int x20)] → W p l e (headSpec wsX3_years rm_X3_years).room s m ([.ref (a 0), .int p1, .int p2] : List Value).toArray below meth c H locs 0 0 (MQ below (va_Qi (fun (r : Int32) (_ : Unit) => r = R0.1) (fun _ t => va_P D vwCl [oX3 a a_now a_spare a_text g_above g_below R0.2 g_nos g_fulls, oX1 a_now g_now_month g_now_floes g_now_founds g_now_notes g_now_undos, rI cyI (a_now 3) 5 g_now_kinds, rI cyI (a_now 4) 5 g_now_cells] t.heap ∧ va_D A [oX3 a a_now a_spare a_text g_above g_below R0.2 g_nos g_fulls, oX1 a_now g_now_month g_now_floes g_now_founds g_now_notes g_now_undos, rI cyI (a_now 3) 5 g_now_kinds, rI cyI (a_now 4) 5 g_now_cells]) A) ([.ref (a 0), .int p1, .int p2] : List Value).toArray s 0 0 A) (F0 m 62 ls []) := by
          intro x31 H36 L37 ls h35 hP hD hS hl
          rw [hj33] at h35
          obtain ⟨x38, ex38, h39⟩ := lt_e h35
          refine lv_iinc (v := x38) (lv' := [(4, .int x38), (0, .ref (a 0)), (1, .int p1), (2, .int p2), (3, .int x31)]) hx hb dX3_years_62 hl (k := 4) rfl (by rw [ex38]; rfl) (by decide) rfl (fun ls hl => ?_)
          refine lv_goto (tgt := 30) hx hb dX3_years_65 (by decide) ?_
          exact ih x31 x38 _ _ _ h39 hP hD hS (lv_sub hl [1, 2, 3, 4, 0] rfl)
        refine lv_if_eq (tgt := 62) hx hb dX3_years_56 (by decide) (fun c40 => ?_) (fun c40 => ?_)
        · have h41 := (if_pos c40).symm.trans h34
          exact Jj32 x19 _ _ _ h41 hP hD hS (lv_sub hl [0, 1, 2, 3, 4] rfl)
        · have h42 := (if_neg c40).symm.trans h34
          obtain ⟨x43, ex43, h44⟩ := lt_e h42
          refine lv_iinc (v := x43) (lv' := [(3, .int x43), (0, .ref (a 0)), (1, .int p1), (2, .int p2), (4, .int x20)]) hx hb dX3_years_59 hl (k := 3) rfl (by rw [ex43]; rfl) (by decide) rfl (fun ls hl => ?_)
          exact Jj32 x43 _ _ _ h44 hP hD hS (lv_sub hl [1, 2, 3, 0, 4] rfl)
  unfold T_X3_years at hT
  refine lv_iload_n hx hb dX3_years_0 rfl (lv_at hl 1 rfl) ?_
  refine lv_iconst (v := 0) hx hb dX3_years_1 (by decide) ?_
  refine lv_ldc (v := 999999) hx hb hown (hts (Cond.constant RX3 223 (999999)) (List.mem_of_getElem? (i := 1) rfl)) dX3_years_2 ?_
  refine kc_Z (W.runS (As := [.int p1, .int 0, .int 999999]) (rest := []) ⟨hx, hb, hml, hown, hts⟩ (c_X3_within l p1 0 999999 (T_X3_within p1 0 999999) rfl) (va_cwS 3 hts gX3_years_X3_within rfl rfl rfl (by decide +kernel) ⟨(Nat.le_of_ble_eq_true rfl), (Nat.le_of_ble_eq_true rfl)⟩) preT_S rfl rfl hl.1 rfl (lv_room (Nat.le_of_ble_eq_true rfl)) dX3_years_4 ⟨Nat.zero_le _, Nat.zero_le _⟩) (fun hn1 => ?_)
  obtain ⟨j2, hj3, h4⟩ := jn_e hT
  have Jj2 : ∀ (H : Heap) (locs : List Loc) (ls : Array Slot), j2 = some R0 → va_P D vwCl [oX3 a a_now a_spare a_text g_above g_below g_bads g_nos g_fulls, oX1 a_now g_now_month g_now_floes g_now_founds g_now_notes g_now_undos, rI cyI (a_now 3) 5 g_now_kinds, rI cyI (a_now 4) 5 g_now_cells] H → va_D A [oX3 a a_now a_spare a_text g_above g_below g_bads g_nos g_fulls, oX1 a_now g_now_month g_now_floes g_now_founds g_now_notes g_now_undos, rI cyI (a_now 3) 5 g_now_kinds, rI cyI (a_now 4) 5 g_now_cells] → va_S A s.heap H locs → lv_has ls 5 [(0, .ref (a 0))] → W p l e (headSpec wsX3_years rm_X3_years).room s m ([.ref (a 0), .int p1, .int p2] : List Value).toArray below meth c H locs 0 0 (MQ below (va_Qi (fun (r : Int32) (_ : Unit) => r = R0.1) (fun _ t => va_P D vwCl [oX3 a a_now a_spare a_text g_above g_below R0.2 g_nos g_fulls, oX1 a_now g_now_month g_now_floes g_now_founds g_now_notes g_now_undos, rI cyI (a_now 3) 5 g_now_kinds, rI cyI (a_now 4) 5 g_now_cells] t.heap ∧ va_D A [oX3 a a_now a_spare a_text g_above g_below R0.2 g_nos g_fulls, oX1 a_now g_now_month g_now_floes g_now_founds g_now_notes g_now_undos, rI cyI (a_now 3) 5 g_now_kinds, rI cyI (a_now 4) 5 g_now_cells]) A) ([.ref (a 0), .int p1, .int p2] : List Value).toArray s 0 0 A) (F0 m 20 ls []) := by
    intro H6 L7 ls h5 hP hD hS hl
    rw [hj3] at h5
    refine lv_aload_n hx hb dX3_years_20 rfl (lv_at hl 0 rfl) ?_
    obtain ⟨u8, hu9, h10⟩ := lt_e h5
    refine kw_I (wc := [oX3 a a_now a_spare a_text g_above g_below g_bads g_nos g_fulls]) (wr := [oX1 a_now g_now_month g_now_floes g_now_founds g_now_notes g_now_undos, rI cyI (a_now 3) 5 g_now_kinds, rI cyI (a_now 4) 5 g_now_cells]) (ws' := [oX3 a a_now a_spare a_text g_above g_below u8.2 g_nos g_fulls, oX1 a_now g_now_month g_now_floes g_now_founds g_now_notes g_now_undos, rI cyI (a_now 3) 5 g_now_kinds, rI cyI (a_now 4) 5 g_now_cells]) (va_runV (As := []) (rest := []) ⟨hx, hb, hml, hown, hts⟩ (c_X3_refuseBad l D cyI cyJ cyS a a_now a_spare a_text g_above g_below g_bads g_nos g_fulls H6.size u8 hu9.symm) (cwV 0 hts gX3_years_X3_refuseBad rfl rfl rfl (by decide +kernel) ⟨(Nat.le_of_ble_eq_true rfl), (Nat.le_of_ble_eq_true rfl)⟩) (preW_V (hP.sub (ws' := [oX3 a a_now a_spare a_text g_above g_below g_bads g_nos g_fulls]) [0] rfl) (hD.sub (ws' := [oX3 a a_now a_spare a_text g_above g_below g_bads g_nos g_fulls]) [0] (by decide) rfl) hKK (va_recv hK hP (ci := 2) (q0 := 0) rfl rfl)) rfl rfl hl.1 rfl (lv_room (Nat.le_of_ble_eq_true rfl)) dX3_years_21 ⟨Nat.zero_le _, Nat.zero_le _⟩) hP hD hS hA [0] [1, 2, 3] [3, 0, 1, 2] rfl rfl (by decide) (by decide) rfl (by decide) (fun H11 L12 hP hD hS => ?_)
    rw [← Option.some.inj h10]
    exact W.iret (v := u8.1) hx hb hr (fun t ht hW => ⟨⟨u8.1, (), rfl, rfl, ⟨by rw [ht]; exact hP, hD⟩⟩, hS.F ht⟩) hS.2.2 dX3_years_24
  refine lv_if_eq (tgt := 20) hx hb dX3_years_7 (by decide) (fun c13 => ?_) (fun c13 => ?_)
  · have h14 := (if_pos c13).symm.trans h4
    exact Jj2  _ _ _ h14 hP hD hS (lv_sub hl [0] rfl)
  · have h15 := (if_neg c13).symm.trans h4
    refine lv_iload_n hx hb dX3_years_10 rfl (lv_at hl 2 rfl) ?_
    refine lv_iconst (v := 0) hx hb dX3_years_11 (by decide) ?_
    refine lv_bipush (v := 60) hx hb dX3_years_12 (by decide) ?_
    refine kc_Z (W.runS (As := [.int p2, .int 0, .int 60]) (rest := []) ⟨hx, hb, hml, hown, hts⟩ (c_X3_within l p2 0 60 (T_X3_within p2 0 60) rfl) (va_cwS 3 hts gX3_years_X3_within rfl rfl rfl (by decide +kernel) ⟨(Nat.le_of_ble_eq_true rfl), (Nat.le_of_ble_eq_true rfl)⟩) preT_S rfl rfl hl.1 rfl (lv_room (Nat.le_of_ble_eq_true rfl)) dX3_years_14 ⟨Nat.zero_le _, Nat.zero_le _⟩) (fun hn16 => ?_)
    refine lv_if_ne (tgt := 25) hx hb dX3_years_17 (by decide) (fun c17 => ?_) (fun c17 => ?_)
    · have h18 := (if_neg c17).symm.trans h15
      refine lv_iconst (v := 0) hx hb dX3_years_25 (by decide) ?_
      refine lv_istore_n (lv' := [(3, .int 0), (0, .ref (a 0)), (1, .int p1), (2, .int p2)]) hx hb dX3_years_26 rfl hl (by decide) rfl (fun ls hl => ?_)
      refine lv_iconst (v := 0) hx hb dX3_years_27 (by decide) ?_
      refine lv_istore (lv' := [(4, .int 0), (3, .int 0), (0, .ref (a 0)), (1, .int p1), (2, .int p2)]) hx hb dX3_years_28 hl (by decide) rfl (fun ls hl => ?_)
      refine L30  N 0 0 _ _ _ h18 hP hD hS (lv_sub hl [2, 3, 4, 1, 0] rfl)
    · have h45 := (if_pos c17).symm.trans h15
      exact Jj2  _ _ _ h45 hP hD hS (lv_sub hl [0] rfl)
def T_X3_part (g_above : Int64) (g_below : Int64) (g_bads : Int32) (p1 : Int32) : Int64 × Int32 :=
  (if (T_X3_isFirstOrSecond p1) = 0 then (lt' (T_X3_refuseBad g_bads) fun u8 => (u8.1.toInt64, u8.2)) else (if p1 = 0 then (g_above, g_bads) else (g_below, g_bads)))
abbrev rm_X3_part : Room := { frames := 2, cells := 0, slots := 0, locals := 42 }
set_option maxHeartbeats 4000000 in
set_option maxRecDepth 100000 in
theorem c_X3_part (l : Launch) (D : va_G) (cyI cyJ cyS : ClassId) (a a_now a_spare a_text : Nat → Nat) (g_above : Int64) (g_below : Int64) (g_bads : Int32) (g_nos : Int32) (g_fulls : Int32) (p1 : Int32) (sz : Nat) (R0 : Int64 × Int32) (hT : T_X3_part g_above g_below g_bads p1 = R0) : Met l yX3_part wsX3_part rm_X3_part (va_Pc [.ref (a 0), .int p1] (preW D (tyS cyI cyJ cyS) [oX3 a a_now a_spare a_text g_above g_below g_bads g_nos g_fulls] sz)) (va_Ql (fun (r : Int64) (_ : Unit) => r = R0.1) (fun _ t => va_P D vwCl [oX3 a a_now a_spare a_text g_above g_below R0.2 g_nos g_fulls] t.heap ∧ va_D (va_A [oX3 a a_now a_spare a_text g_above g_below g_bads g_nos g_fulls] sz) [oX3 a a_now a_spare a_text g_above g_below R0.2 g_nos g_fulls]) (va_A [oX3 a a_now a_spare a_text g_above g_below g_bads g_nos g_fulls] sz)) 0 0 (va_A [oX3 a a_now a_spare a_text g_above g_below g_bads g_nos g_fulls] sz) := by
  refine Met.ofW (cc := cX3_part) (maxL := 2) (ret := (some .long)) (by decide) rfl ?_
  intro p e s m args below meth c s₁ B hml hv
  obtain ⟨rfl, hsz, hP, hKK, hD0⟩ := hv
  have hx := B.exec
  have hb := B.bytes
  have hr := B.returns
  have hts := atoms_spec (ws := wsX3_part) B.pre
  have hown : s.vm.findClass RX3 = some m.cls := findClass_of_methodNamed B.named
  have hlocks := B.notSynchronized
  have hK := hKK.1
  have inX3 : ∀ w ∈ wsX30, w ∈ wsX3_part := (fun _ h => List.mem_cons_of_mem _ (List.mem_append_right _ h))
  subst hsz
  have hD := hD0.self (sz := s.heap.size)
  generalize hAe : va_A [oX3 a a_now a_spare a_text g_above g_below g_bads g_nos g_fulls] s.heap.size = A at hD ⊢
  have hA : ∀ q : Nat, s.heap.size ≤ q → A q := fun q h => by rw [← hAe]; exact Or.inr h
  have hS : va_S A s.heap s.heap [] := va_S.rf
  have hP : va_P D vwCl [oX3 a a_now a_spare a_text g_above g_below g_bads g_nos g_fulls] s.heap := hP
  have hl := lv_entry [.ref (a 0), .int p1] (n := 2) (Nat.le_of_ble_eq_true rfl)
  rw [lg_entry_eq]
  generalize (lg_sl [.ref (a 0), .int p1] ++ List.replicate (2 - (lg_sl [.ref (a 0), .int p1]).length) Slot.unset).toArray = ls at hl ⊢
  have hl : lv_has ls 2 [(0, .ref (a 0)), (1, .int p1)] := hl
  unfold T_X3_part at hT
  refine lv_iload_n hx hb dX3_part_0 rfl (lv_at hl 1 rfl) ?_
  refine kc_Z (W.runS (As := [.int p1]) (rest := []) ⟨hx, hb, hml, hown, hts⟩ (c_X3_isFirstOrSecond l p1 (T_X3_isFirstOrSecond p1) rfl) (va_cwS 1 hts gX3_part_X3_isFirstOrSecond rfl rfl rfl (by decide +kernel) ⟨(Nat.le_of_ble_eq_true rfl), (Nat.le_of_ble_eq_true rfl)⟩) preT_S rfl rfl hl.1 rfl (lv_room (Nat.le_of_ble_eq_true rfl)) dX3_part_1 ⟨Nat.zero_le _, Nat.zero_le _⟩) (fun hn1 => ?_)
  refine lv_if_ne (tgt := 13) hx hb dX3_part_4 (by decide) (fun c2 => ?_) (fun c2 => ?_)
  · have h3 := (if_neg c2).symm.trans hT
    refine lv_iload_n hx hb dX3_part_13 rfl (lv_at hl 1 rfl) ?_
    refine lv_if_ne (tgt := 24) hx hb dX3_part_14 (by decide) (fun c4 => ?_) (fun c4 => ?_)
    · have h5 := (if_neg c4).symm.trans h3
      refine lv_aload_n hx hb dX3_part_24 rfl (lv_at hl 0 rfl) ?_
      refine va_get (D := D) (cl := vwCl) (ci := 2) (v := .long g_below) (C := RX3) (T := TX3) (N := 12) hx hb hts inX3 hown hK hP 0 rfl rfl 8 (by decide) (hts (Cond.fieldLink RX3 41 "FrozenIn" "below" "J") (List.mem_of_getElem? (i := 2) rfl)) (fun _ h9 => h9) rfl dX3_part_25 ?_
      rw [← h5]
      exact W.lret (v := g_below) hx hb hr (fun t ht hW => ⟨⟨g_below, (), rfl, rfl, ⟨by rw [ht]; exact hP, hD⟩⟩, hS.F ht⟩) hS.2.2 dX3_part_28
    · have h6 := (if_pos c4).symm.trans h3
      refine lv_aload_n hx hb dX3_part_17 rfl (lv_at hl 0 rfl) ?_
      refine va_get (D := D) (cl := vwCl) (ci := 2) (v := .long g_above) (C := RX3) (T := TX3) (N := 12) hx hb hts inX3 hown hK hP 0 rfl rfl 7 (by decide) (hts (Cond.fieldLink RX3 227 "FrozenIn" "above" "J") (List.mem_of_getElem? (i := 1) rfl)) (fun _ h9 => h9) rfl dX3_part_18 ?_
      refine lv_goto (tgt := 28) hx hb dX3_part_21 (by decide) ?_
      rw [← h6]
      exact W.lret (v := g_above) hx hb hr (fun t ht hW => ⟨⟨g_above, (), rfl, rfl, ⟨by rw [ht]; exact hP, hD⟩⟩, hS.F ht⟩) hS.2.2 dX3_part_28
  · have h7 := (if_pos c2).symm.trans hT
    refine lv_aload_n hx hb dX3_part_7 rfl (lv_at hl 0 rfl) ?_
    obtain ⟨u8, hu9, h10⟩ := lt_e h7
    refine kw_I (wc := [oX3 a a_now a_spare a_text g_above g_below g_bads g_nos g_fulls]) (wr := []) (ws' := [oX3 a a_now a_spare a_text g_above g_below u8.2 g_nos g_fulls]) (va_runV (As := []) (rest := []) ⟨hx, hb, hml, hown, hts⟩ (c_X3_refuseBad l D cyI cyJ cyS a a_now a_spare a_text g_above g_below g_bads g_nos g_fulls s.heap.size u8 hu9.symm) (cwV 0 hts gX3_part_X3_refuseBad rfl rfl rfl (by decide +kernel) ⟨(Nat.le_of_ble_eq_true rfl), (Nat.le_of_ble_eq_true rfl)⟩) (preW_V (hP.sub (ws' := [oX3 a a_now a_spare a_text g_above g_below g_bads g_nos g_fulls]) [0] rfl) (hD.sub (ws' := [oX3 a a_now a_spare a_text g_above g_below g_bads g_nos g_fulls]) [0] (by decide) rfl) hKK (va_recv hK hP (ci := 2) (q0 := 0) rfl rfl)) rfl rfl hl.1 rfl (lv_room (Nat.le_of_ble_eq_true rfl)) dX3_part_8 ⟨Nat.zero_le _, Nat.zero_le _⟩) hP hD hS hA [0] [] [0] rfl rfl (by decide) (by decide) rfl (by decide) (fun H11 L12 hP hD hS => ?_)
    refine lv_i2l (v := u8.1.toInt64) hx hb dX3_part_11 rfl ?_
    rw [← h10]
    exact W.lret (v := u8.1.toInt64) hx hb hr (fun t ht hW => ⟨⟨u8.1.toInt64, (), rfl, rfl, ⟨by rw [ht]; exact hP, hD⟩⟩, hS.F ht⟩) hS.2.2 dX3_part_12
def T_X3_count (N : Nat) (g_bads : Int32) (g_now_month : Int32) (g_now_floes : Int32) (g_now_founds : Int32) (g_now_notes : Int32) (g_now_undos : Int32) (g_now_cells : Nat → Int32) (g_text_length : Int32) (p1 : Int32) : Option (Int32 × Int32) :=
  (if p1 = 0 then (some (g_now_floes, g_bads)) else (if p1 = 1 then (some (g_now_month, g_bads)) else (if p1 = 2 then (Option.bind (T_X1_floesOut N g_now_floes g_now_cells) fun u9 => (some (u9, g_bads))) else (if p1 = 3 then (some (g_now_founds, g_bads)) else (if p1 = 4 then (some (g_now_notes, g_bads)) else (if p1 = 5 then (some (g_now_undos, g_bads)) else (if p1 = 6 then (some (g_text_length, g_bads)) else (lt' (T_X3_refuseBad g_bads) fun u25 => (some (u25.1, u25.2))))))))))
abbrev rm_X3_count : Room := { frames := 2, cells := 0, slots := 0, locals := 42 }
set_option maxHeartbeats 4000000 in
set_option maxRecDepth 100000 in
theorem c_X3_count (l : Launch) (D : va_G) (cyI cyJ cyS : ClassId) (N : Nat) (a a_now a_spare a_text : Nat → Nat) (g_above : Int64) (g_below : Int64) (g_bads : Int32) (g_nos : Int32) (g_fulls : Int32) (g_now_month : Int32) (g_now_floes : Int32) (g_now_founds : Int32) (g_now_notes : Int32) (g_now_undos : Int32) (g_now_cells : Nat → Int32) (g_text_length : Int32) (g_text_place : Int32) (g_text_fault : Int32) (p1 : Int32) (sz : Nat) (R0 : Int32 × Int32) (hT : T_X3_count N g_bads g_now_month g_now_floes g_now_founds g_now_notes g_now_undos g_now_cells g_text_length p1 = some R0) : Met l yX3_count wsX3_count rm_X3_count (va_Pc [.ref (a 0), .int p1] (preW D (tyS cyI cyJ cyS) [oX3 a a_now a_spare a_text g_above g_below g_bads g_nos g_fulls, oX1 a_now g_now_month g_now_floes g_now_founds g_now_notes g_now_undos, rI cyI (a_now 4) 5 g_now_cells, oX2 a_text g_text_length g_text_place g_text_fault] sz)) (va_Qi (fun (r : Int32) (_ : Unit) => r = R0.1) (fun _ t => va_P D vwCl [oX3 a a_now a_spare a_text g_above g_below R0.2 g_nos g_fulls, oX1 a_now g_now_month g_now_floes g_now_founds g_now_notes g_now_undos, rI cyI (a_now 4) 5 g_now_cells, oX2 a_text g_text_length g_text_place g_text_fault] t.heap ∧ va_D (va_A [oX3 a a_now a_spare a_text g_above g_below g_bads g_nos g_fulls, oX1 a_now g_now_month g_now_floes g_now_founds g_now_notes g_now_undos, rI cyI (a_now 4) 5 g_now_cells, oX2 a_text g_text_length g_text_place g_text_fault] sz) [oX3 a a_now a_spare a_text g_above g_below R0.2 g_nos g_fulls, oX1 a_now g_now_month g_now_floes g_now_founds g_now_notes g_now_undos, rI cyI (a_now 4) 5 g_now_cells, oX2 a_text g_text_length g_text_place g_text_fault]) (va_A [oX3 a a_now a_spare a_text g_above g_below g_bads g_nos g_fulls, oX1 a_now g_now_month g_now_floes g_now_founds g_now_notes g_now_undos, rI cyI (a_now 4) 5 g_now_cells, oX2 a_text g_text_length g_text_place g_text_fault] sz)) 0 0 (va_A [oX3 a a_now a_spare a_text g_above g_below g_bads g_nos g_fulls, oX1 a_now g_now_month g_now_floes g_now_founds g_now_notes g_now_undos, rI cyI (a_now 4) 5 g_now_cells, oX2 a_text g_text_length g_text_place g_text_fault] sz) := by
  refine Met.ofW (cc := cX3_count) (maxL := 2) (ret := (some .int)) (by decide) rfl ?_
  intro p e s m args below meth c s₁ B hml hv
  obtain ⟨rfl, hsz, hP, hKK, hD0⟩ := hv
  have hx := B.exec
  have hb := B.bytes
  have hr := B.returns
  have hts := atoms_spec (ws := wsX3_count) B.pre
  have hown : s.vm.findClass RX3 = some m.cls := findClass_of_methodNamed B.named
  have hlocks := B.notSynchronized
  have hK := hKK.1
  have inX3 : ∀ w ∈ wsX30, w ∈ wsX3_count := (fun _ h => List.mem_cons_of_mem _ (List.mem_append_left _ (List.mem_append_left _ (List.mem_append_right _ h))))
  have inX1 : ∀ w ∈ wsX10, w ∈ wsX3_count := (fun _ h => List.mem_cons_of_mem _ (List.mem_append_left _ (List.mem_append_right _ h)))
  have inX2 : ∀ w ∈ wsX20, w ∈ wsX3_count := (fun _ h => List.mem_cons_of_mem _ (List.mem_append_right _ h))
  subst hsz
  have hD := hD0.self (sz := s.heap.size)
  generalize hAe : va_A [oX3 a a_now a_spare a_text g_above g_below g_bads g_nos g_fulls, oX1 a_now g_now_month g_now_floes g_now_founds g_now_notes g_now_undos, rI cyI (a_now 4) 5 g_now_cells, oX2 a_text g_text_length g_text_place g_text_fault] s.heap.size = A at hD ⊢
  have hA : ∀ q : Nat, s.heap.size ≤ q → A q := fun q h => by rw [← hAe]; exact Or.inr h
  have hS : va_S A s.heap s.heap [] := va_S.rf
  have hP : va_P D vwCl [oX3 a a_now a_spare a_text g_above g_below g_bads g_nos g_fulls, oX1 a_now g_now_month g_now_floes g_now_founds g_now_notes g_now_undos, rI cyI (a_now 4) 5 g_now_cells, oX2 a_text g_text_length g_text_place g_text_fault] s.heap := hP
  have hl := lv_entry [.ref (a 0), .int p1] (n := 2) (Nat.le_of_ble_eq_true rfl)
  rw [lg_entry_eq]
  generalize (lg_sl [.ref (a 0), .int p1] ++ List.replicate (2 - (lg_sl [.ref (a 0), .int p1]).length) Slot.unset).toArray = ls at hl ⊢
  have hl : lv_has ls 2 [(0, .ref (a 0)), (1, .int p1)] := hl
  unfold T_X3_count at hT
  refine lv_iload_n hx hb dX3_count_0 rfl (lv_at hl 1 rfl) ?_
  rcases Decidable.em (p1 = 0) with c1 | c1
  · have h2 := (if_pos c1).symm.trans hT
    refine lv_tableIn (tgt := 44) (off := 43) hx hb dX3_count_1 (by rw [c1]; decide) (by rw [c1]; decide) (by rw [c1]; rfl) (by decide) ?_
    refine lv_aload_n hx hb dX3_count_44 rfl (lv_at hl 0 rfl) ?_
    refine va_get (D := D) (cl := vwCl) (ci := 2) (v := .ref (a_now 0)) (C := RX3) (T := TX3) (N := 12) hx hb hts inX3 hown hK hP 0 rfl rfl 0 (by decide) (hts (Cond.fieldLink RX3 10 "FrozenIn" "now" "LFrozenIn$Sea;") (List.mem_of_getElem? (i := 1) rfl)) (fun _ h9 => h9) rfl dX3_count_45 ?_
    refine va_get (D := D) (cl := vwCl) (ci := 0) (v := .int g_now_floes) (C := RX1) (T := TX1) (N := 13) hx hb hts inX1 hown hK hP 1 rfl rfl 3 (by decide) (hts (Cond.fieldLink RX3 53 "FrozenIn$Sea" "floes" "I") (List.mem_of_getElem? (i := 2) rfl)) (fun _ h9 => h9) rfl dX3_count_48 ?_
    rw [← Option.some.inj h2]
    exact W.iret (v := g_now_floes) hx hb hr (fun t ht hW => ⟨⟨g_now_floes, (), rfl, rfl, ⟨by rw [ht]; exact hP, hD⟩⟩, hS.F ht⟩) hS.2.2 dX3_count_51
  · have h3 := (if_neg c1).symm.trans hT
    rcases Decidable.em (p1 = 1) with c4 | c4
    · have h5 := (if_pos c4).symm.trans h3
      refine lv_tableIn (tgt := 52) (off := 51) hx hb dX3_count_1 (by rw [c4]; decide) (by rw [c4]; decide) (by rw [c4]; rfl) (by decide) ?_
      refine lv_aload_n hx hb dX3_count_52 rfl (lv_at hl 0 rfl) ?_
      refine va_get (D := D) (cl := vwCl) (ci := 2) (v := .ref (a_now 0)) (C := RX3) (T := TX3) (N := 12) hx hb hts inX3 hown hK hP 0 rfl rfl 0 (by decide) (hts (Cond.fieldLink RX3 10 "FrozenIn" "now" "LFrozenIn$Sea;") (List.mem_of_getElem? (i := 1) rfl)) (fun _ h9 => h9) rfl dX3_count_53 ?_
      refine va_get (D := D) (cl := vwCl) (ci := 0) (v := .int g_now_month) (C := RX1) (T := TX1) (N := 13) hx hb hts inX1 hown hK hP 1 rfl rfl 0 (by decide) (hts (Cond.fieldLink RX3 138 "FrozenIn$Sea" "month" "I") (List.mem_of_getElem? (i := 3) rfl)) (fun _ h9 => h9) rfl dX3_count_56 ?_
      rw [← Option.some.inj h5]
      exact W.iret (v := g_now_month) hx hb hr (fun t ht hW => ⟨⟨g_now_month, (), rfl, rfl, ⟨by rw [ht]; exact hP, hD⟩⟩, hS.F ht⟩) hS.2.2 dX3_count_59
    · have h6 := (if_neg c4).symm.trans h3
      rcases Decidable.em (p1 = 2) with c7 | c7
      · have h8 := (if_pos c7).symm.trans h6
        refine lv_tableIn (tgt := 60) (off := 59) hx hb dX3_count_1 (by rw [c7]; decide) (by rw [c7]; decide) (by rw [c7]; rfl) (by decide) ?_
        refine lv_aload_n hx hb dX3_count_60 rfl (lv_at hl 0 rfl) ?_
        refine va_get (D := D) (cl := vwCl) (ci := 2) (v := .ref (a_now 0)) (C := RX3) (T := TX3) (N := 12) hx hb hts inX3 hown hK hP 0 rfl rfl 0 (by decide) (hts (Cond.fieldLink RX3 10 "FrozenIn" "now" "LFrozenIn$Sea;") (List.mem_of_getElem? (i := 1) rfl)) (fun _ h9 => h9) rfl dX3_count_61 ?_
        obtain ⟨u9, hu10, h11⟩ := bd_e h8
        refine kc_I (W.runV (As := []) (rest := []) ⟨hx, hb, hml, hown, hts⟩ (c_X1_floesOut l D cyI cyJ cyS N a_now g_now_month g_now_floes g_now_founds g_now_notes g_now_undos g_now_cells u9 hu10) (cwV 0 hts gX3_count_X1_floesOut rfl rfl rfl (by decide +kernel) ⟨(Nat.le_of_ble_eq_true rfl), (Nat.le_of_ble_eq_true rfl)⟩) (preR_V (hP.sub (ws' := [oX1 a_now g_now_month g_now_floes g_now_founds g_now_notes g_now_undos, rI cyI (a_now 4) 5 g_now_cells]) [1, 2] rfl) hKK (va_recv hK hP (ci := 0) (q0 := 1) rfl rfl)) rfl rfl hl.1 rfl (lv_room (Nat.le_of_ble_eq_true rfl)) dX3_count_64 ⟨Nat.zero_le _, Nat.zero_le _⟩) ?_
        rw [← Option.some.inj h11]
        exact W.iret (v := u9) hx hb hr (fun t ht hW => ⟨⟨u9, (), rfl, rfl, ⟨by rw [ht]; exact hP, hD⟩⟩, hS.F ht⟩) hS.2.2 dX3_count_67
      · have h12 := (if_neg c7).symm.trans h6
        rcases Decidable.em (p1 = 3) with c13 | c13
        · have h14 := (if_pos c13).symm.trans h12
          refine lv_tableIn (tgt := 68) (off := 67) hx hb dX3_count_1 (by rw [c13]; decide) (by rw [c13]; decide) (by rw [c13]; rfl) (by decide) ?_
          refine lv_aload_n hx hb dX3_count_68 rfl (lv_at hl 0 rfl) ?_
          refine va_get (D := D) (cl := vwCl) (ci := 2) (v := .ref (a_now 0)) (C := RX3) (T := TX3) (N := 12) hx hb hts inX3 hown hK hP 0 rfl rfl 0 (by decide) (hts (Cond.fieldLink RX3 10 "FrozenIn" "now" "LFrozenIn$Sea;") (List.mem_of_getElem? (i := 1) rfl)) (fun _ h9 => h9) rfl dX3_count_69 ?_
          refine va_get (D := D) (cl := vwCl) (ci := 0) (v := .int g_now_founds) (C := RX1) (T := TX1) (N := 13) hx hb hts inX1 hown hK hP 1 rfl rfl 7 (by decide) (hts (Cond.fieldLink RX3 176 "FrozenIn$Sea" "founds" "I") (List.mem_of_getElem? (i := 4) rfl)) (fun _ h9 => h9) rfl dX3_count_72 ?_
          rw [← Option.some.inj h14]
          exact W.iret (v := g_now_founds) hx hb hr (fun t ht hW => ⟨⟨g_now_founds, (), rfl, rfl, ⟨by rw [ht]; exact hP, hD⟩⟩, hS.F ht⟩) hS.2.2 dX3_count_75
        · have h15 := (if_neg c13).symm.trans h12
          rcases Decidable.em (p1 = 4) with c16 | c16
          · have h17 := (if_pos c16).symm.trans h15
            refine lv_tableIn (tgt := 76) (off := 75) hx hb dX3_count_1 (by rw [c16]; decide) (by rw [c16]; decide) (by rw [c16]; rfl) (by decide) ?_
            refine lv_aload_n hx hb dX3_count_76 rfl (lv_at hl 0 rfl) ?_
            refine va_get (D := D) (cl := vwCl) (ci := 2) (v := .ref (a_now 0)) (C := RX3) (T := TX3) (N := 12) hx hb hts inX3 hown hK hP 0 rfl rfl 0 (by decide) (hts (Cond.fieldLink RX3 10 "FrozenIn" "now" "LFrozenIn$Sea;") (List.mem_of_getElem? (i := 1) rfl)) (fun _ h9 => h9) rfl dX3_count_77 ?_
            refine va_get (D := D) (cl := vwCl) (ci := 0) (v := .int g_now_notes) (C := RX1) (T := TX1) (N := 13) hx hb hts inX1 hown hK hP 1 rfl rfl 9 (by decide) (hts (Cond.fieldLink RX3 185 "FrozenIn$Sea" "notes" "I") (List.mem_of_getElem? (i := 5) rfl)) (fun _ h9 => h9) rfl dX3_count_80 ?_
            rw [← Option.some.inj h17]
            exact W.iret (v := g_now_notes) hx hb hr (fun t ht hW => ⟨⟨g_now_notes, (), rfl, rfl, ⟨by rw [ht]; exact hP, hD⟩⟩, hS.F ht⟩) hS.2.2 dX3_count_83
          · have h18 := (if_neg c16).symm.trans h15
            rcases Decidable.em (p1 = 5) with c19 | c19
            · have h20 := (if_pos c19).symm.trans h18
              refine lv_tableIn (tgt := 84) (off := 83) hx hb dX3_count_1 (by rw [c19]; decide) (by rw [c19]; decide) (by rw [c19]; rfl) (by decide) ?_
              refine lv_aload_n hx hb dX3_count_84 rfl (lv_at hl 0 rfl) ?_
              refine va_get (D := D) (cl := vwCl) (ci := 2) (v := .ref (a_now 0)) (C := RX3) (T := TX3) (N := 12) hx hb hts inX3 hown hK hP 0 rfl rfl 0 (by decide) (hts (Cond.fieldLink RX3 10 "FrozenIn" "now" "LFrozenIn$Sea;") (List.mem_of_getElem? (i := 1) rfl)) (fun _ h9 => h9) rfl dX3_count_85 ?_
              refine va_get (D := D) (cl := vwCl) (ci := 0) (v := .int g_now_undos) (C := RX1) (T := TX1) (N := 13) hx hb hts inX1 hown hK hP 1 rfl rfl 11 (by decide) (hts (Cond.fieldLink RX3 129 "FrozenIn$Sea" "undos" "I") (List.mem_of_getElem? (i := 6) rfl)) (fun _ h9 => h9) rfl dX3_count_88 ?_
              rw [← Option.some.inj h20]
              exact W.iret (v := g_now_undos) hx hb hr (fun t ht hW => ⟨⟨g_now_undos, (), rfl, rfl, ⟨by rw [ht]; exact hP, hD⟩⟩, hS.F ht⟩) hS.2.2 dX3_count_91
            · have h21 := (if_neg c19).symm.trans h18
              rcases Decidable.em (p1 = 6) with c22 | c22
              · have h23 := (if_pos c22).symm.trans h21
                refine lv_tableIn (tgt := 92) (off := 91) hx hb dX3_count_1 (by rw [c22]; decide) (by rw [c22]; decide) (by rw [c22]; rfl) (by decide) ?_
                refine lv_aload_n hx hb dX3_count_92 rfl (lv_at hl 0 rfl) ?_
                refine va_get (D := D) (cl := vwCl) (ci := 2) (v := .ref (a_text 0)) (C := RX3) (T := TX3) (N := 12) hx hb hts inX3 hown hK hP 0 rfl rfl 3 (by decide) (hts (Cond.fieldLink RX3 26 "FrozenIn" "text" "LFrozenIn$Text;") (List.mem_of_getElem? (i := 7) rfl)) (fun _ h9 => h9) rfl dX3_count_93 ?_
                refine va_get (D := D) (cl := vwCl) (ci := 1) (v := .int g_text_length) (C := RX2) (T := TX2) (N := 4) hx hb hts inX2 hown hK hP 3 rfl rfl 1 (by decide) (hts (Cond.fieldLink RX3 88 "FrozenIn$Text" "length" "I") (List.mem_of_getElem? (i := 8) rfl)) (fun _ h9 => h9) rfl dX3_count_96 ?_
                rw [← Option.some.inj h23]
                exact W.iret (v := g_text_length) hx hb hr (fun t ht hW => ⟨⟨g_text_length, (), rfl, rfl, ⟨by rw [ht]; exact hP, hD⟩⟩, hS.F ht⟩) hS.2.2 dX3_count_99
              · have h24 := (if_neg c22).symm.trans h21
                refine lv_tableOut (tgt := 100) hx hb dX3_count_1 (by have q0 := lv_neT c1 (k := 0) (a := 0) rfl; have q1 := lv_neT c4 (k := 1) (a := 1) rfl; have q2 := lv_neT c7 (k := 2) (a := 2) rfl; have q3 := lv_neT c13 (k := 3) (a := 3) rfl; have q4 := lv_neT c16 (k := 4) (a := 4) rfl; have q5 := lv_neT c19 (k := 5) (a := 5) rfl; have q6 := lv_neT c22 (k := 6) (a := 6) rfl; omega) (by decide) ?_
                refine lv_aload_n hx hb dX3_count_100 rfl (lv_at hl 0 rfl) ?_
                obtain ⟨u25, hu26, h27⟩ := lt_e h24
                refine kw_I (wc := [oX3 a a_now a_spare a_text g_above g_below g_bads g_nos g_fulls]) (wr := [oX1 a_now g_now_month g_now_floes g_now_founds g_now_notes g_now_undos, rI cyI (a_now 4) 5 g_now_cells, oX2 a_text g_text_length g_text_place g_text_fault]) (ws' := [oX3 a a_now a_spare a_text g_above g_below u25.2 g_nos g_fulls, oX1 a_now g_now_month g_now_floes g_now_founds g_now_notes g_now_undos, rI cyI (a_now 4) 5 g_now_cells, oX2 a_text g_text_length g_text_place g_text_fault]) (va_runV (As := []) (rest := []) ⟨hx, hb, hml, hown, hts⟩ (c_X3_refuseBad l D cyI cyJ cyS a a_now a_spare a_text g_above g_below g_bads g_nos g_fulls s.heap.size u25 hu26.symm) (cwV 0 hts gX3_count_X3_refuseBad rfl rfl rfl (by decide +kernel) ⟨(Nat.le_of_ble_eq_true rfl), (Nat.le_of_ble_eq_true rfl)⟩) (preW_V (hP.sub (ws' := [oX3 a a_now a_spare a_text g_above g_below g_bads g_nos g_fulls]) [0] rfl) (hD.sub (ws' := [oX3 a a_now a_spare a_text g_above g_below g_bads g_nos g_fulls]) [0] (by decide) rfl) hKK (va_recv hK hP (ci := 2) (q0 := 0) rfl rfl)) rfl rfl hl.1 rfl (lv_room (Nat.le_of_ble_eq_true rfl)) dX3_count_101 ⟨Nat.zero_le _, Nat.zero_le _⟩) hP hD hS hA [0] [1, 2, 3] [3, 0, 1, 2] rfl rfl (by decide) (by decide) rfl (by decide) (fun H28 L29 hP hD hS => ?_)
                rw [← Option.some.inj h27]
                exact W.iret (v := u25.1) hx hb hr (fun t ht hW => ⟨⟨u25.1, (), rfl, rfl, ⟨by rw [ht]; exact hP, hD⟩⟩, hS.F ht⟩) hS.2.2 dX3_count_104
def T_X3_image_old (N : Nat) (g_bads : Int32) (g_now_month : Int32) (g_now_floes : Int32) (g_now_founds : Int32) (g_now_notes : Int32) (g_now_undos : Int32) (g_now_ways : Nat → Int32) (g_now_strengths : Nat → Int32) (g_now_kinds : Nat → Int32) (g_now_cells : Nat → Int32) (g_now_foods : Nat → Int32) (g_now_foundRows : Nat → Int32) (g_now_noteRows : Nat → Int32) (g_now_undoRows : Nat → Int32) (gimg_month : Int32) (gimg_floes : Int32) (gimg_founds : Int32) (gimg_notes : Int32) (gimg_undos : Int32) (gimg_ways : Nat → Int32) (gimg_strengths : Nat → Int32) (gimg_kinds : Nat → Int32) (gimg_cells : Nat → Int32) (gimg_foods : Nat → Int32) (gimg_foundRows : Nat → Int32) (gimg_noteRows : Nat → Int32) (gimg_undoRows : Nat → Int32) (p1 : Int32) : Option (Int32 × Int32 × Int32 × Int32 × Int32 × Int32 × Int32 × (Nat → Int32) × (Nat → Int32) × (Nat → Int32) × (Nat → Int32) × (Nat → Int32) × (Nat → Int32) × (Nat → Int32) × (Nat → Int32)) :=
  (if (T_X3_within p1 0 1) = 0 then (lt' (T_X3_refuseBad g_bads) fun u14 => (some (u14.1, u14.2, gimg_month, gimg_floes, gimg_founds, gimg_notes, gimg_undos, gimg_ways, gimg_strengths, gimg_kinds, gimg_cells, gimg_foods, gimg_foundRows, gimg_noteRows, gimg_undoRows))) else (ob p1 2 (ob p1 2 (Option.bind (T_X1_takeFrom N gimg_month gimg_floes gimg_founds gimg_notes gimg_undos gimg_ways gimg_strengths gimg_kinds gimg_cells gimg_foods gimg_foundRows gimg_noteRows gimg_undoRows g_now_month g_now_floes g_now_founds g_now_notes g_now_undos g_now_ways g_now_strengths g_now_kinds g_now_cells g_now_foods g_now_foundRows g_now_noteRows g_now_undoRows) fun u8 => (some (1, g_bads, u8.1, u8.2.1, u8.2.2.1, u8.2.2.2.1, u8.2.2.2.2.1, u8.2.2.2.2.2.1, u8.2.2.2.2.2.2.1, u8.2.2.2.2.2.2.2.1, u8.2.2.2.2.2.2.2.2.1, u8.2.2.2.2.2.2.2.2.2.1, u8.2.2.2.2.2.2.2.2.2.2.1, u8.2.2.2.2.2.2.2.2.2.2.2.1, u8.2.2.2.2.2.2.2.2.2.2.2.2))))))
abbrev rm_X3_image_old : Room := { frames := 2, cells := 0, slots := 0, locals := 47 }
set_option maxHeartbeats 4000000 in
set_option maxRecDepth 100000 in
theorem c_X3_image_old (l : Launch) (D : va_G) (cyI cyJ cyS : ClassId) (N : Nat) (a a_now a_spare a_text ai : Nat → Nat) (g_above : Int64) (g_below : Int64) (g_bads : Int32) (g_nos : Int32) (g_fulls : Int32) (g_now_month : Int32) (g_now_floes : Int32) (g_now_founds : Int32) (g_now_notes : Int32) (g_now_undos : Int32) (g_now_ways : Nat → Int32) (g_now_strengths : Nat → Int32) (g_now_kinds : Nat → Int32) (g_now_cells : Nat → Int32) (g_now_foods : Nat → Int32) (g_now_foundRows : Nat → Int32) (g_now_noteRows : Nat → Int32) (g_now_undoRows : Nat → Int32) (g_images : Nat → Option Nat) (gimg_month : Int32) (gimg_floes : Int32) (gimg_founds : Int32) (gimg_notes : Int32) (gimg_undos : Int32) (gimg_ways : Nat → Int32) (gimg_strengths : Nat → Int32) (gimg_kinds : Nat → Int32) (gimg_cells : Nat → Int32) (gimg_foods : Nat → Int32) (gimg_foundRows : Nat → Int32) (gimg_noteRows : Nat → Int32) (gimg_undoRows : Nat → Int32) (p1 : Int32) (himg : vp_in p1 2 → g_images p1.toNatClampNeg = some (ai 0)) (sz : Nat) (R0 : Int32 × Int32 × Int32 × Int32 × Int32 × Int32 × Int32 × (Nat → Int32) × (Nat → Int32) × (Nat → Int32) × (Nat → Int32) × (Nat → Int32) × (Nat → Int32) × (Nat → Int32) × (Nat → Int32)) (hT : T_X3_image_old N g_bads g_now_month g_now_floes g_now_founds g_now_notes g_now_undos g_now_ways g_now_strengths g_now_kinds g_now_cells g_now_foods g_now_foundRows g_now_noteRows g_now_undoRows gimg_month gimg_floes gimg_founds gimg_notes gimg_undos gimg_ways gimg_strengths gimg_kinds gimg_cells gimg_foods gimg_foundRows gimg_noteRows gimg_undoRows p1 = some R0) : Met l yX3_image wsX3_image rm_X3_image_old (va_Pc [.ref (a 0), .int p1] (preW D (tyS cyI cyJ cyS) [oX3 a a_now a_spare a_text g_above g_below g_bads g_nos g_fulls, oX1 a_now g_now_month g_now_floes g_now_founds g_now_notes g_now_undos, rI cyI (a_now 1) 12 g_now_ways, rI cyI (a_now 2) 12 g_now_strengths, rI cyI (a_now 3) 5 g_now_kinds, rI cyI (a_now 4) 5 g_now_cells, rI cyI (a_now 5) 5 g_now_foods, rI cyI (a_now 6) 12 g_now_foundRows, rI cyI (a_now 7) 42 g_now_noteRows, rI cyI (a_now 8) 88 g_now_undoRows, rS cyS (a 1) 2 g_images, oX1 ai gimg_month gimg_floes gimg_founds gimg_notes gimg_undos, rI cyI (ai 1) 12 gimg_ways, rI cyI (ai 2) 12 gimg_strengths, rI cyI (ai 3) 5 gimg_kinds, rI cyI (ai 4) 5 gimg_cells, rI cyI (ai 5) 5 gimg_foods, rI cyI (ai 6) 12 gimg_foundRows, rI cyI (ai 7) 42 gimg_noteRows, rI cyI (ai 8) 88 gimg_undoRows] sz)) (va_Qi (fun (r : Int32) (_ : Unit) => r = R0.1) (fun _ t => va_P D vwCl [oX3 a a_now a_spare a_text g_above g_below R0.2.1 g_nos g_fulls, oX1 a_now g_now_month g_now_floes g_now_founds g_now_notes g_now_undos, rI cyI (a_now 1) 12 g_now_ways, rI cyI (a_now 2) 12 g_now_strengths, rI cyI (a_now 3) 5 g_now_kinds, rI cyI (a_now 4) 5 g_now_cells, rI cyI (a_now 5) 5 g_now_foods, rI cyI (a_now 6) 12 g_now_foundRows, rI cyI (a_now 7) 42 g_now_noteRows, rI cyI (a_now 8) 88 g_now_undoRows, rS cyS (a 1) 2 g_images, oX1 ai R0.2.2.1 R0.2.2.2.1 R0.2.2.2.2.1 R0.2.2.2.2.2.1 R0.2.2.2.2.2.2.1, rI cyI (ai 1) 12 R0.2.2.2.2.2.2.2.1, rI cyI (ai 2) 12 R0.2.2.2.2.2.2.2.2.1, rI cyI (ai 3) 5 R0.2.2.2.2.2.2.2.2.2.1, rI cyI (ai 4) 5 R0.2.2.2.2.2.2.2.2.2.2.1, rI cyI (ai 5) 5 R0.2.2.2.2.2.2.2.2.2.2.2.1, rI cyI (ai 6) 12 R0.2.2.2.2.2.2.2.2.2.2.2.2.1, rI cyI (ai 7) 42 R0.2.2.2.2.2.2.2.2.2.2.2.2.2.1, rI cyI (ai 8) 88 R0.2.2.2.2.2.2.2.2.2.2.2.2.2.2] t.heap ∧ va_D (va_A [oX3 a a_now a_spare a_text g_above g_below g_bads g_nos g_fulls, oX1 a_now g_now_month g_now_floes g_now_founds g_now_notes g_now_undos, rI cyI (a_now 1) 12 g_now_ways, rI cyI (a_now 2) 12 g_now_strengths, rI cyI (a_now 3) 5 g_now_kinds, rI cyI (a_now 4) 5 g_now_cells, rI cyI (a_now 5) 5 g_now_foods, rI cyI (a_now 6) 12 g_now_foundRows, rI cyI (a_now 7) 42 g_now_noteRows, rI cyI (a_now 8) 88 g_now_undoRows, rS cyS (a 1) 2 g_images, oX1 ai gimg_month gimg_floes gimg_founds gimg_notes gimg_undos, rI cyI (ai 1) 12 gimg_ways, rI cyI (ai 2) 12 gimg_strengths, rI cyI (ai 3) 5 gimg_kinds, rI cyI (ai 4) 5 gimg_cells, rI cyI (ai 5) 5 gimg_foods, rI cyI (ai 6) 12 gimg_foundRows, rI cyI (ai 7) 42 gimg_noteRows, rI cyI (ai 8) 88 gimg_undoRows] sz) [oX3 a a_now a_spare a_text g_above g_below R0.2.1 g_nos g_fulls, oX1 a_now g_now_month g_now_floes g_now_founds g_now_notes g_now_undos, rI cyI (a_now 1) 12 g_now_ways, rI cyI (a_now 2) 12 g_now_strengths, rI cyI (a_now 3) 5 g_now_kinds, rI cyI (a_now 4) 5 g_now_cells, rI cyI (a_now 5) 5 g_now_foods, rI cyI (a_now 6) 12 g_now_foundRows, rI cyI (a_now 7) 42 g_now_noteRows, rI cyI (a_now 8) 88 g_now_undoRows, rS cyS (a 1) 2 g_images, oX1 ai R0.2.2.1 R0.2.2.2.1 R0.2.2.2.2.1 R0.2.2.2.2.2.1 R0.2.2.2.2.2.2.1, rI cyI (ai 1) 12 R0.2.2.2.2.2.2.2.1, rI cyI (ai 2) 12 R0.2.2.2.2.2.2.2.2.1, rI cyI (ai 3) 5 R0.2.2.2.2.2.2.2.2.2.1, rI cyI (ai 4) 5 R0.2.2.2.2.2.2.2.2.2.2.1, rI cyI (ai 5) 5 R0.2.2.2.2.2.2.2.2.2.2.2.1, rI cyI (ai 6) 12 R0.2.2.2.2.2.2.2.2.2.2.2.2.1, rI cyI (ai 7) 42 R0.2.2.2.2.2.2.2.2.2.2.2.2.2.1, rI cyI (ai 8) 88 R0.2.2.2.2.2.2.2.2.2.2.2.2.2.2]) (va_A [oX3 a a_now a_spare a_text g_above g_below g_bads g_nos g_fulls, oX1 a_now g_now_month g_now_floes g_now_founds g_now_notes g_now_undos, rI cyI (a_now 1) 12 g_now_ways, rI cyI (a_now 2) 12 g_now_strengths, rI cyI (a_now 3) 5 g_now_kinds, rI cyI (a_now 4) 5 g_now_cells, rI cyI (a_now 5) 5 g_now_foods, rI cyI (a_now 6) 12 g_now_foundRows, rI cyI (a_now 7) 42 g_now_noteRows, rI cyI (a_now 8) 88 g_now_undoRows, rS cyS (a 1) 2 g_images, oX1 ai gimg_month gimg_floes gimg_founds gimg_notes gimg_undos, rI cyI (ai 1) 12 gimg_ways, rI cyI (ai 2) 12 gimg_strengths, rI cyI (ai 3) 5 gimg_kinds, rI cyI (ai 4) 5 gimg_cells, rI cyI (ai 5) 5 gimg_foods, rI cyI (ai 6) 12 gimg_foundRows, rI cyI (ai 7) 42 gimg_noteRows, rI cyI (ai 8) 88 gimg_undoRows] sz)) 0 0 (va_A [oX3 a a_now a_spare a_text g_above g_below g_bads g_nos g_fulls, oX1 a_now g_now_month g_now_floes g_now_founds g_now_notes g_now_undos, rI cyI (a_now 1) 12 g_now_ways, rI cyI (a_now 2) 12 g_now_strengths, rI cyI (a_now 3) 5 g_now_kinds, rI cyI (a_now 4) 5 g_now_cells, rI cyI (a_now 5) 5 g_now_foods, rI cyI (a_now 6) 12 g_now_foundRows, rI cyI (a_now 7) 42 g_now_noteRows, rI cyI (a_now 8) 88 g_now_undoRows, rS cyS (a 1) 2 g_images, oX1 ai gimg_month gimg_floes gimg_founds gimg_notes gimg_undos, rI cyI (ai 1) 12 gimg_ways, rI cyI (ai 2) 12 gimg_strengths, rI cyI (ai 3) 5 gimg_kinds, rI cyI (ai 4) 5 gimg_cells, rI cyI (ai 5) 5 gimg_foods, rI cyI (ai 6) 12 gimg_foundRows, rI cyI (ai 7) 42 gimg_noteRows, rI cyI (ai 8) 88 gimg_undoRows] sz) := by
  refine Met.ofW (cc := cX3_image) (maxL := 2) (ret := (some .int)) (by decide) rfl ?_
  intro p e s m args below meth c s₁ B hml hv
  obtain ⟨rfl, hsz, hP, hKK, hD0⟩ := hv
  have hx := B.exec
  have hb := B.bytes
  have hr := B.returns
  have hts := atoms_spec (ws := wsX3_image) B.pre
  have hown : s.vm.findClass RX3 = some m.cls := findClass_of_methodNamed B.named
  have hlocks := B.notSynchronized
  have hK := hKK.1
  have inX3 : ∀ w ∈ wsX30, w ∈ wsX3_image := (fun _ h => List.mem_cons_of_mem _ (List.mem_append_left _ (List.mem_append_right _ h)))
  have inX1 : ∀ w ∈ wsX10, w ∈ wsX3_image := (fun _ h => List.mem_cons_of_mem _ (List.mem_append_right _ h))
  subst hsz
  have hD := hD0.self (sz := s.heap.size)
  generalize hAe : va_A [oX3 a a_now a_spare a_text g_above g_below g_bads g_nos g_fulls, oX1 a_now g_now_month g_now_floes g_now_founds g_now_notes g_now_undos, rI cyI (a_now 1) 12 g_now_ways, rI cyI (a_now 2) 12 g_now_strengths, rI cyI (a_now 3) 5 g_now_kinds, rI cyI (a_now 4) 5 g_now_cells, rI cyI (a_now 5) 5 g_now_foods, rI cyI (a_now 6) 12 g_now_foundRows, rI cyI (a_now 7) 42 g_now_noteRows, rI cyI (a_now 8) 88 g_now_undoRows, rS cyS (a 1) 2 g_images, oX1 ai gimg_month gimg_floes gimg_founds gimg_notes gimg_undos, rI cyI (ai 1) 12 gimg_ways, rI cyI (ai 2) 12 gimg_strengths, rI cyI (ai 3) 5 gimg_kinds, rI cyI (ai 4) 5 gimg_cells, rI cyI (ai 5) 5 gimg_foods, rI cyI (ai 6) 12 gimg_foundRows, rI cyI (ai 7) 42 gimg_noteRows, rI cyI (ai 8) 88 gimg_undoRows] s.heap.size = A at hD ⊢
  have hA : ∀ q : Nat, s.heap.size ≤ q → A q := fun q h => by rw [← hAe]; exact Or.inr h
  have hS : va_S A s.heap s.heap [] := va_S.rf
  have hP : va_P D vwCl [oX3 a a_now a_spare a_text g_above g_below g_bads g_nos g_fulls, oX1 a_now g_now_month g_now_floes g_now_founds g_now_notes g_now_undos, rI cyI (a_now 1) 12 g_now_ways, rI cyI (a_now 2) 12 g_now_strengths, rI cyI (a_now 3) 5 g_now_kinds, rI cyI (a_now 4) 5 g_now_cells, rI cyI (a_now 5) 5 g_now_foods, rI cyI (a_now 6) 12 g_now_foundRows, rI cyI (a_now 7) 42 g_now_noteRows, rI cyI (a_now 8) 88 g_now_undoRows, rS cyS (a 1) 2 g_images, oX1 ai gimg_month gimg_floes gimg_founds gimg_notes gimg_undos, rI cyI (ai 1) 12 gimg_ways, rI cyI (ai 2) 12 gimg_strengths, rI cyI (ai 3) 5 gimg_kinds, rI cyI (ai 4) 5 gimg_cells, rI cyI (ai 5) 5 gimg_foods, rI cyI (ai 6) 12 gimg_foundRows, rI cyI (ai 7) 42 gimg_noteRows, rI cyI (ai 8) 88 gimg_undoRows] s.heap := hP
  have hl := lv_entry [.ref (a 0), .int p1] (n := 2) (Nat.le_of_ble_eq_true rfl)
  rw [lg_entry_eq]
  generalize (lg_sl [.ref (a 0), .int p1] ++ List.replicate (2 - (lg_sl [.ref (a 0), .int p1]).length) Slot.unset).toArray = ls at hl ⊢
  have hl : lv_has ls 2 [(0, .ref (a 0)), (1, .int p1)] := hl
  unfold T_X3_image_old at hT
  refine lv_iload_n hx hb dX3_image_0 rfl (lv_at hl 1 rfl) ?_
  refine lv_iconst (v := 0) hx hb dX3_image_1 (by decide) ?_
  refine lv_iconst (v := 1) hx hb dX3_image_2 (by decide) ?_
  refine kc_Z (W.runS (As := [.int p1, .int 0, .int 1]) (rest := []) ⟨hx, hb, hml, hown, hts⟩ (c_X3_within l p1 0 1 (T_X3_within p1 0 1) rfl) (va_cwS 3 hts gX3_image_X3_within rfl rfl rfl (by decide +kernel) ⟨(Nat.le_of_ble_eq_true rfl), (Nat.le_of_ble_eq_true rfl)⟩) preT_S rfl rfl hl.1 rfl (lv_room (Nat.le_of_ble_eq_true rfl)) dX3_image_3 ⟨Nat.zero_le _, Nat.zero_le _⟩) (fun hn1 => ?_)
  refine lv_if_ne (tgt := 14) hx hb dX3_image_6 (by decide) (fun c2 => ?_) (fun c2 => ?_)
  · have h3 := (if_neg c2).symm.trans hT
    refine lv_aload_n hx hb dX3_image_14 rfl (lv_at hl 0 rfl) ?_
    refine va_get (D := D) (cl := vwCl) (ci := 2) (v := .ref (a 1)) (C := RX3) (T := TX3) (N := 12) hx hb hts inX3 hown hK hP 0 rfl rfl 2 (by decide) (hts (Cond.fieldLink RX3 19 "FrozenIn" "images" "[LFrozenIn$Sea;") (List.mem_of_getElem? (i := 1) rfl)) (fun _ h9 => h9) rfl dX3_image_15 ?_
    refine lv_iload_n hx hb dX3_image_18 rfl (lv_at hl 1 rfl) ?_
    obtain ⟨hi5, h4⟩ := ob_e h3
    refine va_aldq hx hb hK hP 10 2 rfl rfl hi5 dX3_image_19 ?_
    rw [himg hi5]
    refine lv_ifnonnull (x := ai 0) (tgt := 36) hx hb dX3_image_20 (by decide) ?_
    refine lv_aload_n hx hb dX3_image_36 rfl (lv_at hl 0 rfl) ?_
    refine va_get (D := D) (cl := vwCl) (ci := 2) (v := .ref (a 1)) (C := RX3) (T := TX3) (N := 12) hx hb hts inX3 hown hK hP 0 rfl rfl 2 (by decide) (hts (Cond.fieldLink RX3 19 "FrozenIn" "images" "[LFrozenIn$Sea;") (List.mem_of_getElem? (i := 1) rfl)) (fun _ h9 => h9) rfl dX3_image_37 ?_
    refine lv_iload_n hx hb dX3_image_40 rfl (lv_at hl 1 rfl) ?_
    obtain ⟨hi7, h6⟩ := ob_e h4
    refine va_aldq hx hb hK hP 10 2 rfl rfl hi7 dX3_image_41 ?_
    rw [himg hi7]
    refine lv_aload_n hx hb dX3_image_42 rfl (lv_at hl 0 rfl) ?_
    refine va_get (D := D) (cl := vwCl) (ci := 2) (v := .ref (a_now 0)) (C := RX3) (T := TX3) (N := 12) hx hb hts inX3 hown hK hP 0 rfl rfl 0 (by decide) (hts (Cond.fieldLink RX3 10 "FrozenIn" "now" "LFrozenIn$Sea;") (List.mem_of_getElem? (i := 5) rfl)) (fun _ h9 => h9) rfl dX3_image_43 ?_
    obtain ⟨u8, hu9, h10⟩ := bd_e h6
    refine kw_V (wc := [oX1 ai gimg_month gimg_floes gimg_founds gimg_notes gimg_undos, rI cyI (ai 1) 12 gimg_ways, rI cyI (ai 2) 12 gimg_strengths, rI cyI (ai 3) 5 gimg_kinds, rI cyI (ai 4) 5 gimg_cells, rI cyI (ai 5) 5 gimg_foods, rI cyI (ai 6) 12 gimg_foundRows, rI cyI (ai 7) 42 gimg_noteRows, rI cyI (ai 8) 88 gimg_undoRows, oX1 a_now g_now_month g_now_floes g_now_founds g_now_notes g_now_undos, rI cyI (a_now 1) 12 g_now_ways, rI cyI (a_now 2) 12 g_now_strengths, rI cyI (a_now 3) 5 g_now_kinds, rI cyI (a_now 4) 5 g_now_cells, rI cyI (a_now 5) 5 g_now_foods, rI cyI (a_now 6) 12 g_now_foundRows, rI cyI (a_now 7) 42 g_now_noteRows, rI cyI (a_now 8) 88 g_now_undoRows]) (wr := [oX3 a a_now a_spare a_text g_above g_below g_bads g_nos g_fulls, rS cyS (a 1) 2 g_images]) (ws' := [oX3 a a_now a_spare a_text g_above g_below g_bads g_nos g_fulls, oX1 a_now g_now_month g_now_floes g_now_founds g_now_notes g_now_undos, rI cyI (a_now 1) 12 g_now_ways, rI cyI (a_now 2) 12 g_now_strengths, rI cyI (a_now 3) 5 g_now_kinds, rI cyI (a_now 4) 5 g_now_cells, rI cyI (a_now 5) 5 g_now_foods, rI cyI (a_now 6) 12 g_now_foundRows, rI cyI (a_now 7) 42 g_now_noteRows, rI cyI (a_now 8) 88 g_now_undoRows, rS cyS (a 1) 2 g_images, oX1 ai u8.1 u8.2.1 u8.2.2.1 u8.2.2.2.1 u8.2.2.2.2.1, rI cyI (ai 1) 12 u8.2.2.2.2.2.1, rI cyI (ai 2) 12 u8.2.2.2.2.2.2.1, rI cyI (ai 3) 5 u8.2.2.2.2.2.2.2.1, rI cyI (ai 4) 5 u8.2.2.2.2.2.2.2.2.1, rI cyI (ai 5) 5 u8.2.2.2.2.2.2.2.2.2.1, rI cyI (ai 6) 12 u8.2.2.2.2.2.2.2.2.2.2.1, rI cyI (ai 7) 42 u8.2.2.2.2.2.2.2.2.2.2.2.1, rI cyI (ai 8) 88 u8.2.2.2.2.2.2.2.2.2.2.2.2]) (va_runV (As := [.ref (a_now 0)]) (rest := []) ⟨hx, hb, hml, hown, hts⟩ (c_X1_takeFrom l D cyI cyJ cyS N ai a_now gimg_month gimg_floes gimg_founds gimg_notes gimg_undos gimg_ways gimg_strengths gimg_kinds gimg_cells gimg_foods gimg_foundRows gimg_noteRows gimg_undoRows g_now_month g_now_floes g_now_founds g_now_notes g_now_undos g_now_ways g_now_strengths g_now_kinds g_now_cells g_now_foods g_now_foundRows g_now_noteRows g_now_undoRows s.heap.size u8 hu9) (cwV 1 hts gX3_image_X1_takeFrom rfl rfl rfl (by decide +kernel) ⟨(Nat.le_of_ble_eq_true rfl), (Nat.le_of_ble_eq_true rfl)⟩) (preW_V (hP.sub (ws' := [oX1 ai gimg_month gimg_floes gimg_founds gimg_notes gimg_undos, rI cyI (ai 1) 12 gimg_ways, rI cyI (ai 2) 12 gimg_strengths, rI cyI (ai 3) 5 gimg_kinds, rI cyI (ai 4) 5 gimg_cells, rI cyI (ai 5) 5 gimg_foods, rI cyI (ai 6) 12 gimg_foundRows, rI cyI (ai 7) 42 gimg_noteRows, rI cyI (ai 8) 88 gimg_undoRows, oX1 a_now g_now_month g_now_floes g_now_founds g_now_notes g_now_undos, rI cyI (a_now 1) 12 g_now_ways, rI cyI (a_now 2) 12 g_now_strengths, rI cyI (a_now 3) 5 g_now_kinds, rI cyI (a_now 4) 5 g_now_cells, rI cyI (a_now 5) 5 g_now_foods, rI cyI (a_now 6) 12 g_now_foundRows, rI cyI (a_now 7) 42 g_now_noteRows, rI cyI (a_now 8) 88 g_now_undoRows]) [11, 12, 13, 14, 15, 16, 17, 18, 19, 1, 2, 3, 4, 5, 6, 7, 8, 9] rfl) (hD.sub (ws' := [oX1 ai gimg_month gimg_floes gimg_founds gimg_notes gimg_undos, rI cyI (ai 1) 12 gimg_ways, rI cyI (ai 2) 12 gimg_strengths, rI cyI (ai 3) 5 gimg_kinds, rI cyI (ai 4) 5 gimg_cells, rI cyI (ai 5) 5 gimg_foods, rI cyI (ai 6) 12 gimg_foundRows, rI cyI (ai 7) 42 gimg_noteRows, rI cyI (ai 8) 88 gimg_undoRows, oX1 a_now g_now_month g_now_floes g_now_founds g_now_notes g_now_undos, rI cyI (a_now 1) 12 g_now_ways, rI cyI (a_now 2) 12 g_now_strengths, rI cyI (a_now 3) 5 g_now_kinds, rI cyI (a_now 4) 5 g_now_cells, rI cyI (a_now 5) 5 g_now_foods, rI cyI (a_now 6) 12 g_now_foundRows, rI cyI (a_now 7) 42 g_now_noteRows, rI cyI (a_now 8) 88 g_now_undoRows]) [11, 12, 13, 14, 15, 16, 17, 18, 19, 1, 2, 3, 4, 5, 6, 7, 8, 9] (by decide) rfl) hKK (va_recv hK hP (ci := 0) (q0 := 11) rfl rfl)) rfl rfl hl.1 rfl (lv_room (Nat.le_of_ble_eq_true rfl)) dX3_image_46 ⟨Nat.zero_le _, Nat.zero_le _⟩) hP hD hS hA [11, 12, 13, 14, 15, 16, 17, 18, 19, 1, 2, 3, 4, 5, 6, 7, 8, 9] [0, 10] [0, 11, 12, 13, 14, 15, 16, 17, 18, 19, 1, 2, 3, 4, 5, 6, 7, 8, 9, 10] rfl rfl (by decide) (by decide) rfl (by decide) (fun H11 L12 hP hD hS => ?_)
    refine lv_iconst (v := 1) hx hb dX3_image_49 (by decide) ?_
    rw [← Option.some.inj h10]
    exact W.iret (v := 1) hx hb hr (fun t ht hW => ⟨⟨1, (), rfl, rfl, ⟨by rw [ht]; exact hP, hD⟩⟩, hS.F ht⟩) hS.2.2 dX3_image_50
  · have h13 := (if_pos c2).symm.trans hT
    refine lv_aload_n hx hb dX3_image_9 rfl (lv_at hl 0 rfl) ?_
    obtain ⟨u14, hu15, h16⟩ := lt_e h13
    refine kw_I (wc := [oX3 a a_now a_spare a_text g_above g_below g_bads g_nos g_fulls]) (wr := [oX1 a_now g_now_month g_now_floes g_now_founds g_now_notes g_now_undos, rI cyI (a_now 1) 12 g_now_ways, rI cyI (a_now 2) 12 g_now_strengths, rI cyI (a_now 3) 5 g_now_kinds, rI cyI (a_now 4) 5 g_now_cells, rI cyI (a_now 5) 5 g_now_foods, rI cyI (a_now 6) 12 g_now_foundRows, rI cyI (a_now 7) 42 g_now_noteRows, rI cyI (a_now 8) 88 g_now_undoRows, rS cyS (a 1) 2 g_images, oX1 ai gimg_month gimg_floes gimg_founds gimg_notes gimg_undos, rI cyI (ai 1) 12 gimg_ways, rI cyI (ai 2) 12 gimg_strengths, rI cyI (ai 3) 5 gimg_kinds, rI cyI (ai 4) 5 gimg_cells, rI cyI (ai 5) 5 gimg_foods, rI cyI (ai 6) 12 gimg_foundRows, rI cyI (ai 7) 42 gimg_noteRows, rI cyI (ai 8) 88 gimg_undoRows]) (ws' := [oX3 a a_now a_spare a_text g_above g_below u14.2 g_nos g_fulls, oX1 a_now g_now_month g_now_floes g_now_founds g_now_notes g_now_undos, rI cyI (a_now 1) 12 g_now_ways, rI cyI (a_now 2) 12 g_now_strengths, rI cyI (a_now 3) 5 g_now_kinds, rI cyI (a_now 4) 5 g_now_cells, rI cyI (a_now 5) 5 g_now_foods, rI cyI (a_now 6) 12 g_now_foundRows, rI cyI (a_now 7) 42 g_now_noteRows, rI cyI (a_now 8) 88 g_now_undoRows, rS cyS (a 1) 2 g_images, oX1 ai gimg_month gimg_floes gimg_founds gimg_notes gimg_undos, rI cyI (ai 1) 12 gimg_ways, rI cyI (ai 2) 12 gimg_strengths, rI cyI (ai 3) 5 gimg_kinds, rI cyI (ai 4) 5 gimg_cells, rI cyI (ai 5) 5 gimg_foods, rI cyI (ai 6) 12 gimg_foundRows, rI cyI (ai 7) 42 gimg_noteRows, rI cyI (ai 8) 88 gimg_undoRows]) (va_runV (As := []) (rest := []) ⟨hx, hb, hml, hown, hts⟩ (c_X3_refuseBad l D cyI cyJ cyS a a_now a_spare a_text g_above g_below g_bads g_nos g_fulls s.heap.size u14 hu15.symm) (cwV 0 hts gX3_image_X3_refuseBad rfl rfl rfl (by decide +kernel) ⟨(Nat.le_of_ble_eq_true rfl), (Nat.le_of_ble_eq_true rfl)⟩) (preW_V (hP.sub (ws' := [oX3 a a_now a_spare a_text g_above g_below g_bads g_nos g_fulls]) [0] rfl) (hD.sub (ws' := [oX3 a a_now a_spare a_text g_above g_below g_bads g_nos g_fulls]) [0] (by decide) rfl) hKK (va_recv hK hP (ci := 2) (q0 := 0) rfl rfl)) rfl rfl hl.1 rfl (lv_room (Nat.le_of_ble_eq_true rfl)) dX3_image_10 ⟨Nat.zero_le _, Nat.zero_le _⟩) hP hD hS hA [0] [1, 2, 3, 4, 5, 6, 7, 8, 9, 10, 11, 12, 13, 14, 15, 16, 17, 18, 19] [19, 0, 1, 2, 3, 4, 5, 6, 7, 8, 9, 10, 11, 12, 13, 14, 15, 16, 17, 18] rfl rfl (by decide) (by decide) rfl (by decide) (fun H17 L18 hP hD hS => ?_)
    rw [← Option.some.inj h16]
    exact W.iret (v := u14.1) hx hb hr (fun t ht hW => ⟨⟨u14.1, (), rfl, rfl, ⟨by rw [ht]; exact hP, hD⟩⟩, hS.F ht⟩) hS.2.2 dX3_image_13
def T_X3_from_old (N : Nat) (g_bads : Int32) (g_now_month : Int32) (g_now_floes : Int32) (g_now_founds : Int32) (g_now_notes : Int32) (g_now_undos : Int32) (g_now_ways : Nat → Int32) (g_now_strengths : Nat → Int32) (g_now_kinds : Nat → Int32) (g_now_cells : Nat → Int32) (g_now_foods : Nat → Int32) (g_now_foundRows : Nat → Int32) (g_now_noteRows : Nat → Int32) (g_now_undoRows : Nat → Int32) (gimg_month : Int32) (gimg_floes : Int32) (gimg_founds : Int32) (gimg_notes : Int32) (gimg_undos : Int32) (gimg_ways : Nat → Int32) (gimg_strengths : Nat → Int32) (gimg_kinds : Nat → Int32) (gimg_cells : Nat → Int32) (gimg_foods : Nat → Int32) (gimg_foundRows : Nat → Int32) (gimg_noteRows : Nat → Int32) (gimg_undoRows : Nat → Int32) (p1 : Int32) : Option (Int32 × Int32 × Int32 × Int32 × Int32 × Int32 × Int32 × (Nat → Int32) × (Nat → Int32) × (Nat → Int32) × (Nat → Int32) × (Nat → Int32) × (Nat → Int32) × (Nat → Int32) × (Nat → Int32)) :=
  (if (T_X3_within p1 0 1) = 0 then (lt' (T_X3_refuseBad g_bads) fun u14 => (some (u14.1, u14.2, g_now_month, g_now_floes, g_now_founds, g_now_notes, g_now_undos, g_now_ways, g_now_strengths, g_now_kinds, g_now_cells, g_now_foods, g_now_foundRows, g_now_noteRows, g_now_undoRows))) else (ob p1 2 (ob p1 2 (Option.bind (T_X1_takeFrom N g_now_month g_now_floes g_now_founds g_now_notes g_now_undos g_now_ways g_now_strengths g_now_kinds g_now_cells g_now_foods g_now_foundRows g_now_noteRows g_now_undoRows gimg_month gimg_floes gimg_founds gimg_notes gimg_undos gimg_ways gimg_strengths gimg_kinds gimg_cells gimg_foods gimg_foundRows gimg_noteRows gimg_undoRows) fun u8 => (some (1, g_bads, u8.1, u8.2.1, u8.2.2.1, u8.2.2.2.1, u8.2.2.2.2.1, u8.2.2.2.2.2.1, u8.2.2.2.2.2.2.1, u8.2.2.2.2.2.2.2.1, u8.2.2.2.2.2.2.2.2.1, u8.2.2.2.2.2.2.2.2.2.1, u8.2.2.2.2.2.2.2.2.2.2.1, u8.2.2.2.2.2.2.2.2.2.2.2.1, u8.2.2.2.2.2.2.2.2.2.2.2.2))))))
abbrev rm_X3_from_old : Room := { frames := 2, cells := 0, slots := 0, locals := 47 }
set_option maxHeartbeats 4000000 in
set_option maxRecDepth 100000 in
theorem c_X3_from_old (l : Launch) (D : va_G) (cyI cyJ cyS : ClassId) (N : Nat) (a a_now a_spare a_text ai : Nat → Nat) (g_above : Int64) (g_below : Int64) (g_bads : Int32) (g_nos : Int32) (g_fulls : Int32) (g_now_month : Int32) (g_now_floes : Int32) (g_now_founds : Int32) (g_now_notes : Int32) (g_now_undos : Int32) (g_now_ways : Nat → Int32) (g_now_strengths : Nat → Int32) (g_now_kinds : Nat → Int32) (g_now_cells : Nat → Int32) (g_now_foods : Nat → Int32) (g_now_foundRows : Nat → Int32) (g_now_noteRows : Nat → Int32) (g_now_undoRows : Nat → Int32) (g_images : Nat → Option Nat) (gimg_month : Int32) (gimg_floes : Int32) (gimg_founds : Int32) (gimg_notes : Int32) (gimg_undos : Int32) (gimg_ways : Nat → Int32) (gimg_strengths : Nat → Int32) (gimg_kinds : Nat → Int32) (gimg_cells : Nat → Int32) (gimg_foods : Nat → Int32) (gimg_foundRows : Nat → Int32) (gimg_noteRows : Nat → Int32) (gimg_undoRows : Nat → Int32) (p1 : Int32) (himg : vp_in p1 2 → g_images p1.toNatClampNeg = some (ai 0)) (sz : Nat) (R0 : Int32 × Int32 × Int32 × Int32 × Int32 × Int32 × Int32 × (Nat → Int32) × (Nat → Int32) × (Nat → Int32) × (Nat → Int32) × (Nat → Int32) × (Nat → Int32) × (Nat → Int32) × (Nat → Int32)) (hT : T_X3_from_old N g_bads g_now_month g_now_floes g_now_founds g_now_notes g_now_undos g_now_ways g_now_strengths g_now_kinds g_now_cells g_now_foods g_now_foundRows g_now_noteRows g_now_undoRows gimg_month gimg_floes gimg_founds gimg_notes gimg_undos gimg_ways gimg_strengths gimg_kinds gimg_cells gimg_foods gimg_foundRows gimg_noteRows gimg_undoRows p1 = some R0) : Met l yX3_from wsX3_from rm_X3_from_old (va_Pc [.ref (a 0), .int p1] (preW D (tyS cyI cyJ cyS) [oX3 a a_now a_spare a_text g_above g_below g_bads g_nos g_fulls, oX1 a_now g_now_month g_now_floes g_now_founds g_now_notes g_now_undos, rI cyI (a_now 1) 12 g_now_ways, rI cyI (a_now 2) 12 g_now_strengths, rI cyI (a_now 3) 5 g_now_kinds, rI cyI (a_now 4) 5 g_now_cells, rI cyI (a_now 5) 5 g_now_foods, rI cyI (a_now 6) 12 g_now_foundRows, rI cyI (a_now 7) 42 g_now_noteRows, rI cyI (a_now 8) 88 g_now_undoRows, rS cyS (a 1) 2 g_images, oX1 ai gimg_month gimg_floes gimg_founds gimg_notes gimg_undos, rI cyI (ai 1) 12 gimg_ways, rI cyI (ai 2) 12 gimg_strengths, rI cyI (ai 3) 5 gimg_kinds, rI cyI (ai 4) 5 gimg_cells, rI cyI (ai 5) 5 gimg_foods, rI cyI (ai 6) 12 gimg_foundRows, rI cyI (ai 7) 42 gimg_noteRows, rI cyI (ai 8) 88 gimg_undoRows] sz)) (va_Qi (fun (r : Int32) (_ : Unit) => r = R0.1) (fun _ t => va_P D vwCl [oX3 a a_now a_spare a_text g_above g_below R0.2.1 g_nos g_fulls, oX1 a_now R0.2.2.1 R0.2.2.2.1 R0.2.2.2.2.1 R0.2.2.2.2.2.1 R0.2.2.2.2.2.2.1, rI cyI (a_now 1) 12 R0.2.2.2.2.2.2.2.1, rI cyI (a_now 2) 12 R0.2.2.2.2.2.2.2.2.1, rI cyI (a_now 3) 5 R0.2.2.2.2.2.2.2.2.2.1, rI cyI (a_now 4) 5 R0.2.2.2.2.2.2.2.2.2.2.1, rI cyI (a_now 5) 5 R0.2.2.2.2.2.2.2.2.2.2.2.1, rI cyI (a_now 6) 12 R0.2.2.2.2.2.2.2.2.2.2.2.2.1, rI cyI (a_now 7) 42 R0.2.2.2.2.2.2.2.2.2.2.2.2.2.1, rI cyI (a_now 8) 88 R0.2.2.2.2.2.2.2.2.2.2.2.2.2.2, rS cyS (a 1) 2 g_images, oX1 ai gimg_month gimg_floes gimg_founds gimg_notes gimg_undos, rI cyI (ai 1) 12 gimg_ways, rI cyI (ai 2) 12 gimg_strengths, rI cyI (ai 3) 5 gimg_kinds, rI cyI (ai 4) 5 gimg_cells, rI cyI (ai 5) 5 gimg_foods, rI cyI (ai 6) 12 gimg_foundRows, rI cyI (ai 7) 42 gimg_noteRows, rI cyI (ai 8) 88 gimg_undoRows] t.heap ∧ va_D (va_A [oX3 a a_now a_spare a_text g_above g_below g_bads g_nos g_fulls, oX1 a_now g_now_month g_now_floes g_now_founds g_now_notes g_now_undos, rI cyI (a_now 1) 12 g_now_ways, rI cyI (a_now 2) 12 g_now_strengths, rI cyI (a_now 3) 5 g_now_kinds, rI cyI (a_now 4) 5 g_now_cells, rI cyI (a_now 5) 5 g_now_foods, rI cyI (a_now 6) 12 g_now_foundRows, rI cyI (a_now 7) 42 g_now_noteRows, rI cyI (a_now 8) 88 g_now_undoRows, rS cyS (a 1) 2 g_images, oX1 ai gimg_month gimg_floes gimg_founds gimg_notes gimg_undos, rI cyI (ai 1) 12 gimg_ways, rI cyI (ai 2) 12 gimg_strengths, rI cyI (ai 3) 5 gimg_kinds, rI cyI (ai 4) 5 gimg_cells, rI cyI (ai 5) 5 gimg_foods, rI cyI (ai 6) 12 gimg_foundRows, rI cyI (ai 7) 42 gimg_noteRows, rI cyI (ai 8) 88 gimg_undoRows] sz) [oX3 a a_now a_spare a_text g_above g_below R0.2.1 g_nos g_fulls, oX1 a_now R0.2.2.1 R0.2.2.2.1 R0.2.2.2.2.1 R0.2.2.2.2.2.1 R0.2.2.2.2.2.2.1, rI cyI (a_now 1) 12 R0.2.2.2.2.2.2.2.1, rI cyI (a_now 2) 12 R0.2.2.2.2.2.2.2.2.1, rI cyI (a_now 3) 5 R0.2.2.2.2.2.2.2.2.2.1, rI cyI (a_now 4) 5 R0.2.2.2.2.2.2.2.2.2.2.1, rI cyI (a_now 5) 5 R0.2.2.2.2.2.2.2.2.2.2.2.1, rI cyI (a_now 6) 12 R0.2.2.2.2.2.2.2.2.2.2.2.2.1, rI cyI (a_now 7) 42 R0.2.2.2.2.2.2.2.2.2.2.2.2.2.1, rI cyI (a_now 8) 88 R0.2.2.2.2.2.2.2.2.2.2.2.2.2.2, rS cyS (a 1) 2 g_images, oX1 ai gimg_month gimg_floes gimg_founds gimg_notes gimg_undos, rI cyI (ai 1) 12 gimg_ways, rI cyI (ai 2) 12 gimg_strengths, rI cyI (ai 3) 5 gimg_kinds, rI cyI (ai 4) 5 gimg_cells, rI cyI (ai 5) 5 gimg_foods, rI cyI (ai 6) 12 gimg_foundRows, rI cyI (ai 7) 42 gimg_noteRows, rI cyI (ai 8) 88 gimg_undoRows]) (va_A [oX3 a a_now a_spare a_text g_above g_below g_bads g_nos g_fulls, oX1 a_now g_now_month g_now_floes g_now_founds g_now_notes g_now_undos, rI cyI (a_now 1) 12 g_now_ways, rI cyI (a_now 2) 12 g_now_strengths, rI cyI (a_now 3) 5 g_now_kinds, rI cyI (a_now 4) 5 g_now_cells, rI cyI (a_now 5) 5 g_now_foods, rI cyI (a_now 6) 12 g_now_foundRows, rI cyI (a_now 7) 42 g_now_noteRows, rI cyI (a_now 8) 88 g_now_undoRows, rS cyS (a 1) 2 g_images, oX1 ai gimg_month gimg_floes gimg_founds gimg_notes gimg_undos, rI cyI (ai 1) 12 gimg_ways, rI cyI (ai 2) 12 gimg_strengths, rI cyI (ai 3) 5 gimg_kinds, rI cyI (ai 4) 5 gimg_cells, rI cyI (ai 5) 5 gimg_foods, rI cyI (ai 6) 12 gimg_foundRows, rI cyI (ai 7) 42 gimg_noteRows, rI cyI (ai 8) 88 gimg_undoRows] sz)) 0 0 (va_A [oX3 a a_now a_spare a_text g_above g_below g_bads g_nos g_fulls, oX1 a_now g_now_month g_now_floes g_now_founds g_now_notes g_now_undos, rI cyI (a_now 1) 12 g_now_ways, rI cyI (a_now 2) 12 g_now_strengths, rI cyI (a_now 3) 5 g_now_kinds, rI cyI (a_now 4) 5 g_now_cells, rI cyI (a_now 5) 5 g_now_foods, rI cyI (a_now 6) 12 g_now_foundRows, rI cyI (a_now 7) 42 g_now_noteRows, rI cyI (a_now 8) 88 g_now_undoRows, rS cyS (a 1) 2 g_images, oX1 ai gimg_month gimg_floes gimg_founds gimg_notes gimg_undos, rI cyI (ai 1) 12 gimg_ways, rI cyI (ai 2) 12 gimg_strengths, rI cyI (ai 3) 5 gimg_kinds, rI cyI (ai 4) 5 gimg_cells, rI cyI (ai 5) 5 gimg_foods, rI cyI (ai 6) 12 gimg_foundRows, rI cyI (ai 7) 42 gimg_noteRows, rI cyI (ai 8) 88 gimg_undoRows] sz) := by
  refine Met.ofW (cc := cX3_from) (maxL := 2) (ret := (some .int)) (by decide) rfl ?_
  intro p e s m args below meth c s₁ B hml hv
  obtain ⟨rfl, hsz, hP, hKK, hD0⟩ := hv
  have hx := B.exec
  have hb := B.bytes
  have hr := B.returns
  have hts := atoms_spec (ws := wsX3_from) B.pre
  have hown : s.vm.findClass RX3 = some m.cls := findClass_of_methodNamed B.named
  have hlocks := B.notSynchronized
  have hK := hKK.1
  have inX3 : ∀ w ∈ wsX30, w ∈ wsX3_from := (fun _ h => List.mem_cons_of_mem _ (List.mem_append_left _ (List.mem_append_right _ h)))
  have inX1 : ∀ w ∈ wsX10, w ∈ wsX3_from := (fun _ h => List.mem_cons_of_mem _ (List.mem_append_right _ h))
  subst hsz
  have hD := hD0.self (sz := s.heap.size)
  generalize hAe : va_A [oX3 a a_now a_spare a_text g_above g_below g_bads g_nos g_fulls, oX1 a_now g_now_month g_now_floes g_now_founds g_now_notes g_now_undos, rI cyI (a_now 1) 12 g_now_ways, rI cyI (a_now 2) 12 g_now_strengths, rI cyI (a_now 3) 5 g_now_kinds, rI cyI (a_now 4) 5 g_now_cells, rI cyI (a_now 5) 5 g_now_foods, rI cyI (a_now 6) 12 g_now_foundRows, rI cyI (a_now 7) 42 g_now_noteRows, rI cyI (a_now 8) 88 g_now_undoRows, rS cyS (a 1) 2 g_images, oX1 ai gimg_month gimg_floes gimg_founds gimg_notes gimg_undos, rI cyI (ai 1) 12 gimg_ways, rI cyI (ai 2) 12 gimg_strengths, rI cyI (ai 3) 5 gimg_kinds, rI cyI (ai 4) 5 gimg_cells, rI cyI (ai 5) 5 gimg_foods, rI cyI (ai 6) 12 gimg_foundRows, rI cyI (ai 7) 42 gimg_noteRows, rI cyI (ai 8) 88 gimg_undoRows] s.heap.size = A at hD ⊢
  have hA : ∀ q : Nat, s.heap.size ≤ q → A q := fun q h => by rw [← hAe]; exact Or.inr h
  have hS : va_S A s.heap s.heap [] := va_S.rf
  have hP : va_P D vwCl [oX3 a a_now a_spare a_text g_above g_below g_bads g_nos g_fulls, oX1 a_now g_now_month g_now_floes g_now_founds g_now_notes g_now_undos, rI cyI (a_now 1) 12 g_now_ways, rI cyI (a_now 2) 12 g_now_strengths, rI cyI (a_now 3) 5 g_now_kinds, rI cyI (a_now 4) 5 g_now_cells, rI cyI (a_now 5) 5 g_now_foods, rI cyI (a_now 6) 12 g_now_foundRows, rI cyI (a_now 7) 42 g_now_noteRows, rI cyI (a_now 8) 88 g_now_undoRows, rS cyS (a 1) 2 g_images, oX1 ai gimg_month gimg_floes gimg_founds gimg_notes gimg_undos, rI cyI (ai 1) 12 gimg_ways, rI cyI (ai 2) 12 gimg_strengths, rI cyI (ai 3) 5 gimg_kinds, rI cyI (ai 4) 5 gimg_cells, rI cyI (ai 5) 5 gimg_foods, rI cyI (ai 6) 12 gimg_foundRows, rI cyI (ai 7) 42 gimg_noteRows, rI cyI (ai 8) 88 gimg_undoRows] s.heap := hP
  have hl := lv_entry [.ref (a 0), .int p1] (n := 2) (Nat.le_of_ble_eq_true rfl)
  rw [lg_entry_eq]
  generalize (lg_sl [.ref (a 0), .int p1] ++ List.replicate (2 - (lg_sl [.ref (a 0), .int p1]).length) Slot.unset).toArray = ls at hl ⊢
  have hl : lv_has ls 2 [(0, .ref (a 0)), (1, .int p1)] := hl
  unfold T_X3_from_old at hT
  refine lv_iload_n hx hb dX3_from_0 rfl (lv_at hl 1 rfl) ?_
  refine lv_iconst (v := 0) hx hb dX3_from_1 (by decide) ?_
  refine lv_iconst (v := 1) hx hb dX3_from_2 (by decide) ?_
  refine kc_Z (W.runS (As := [.int p1, .int 0, .int 1]) (rest := []) ⟨hx, hb, hml, hown, hts⟩ (c_X3_within l p1 0 1 (T_X3_within p1 0 1) rfl) (va_cwS 3 hts gX3_from_X3_within rfl rfl rfl (by decide +kernel) ⟨(Nat.le_of_ble_eq_true rfl), (Nat.le_of_ble_eq_true rfl)⟩) preT_S rfl rfl hl.1 rfl (lv_room (Nat.le_of_ble_eq_true rfl)) dX3_from_3 ⟨Nat.zero_le _, Nat.zero_le _⟩) (fun hn1 => ?_)
  refine lv_if_ne (tgt := 14) hx hb dX3_from_6 (by decide) (fun c2 => ?_) (fun c2 => ?_)
  · have h3 := (if_neg c2).symm.trans hT
    refine lv_aload_n hx hb dX3_from_14 rfl (lv_at hl 0 rfl) ?_
    refine va_get (D := D) (cl := vwCl) (ci := 2) (v := .ref (a 1)) (C := RX3) (T := TX3) (N := 12) hx hb hts inX3 hown hK hP 0 rfl rfl 2 (by decide) (hts (Cond.fieldLink RX3 19 "FrozenIn" "images" "[LFrozenIn$Sea;") (List.mem_of_getElem? (i := 1) rfl)) (fun _ h9 => h9) rfl dX3_from_15 ?_
    refine lv_iload_n hx hb dX3_from_18 rfl (lv_at hl 1 rfl) ?_
    obtain ⟨hi5, h4⟩ := ob_e h3
    refine va_aldq hx hb hK hP 10 2 rfl rfl hi5 dX3_from_19 ?_
    rw [himg hi5]
    refine lv_ifnonnull (x := ai 0) (tgt := 28) hx hb dX3_from_20 (by decide) ?_
    refine lv_aload_n hx hb dX3_from_28 rfl (lv_at hl 0 rfl) ?_
    refine va_get (D := D) (cl := vwCl) (ci := 2) (v := .ref (a_now 0)) (C := RX3) (T := TX3) (N := 12) hx hb hts inX3 hown hK hP 0 rfl rfl 0 (by decide) (hts (Cond.fieldLink RX3 10 "FrozenIn" "now" "LFrozenIn$Sea;") (List.mem_of_getElem? (i := 2) rfl)) (fun _ h9 => h9) rfl dX3_from_29 ?_
    refine lv_aload_n hx hb dX3_from_32 rfl (lv_at hl 0 rfl) ?_
    refine va_get (D := D) (cl := vwCl) (ci := 2) (v := .ref (a 1)) (C := RX3) (T := TX3) (N := 12) hx hb hts inX3 hown hK hP 0 rfl rfl 2 (by decide) (hts (Cond.fieldLink RX3 19 "FrozenIn" "images" "[LFrozenIn$Sea;") (List.mem_of_getElem? (i := 1) rfl)) (fun _ h9 => h9) rfl dX3_from_33 ?_
    refine lv_iload_n hx hb dX3_from_36 rfl (lv_at hl 1 rfl) ?_
    obtain ⟨hi7, h6⟩ := ob_e h4
    refine va_aldq hx hb hK hP 10 2 rfl rfl hi7 dX3_from_37 ?_
    rw [himg hi7]
    obtain ⟨u8, hu9, h10⟩ := bd_e h6
    refine kw_V (wc := [oX1 a_now g_now_month g_now_floes g_now_founds g_now_notes g_now_undos, rI cyI (a_now 1) 12 g_now_ways, rI cyI (a_now 2) 12 g_now_strengths, rI cyI (a_now 3) 5 g_now_kinds, rI cyI (a_now 4) 5 g_now_cells, rI cyI (a_now 5) 5 g_now_foods, rI cyI (a_now 6) 12 g_now_foundRows, rI cyI (a_now 7) 42 g_now_noteRows, rI cyI (a_now 8) 88 g_now_undoRows, oX1 ai gimg_month gimg_floes gimg_founds gimg_notes gimg_undos, rI cyI (ai 1) 12 gimg_ways, rI cyI (ai 2) 12 gimg_strengths, rI cyI (ai 3) 5 gimg_kinds, rI cyI (ai 4) 5 gimg_cells, rI cyI (ai 5) 5 gimg_foods, rI cyI (ai 6) 12 gimg_foundRows, rI cyI (ai 7) 42 gimg_noteRows, rI cyI (ai 8) 88 gimg_undoRows]) (wr := [oX3 a a_now a_spare a_text g_above g_below g_bads g_nos g_fulls, rS cyS (a 1) 2 g_images]) (ws' := [oX3 a a_now a_spare a_text g_above g_below g_bads g_nos g_fulls, oX1 a_now u8.1 u8.2.1 u8.2.2.1 u8.2.2.2.1 u8.2.2.2.2.1, rI cyI (a_now 1) 12 u8.2.2.2.2.2.1, rI cyI (a_now 2) 12 u8.2.2.2.2.2.2.1, rI cyI (a_now 3) 5 u8.2.2.2.2.2.2.2.1, rI cyI (a_now 4) 5 u8.2.2.2.2.2.2.2.2.1, rI cyI (a_now 5) 5 u8.2.2.2.2.2.2.2.2.2.1, rI cyI (a_now 6) 12 u8.2.2.2.2.2.2.2.2.2.2.1, rI cyI (a_now 7) 42 u8.2.2.2.2.2.2.2.2.2.2.2.1, rI cyI (a_now 8) 88 u8.2.2.2.2.2.2.2.2.2.2.2.2, rS cyS (a 1) 2 g_images, oX1 ai gimg_month gimg_floes gimg_founds gimg_notes gimg_undos, rI cyI (ai 1) 12 gimg_ways, rI cyI (ai 2) 12 gimg_strengths, rI cyI (ai 3) 5 gimg_kinds, rI cyI (ai 4) 5 gimg_cells, rI cyI (ai 5) 5 gimg_foods, rI cyI (ai 6) 12 gimg_foundRows, rI cyI (ai 7) 42 gimg_noteRows, rI cyI (ai 8) 88 gimg_undoRows]) (va_runV (As := [.ref (ai 0)]) (rest := []) ⟨hx, hb, hml, hown, hts⟩ (c_X1_takeFrom l D cyI cyJ cyS N a_now ai g_now_month g_now_floes g_now_founds g_now_notes g_now_undos g_now_ways g_now_strengths g_now_kinds g_now_cells g_now_foods g_now_foundRows g_now_noteRows g_now_undoRows gimg_month gimg_floes gimg_founds gimg_notes gimg_undos gimg_ways gimg_strengths gimg_kinds gimg_cells gimg_foods gimg_foundRows gimg_noteRows gimg_undoRows s.heap.size u8 hu9) (cwV 1 hts gX3_from_X1_takeFrom rfl rfl rfl (by decide +kernel) ⟨(Nat.le_of_ble_eq_true rfl), (Nat.le_of_ble_eq_true rfl)⟩) (preW_V (hP.sub (ws' := [oX1 a_now g_now_month g_now_floes g_now_founds g_now_notes g_now_undos, rI cyI (a_now 1) 12 g_now_ways, rI cyI (a_now 2) 12 g_now_strengths, rI cyI (a_now 3) 5 g_now_kinds, rI cyI (a_now 4) 5 g_now_cells, rI cyI (a_now 5) 5 g_now_foods, rI cyI (a_now 6) 12 g_now_foundRows, rI cyI (a_now 7) 42 g_now_noteRows, rI cyI (a_now 8) 88 g_now_undoRows, oX1 ai gimg_month gimg_floes gimg_founds gimg_notes gimg_undos, rI cyI (ai 1) 12 gimg_ways, rI cyI (ai 2) 12 gimg_strengths, rI cyI (ai 3) 5 gimg_kinds, rI cyI (ai 4) 5 gimg_cells, rI cyI (ai 5) 5 gimg_foods, rI cyI (ai 6) 12 gimg_foundRows, rI cyI (ai 7) 42 gimg_noteRows, rI cyI (ai 8) 88 gimg_undoRows]) [1, 2, 3, 4, 5, 6, 7, 8, 9, 11, 12, 13, 14, 15, 16, 17, 18, 19] rfl) (hD.sub (ws' := [oX1 a_now g_now_month g_now_floes g_now_founds g_now_notes g_now_undos, rI cyI (a_now 1) 12 g_now_ways, rI cyI (a_now 2) 12 g_now_strengths, rI cyI (a_now 3) 5 g_now_kinds, rI cyI (a_now 4) 5 g_now_cells, rI cyI (a_now 5) 5 g_now_foods, rI cyI (a_now 6) 12 g_now_foundRows, rI cyI (a_now 7) 42 g_now_noteRows, rI cyI (a_now 8) 88 g_now_undoRows, oX1 ai gimg_month gimg_floes gimg_founds gimg_notes gimg_undos, rI cyI (ai 1) 12 gimg_ways, rI cyI (ai 2) 12 gimg_strengths, rI cyI (ai 3) 5 gimg_kinds, rI cyI (ai 4) 5 gimg_cells, rI cyI (ai 5) 5 gimg_foods, rI cyI (ai 6) 12 gimg_foundRows, rI cyI (ai 7) 42 gimg_noteRows, rI cyI (ai 8) 88 gimg_undoRows]) [1, 2, 3, 4, 5, 6, 7, 8, 9, 11, 12, 13, 14, 15, 16, 17, 18, 19] (by decide) rfl) hKK (va_recv hK hP (ci := 0) (q0 := 1) rfl rfl)) rfl rfl hl.1 rfl (lv_room (Nat.le_of_ble_eq_true rfl)) dX3_from_38 ⟨Nat.zero_le _, Nat.zero_le _⟩) hP hD hS hA [1, 2, 3, 4, 5, 6, 7, 8, 9, 11, 12, 13, 14, 15, 16, 17, 18, 19] [0, 10] [0, 2, 3, 4, 5, 6, 7, 8, 9, 10, 1, 11, 12, 13, 14, 15, 16, 17, 18, 19] rfl rfl (by decide) (by decide) rfl (by decide) (fun H11 L12 hP hD hS => ?_)
    refine lv_iconst (v := 1) hx hb dX3_from_41 (by decide) ?_
    rw [← Option.some.inj h10]
    exact W.iret (v := 1) hx hb hr (fun t ht hW => ⟨⟨1, (), rfl, rfl, ⟨by rw [ht]; exact hP, hD⟩⟩, hS.F ht⟩) hS.2.2 dX3_from_42
  · have h13 := (if_pos c2).symm.trans hT
    refine lv_aload_n hx hb dX3_from_9 rfl (lv_at hl 0 rfl) ?_
    obtain ⟨u14, hu15, h16⟩ := lt_e h13
    refine kw_I (wc := [oX3 a a_now a_spare a_text g_above g_below g_bads g_nos g_fulls]) (wr := [oX1 a_now g_now_month g_now_floes g_now_founds g_now_notes g_now_undos, rI cyI (a_now 1) 12 g_now_ways, rI cyI (a_now 2) 12 g_now_strengths, rI cyI (a_now 3) 5 g_now_kinds, rI cyI (a_now 4) 5 g_now_cells, rI cyI (a_now 5) 5 g_now_foods, rI cyI (a_now 6) 12 g_now_foundRows, rI cyI (a_now 7) 42 g_now_noteRows, rI cyI (a_now 8) 88 g_now_undoRows, rS cyS (a 1) 2 g_images, oX1 ai gimg_month gimg_floes gimg_founds gimg_notes gimg_undos, rI cyI (ai 1) 12 gimg_ways, rI cyI (ai 2) 12 gimg_strengths, rI cyI (ai 3) 5 gimg_kinds, rI cyI (ai 4) 5 gimg_cells, rI cyI (ai 5) 5 gimg_foods, rI cyI (ai 6) 12 gimg_foundRows, rI cyI (ai 7) 42 gimg_noteRows, rI cyI (ai 8) 88 gimg_undoRows]) (ws' := [oX3 a a_now a_spare a_text g_above g_below u14.2 g_nos g_fulls, oX1 a_now g_now_month g_now_floes g_now_founds g_now_notes g_now_undos, rI cyI (a_now 1) 12 g_now_ways, rI cyI (a_now 2) 12 g_now_strengths, rI cyI (a_now 3) 5 g_now_kinds, rI cyI (a_now 4) 5 g_now_cells, rI cyI (a_now 5) 5 g_now_foods, rI cyI (a_now 6) 12 g_now_foundRows, rI cyI (a_now 7) 42 g_now_noteRows, rI cyI (a_now 8) 88 g_now_undoRows, rS cyS (a 1) 2 g_images, oX1 ai gimg_month gimg_floes gimg_founds gimg_notes gimg_undos, rI cyI (ai 1) 12 gimg_ways, rI cyI (ai 2) 12 gimg_strengths, rI cyI (ai 3) 5 gimg_kinds, rI cyI (ai 4) 5 gimg_cells, rI cyI (ai 5) 5 gimg_foods, rI cyI (ai 6) 12 gimg_foundRows, rI cyI (ai 7) 42 gimg_noteRows, rI cyI (ai 8) 88 gimg_undoRows]) (va_runV (As := []) (rest := []) ⟨hx, hb, hml, hown, hts⟩ (c_X3_refuseBad l D cyI cyJ cyS a a_now a_spare a_text g_above g_below g_bads g_nos g_fulls s.heap.size u14 hu15.symm) (cwV 0 hts gX3_from_X3_refuseBad rfl rfl rfl (by decide +kernel) ⟨(Nat.le_of_ble_eq_true rfl), (Nat.le_of_ble_eq_true rfl)⟩) (preW_V (hP.sub (ws' := [oX3 a a_now a_spare a_text g_above g_below g_bads g_nos g_fulls]) [0] rfl) (hD.sub (ws' := [oX3 a a_now a_spare a_text g_above g_below g_bads g_nos g_fulls]) [0] (by decide) rfl) hKK (va_recv hK hP (ci := 2) (q0 := 0) rfl rfl)) rfl rfl hl.1 rfl (lv_room (Nat.le_of_ble_eq_true rfl)) dX3_from_10 ⟨Nat.zero_le _, Nat.zero_le _⟩) hP hD hS hA [0] [1, 2, 3, 4, 5, 6, 7, 8, 9, 10, 11, 12, 13, 14, 15, 16, 17, 18, 19] [19, 0, 1, 2, 3, 4, 5, 6, 7, 8, 9, 10, 11, 12, 13, 14, 15, 16, 17, 18] rfl rfl (by decide) (by decide) rfl (by decide) (fun H17 L18 hP hD hS => ?_)
    rw [← Option.some.inj h16]
    exact W.iret (v := u14.1) hx hb hr (fun t ht hW => ⟨⟨u14.1, (), rfl, rfl, ⟨by rw [ht]; exact hP, hD⟩⟩, hS.F ht⟩) hS.2.2 dX3_from_13
