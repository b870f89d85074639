abbrev rm_X3_image_bad : Room := { frames := 1, cells := 0, slots := 0, locals := 22 }
set_option maxHeartbeats 4000000 in
set_option maxRecDepth 100000 in
theorem c_X3_image_bad (l : Launch) (D : va_G) (cyI cyJ cyS : ClassId) (N : Nat) (a a_now a_spare a_text : Nat → Nat) (g_above g_below : Int64) (g_bads g_nos g_fulls : Int32) (p1 : Int32) (hwi : T_X3_within p1 0 1 = 0) (sz : Nat) : Met l yX3_image wsX3_image rm_X3_image_bad (va_Pc [.ref (a 0), .int p1] (preW D (tyS cyI cyJ cyS) [oX3 a a_now a_spare a_text g_above g_below g_bads g_nos g_fulls] sz)) (va_Qi (fun (r : Int32) (_ : Unit) => r = (T_X3_refuseBad g_bads).1) (fun _ t => va_P D vwCl [oX3 a a_now a_spare a_text g_above g_below ((T_X3_refuseBad g_bads).2) g_nos g_fulls] t.heap ∧ va_D (va_A [oX3 a a_now a_spare a_text g_above g_below g_bads g_nos g_fulls] sz) [oX3 a a_now a_spare a_text g_above g_below ((T_X3_refuseBad g_bads).2) g_nos g_fulls]) (va_A [oX3 a a_now a_spare a_text g_above g_below g_bads g_nos g_fulls] sz)) 0 0 (va_A [oX3 a a_now a_spare a_text g_above g_below g_bads g_nos g_fulls] sz) := by
  refine Met.ofW (cc := cX3_image) (maxL := 2) (ret := (some .int)) (by decide) rfl ?_
  intro p e s m args below meth c s₁ B hml hv
  obtain ⟨rfl, hsz, hP, hKK, hD0⟩ := hv
  have hx := B.exec
  have hb := B.bytes
  have hr := B.returns
  have hts := atoms_spec (ws := wsX3_image) B.pre
  have hown : s.vm.findClass RX3 = some m.cls := findClass_of_methodNamed B.named
  have hlocks := B.notSynchronized
  have hK := hKK.1
  have inX1 : ∀ w ∈ wsX10, w ∈ wsX3_image := (fun _ h => List.mem_cons_of_mem _ (List.mem_append_right _ h))
  have inX3 : ∀ w ∈ wsX30, w ∈ wsX3_image := (fun _ h => List.mem_cons_of_mem _ (List.mem_append_left _ (List.mem_append_right _ h)))
  subst hsz
  have hD := hD0.self (sz := s.heap.size)
  generalize hAe : va_A [oX3 a a_now a_spare a_text g_above g_below g_bads g_nos g_fulls] s.heap.size = A at hD ⊢
  have hA : ∀ q : Nat, s.heap.size ≤ q → A q := fun q h => by rw [← hAe]; exact Or.inr h
  have hS : va_S A s.heap s.heap [] := va_S.rf
  have hP : va_P D vwCl [oX3 a a_now a_spare a_text g_above g_below g_bads g_nos g_fulls] s.heap := hP
  have hl := lv_entry [.ref (a 0), .int p1] (n := 2) (Nat.le_of_ble_eq_true rfl)
  rw [lg_entry_eq]
  generalize (lg_sl [.ref (a 0), .int p1] ++ List.replicate (2 - (lg_sl [.ref (a 0), .int p1]).length) Slot.unset).toArray = ls at hl ⊢
  have hl : lv_has ls 2 [(0, .ref (a 0)), (1, .int p1)] := hl
  refine lv_iload_n hx hb dX3_image_0 rfl (lv_at hl 1 rfl) ?_
  refine lv_iconst (v := 0) hx hb dX3_image_1 (by decide) ?_
  refine lv_iconst (v := 1) hx hb dX3_image_2 (by decide) ?_
  refine kc_Z (W.runS (As := [.int p1, .int 0, .int 1]) (rest := []) ⟨hx, hb, hml, hown, hts⟩ (c_X3_within l p1 0 1 (T_X3_within p1 0 1) rfl) (va_cwS 3 hts gX3_image_X3_within rfl rfl rfl (by decide +kernel) ⟨(Nat.le_of_ble_eq_true rfl), (Nat.le_of_ble_eq_true rfl)⟩) preT_S rfl rfl hl.1 rfl (lv_room (Nat.le_of_ble_eq_true rfl)) dX3_image_3 ⟨(Nat.le_of_ble_eq_true rfl), (Nat.le_of_ble_eq_true rfl)⟩) (fun _ => ?_)
  refine lv_if_ne (tgt := 14) hx hb dX3_image_6 (by decide) (fun cz => absurd hwi cz) (fun _ => ?_)
  refine lv_aload_n hx hb dX3_image_9 rfl (lv_at hl 0 rfl) ?_
  refine kw_I (wc := [oX3 a a_now a_spare a_text g_above g_below g_bads g_nos g_fulls]) (wr := []) (ws' := [oX3 a a_now a_spare a_text g_above g_below ((T_X3_refuseBad g_bads).2) g_nos g_fulls]) (va_runV (As := []) (rest := []) ⟨hx, hb, hml, hown, hts⟩ (c_X3_refuseBad l D cyI cyJ cyS a a_now a_spare a_text g_above g_below g_bads g_nos g_fulls s.heap.size (T_X3_refuseBad g_bads) rfl) (cwV 0 hts gX3_image_X3_refuseBad rfl rfl rfl (by decide +kernel) ⟨(Nat.le_of_ble_eq_true rfl), (Nat.le_of_ble_eq_true rfl)⟩) (preW_V (hP.sub (ws' := [oX3 a a_now a_spare a_text g_above g_below g_bads g_nos g_fulls]) [0] rfl) (hD.sub (ws' := [oX3 a a_now a_spare a_text g_above g_below g_bads g_nos g_fulls]) [0] (by decide) rfl) hKK (va_recv hK hP (ci := 2) (q0 := 0) rfl rfl)) rfl rfl hl.1 rfl (lv_room (Nat.le_of_ble_eq_true rfl)) dX3_image_10 ⟨(Nat.le_of_ble_eq_true rfl), (Nat.le_of_ble_eq_true rfl)⟩) hP hD hS hA [0] [] [0] rfl rfl (by decide) (by decide) rfl (by decide) (fun H1 L1 hP hD hS => ?_)
  exact W.iret (v := (T_X3_refuseBad g_bads).1) hx hb hr (fun t ht hW => ⟨⟨(T_X3_refuseBad g_bads).1, (), rfl, rfl, ⟨by rw [ht]; exact hP, hD⟩⟩, hS.F ht⟩) hS.2.2 dX3_image_13
