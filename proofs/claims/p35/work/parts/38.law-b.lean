set_option maxHeartbeats 8000000 in
set_option maxRecDepth 100000 in
theorem law_body {p : Program} {l : Launch} {en : Env} {s0 : State} {m : MethodId} {args : Array Value} {below : List Frame} {meth : Method} {co : Code} (F : CallFix p m co cL_law 34 s0 args wsL_law RL) {D : va_G} {cyI cyJ cyS : ClassId} (hKK : KK D (tyS cyI cyJ cyS) s0) {A : Nat → Prop} (hA : ∀ q, s0.heap.size ≤ q → A q) {a a_now a_spare a_text : Nat → Nat} {qd : Nat} {bs Ls : Nat} {xs : Nat → Int32} (hL : Ls ≤ 260) (hX : va_X bs Ls xs s0 s0.heap) (hbl : bs < s0.heap.size) (hbA : ¬ A bs) {Q : State → Prop} {dv : Nat → Int32} {Wi Gi Ki Ce Fd FR NR UR : Nat → Nat} {ab be : Int64} {H : Heap} {locs : List Loc} {ls : Array Slot} (hST : ST D cyI cyJ cyS a a_now a_spare a_text qd dv A s0.heap 0 0 0 0 0 Wi Gi Ki Ce Fd FR NR UR none ab be H locs) (hl : lv_has ls 34 [(0, .ref bs), (1, .ref ((a 0))), (2, .ref qd)]) (kont : ∀ (H1 : Heap) (locs1 : List Loc) (ls1 : Array Slot), va_S A s0.heap H1 locs1 → W p l en room_1 s0 m args below meth co H1 locs1 (26 + 81) (669 + 1746) Q (F0 m 1769 ls1 (.int (nI 1) :: []))) : W p l en room_1 s0 m args below meth co H locs 26 669 Q (F0 m 13 ls []) := by
  obtain ⟨hx, hb, hml, hown, hts⟩ := id F
  have hck : 26 ≤ room_1.cells ∧ 669 ≤ room_1.slots := ⟨(Nat.le_of_ble_eq_true rfl), (Nat.le_of_ble_eq_true rfl)⟩
  refine lv_iconst (v := nI 1) hx hb dL_law_13 (by decide) ?_
  refine lv_aload_n hx hb dL_law_14 rfl (lv_at hl 0 rfl) ?_
  refine lv_bipush (v := nI 8) hx hb dL_law_15 (by decide) ?_
  refine lk_cell F hKK hA gL_law_L_cell ⟨(Nat.le_of_ble_eq_true rfl), (Nat.le_of_ble_eq_true rfl)⟩ hck dL_law_17 hl.1 (Nat.le_of_ble_eq_true rfl) hL hX hbl hbA hST 8 (by omega) (fun x6 => ?_)
  refine lv_iconst (v := nI 5) hx hb dL_law_20 (by decide) ?_
  refine lk_low F gL_law_L_low ⟨(Nat.le_of_ble_eq_true rfl), (Nat.le_of_ble_eq_true rfl)⟩ hck dL_law_21 hl.1 (Nat.le_of_ble_eq_true rfl) _ 5 (by omega) (by omega) (fun j hj => ?_)
  refine lv_iadd hx hb dL_law_24 ?_
  refine lv_nm (nI_add 1 j).symm ?_
  obtain ⟨F5, hF5e⟩ : ∃ z, z = 1 + j := ⟨_, rfl⟩
  refine lv_nm (show nI F5 = nI (1 + j) from (congrArg nI hF5e)) ?_
  refine lv_istore_n (lv' := [(3, .int (nI F5)), (0, .ref bs), (1, .ref ((a 0))), (2, .ref qd)]) hx hb dL_law_25 rfl hl (by decide) rfl (fun ls hl => ?_)
  refine lv_aload_n hx hb dL_law_26 rfl (lv_at hl 2 rfl) ?_
  refine lv_aload_n hx hb dL_law_27 rfl (lv_at hl 1 rfl) ?_
  refine lv_iload_n hx hb dL_law_28 rfl (lv_at hl 0 rfl) ?_
  refine lv_aload_n hx hb dL_law_29 rfl (lv_at hl 3 rfl) ?_
  refine lk_seacall F hKK hA gL_law_L_sea ⟨(Nat.le_of_ble_eq_true rfl), (Nat.le_of_ble_eq_true rfl)⟩ hck dL_law_30 hl.1 (Nat.le_of_ble_eq_true rfl) hL hX hbl hbA hST F5 (by omega) (by omega) (fun dv1 mo1 Wi1 Gi1 Ki1 Ce1 Fd1 FR1 NR1 UR1 ab1 be1 H locs hmo1 hdv hd16 hST => ?_)
  refine lv_if_ne (tgt := 38) hx hb dL_law_33 (by decide) (fun _ => ?_) (fun cz => absurd cz (show ¬ (nI 1 = nI 0) by rw [nI_eq (by omega) (by omega)]; omega))
  refine lv_aload_n hx hb dL_law_38 rfl (lv_at hl 3 rfl) ?_
  refine lv_bipush (v := nI 16) hx hb dL_law_39 (by decide) ?_
  refine lk_dget F hKK hA dL_law_41 16 (by omega) hST ?_
  refine lv_nm (show nI mo1 = dv1 16 from hd16.symm) ?_
  refine lv_istore (lv' := [(4, .int (nI mo1)), (3, .int (nI F5)), (0, .ref bs), (1, .ref ((a 0))), (2, .ref qd)]) hx hb dL_law_42 hl (by decide) rfl (fun ls hl => ?_)
  refine lv_iconst (v := nI 0) hx hb dL_law_44 (by decide) ?_
  refine lv_istore (lv' := [(5, .int (nI 0)), (4, .int (nI mo1)), (3, .int (nI F5)), (0, .ref bs), (1, .ref ((a 0))), (2, .ref qd)]) hx hb dL_law_45 hl (by decide) rfl (fun ls hl => ?_)
  refine law_loop (ck := 26) (sk := 669) F hKK hA hL hX hbl hbA hdv ⟨(Nat.le_of_ble_eq_true rfl), (Nat.le_of_ble_eq_true rfl)⟩ (by omega) hmo1 (fun un Ce Fd UR I ab be H1 L1 ls1 hST hl => ?_) 9 0 _ _ _ _ _ _ _ _ _ _ rfl hST (lv_sub hl [3, 4, 5, 2, 1, 0] rfl)
  exact law_end F hKK hA hL hX hbl hbA ⟨(Nat.le_of_ble_eq_true rfl), (Nat.le_of_ble_eq_true rfl)⟩ hST hl (fun H1 L1 ls1 hST => kont _ _ _ (ST_S hST))

def x00 (f1 : Nat → Int32) : FIV := ((0 : Int32), (fun _ => 0), f1, 0, (fun _ => 0), (fun _ => 0), (fun _ => 0), 0, (fun _ => 0), 0, (fun _ => 0), 0, (fun _ => 0), 0, (fun _ => 0), f1, 0, (fun _ => 0), (fun _ => 0), (fun _ => 0), 0, (fun _ => 0), 0, (fun _ => 0), 0, (fun _ => 0), (fun _ => 0), 0, 0, 0, (fun _ => 0), (fun _ => 0), (fun _ => 0), 0, 1, 0, 0, 0, none, none)
theorem cr00 {f1 : Nat → Int32} (h1 : ∀ i, i < 12 → f1 i = 1) : CR (mkS 0 0 0 0 0 (fun _ => 0) (fun _ => 1) (fun _ => 0) (fun _ => 0) (fun _ => 0) (fun _ => 0) (fun _ => 0) (fun _ => 0)) none 0 1 (x00 f1) := by
  have nz : ∀ {P : Nat → Prop} (k : Nat), k < 0 → P k := fun _ h => absurd h (Nat.not_lt_zero _)
  exact ⟨⟨Nat.zero_le _, Nat.zero_le _, Nat.zero_le _, Nat.zero_le _, Nat.zero_le _, fun _ _ => Nat.zero_le _, fun _ _ => (by decide : 1 ≤ 3), nz, nz, nz, nz, nz, nz⟩,
      ⟨⟨rfl, rfl, rfl, rfl, rfl⟩, fun _ _ => rfl, h1, nz, nz, nz, nz, nz, nz⟩, rfl, rfl, rfl, rfl⟩
set_option maxHeartbeats 8000000 in
set_option maxRecDepth 100000 in
/-- from the entry, for every script of at most 260 ints, the law comes to its end with true -/
theorem whole_start {p : Program} {e : Env} {s : State} {m : MethodId} {below : List Frame} {meth : Method} {c : Code} (l : Launch) (hflags : l.flags = flags0) {b L : Nat} {xs : Nat → Int32} (hL : L ≤ 260) (C0 : lw_At p s m meth c b L xs) : W p l e room_1 s m #[Value.ref b] below meth c s.heap [] 0 0 (lw_Z below #[Value.ref b] s) (entryFrame m ([Value.ref b] : List Value).toArray 34) := by
  obtain ⟨hx, hb, hr, hml, hown0, hts, hX, hbl, hlocks, hgv⟩ := id C0
  have hown : s.vm.findClass RL = some m.cls := hown0
  have htsL : ∀ w ∈ wsL_law, w.before #[Value.ref b] s = true := fun w h => hts w (wsL_law_in w h)
  obtain ⟨D, cyI, cyJ, cyS, hKK⟩ := start_K C0
  have hK := hKK.1
  have hA : ∀ q : Nat, s.heap.size ≤ q → (fun q : Nat => s.heap.size ≤ q) q := fun _ h => h
  have hbA : ¬ (fun q : Nat => s.heap.size ≤ q) b := Nat.not_le.mpr hbl
  have hS : va_S (fun q : Nat => s.heap.size ≤ q) s.heap s.heap [] := va_S.rf
  have hP : va_P D vwCl [] s.heap := fun k q h => by simp at h
  have hD : va_D (fun q : Nat => s.heap.size ≤ q) [] := ⟨fun i j p q h => by simp at h, fun k q h => by simp at h⟩
  obtain ⟨f1, hf1, df1⟩ := fill_i 1000 (Nat.le_refl 1000) (fun _ => 0) 1
  have hl := lv_entry ([.ref b]) (n := 34) (Nat.le_of_ble_eq_true rfl)
  rw [lg_entry_eq]
  generalize (lg_sl ([.ref b]) ++ List.replicate (34 - (lg_sl ([.ref b])).length) Slot.unset).toArray = ls at hl ⊢
  have hl : lv_has ls 34 [(0, .ref b)] := hl
  refine va_new (ci := 2) (fs := [.null, .null, .null, .null, .null, .null, .null, .long 0, .long 0, .int 0, .int 0, .int 0]) (C := RX3) (T := TX3) (N := 12) hx hb hts inX3 tyX3 tyX3_ok hown (htsL (Cond.classLink RL 20 RX3) (List.mem_of_getElem? (i := 0) (by decide +kernel))) (htsL (Cond.instantiable RX3 12) (List.mem_of_getElem? (i := 1) (by decide +kernel))) (htsL (Cond.initialized RX3) (List.mem_of_getElem? (i := 2) (by decide +kernel))) hK hP hD hS hA rfl (fun j hj => by rcases (show j = 0 ∨ j = 1 ∨ j = 2 ∨ j = 3 ∨ j = 4 ∨ j = 5 ∨ j = 6 ∨ j = 7 ∨ j = 8 ∨ j = 9 ∨ j = 10 ∨ j = 11 by omega) with rfl | rfl | rfl | rfl | rfl | rfl | rfl | rfl | rfl | rfl | rfl | rfl <;> rfl) (Nat.le_of_ble_eq_true rfl) (Nat.le_of_ble_eq_true rfl) dL_law_0 (fun q3 H hP hD hS => ?_)
  have hP : va_P D vwCl [(q3, .inr (2, [.null, .null, .null, .null, .null, .null, .null, .long 0, .long 0, .int 0, .int 0, .int 0]))] H := hP
  have hD : va_D (fun q : Nat => s.heap.size ≤ q) [(q3, .inr (2, [.null, .null, .null, .null, .null, .null, .null, .long 0, .long 0, .int 0, .int 0, .int 0]))] := hD
  refine W.widen (k := 1) (n := 12) (by omega) (by omega) ?_
  refine lv_dup hx hb dL_law_3 rfl ?_
  have hFc := va_free (wc := [(q3, .inr (2, [.null, .null, .null, .null, .null, .null, .null, .long 0, .long 0, .int 0, .int 0, .int 0]))]) hD hS hA [0] rfl
  refine va_callv (va_runI (As := []) (rest := [.ref q3]) ⟨hx, hb, hml, hown, htsL⟩ (c_X3_init l D cyI cyJ cyS 1000 q3 f1 hf1 H.size) (cwI 0 htsL gL_law_X3_init rfl rfl rfl (htsL (Cond.initialized RX3) (List.mem_of_getElem? (i := 2) (by decide +kernel))) (htsL (Cond.methodLink RL 69 yX3_init) (List.mem_of_getElem? (i := 5) (by decide +kernel))) (htsL (Cond.instanceMethod yX3_init) (List.mem_of_getElem? (i := 6) (by decide +kernel))) rfl (by decide +kernel) ⟨(Nat.le_of_ble_eq_true rfl), (Nat.le_of_ble_eq_true rfl)⟩) (preW_S hP hD hKK) rfl rfl hl.1 rfl (lv_room (Nat.le_of_ble_eq_true rfl)) dL_law_4 ⟨(Nat.le_of_ble_eq_true rfl), (Nat.le_of_ble_eq_true rfl)⟩) hS (fun q _ h => hFc q h) hFc (fun u3 t3 H1 L1 ht hvm hw hB hz1 hk1 hS => ?_)
  have hwa : u3.1 0 = q3 := hw
  subst hwa
  obtain ⟨hP, hD⟩ := kw_J (wc := [(u3.1 0, .inr (2, [.null, .null, .null, .null, .null, .null, .null, .long 0, .long 0, .int 0, .int 0, .int 0]))]) (wr := []) (w1 := [oX3 u3.1 u3.2.1 u3.2.2.1 u3.2.2.2 0 1 0 0 0, oX1 u3.2.1 0 0 0 0 0, rI cyI (u3.2.1 1) 12 (fun _ => 0), rI cyI (u3.2.1 2) 12 f1, rI cyI (u3.2.1 3) 5 (fun _ => 0), rI cyI (u3.2.1 4) 5 (fun _ => 0), rI cyI (u3.2.1 5) 5 (fun _ => 0), rI cyI (u3.2.1 6) 12 (fun _ => 0), rI cyI (u3.2.1 7) 42 (fun _ => 0), rI cyI (u3.2.1 8) 88 (fun _ => 0), oX1 u3.2.2.1 0 0 0 0 0, rI cyI (u3.2.2.1 1) 12 (fun _ => 0), rI cyI (u3.2.2.1 2) 12 f1, rI cyI (u3.2.2.1 3) 5 (fun _ => 0), rI cyI (u3.2.2.1 4) 5 (fun _ => 0), rI cyI (u3.2.2.1 5) 5 (fun _ => 0), rI cyI (u3.2.2.1 6) 12 (fun _ => 0), rI cyI (u3.2.2.1 7) 42 (fun _ => 0), rI cyI (u3.2.2.1 8) 88 (fun _ => 0), rS cyS (u3.1 1) 2 (fun _ => none), oX2 u3.2.2.2 0 0 0, rI cyI (u3.2.2.2 1) 150 (fun _ => 0), rJ cyJ (u3.1 2) 36 (fun _ => 0), rJ cyJ (u3.1 3) 36 (fun _ => 0), rI cyI (u3.1 4) 12 (fun _ => 0)]) (ws' := [oX3 u3.1 u3.2.1 u3.2.2.1 u3.2.2.2 0 1 0 0 0, oX1 u3.2.1 0 0 0 0 0, rI cyI (u3.2.1 1) 12 (fun _ => 0), rI cyI (u3.2.1 2) 12 f1, rI cyI (u3.2.1 3) 5 (fun _ => 0), rI cyI (u3.2.1 4) 5 (fun _ => 0), rI cyI (u3.2.1 5) 5 (fun _ => 0), rI cyI (u3.2.1 6) 12 (fun _ => 0), rI cyI (u3.2.1 7) 42 (fun _ => 0), rI cyI (u3.2.1 8) 88 (fun _ => 0), oX1 u3.2.2.1 0 0 0 0 0, rI cyI (u3.2.2.1 1) 12 (fun _ => 0), rI cyI (u3.2.2.1 2) 12 f1, rI cyI (u3.2.2.1 3) 5 (fun _ => 0), rI cyI (u3.2.2.1 4) 5 (fun _ => 0), rI cyI (u3.2.2.1 5) 5 (fun _ => 0), rI cyI (u3.2.2.1 6) 12 (fun _ => 0), rI cyI (u3.2.2.1 7) 42 (fun _ => 0), rI cyI (u3.2.2.1 8) 88 (fun _ => 0), rS cyS (u3.1 1) 2 (fun _ => none), oX2 u3.2.2.2 0 0 0, rI cyI (u3.2.2.2 1) 150 (fun _ => 0), rJ cyJ (u3.1 2) 36 (fun _ => 0), rJ cyJ (u3.1 3) 36 (fun _ => 0), rI cyI (u3.1 4) 12 (fun _ => 0)]) hP hD [0] [] [0, 1, 2, 3, 4, 5, 6, 7, 8, 9, 10, 11, 12, 13, 14, 15, 16, 17, 18, 19, 20, 21, 22, 23, 24] rfl rfl (by decide) (by decide) rfl (by decide) hk1 hFc ht hB
  have hP : va_P D vwCl [oX3 u3.1 u3.2.1 u3.2.2.1 u3.2.2.2 0 1 0 0 0, oX1 u3.2.1 0 0 0 0 0, rI cyI (u3.2.1 1) 12 (fun _ => 0), rI cyI (u3.2.1 2) 12 f1, rI cyI (u3.2.1 3) 5 (fun _ => 0), rI cyI (u3.2.1 4) 5 (fun _ => 0), rI cyI (u3.2.1 5) 5 (fun _ => 0), rI cyI (u3.2.1 6) 12 (fun _ => 0), rI cyI (u3.2.1 7) 42 (fun _ => 0), rI cyI (u3.2.1 8) 88 (fun _ => 0), oX1 u3.2.2.1 0 0 0 0 0, rI cyI (u3.2.2.1 1) 12 (fun _ => 0), rI cyI (u3.2.2.1 2) 12 f1, rI cyI (u3.2.2.1 3) 5 (fun _ => 0), rI cyI (u3.2.2.1 4) 5 (fun _ => 0), rI cyI (u3.2.2.1 5) 5 (fun _ => 0), rI cyI (u3.2.2.1 6) 12 (fun _ => 0), rI cyI (u3.2.2.1 7) 42 (fun _ => 0), rI cyI (u3.2.2.1 8) 88 (fun _ => 0), rS cyS (u3.1 1) 2 (fun _ => none), oX2 u3.2.2.2 0 0 0, rI cyI (u3.2.2.2 1) 150 (fun _ => 0), rJ cyJ (u3.1 2) 36 (fun _ => 0), rJ cyJ (u3.1 3) 36 (fun _ => 0), rI cyI (u3.1 4) 12 (fun _ => 0)] H1 := hP
  have hD : va_D (fun q : Nat => s.heap.size ≤ q) [oX3 u3.1 u3.2.1 u3.2.2.1 u3.2.2.2 0 1 0 0 0, oX1 u3.2.1 0 0 0 0 0, rI cyI (u3.2.1 1) 12 (fun _ => 0), rI cyI (u3.2.1 2) 12 f1, rI cyI (u3.2.1 3) 5 (fun _ => 0), rI cyI (u3.2.1 4) 5 (fun _ => 0), rI cyI (u3.2.1 5) 5 (fun _ => 0), rI cyI (u3.2.1 6) 12 (fun _ => 0), rI cyI (u3.2.1 7) 42 (fun _ => 0), rI cyI (u3.2.1 8) 88 (fun _ => 0), oX1 u3.2.2.1 0 0 0 0 0, rI cyI (u3.2.2.1 1) 12 (fun _ => 0), rI cyI (u3.2.2.1 2) 12 f1, rI cyI (u3.2.2.1 3) 5 (fun _ => 0), rI cyI (u3.2.2.1 4) 5 (fun _ => 0), rI cyI (u3.2.2.1 5) 5 (fun _ => 0), rI cyI (u3.2.2.1 6) 12 (fun _ => 0), rI cyI (u3.2.2.1 7) 42 (fun _ => 0), rI cyI (u3.2.2.1 8) 88 (fun _ => 0), rS cyS (u3.1 1) 2 (fun _ => none), oX2 u3.2.2.2 0 0 0, rI cyI (u3.2.2.2 1) 150 (fun _ => 0), rJ cyJ (u3.1 2) 36 (fun _ => 0), rJ cyJ (u3.1 3) 36 (fun _ => 0), rI cyI (u3.1 4) 12 (fun _ => 0)] := hD
  refine W.widen (k := 25) (n := 640) (by omega) (by omega) ?_
  refine lv_astore_n (lv' := [(1, .ref (u3.1 0)), (0, .ref b)]) hx hb dL_law_7 rfl hl (by decide) rfl (fun ls hl => ?_)
  refine lv_bipush (v := 29) hx hb dL_law_8 (by decide) ?_
  refine va_newa (atype := .int) (ty := .int) (N' := 29) (a0 := (29, .inl (fun _ => (0 : Int32)))) hx hb (htsL (Cond.arrayClass .int) (List.mem_of_getElem? (i := 3) (by decide +kernel))) rfl hK hP hD hS hA (fun _ => rfl) (by decide) (by decide) (Nat.le_of_ble_eq_true rfl) (Nat.le_of_ble_eq_true rfl) (Nat.le_of_ble_eq_true rfl) dL_law_10 (fun qd cA H2 hKn hP hD hS => ?_)
  have ecA : cA = cyI := Option.some.inj ((hKn.2 3 _ rfl).2.symm.trans (hK.2 0 _ rfl).2)
  rw [ecA] at hP hD
  have hP : va_P D vwCl [oX3 u3.1 u3.2.1 u3.2.2.1 u3.2.2.2 0 1 0 0 0, oX1 u3.2.1 0 0 0 0 0, rI cyI (u3.2.1 1) 12 (fun _ => 0), rI cyI (u3.2.1 2) 12 f1, rI cyI (u3.2.1 3) 5 (fun _ => 0), rI cyI (u3.2.1 4) 5 (fun _ => 0), rI cyI (u3.2.1 5) 5 (fun _ => 0), rI cyI (u3.2.1 6) 12 (fun _ => 0), rI cyI (u3.2.1 7) 42 (fun _ => 0), rI cyI (u3.2.1 8) 88 (fun _ => 0), oX1 u3.2.2.1 0 0 0 0 0, rI cyI (u3.2.2.1 1) 12 (fun _ => 0), rI cyI (u3.2.2.1 2) 12 f1, rI cyI (u3.2.2.1 3) 5 (fun _ => 0), rI cyI (u3.2.2.1 4) 5 (fun _ => 0), rI cyI (u3.2.2.1 5) 5 (fun _ => 0), rI cyI (u3.2.2.1 6) 12 (fun _ => 0), rI cyI (u3.2.2.1 7) 42 (fun _ => 0), rI cyI (u3.2.2.1 8) 88 (fun _ => 0), rS cyS (u3.1 1) 2 (fun _ => none), oX2 u3.2.2.2 0 0 0, rI cyI (u3.2.2.2 1) 150 (fun _ => 0), rJ cyJ (u3.1 2) 36 (fun _ => 0), rJ cyJ (u3.1 3) 36 (fun _ => 0), rI cyI (u3.1 4) 12 (fun _ => 0), rI cyI qd 29 (fun _ => 0)] H2 := hP
  have hD : va_D (fun q : Nat => s.heap.size ≤ q) [oX3 u3.1 u3.2.1 u3.2.2.1 u3.2.2.2 0 1 0 0 0, oX1 u3.2.1 0 0 0 0 0, rI cyI (u3.2.1 1) 12 (fun _ => 0), rI cyI (u3.2.1 2) 12 f1, rI cyI (u3.2.1 3) 5 (fun _ => 0), rI cyI (u3.2.1 4) 5 (fun _ => 0), rI cyI (u3.2.1 5) 5 (fun _ => 0), rI cyI (u3.2.1 6) 12 (fun _ => 0), rI cyI (u3.2.1 7) 42 (fun _ => 0), rI cyI (u3.2.1 8) 88 (fun _ => 0), oX1 u3.2.2.1 0 0 0 0 0, rI cyI (u3.2.2.1 1) 12 (fun _ => 0), rI cyI (u3.2.2.1 2) 12 f1, rI cyI (u3.2.2.1 3) 5 (fun _ => 0), rI cyI (u3.2.2.1 4) 5 (fun _ => 0), rI cyI (u3.2.2.1 5) 5 (fun _ => 0), rI cyI (u3.2.2.1 6) 12 (fun _ => 0), rI cyI (u3.2.2.1 7) 42 (fun _ => 0), rI cyI (u3.2.2.1 8) 88 (fun _ => 0), rS cyS (u3.1 1) 2 (fun _ => none), oX2 u3.2.2.2 0 0 0, rI cyI (u3.2.2.2 1) 150 (fun _ => 0), rJ cyJ (u3.1 2) 36 (fun _ => 0), rJ cyJ (u3.1 3) 36 (fun _ => 0), rI cyI (u3.1 4) 12 (fun _ => 0), rI cyI qd 29 (fun _ => 0)] := hD
  refine W.widen (k := 26) (n := 669) (by omega) (by omega) ?_
  refine lv_astore_n (lv' := [(2, .ref qd), (1, .ref (u3.1 0)), (0, .ref b)]) hx hb dL_law_12 rfl hl (by decide) rfl (fun ls hl => ?_)
  have hST : ST D cyI cyJ cyS u3.1 u3.2.1 u3.2.2.1 u3.2.2.2 qd (fun _ => 0) (fun q : Nat => s.heap.size ≤ q) s.heap 0 0 0 0 0 (fun _ => 0) (fun _ => 1) (fun _ => 0) (fun _ => 0) (fun _ => 0) (fun _ => 0) (fun _ => 0) (fun _ => 0) none 0 1 H2 L1 := ⟨x00 f1, (fun _ => none), [], cr00 df1, ⟨fun _ => 0, fun _ => 0, rfl, rfl, rfl⟩, hP, fun k q h => by simp at h, by rw [List.append_nil]; exact hD, hS⟩
  refine law_body (F := ⟨hx, hb, hml, hown, htsL⟩) hKK hA hL hX hbl hbA hST (lv_sub hl [2, 1, 0] rfl) (fun H1 L1 ls1 hS => ?_)
  refine va_forget (fun q hq => hS.2.2 q hq) ?_
  refine W.widen (k := 600000) (n := 7302250) (by omega) (by omega) ?_
  exact lw_ret hx hb hr hlocks dL_law_1769

set_option maxHeartbeats 4000000 in
theorem lw_walk (l : Launch) (hflags : l.flags = flags0) (b : Addr) (xs : List Int32) : MetFree l x (headSpec (Jvm.Cond.code x code maxLocals ret :: tables_1) room_1) (lw_P b xs) (fun _ _ _ _ _ => True) lw_Q := by
  refine MetFree.of_bodyS (code := code) (maxLocals := maxLocals) (ret := ret) (by decide) ?_ ?_
  · intro args s m h hn
    obtain ⟨meth, c, h1, h2, h3, h4, h5, h6, -, -⟩ := Cond.code_spec hn (atoms_spec (ws := Jvm.Cond.code x code maxLocals ret :: tables_1) h _ List.mem_cons_self)
    exact ⟨meth, c, h1, h2, h3, h4, h5, h6⟩
  · intro p e s m args below meth c s₁ B hml0 hP _
    obtain ⟨rfl, hx, hbd, hgv⟩ := hP
    obtain ⟨scr, harrAt, hlist, hof, hsmall⟩ := hx
    obtain ⟨hcb, hkn, -, -⟩ := State.arrayAt?_spec harrAt
    have hown : s.vm.findClass R_law = some m.cls := findClass_of_methodNamed B.named
    have hts0 : ∀ c ∈ (Jvm.Cond.code x code maxLocals ret :: tables_1), c.before #[Value.ref b] s = true := atoms_spec (ws := Jvm.Cond.code x code maxLocals ret :: tables_1) B.pre
    have hts : ∀ w ∈ lw_tbl, w.before #[Value.ref b] s = true := k2_hts_sels lw_privs (fun w hw => hts0 w (List.mem_cons_of_mem _ hw)) lw_privs_ok
    have hml : c.maxLocals = 34 := B.maxLocals_eq (hts0 _ List.mem_cons_self)
    have X₀ : Stand p l e room_1 s m #[Value.ref b] below meth c s₁ [] 0 0 := Stand.of_body B
    have hh0 : s₁.heap = s.heap := by rw [B.state]; rfl
    have hsz : scr.slots.size = xs.length := by rw [← Array.length_toList, hlist, List.length_map]
    have hval : ∀ j : Nat, j < xs.length → scr.slots[j]? = some (.int (xs.getD j 0)) := fun j hj => by
      rw [← Array.getElem?_toList, hlist]
      simp [hj]
    have hbl : b < s.heap.size := (Array.getElem?_eq_some_iff.mp hcb).1
    have hX : va_X b xs.length (fun j => xs.getD j 0) s s.heap := ⟨scr, hcb, hof, hkn, hsz, hval⟩
    have K : W p l e room_1 s m #[Value.ref b] below meth c s₁.heap [] 0 0 (lw_Z below #[Value.ref b] s) (entryFrame m ([Value.ref b] : List Value).toArray 34) := by
      rw [hh0]
      exact whole_start l hflags hbd ⟨B.exec, B.bytes, B.returns, hml, hown, hts, hX, hbl, B.notSynchronized, hgv⟩
    obtain ⟨t, a1, o, b1, b2, b3⟩ := K s₁ rfl X₀
    exact ⟨t, o, a1, b1, b2, b3⟩
theorem lw_pre_spec {args : Array Value} {s : State} (h : (Jvm.Cond.and given_1 narrow_1).before args s = true) (hr : rest_1_c.before args s = true) : ∃ (b : Addr) (xs : List Int32), lw_P b xs args s := by
  have hs := flat_of_before _ h
  have hq := flat_of_before _ hr
  have hc : (Cond.count 1).before args s = true := hs _ (by decide +kernel)
  have harr : (Cond.arrayOf (.arg 0) .int).before args s = true := hs _ (by decide +kernel)
  have hle : (Cond.le (.length (.arg 0)) (.int 260)).before args s = true := hs _ (by decide +kernel)
  have hlen : (Cond.isInt (.length (.arg 0))).before args s = true := hq _ (by decide +kernel)
  have hall : (Cond.all (.arg 0) (.isInt (.elem (.arg 0) (.index 0)))).before args s = true := hq _ (by decide +kernel)
  obtain ⟨b, xs, hb, hx⟩ := State.ints_of_pre rfl harr hlen hall
  have hsm : xs.length < 2 ^ 31 := hx.choose_spec.2.2.2
  have hev : (Term.length (.arg 0)).eval args s none [] s = some (.int xs.length.toInt32) := hx.length_eval hb
  have hv := Cond.le_ints hev (show (Term.int 260).eval args s none [] s = some (.int 260) from rfl)
  have hd : xs.length.toInt32 ≤ 260 := by
    simpa [Cond.before, Cond.holds, hv] using hle
  have hN : xs.length ≤ 260 := (Int32.ofNat_le_ofNat hsm (by decide)).mp (show Int32.ofNat xs.length ≤ Int32.ofNat 260 from hd)
  exact ⟨b, xs, Cond.one_arg hc (show args[0]? = some (.ref b) from hb), hx, hN, h⟩
theorem lw_comes (l : Launch) (hflags : l.flags = flags0) : Comes l x (Jvm.Cond.code x code maxLocals ret :: tables_1) room_1 (fun tb e args s => Calls_1 tb e args s ∧ rest_1 tb e args s ∧ Pre_1 tb e args s)
    (fun _ _ args s o t => lw_Q args s o t) := by
  intro p e ha hc hk s m args below hf hfit hheap happ hpre
  obtain ⟨b, xs, hP⟩ := lw_pre_spec hpre.2.2 hpre.2.1
  obtain ⟨k, o, h1, h2, h3, hQ⟩ := lw_walk l hflags b xs p e ha hc hk s m args below hf ((Spec.applies_iff_loose hf).mp happ).1 hP trivial
  exact ⟨k, o, h1, h2, h3, hQ⟩
theorem lw_frame {s t : State} {o : Outcome} {args : Array Value} (h : Framed s o t [] 600000 7302250) :
    Framed s o t (fieldLocs frame_1_writes args s ++ arrayLocs frame_1_arrays args s ++ staticLocs frame_1_statics s) 600000 7302250 := h
theorem lw_limb (L : Cond) (hL : ∀ (args : Array Value) (s t : State), L.after args s (.returned (some (.int 1))) t = true) :
    ArmFor flags0 classFile x code maxLocals ret World_1 tables_1 room_1 Calls_1 rest_1 Pre_1
      (fun tb e a s o t => postC L tb e a s o t ∧ Framed s o t (fieldLocs frame_1_writes a s ++ arrayLocs frame_1_arrays a s ++ staticLocs frame_1_statics s) 600000 7302250) := by
  intro l hflags _ _ p e ha hc hk s m args below hf hfit hheap happ hpre
  obtain ⟨k, o, h1, h2, h3, rfl, hF⟩ := lw_comes l hflags p e ha hc hk s m args below hf hfit hheap happ hpre
  exact ⟨k, _, h1, h2, h3, hL args s _, lw_frame hF⟩
theorem i_vc : Claimed_1_1 ∧ Claimed_1_2 := ⟨lw_limb limb_1_1 (fun args s t => by simp [limb_1_1, Cond.after, Cond.holds, Cond.value]), lw_limb limb_1_2 (fun args s t => Cond.after_iff.mpr (by
  first | (rw [show limb_1_2 = Cond.eq .result (.int 1) from rfl, Cond.eq_ints (x := 1) (y := 1) rfl rfl]; simp; done) | (simp [limb_1_2, Cond.value, Term.eval]; done)))⟩
