set_option maxHeartbeats 8000000 in
set_option maxRecDepth 100000 in
theorem sg3a_some {p : Program} {l : Launch} {en : Env} {s0 : State} {m : MethodId} {args : Array Value} {below : List Frame} {meth : Method} {co : Code} (F : CallFix p m co cL_law 34 s0 args wsL_law RL) {D : va_G} {cyI cyJ cyS : ClassId} (hKK : KK D (tyS cyI cyJ cyS) s0) {A : Nat → Prop} (hA : ∀ q, s0.heap.size ≤ q → A q) {a a_now a_spare a_text : Nat → Nat} {qd : Nat} {dv : Nat → Int32} {bs Ls : Nat} {xs : Nat → Int32} (hL : Ls ≤ 260) (hX : va_X bs Ls xs s0 s0.heap) (hbl : bs < s0.heap.size) (hbA : ¬ A bs) {Q : State → Prop} {mo nf un : Nat} {Wi Gi Ki Ce Fd FR NR UR : Nat → Nat} {un2 : Nat} {UR2 : Nat → Nat} {ab be : Int64} {n : Nat} (x6 : Int32) {f g : Nat} (hf : f < nf) (hge : g = (f + 1) % nf) (hg : g < nf) {q : Nat} (hq1 : 1 ≤ q) (hq : q ≤ 20) {j : Nat} (hj6 : j ≤ 60) (g1 : runN Wi Gi (Ki f) (Ce f) mo j % 6 = 5) (g2 : ∀ i, i < j → ¬ runN Wi Gi (Ki f) (Ce f) mo i % 6 = 5) {H : Heap} {locs : List Loc} {ck sk : Nat} {ls : Array Slot} (hck : ck ≤ room_1.cells ∧ sk ≤ room_1.slots) (hmo9 : mo ≤ 110)  (hST : ST D cyI cyJ cyS a a_now a_spare a_text qd dv A s0.heap mo nf 0 0 un2 Wi Gi Ki Ce Fd FR NR UR2 (some (mkS mo nf 0 0 un Wi Gi Ki Ce Fd FR NR UR)) ab be H locs) (hl : lv_has ls 34 [(0, .ref bs), (1, .ref ((a 0))), (2, .ref qd), (3, .int (nI nf)), (4, .int (nI mo)), (5, .int (nI n)), (6, .int x6), (7, .int (nI f)), (8, .int (nI g)), (9, .int (nI un)), (10, .int (nI mo)), (11, .int (nI (Ce f))), (12, .int (nI (Fd f))), (13, .int (nI 1)), (14, .int (nI q))]) (kont : ∀  (H1 : Heap) (locs1 : List Loc) (ls1 : Array Slot), ST D cyI cyJ cyS a a_now a_spare a_text qd dv A s0.heap mo nf 0 0 un2 Wi Gi Ki Ce Fd FR NR UR2 (some (mkS mo nf 0 0 un Wi Gi Ki Ce Fd FR NR UR)) ab be H1 locs1 → lv_has ls1 34 [(0, .ref bs), (1, .ref ((a 0))), (2, .ref qd), (3, .int (nI nf)), (4, .int (nI mo)), (5, .int (nI n)), (6, .int x6), (7, .int (nI f)), (8, .int (nI g)), (9, .int (nI un)), (10, .int (nI mo)), (11, .int (nI (Ce f))), (12, .int (nI (Fd f))), (13, .int (nI 1)), (14, .int (nI q)), (16, .int (nI j)), (17, .int (nI (j - Fd f)))] → W p l en room_1 s0 m args below meth co H1 locs1 ck sk Q (F0 m 397 ls1 [])) : W p l en room_1 s0 m args below meth co H locs ck sk Q (F0 m 304 ls []) := by
  obtain ⟨hx, hb, hml, hown, hts⟩ := id F
  obtain ⟨hmo, hnf, hun, hW, hG, hK5, hC35, hD99⟩ := ST_ok hST
  have c35 := hC35 f hf
  have d99 := hD99 f hf
  have k5 := hK5 f hf
  refine lv_aload_n hx hb dL_law_304 rfl (lv_at hl 1 rfl) ?_
  refine lv_iload hx hb dL_law_305 (lv_at hl 7 rfl) ?_
  refine lk_out_some F hKK hA gL_law_X3_out ⟨(Nat.le_of_ble_eq_true rfl), (Nat.le_of_ble_eq_true rfl)⟩ hck dL_law_307 hl.1 (Nat.le_of_ble_eq_true rfl) hST f j hf hj6 g1 g2 (fun H locs hST => ?_)
  refine lv_istore (lv' := [(16, .int (nI j)), (0, .ref bs), (1, .ref ((a 0))), (2, .ref qd), (3, .int (nI nf)), (4, .int (nI mo)), (5, .int (nI n)), (6, .int x6), (7, .int (nI f)), (8, .int (nI g)), (9, .int (nI un)), (10, .int (nI mo)), (11, .int (nI (Ce f))), (12, .int (nI (Fd f))), (13, .int (nI 1)), (14, .int (nI q))]) hx hb dL_law_310 hl (by decide) rfl (fun ls hl => ?_)
  refine lv_aload_n hx hb dL_law_312 rfl (lv_at hl 2 rfl) ?_
  refine lv_iload hx hb dL_law_313 (lv_at hl 8 rfl) ?_
  refine lk_need_some F hKK hA gL_law_X3_need ⟨(Nat.le_of_ble_eq_true rfl), (Nat.le_of_ble_eq_true rfl)⟩ hck dL_law_315 hl.1 (Nat.le_of_ble_eq_true rfl) hST f j hf hj6 g1 g2 (fun H locs hST => ?_)
  refine lv_istore (lv' := [(17, .int (nI (j - Fd f))), (16, .int (nI j)), (0, .ref bs), (1, .ref ((a 0))), (2, .ref qd), (3, .int (nI nf)), (4, .int (nI mo)), (5, .int (nI n)), (6, .int x6), (7, .int (nI f)), (8, .int (nI g)), (9, .int (nI un)), (10, .int (nI mo)), (11, .int (nI (Ce f))), (12, .int (nI (Fd f))), (13, .int (nI 1)), (14, .int (nI q))]) hx hb dL_law_318 hl (by decide) rfl (fun ls hl => ?_)
  refine lv_iload hx hb dL_law_320 (lv_at hl 15 rfl) ?_
  refine lv_if_eq (tgt := 394) hx hb dL_law_322 (by decide) (fun cz => absurd cz (show ¬ (nI 1 = nI 0) by rw [nI_eq (by omega) (by omega)]; omega)) (fun _ => ?_)
  refine lv_iload hx hb dL_law_325 (lv_at hl 1 rfl) ?_
  refine lv_iconst (v := (-1)) hx hb dL_law_327 (by decide) ?_
  refine lv_icmp_lt (tgt := 394) hx hb dL_law_328 (by decide) (fun cz => absurd cz (not_lt_m1 (n := j) (by omega))) (fun _ => ?_)
  refine lv_iload hx hb dL_law_331 (lv_at hl 1 rfl) ?_
  refine lv_bipush (v := nI 61) hx hb dL_law_333 (by decide) ?_
  refine lv_icmp_ge (tgt := 394) hx hb dL_law_335 (by decide) (fun cz => absurd cz (show ¬ (nI 61 ≤ nI j) by rw [nI_leI (by omega) (by omega)]; omega)) (fun _ => ?_)
  refine lv_iload hx hb dL_law_338 (lv_at hl 1 rfl) ?_
  refine lv_if_ge (tgt := 347) hx hb dL_law_340 (by decide) (fun _ => ?_) (fun cz => absurd (nI_pos' (n := j) (by omega)) cz)
  refine lv_iconst (v := nI 0) hx hb dL_law_347 (by decide) ?_
  refine lv_iload hx hb dL_law_348 (lv_at hl 0 rfl) ?_
  refine lv_if_ge (tgt := 357) hx hb dL_law_350 (by decide) (fun _ => ?_) (fun cz => absurd (nI_pos' (n := j - Fd f) (by omega)) cz)
  refine lv_iconst (v := nI 0) hx hb dL_law_357 (by decide) ?_
  refine lv_icmp_ne (tgt := 394) hx hb dL_law_358 (by decide) (fun cz => absurd rfl cz) (fun _ => ?_)
  refine lv_iload hx hb dL_law_361 (lv_at hl 1 rfl) ?_
  refine lv_if_ne (tgt := 370) hx hb dL_law_363 (by decide) (fun cj => ?_) (fun cf => ?_)
  · skip
    have cj : ¬ (nI j = nI 0) := cj
    rw [nI_eq (by omega) (by omega)] at cj
    have h5 : ¬ Ce f % 6 = 5 := g2 0 (by omega)
    refine lv_iconst (v := nI 0) hx hb dL_law_370 (by decide) ?_
    refine lv_aload_n hx hb dL_law_371 rfl (lv_at hl 3 rfl) ?_
    refine lv_iload hx hb dL_law_372 (lv_at hl 9 rfl) ?_
    refine lv_iconst (v := nI 3) hx hb dL_law_374 (by decide) ?_
    refine lk_of3 F hKK hA gL_law_X3_of ⟨(Nat.le_of_ble_eq_true rfl), (Nat.le_of_ble_eq_true rfl)⟩ hck dL_law_375 hl.1 (Nat.le_of_ble_eq_true rfl) hST f hf (fun H locs hST => ?_)
    refine lv_iconst (v := nI 1) hx hb dL_law_378 (by decide) ?_
    refine lv_icmp_ne (tgt := 386) hx hb dL_law_379 (by decide) (fun _ => ?_) (fun cz => absurd cz (show ¬ nI (if Ce f % 6 = 5 then 1 else 0) = nI 1 by rw [if_neg h5]; decide))
    refine lv_iconst (v := nI 0) hx hb dL_law_386 (by decide) ?_
    refine lv_icmp_ne (tgt := 394) hx hb dL_law_387 (by decide) (fun cz => absurd rfl cz) (fun _ => ?_)
    refine lv_iconst (v := nI 1) hx hb dL_law_390 (by decide) ?_
    refine lv_goto (tgt := 395) hx hb dL_law_391 (by decide) ?_
    refine lv_istore (lv' := [(13, .int (nI 1)), (17, .int (nI (j - Fd f))), (16, .int (nI j)), (0, .ref bs), (1, .ref ((a 0))), (2, .ref qd), (3, .int (nI nf)), (4, .int (nI mo)), (5, .int (nI n)), (6, .int x6), (7, .int (nI f)), (8, .int (nI g)), (9, .int (nI un)), (10, .int (nI mo)), (11, .int (nI (Ce f))), (12, .int (nI (Fd f))), (14, .int (nI q))]) hx hb dL_law_395 hl (by decide) rfl (fun ls hl => ?_)
    exact kont _ _ _ hST (lv_sub hl [3, 4, 5, 6, 7, 8, 9, 10, 11, 12, 13, 14, 15, 0, 16, 2, 1] rfl)
  · skip
    have cf : nI j = nI 0 := cf
    rw [nI_eq (by omega) (by omega)] at cf
    have h5 : Ce f % 6 = 5 := by rw [cf] at g1; exact g1
    refine lv_iconst (v := nI 1) hx hb dL_law_366 (by decide) ?_
    refine lv_goto (tgt := 371) hx hb dL_law_367 (by decide) ?_
    refine lv_aload_n hx hb dL_law_371 rfl (lv_at hl 3 rfl) ?_
    refine lv_iload hx hb dL_law_372 (lv_at hl 9 rfl) ?_
    refine lv_iconst (v := nI 3) hx hb dL_law_374 (by decide) ?_
    refine lk_of3 F hKK hA gL_law_X3_of ⟨(Nat.le_of_ble_eq_true rfl), (Nat.le_of_ble_eq_true rfl)⟩ hck dL_law_375 hl.1 (Nat.le_of_ble_eq_true rfl) hST f hf (fun H locs hST => ?_)
    refine lv_iconst (v := nI 1) hx hb dL_law_378 (by decide) ?_
    refine lv_icmp_ne (tgt := 386) hx hb dL_law_379 (by decide) (fun cz => absurd (show nI (if Ce f % 6 = 5 then 1 else 0) = nI 1 by rw [if_pos h5]) cz) (fun _ => ?_)
    refine lv_iconst (v := nI 1) hx hb dL_law_382 (by decide) ?_
    refine lv_goto (tgt := 387) hx hb dL_law_383 (by decide) ?_
    refine lv_icmp_ne (tgt := 394) hx hb dL_law_387 (by decide) (fun cz => absurd rfl cz) (fun _ => ?_)
    refine lv_iconst (v := nI 1) hx hb dL_law_390 (by decide) ?_
    refine lv_goto (tgt := 395) hx hb dL_law_391 (by decide) ?_
    refine lv_istore (lv' := [(13, .int (nI 1)), (17, .int (nI (j - Fd f))), (16, .int (nI j)), (0, .ref bs), (1, .ref ((a 0))), (2, .ref qd), (3, .int (nI nf)), (4, .int (nI mo)), (5, .int (nI n)), (6, .int x6), (7, .int (nI f)), (8, .int (nI g)), (9, .int (nI un)), (10, .int (nI mo)), (11, .int (nI (Ce f))), (12, .int (nI (Fd f))), (14, .int (nI q))]) hx hb dL_law_395 hl (by decide) rfl (fun ls hl => ?_)
    exact kont _ _ _ hST (lv_sub hl [3, 4, 5, 6, 7, 8, 9, 10, 11, 12, 13, 14, 15, 0, 16, 2, 1] rfl)

set_option maxHeartbeats 8000000 in
set_option maxRecDepth 100000 in
theorem sg3a_none {p : Program} {l : Launch} {en : Env} {s0 : State} {m : MethodId} {args : Array Value} {below : List Frame} {meth : Method} {co : Code} (F : CallFix p m co cL_law 34 s0 args wsL_law RL) {D : va_G} {cyI cyJ cyS : ClassId} (hKK : KK D (tyS cyI cyJ cyS) s0) {A : Nat → Prop} (hA : ∀ q, s0.heap.size ≤ q → A q) {a a_now a_spare a_text : Nat → Nat} {qd : Nat} {dv : Nat → Int32} {bs Ls : Nat} {xs : Nat → Int32} (hL : Ls ≤ 260) (hX : va_X bs Ls xs s0 s0.heap) (hbl : bs < s0.heap.size) (hbA : ¬ A bs) {Q : State → Prop} {mo nf un : Nat} {Wi Gi Ki Ce Fd FR NR UR : Nat → Nat} {un2 : Nat} {UR2 : Nat → Nat} {ab be : Int64} {n : Nat} (x6 : Int32) {f g : Nat} (hf : f < nf) (hge : g = (f + 1) % nf) (hg : g < nf) {q : Nat} (hq1 : 1 ≤ q) (hq : q ≤ 20) (g2 : ∀ i, i ≤ 60 → ¬ runN Wi Gi (Ki f) (Ce f) mo i % 6 = 5) {H : Heap} {locs : List Loc} {ck sk : Nat} {ls : Array Slot} (hck : ck ≤ room_1.cells ∧ sk ≤ room_1.slots) (hmo9 : mo ≤ 110)  (hST : ST D cyI cyJ cyS a a_now a_spare a_text qd dv A s0.heap mo nf 0 0 un2 Wi Gi Ki Ce Fd FR NR UR2 (some (mkS mo nf 0 0 un Wi Gi Ki Ce Fd FR NR UR)) ab be H locs) (hl : lv_has ls 34 [(0, .ref bs), (1, .ref ((a 0))), (2, .ref qd), (3, .int (nI nf)), (4, .int (nI mo)), (5, .int (nI n)), (6, .int x6), (7, .int (nI f)), (8, .int (nI g)), (9, .int (nI un)), (10, .int (nI mo)), (11, .int (nI (Ce f))), (12, .int (nI (Fd f))), (13, .int (nI 1)), (14, .int (nI q))]) (kont : ∀  (H1 : Heap) (locs1 : List Loc) (ls1 : Array Slot), ST D cyI cyJ cyS a a_now a_spare a_text qd dv A s0.heap mo nf 0 0 un2 Wi Gi Ki Ce Fd FR NR UR2 (some (mkS mo nf 0 0 un Wi Gi Ki Ce Fd FR NR UR)) ab be H1 locs1 → lv_has ls1 34 [(0, .ref bs), (1, .ref ((a 0))), (2, .ref qd), (3, .int (nI nf)), (4, .int (nI mo)), (5, .int (nI n)), (6, .int x6), (7, .int (nI f)), (8, .int (nI g)), (9, .int (nI un)), (10, .int (nI mo)), (11, .int (nI (Ce f))), (12, .int (nI (Fd f))), (13, .int (nI 1)), (14, .int (nI q)), (16, .int ((-1))), (17, .int ((-1)))] → W p l en room_1 s0 m args below meth co H1 locs1 ck sk Q (F0 m 397 ls1 [])) : W p l en room_1 s0 m args below meth co H locs ck sk Q (F0 m 304 ls []) := by
  obtain ⟨hx, hb, hml, hown, hts⟩ := id F
  obtain ⟨hmo, hnf, hun, hW, hG, hK5, hC35, hD99⟩ := ST_ok hST
  refine lv_aload_n hx hb dL_law_304 rfl (lv_at hl 1 rfl) ?_
  refine lv_iload hx hb dL_law_305 (lv_at hl 7 rfl) ?_
  refine lk_out_none F hKK hA gL_law_X3_out ⟨(Nat.le_of_ble_eq_true rfl), (Nat.le_of_ble_eq_true rfl)⟩ hck dL_law_307 hl.1 (Nat.le_of_ble_eq_true rfl) hST f hf g2 (fun H locs hST => ?_)
  refine lv_istore (lv' := [(16, .int ((-1))), (0, .ref bs), (1, .ref ((a 0))), (2, .ref qd), (3, .int (nI nf)), (4, .int (nI mo)), (5, .int (nI n)), (6, .int x6), (7, .int (nI f)), (8, .int (nI g)), (9, .int (nI un)), (10, .int (nI mo)), (11, .int (nI (Ce f))), (12, .int (nI (Fd f))), (13, .int (nI 1)), (14, .int (nI q))]) hx hb dL_law_310 hl (by decide) rfl (fun ls hl => ?_)
  refine lv_aload_n hx hb dL_law_312 rfl (lv_at hl 2 rfl) ?_
  refine lv_iload hx hb dL_law_313 (lv_at hl 8 rfl) ?_
  refine lk_need_none F hKK hA gL_law_X3_need ⟨(Nat.le_of_ble_eq_true rfl), (Nat.le_of_ble_eq_true rfl)⟩ hck dL_law_315 hl.1 (Nat.le_of_ble_eq_true rfl) hST f hf g2 (fun H locs hST => ?_)
  refine lv_istore (lv' := [(17, .int ((-1))), (16, .int ((-1))), (0, .ref bs), (1, .ref ((a 0))), (2, .ref qd), (3, .int (nI nf)), (4, .int (nI mo)), (5, .int (nI n)), (6, .int x6), (7, .int (nI f)), (8, .int (nI g)), (9, .int (nI un)), (10, .int (nI mo)), (11, .int (nI (Ce f))), (12, .int (nI (Fd f))), (13, .int (nI 1)), (14, .int (nI q))]) hx hb dL_law_318 hl (by decide) rfl (fun ls hl => ?_)
  refine lv_iload hx hb dL_law_320 (lv_at hl 15 rfl) ?_
  refine lv_if_eq (tgt := 394) hx hb dL_law_322 (by decide) (fun cz => absurd cz (show ¬ (nI 1 = nI 0) by rw [nI_eq (by omega) (by omega)]; omega)) (fun _ => ?_)
  refine lv_iload hx hb dL_law_325 (lv_at hl 1 rfl) ?_
  refine lv_iconst (v := (-1)) hx hb dL_law_327 (by decide) ?_
  refine lv_icmp_lt (tgt := 394) hx hb dL_law_328 (by decide) (fun cz => absurd cz (by decide : ¬ ((-1 : Int32) < -1))) (fun _ => ?_)
  refine lv_iload hx hb dL_law_331 (lv_at hl 1 rfl) ?_
  refine lv_bipush (v := nI 61) hx hb dL_law_333 (by decide) ?_
  refine lv_icmp_ge (tgt := 394) hx hb dL_law_335 (by decide) (fun cz => absurd cz (by decide : ¬ (nI 61 ≤ (-1 : Int32)))) (fun _ => ?_)
  refine lv_iload hx hb dL_law_338 (lv_at hl 1 rfl) ?_
  refine lv_if_ge (tgt := 347) hx hb dL_law_340 (by decide) (fun cz => absurd cz (by decide : ¬ ((0 : Int32) ≤ -1))) (fun _ => ?_)
  refine lv_iconst (v := nI 1) hx hb dL_law_343 (by decide) ?_
  refine lv_goto (tgt := 348) hx hb dL_law_344 (by decide) ?_
  refine lv_iload hx hb dL_law_348 (lv_at hl 0 rfl) ?_
  refine lv_if_ge (tgt := 357) hx hb dL_law_350 (by decide) (fun cz => absurd cz (by decide : ¬ ((0 : Int32) ≤ -1))) (fun _ => ?_)
  refine lv_iconst (v := nI 1) hx hb dL_law_353 (by decide) ?_
  refine lv_goto (tgt := 358) hx hb dL_law_354 (by decide) ?_
  refine lv_icmp_ne (tgt := 394) hx hb dL_law_358 (by decide) (fun cz => absurd rfl cz) (fun _ => ?_)
  refine lv_iload hx hb dL_law_361 (lv_at hl 1 rfl) ?_
  refine lv_if_ne (tgt := 370) hx hb dL_law_363 (by decide) (fun _ => ?_) (fun cz => absurd cz (by decide : ¬ ((-1 : Int32) = 0)))
  refine lv_iconst (v := nI 0) hx hb dL_law_370 (by decide) ?_
  refine lv_aload_n hx hb dL_law_371 rfl (lv_at hl 3 rfl) ?_
  refine lv_iload hx hb dL_law_372 (lv_at hl 9 rfl) ?_
  refine lv_iconst (v := nI 3) hx hb dL_law_374 (by decide) ?_
  refine lk_of3 F hKK hA gL_law_X3_of ⟨(Nat.le_of_ble_eq_true rfl), (Nat.le_of_ble_eq_true rfl)⟩ hck dL_law_375 hl.1 (Nat.le_of_ble_eq_true rfl) hST f hf (fun H locs hST => ?_)
  refine lv_iconst (v := nI 1) hx hb dL_law_378 (by decide) ?_
  refine lv_icmp_ne (tgt := 386) hx hb dL_law_379 (by decide) (fun _ => ?_) (fun cz => absurd cz (show ¬ nI (if Ce f % 6 = 5 then 1 else 0) = nI 1 by rw [if_neg (show ¬ Ce f % 6 = 5 from g2 0 (by omega))]; decide))
  refine lv_iconst (v := nI 0) hx hb dL_law_386 (by decide) ?_
  refine lv_icmp_ne (tgt := 394) hx hb dL_law_387 (by decide) (fun cz => absurd rfl cz) (fun _ => ?_)
  refine lv_iconst (v := nI 1) hx hb dL_law_390 (by decide) ?_
  refine lv_goto (tgt := 395) hx hb dL_law_391 (by decide) ?_
  refine lv_istore (lv' := [(13, .int (nI 1)), (17, .int ((-1))), (16, .int ((-1))), (0, .ref bs), (1, .ref ((a 0))), (2, .ref qd), (3, .int (nI nf)), (4, .int (nI mo)), (5, .int (nI n)), (6, .int x6), (7, .int (nI f)), (8, .int (nI g)), (9, .int (nI un)), (10, .int (nI mo)), (11, .int (nI (Ce f))), (12, .int (nI (Fd f))), (14, .int (nI q))]) hx hb dL_law_395 hl (by decide) rfl (fun ls hl => ?_)
  exact kont _ _ _ hST (lv_sub hl [3, 4, 5, 6, 7, 8, 9, 10, 11, 12, 13, 14, 15, 0, 16, 2, 1] rfl)

set_option maxHeartbeats 8000000 in
set_option maxRecDepth 100000 in
theorem lp3_some {p : Program} {l : Launch} {en : Env} {s0 : State} {m : MethodId} {args : Array Value} {below : List Frame} {meth : Method} {co : Code} (F : CallFix p m co cL_law 34 s0 args wsL_law RL) {D : va_G} {cyI cyJ cyS : ClassId} (hKK : KK D (tyS cyI cyJ cyS) s0) {A : Nat → Prop} (hA : ∀ q, s0.heap.size ≤ q → A q) {a a_now a_spare a_text : Nat → Nat} {qd : Nat} {dv : Nat → Int32} {bs Ls : Nat} {xs : Nat → Int32} (hL : Ls ≤ 260) (hX : va_X bs Ls xs s0 s0.heap) (hbl : bs < s0.heap.size) (hbA : ¬ A bs) {Q : State → Prop} {mo nf un : Nat} {Wi Gi Ki Ce Fd FR NR UR : Nat → Nat} {un2 : Nat} {UR2 : Nat → Nat} {ab be : Int64} {n : Nat} (x6 : Int32) {f g : Nat} (hf : f < nf) (hge : g = (f + 1) % nf) (hg : g < nf) {q : Nat} (hq1 : 1 ≤ q) (hq : q ≤ 20) {j : Nat} (hj6 : j ≤ 60) (g1 : runN Wi Gi (Ki f) (Ce f) mo j % 6 = 5) (g2 : ∀ i, i < j → ¬ runN Wi Gi (Ki f) (Ce f) mo i % 6 = 5) {ck sk : Nat} (hck : ck ≤ room_1.cells ∧ sk ≤ room_1.slots) (hmo9 : mo ≤ 110) (kont : ∀  (H1 : Heap) (locs1 : List Loc) (ls1 : Array Slot), ST D cyI cyJ cyS a a_now a_spare a_text qd dv A s0.heap mo nf 0 0 un2 Wi Gi Ki Ce Fd FR NR UR2 (some (mkS mo nf 0 0 un Wi Gi Ki Ce Fd FR NR UR)) ab be H1 locs1 → lv_has ls1 34 [(0, .ref bs), (1, .ref ((a 0))), (2, .ref qd), (3, .int (nI nf)), (4, .int (nI mo)), (5, .int (nI n)), (6, .int x6), (7, .int (nI f)), (8, .int (nI g)), (9, .int (nI un)), (10, .int (nI mo)), (11, .int (nI (Ce f))), (12, .int (nI (Fd f))), (13, .int (nI 1)), (14, .int (nI q)), (16, .int (nI j)), (17, .int (nI (j - Fd f)))] → W p l en room_1 s0 m args below meth co H1 locs1 ck sk Q (F0 m 477 ls1 [])) : ∀ (d k : Nat) (H : Heap) (locs : List Loc) (ls : Array Slot), k + d = 61 → ST D cyI cyJ cyS a a_now a_spare a_text qd dv A s0.heap mo nf 0 0 un2 Wi Gi Ki Ce Fd FR NR UR2 (some (mkS mo nf 0 0 un Wi Gi Ki Ce Fd FR NR UR)) ab be H locs → lv_has ls 34 [(0, .ref bs), (1, .ref ((a 0))), (2, .ref qd), (3, .int (nI nf)), (4, .int (nI mo)), (5, .int (nI n)), (6, .int x6), (7, .int (nI f)), (8, .int (nI g)), (9, .int (nI un)), (10, .int (nI mo)), (11, .int (nI (Ce f))), (12, .int (nI (Fd f))), (13, .int (nI 1)), (14, .int (nI q)), (16, .int (nI j)), (17, .int (nI (j - Fd f))), (18, .int (nI k))] → W p l en room_1 s0 m args below meth co H locs ck sk Q (F0 m 400 ls []) := by
  obtain ⟨hx, hb, hml, hown, hts⟩ := id F
  intro d
  induction d with
  | zero =>
    intro k H locs ls hkn hST hl
    obtain ⟨hmo, hnf, hun, hW, hG, hK5, hC35, hD99⟩ := ST_ok hST
    refine lv_iload hx hb dL_law_400 (lv_at hl 17 rfl) ?_
    refine lv_bipush (v := nI 61) hx hb dL_law_402 (by decide) ?_
    refine lv_icmp_ge (tgt := 477) hx hb dL_law_404 (by decide) (fun _ => ?_) (fun cz => absurd (show nI 61 ≤ nI k by rw [nI_leI (by omega) (by omega)]; omega) cz)
    exact kont _ _ _ hST (lv_sub hl [0, 1, 2, 3, 4, 5, 6, 7, 8, 9, 10, 11, 12, 13, 14, 15, 16] rfl)
  | succ d ih =>
    intro k H locs ls hkn hST hl
    obtain ⟨hmo, hnf, hun, hW, hG, hK5, hC35, hD99⟩ := ST_ok hST
    have c35 := hC35 f hf
    have d99 := hD99 f hf
    have k5 := hK5 f hf
    have r35 : runN Wi Gi (Ki f) (Ce f) mo k ≤ 35 := runN_le hW hG k5 c35 k
    refine lv_iload hx hb dL_law_400 (lv_at hl 17 rfl) ?_
    refine lv_bipush (v := nI 61) hx hb dL_law_402 (by decide) ?_
    refine lv_icmp_ge (tgt := 477) hx hb dL_law_404 (by decide) (fun cz => absurd cz (show ¬ (nI 61 ≤ nI k) by rw [nI_leI (by omega) (by omega)]; omega)) (fun _ => ?_)
    refine lv_iload hx hb dL_law_407 (lv_at hl 13 rfl) ?_
    refine lv_if_eq (tgt := 468) hx hb dL_law_409 (by decide) (fun cz => absurd cz (show ¬ (nI 1 = nI 0) by rw [nI_eq (by omega) (by omega)]; omega)) (fun _ => ?_)
    refine lv_iload hx hb dL_law_412 (lv_at hl 17 rfl) ?_
    refine lv_iload hx hb dL_law_414 (lv_at hl 15 rfl) ?_
    refine lv_icmp_lt (tgt := 424) hx hb dL_law_416 (by decide) (fun cj => ?_) (fun cf => ?_)
    · skip
      have cj : nI k < nI j := cj
      rw [nI_ltI (by omega) (by omega)] at cj
      refine lv_aload_n hx hb dL_law_424 rfl (lv_at hl 1 rfl) ?_
      refine lv_iload hx hb dL_law_425 (lv_at hl 7 rfl) ?_
      refine lv_iload hx hb dL_law_427 (lv_at hl 17 rfl) ?_
      refine lk_then F hKK hA gL_law_X3_then ⟨(Nat.le_of_ble_eq_true rfl), (Nat.le_of_ble_eq_true rfl)⟩ hck dL_law_429 hl.1 (Nat.le_of_ble_eq_true rfl) hST f k hf (by omega) (fun H locs hST => ?_)
      refine lv_bipush (v := nI 6) hx hb dL_law_432 (by decide) ?_
      refine lv_irem hx hb dL_law_434 (by decide) ?_
      refine lv_nm (pk_rem (a := (runN Wi Gi (Ki f) (Ce f) mo k)) (d := 6) (by omega) (by omega) (by omega)).symm ?_
      refine lv_iconst (v := nI 5) hx hb dL_law_435 (by decide) ?_
      have g0 := g2 k (by omega)
      refine lv_icmp_eq (tgt := 468) hx hb dL_law_436 (by decide) (fun cz => absurd cz (show ¬ (nI ((runN Wi Gi (Ki f) (Ce f) mo k) % 6) = nI 5) by rw [nI_eq (by omega) (by omega)]; omega)) (fun _ => ?_)
      refine lv_goto (tgt := 464) hx hb dL_law_439 (by decide) ?_
      refine lv_iconst (v := nI 1) hx hb dL_law_464 (by decide) ?_
      refine lv_goto (tgt := 469) hx hb dL_law_465 (by decide) ?_
      refine lv_istore (lv' := [(13, .int (nI 1)), (0, .ref bs), (1, .ref ((a 0))), (2, .ref qd), (3, .int (nI nf)), (4, .int (nI mo)), (5, .int (nI n)), (6, .int x6), (7, .int (nI f)), (8, .int (nI g)), (9, .int (nI un)), (10, .int (nI mo)), (11, .int (nI (Ce f))), (12, .int (nI (Fd f))), (14, .int (nI q)), (16, .int (nI j)), (17, .int (nI (j - Fd f))), (18, .int (nI k))]) hx hb dL_law_469 hl (by decide) rfl (fun ls hl => ?_)
      refine lv_iinc (v := nI (k + 1)) (lv' := [(18, .int (nI (k + 1))), (13, .int (nI 1)), (0, .ref bs), (1, .ref ((a 0))), (2, .ref qd), (3, .int (nI nf)), (4, .int (nI mo)), (5, .int (nI n)), (6, .int x6), (7, .int (nI f)), (8, .int (nI g)), (9, .int (nI un)), (10, .int (nI mo)), (11, .int (nI (Ce f))), (12, .int (nI (Fd f))), (14, .int (nI q)), (16, .int (nI j)), (17, .int (nI (j - Fd f)))]) hx hb dL_law_471 hl (k := 17) rfl (by rw [show Int32.ofInt 1 = nI 1 from by decide, nI_add]) (by decide) rfl (fun ls hl => ?_)
      refine lv_goto (tgt := 400) hx hb dL_law_474 (by decide) ?_
      exact ih (k + 1) _ _ _ (by omega) hST (lv_sub hl [2, 3, 4, 5, 6, 7, 8, 9, 10, 11, 12, 13, 14, 1, 15, 16, 17, 0] rfl)
    · skip
      have cf : ¬ (nI k < nI j) := cf
      rw [nI_ltI (by omega) (by omega)] at cf
      refine lv_iload hx hb dL_law_419 (lv_at hl 15 rfl) ?_
      refine lv_if_ge (tgt := 442) hx hb dL_law_421 (by decide) (fun _ => ?_) (fun cz => absurd (nI_pos' (n := j) (by omega)) cz)
      refine lv_iload hx hb dL_law_442 (lv_at hl 17 rfl) ?_
      refine lv_iload hx hb dL_law_444 (lv_at hl 15 rfl) ?_
      refine lv_icmp_gt (tgt := 464) hx hb dL_law_446 (by decide) (fun cj => ?_) (fun cf2 => ?_)
      · skip
        have cj : nI j < nI k := cj
        refine lv_iconst (v := nI 1) hx hb dL_law_464 (by decide) ?_
        refine lv_goto (tgt := 469) hx hb dL_law_465 (by decide) ?_
        refine lv_istore (lv' := [(13, .int (nI 1)), (0, .ref bs), (1, .ref ((a 0))), (2, .ref qd), (3, .int (nI nf)), (4, .int (nI mo)), (5, .int (nI n)), (6, .int x6), (7, .int (nI f)), (8, .int (nI g)), (9, .int (nI un)), (10, .int (nI mo)), (11, .int (nI (Ce f))), (12, .int (nI (Fd f))), (14, .int (nI q)), (16, .int (nI j)), (17, .int (nI (j - Fd f))), (18, .int (nI k))]) hx hb dL_law_469 hl (by decide) rfl (fun ls hl => ?_)
        refine lv_iinc (v := nI (k + 1)) (lv' := [(18, .int (nI (k + 1))), (13, .int (nI 1)), (0, .ref bs), (1, .ref ((a 0))), (2, .ref qd), (3, .int (nI nf)), (4, .int (nI mo)), (5, .int (nI n)), (6, .int x6), (7, .int (nI f)), (8, .int (nI g)), (9, .int (nI un)), (10, .int (nI mo)), (11, .int (nI (Ce f))), (12, .int (nI (Fd f))), (14, .int (nI q)), (16, .int (nI j)), (17, .int (nI (j - Fd f)))]) hx hb dL_law_471 hl (k := 17) rfl (by rw [show Int32.ofInt 1 = nI 1 from by decide, nI_add]) (by decide) rfl (fun ls hl => ?_)
        refine lv_goto (tgt := 400) hx hb dL_law_474 (by decide) ?_
        exact ih (k + 1) _ _ _ (by omega) hST (lv_sub hl [2, 3, 4, 5, 6, 7, 8, 9, 10, 11, 12, 13, 14, 1, 15, 16, 17, 0] rfl)
      · skip
        have cf2 : ¬ (nI j < nI k) := cf2
        rw [nI_ltI (by omega) (by omega)] at cf2
        obtain rfl : k = j := by omega
        have g1 := g1
        refine lv_aload_n hx hb dL_law_449 rfl (lv_at hl 1 rfl) ?_
        refine lv_iload hx hb dL_law_450 (lv_at hl 7 rfl) ?_
        refine lv_iload hx hb dL_law_452 (lv_at hl 17 rfl) ?_
        refine lk_then F hKK hA gL_law_X3_then ⟨(Nat.le_of_ble_eq_true rfl), (Nat.le_of_ble_eq_true rfl)⟩ hck dL_law_454 hl.1 (Nat.le_of_ble_eq_true rfl) hST f k hf (by omega) (fun H locs hST => ?_)
        refine lv_bipush (v := nI 6) hx hb dL_law_457 (by decide) ?_
        refine lv_irem hx hb dL_law_459 (by decide) ?_
        refine lv_nm (pk_rem (a := (runN Wi Gi (Ki f) (Ce f) mo k)) (d := 6) (by omega) (by omega) (by omega)).symm ?_
        refine lv_iconst (v := nI 5) hx hb dL_law_460 (by decide) ?_
        refine lv_icmp_ne (tgt := 468) hx hb dL_law_461 (by decide) (fun cz => absurd (show nI ((runN Wi Gi (Ki f) (Ce f) mo k) % 6) = nI 5 by rw [nI_eq (by omega) (by omega)]; omega) cz) (fun _ => ?_)
        refine lv_iconst (v := nI 1) hx hb dL_law_464 (by decide) ?_
        refine lv_goto (tgt := 469) hx hb dL_law_465 (by decide) ?_
        refine lv_istore (lv' := [(13, .int (nI 1)), (0, .ref bs), (1, .ref ((a 0))), (2, .ref qd), (3, .int (nI nf)), (4, .int (nI mo)), (5, .int (nI n)), (6, .int x6), (7, .int (nI f)), (8, .int (nI g)), (9, .int (nI un)), (10, .int (nI mo)), (11, .int (nI (Ce f))), (12, .int (nI (Fd f))), (14, .int (nI q)), (16, .int (nI k)), (17, .int (nI (k - Fd f))), (18, .int (nI k))]) hx hb dL_law_469 hl (by decide) rfl (fun ls hl => ?_)
        refine lv_iinc (v := nI (k + 1)) (lv' := [(18, .int (nI (k + 1))), (13, .int (nI 1)), (0, .ref bs), (1, .ref ((a 0))), (2, .ref qd), (3, .int (nI nf)), (4, .int (nI mo)), (5, .int (nI n)), (6, .int x6), (7, .int (nI f)), (8, .int (nI g)), (9, .int (nI un)), (10, .int (nI mo)), (11, .int (nI (Ce f))), (12, .int (nI (Fd f))), (14, .int (nI q)), (16, .int (nI k)), (17, .int (nI (k - Fd f)))]) hx hb dL_law_471 hl (k := 17) rfl (by rw [show Int32.ofInt 1 = nI 1 from by decide, nI_add]) (by decide) rfl (fun ls hl => ?_)
        refine lv_goto (tgt := 400) hx hb dL_law_474 (by decide) ?_
        exact ih (k + 1) _ _ _ (by omega) hST (lv_sub hl [2, 3, 4, 5, 6, 7, 8, 9, 10, 11, 12, 13, 14, 1, 15, 16, 17, 0] rfl)

set_option maxHeartbeats 8000000 in
set_option maxRecDepth 100000 in
theorem lp3_none {p : Program} {l : Launch} {en : Env} {s0 : State} {m : MethodId} {args : Array Value} {below : List Frame} {meth : Method} {co : Code} (F : CallFix p m co cL_law 34 s0 args wsL_law RL) {D : va_G} {cyI cyJ cyS : ClassId} (hKK : KK D (tyS cyI cyJ cyS) s0) {A : Nat → Prop} (hA : ∀ q, s0.heap.size ≤ q → A q) {a a_now a_spare a_text : Nat → Nat} {qd : Nat} {dv : Nat → Int32} {bs Ls : Nat} {xs : Nat → Int32} (hL : Ls ≤ 260) (hX : va_X bs Ls xs s0 s0.heap) (hbl : bs < s0.heap.size) (hbA : ¬ A bs) {Q : State → Prop} {mo nf un : Nat} {Wi Gi Ki Ce Fd FR NR UR : Nat → Nat} {un2 : Nat} {UR2 : Nat → Nat} {ab be : Int64} {n : Nat} (x6 : Int32) {f g : Nat} (hf : f < nf) (hge : g = (f + 1) % nf) (hg : g < nf) {q : Nat} (hq1 : 1 ≤ q) (hq : q ≤ 20) (g2 : ∀ i, i ≤ 60 → ¬ runN Wi Gi (Ki f) (Ce f) mo i % 6 = 5) {ck sk : Nat} (hck : ck ≤ room_1.cells ∧ sk ≤ room_1.slots) (hmo9 : mo ≤ 110) (kont : ∀  (H1 : Heap) (locs1 : List Loc) (ls1 : Array Slot), ST D cyI cyJ cyS a a_now a_spare a_text qd dv A s0.heap mo nf 0 0 un2 Wi Gi Ki Ce Fd FR NR UR2 (some (mkS mo nf 0 0 un Wi Gi Ki Ce Fd FR NR UR)) ab be H1 locs1 → lv_has ls1 34 [(0, .ref bs), (1, .ref ((a 0))), (2, .ref qd), (3, .int (nI nf)), (4, .int (nI mo)), (5, .int (nI n)), (6, .int x6), (7, .int (nI f)), (8, .int (nI g)), (9, .int (nI un)), (10, .int (nI mo)), (11, .int (nI (Ce f))), (12, .int (nI (Fd f))), (13, .int (nI 1)), (14, .int (nI q)), (16, .int ((-1))), (17, .int ((-1)))] → W p l en room_1 s0 m args below meth co H1 locs1 ck sk Q (F0 m 477 ls1 [])) : ∀ (d k : Nat) (H : Heap) (locs : List Loc) (ls : Array Slot), k + d = 61 → ST D cyI cyJ cyS a a_now a_spare a_text qd dv A s0.heap mo nf 0 0 un2 Wi Gi Ki Ce Fd FR NR UR2 (some (mkS mo nf 0 0 un Wi Gi Ki Ce Fd FR NR UR)) ab be H locs → lv_has ls 34 [(0, .ref bs), (1, .ref ((a 0))), (2, .ref qd), (3, .int (nI nf)), (4, .int (nI mo)), (5, .int (nI n)), (6, .int x6), (7, .int (nI f)), (8, .int (nI g)), (9, .int (nI un)), (10, .int (nI mo)), (11, .int (nI (Ce f))), (12, .int (nI (Fd f))), (13, .int (nI 1)), (14, .int (nI q)), (16, .int ((-1))), (17, .int ((-1))), (18, .int (nI k))] → W p l en room_1 s0 m args below meth co H locs ck sk Q (F0 m 400 ls []) := by
  obtain ⟨hx, hb, hml, hown, hts⟩ := id F
  intro d
  induction d with
  | zero =>
    intro k H locs ls hkn hST hl
    obtain ⟨hmo, hnf, hun, hW, hG, hK5, hC35, hD99⟩ := ST_ok hST
    refine lv_iload hx hb dL_law_400 (lv_at hl 17 rfl) ?_
    refine lv_bipush (v := nI 61) hx hb dL_law_402 (by decide) ?_
    refine lv_icmp_ge (tgt := 477) hx hb dL_law_404 (by decide) (fun _ => ?_) (fun cz => absurd (show nI 61 ≤ nI k by rw [nI_leI (by omega) (by omega)]; omega) cz)
    exact kont _ _ _ hST (lv_sub hl [0, 1, 2, 3, 4, 5, 6, 7, 8, 9, 10, 11, 12, 13, 14, 15, 16] rfl)
  | succ d ih =>
    intro k H locs ls hkn hST hl
    obtain ⟨hmo, hnf, hun, hW, hG, hK5, hC35, hD99⟩ := ST_ok hST
    have c35 := hC35 f hf
    have d99 := hD99 f hf
    have k5 := hK5 f hf
    have r35 : runN Wi Gi (Ki f) (Ce f) mo k ≤ 35 := runN_le hW hG k5 c35 k
    refine lv_iload hx hb dL_law_400 (lv_at hl 17 rfl) ?_
    refine lv_bipush (v := nI 61) hx hb dL_law_402 (by decide) ?_
    refine lv_icmp_ge (tgt := 477) hx hb dL_law_404 (by decide) (fun cz => absurd cz (show ¬ (nI 61 ≤ nI k) by rw [nI_leI (by omega) (by omega)]; omega)) (fun _ => ?_)
    refine lv_iload hx hb dL_law_407 (lv_at hl 13 rfl) ?_
    refine lv_if_eq (tgt := 468) hx hb dL_law_409 (by decide) (fun cz => absurd cz (show ¬ (nI 1 = nI 0) by rw [nI_eq (by omega) (by omega)]; omega)) (fun _ => ?_)
    refine lv_iload hx hb dL_law_412 (lv_at hl 17 rfl) ?_
    refine lv_iload hx hb dL_law_414 (lv_at hl 15 rfl) ?_
    refine lv_icmp_lt (tgt := 424) hx hb dL_law_416 (by decide) (fun cz => absurd cz (not_lt_m1 (n := k) (by omega))) (fun _ => ?_)
    refine lv_iload hx hb dL_law_419 (lv_at hl 15 rfl) ?_
    refine lv_if_ge (tgt := 442) hx hb dL_law_421 (by decide) (fun cz => absurd cz (by decide : ¬ ((0 : Int32) ≤ -1))) (fun _ => ?_)
    refine lv_aload_n hx hb dL_law_424 rfl (lv_at hl 1 rfl) ?_
    refine lv_iload hx hb dL_law_425 (lv_at hl 7 rfl) ?_
    refine lv_iload hx hb dL_law_427 (lv_at hl 17 rfl) ?_
    refine lk_then F hKK hA gL_law_X3_then ⟨(Nat.le_of_ble_eq_true rfl), (Nat.le_of_ble_eq_true rfl)⟩ hck dL_law_429 hl.1 (Nat.le_of_ble_eq_true rfl) hST f k hf (by omega) (fun H locs hST => ?_)
    refine lv_bipush (v := nI 6) hx hb dL_law_432 (by decide) ?_
    refine lv_irem hx hb dL_law_434 (by decide) ?_
    refine lv_nm (pk_rem (a := (runN Wi Gi (Ki f) (Ce f) mo k)) (d := 6) (by omega) (by omega) (by omega)).symm ?_
    refine lv_iconst (v := nI 5) hx hb dL_law_435 (by decide) ?_
    have g0 := g2 k (by omega)
    refine lv_icmp_eq (tgt := 468) hx hb dL_law_436 (by decide) (fun cz => absurd cz (show ¬ (nI ((runN Wi Gi (Ki f) (Ce f) mo k) % 6) = nI 5) by rw [nI_eq (by omega) (by omega)]; omega)) (fun _ => ?_)
    refine lv_goto (tgt := 464) hx hb dL_law_439 (by decide) ?_
    refine lv_iconst (v := nI 1) hx hb dL_law_464 (by decide) ?_
    refine lv_goto (tgt := 469) hx hb dL_law_465 (by decide) ?_
    refine lv_istore (lv' := [(13, .int (nI 1)), (0, .ref bs), (1, .ref ((a 0))), (2, .ref qd), (3, .int (nI nf)), (4, .int (nI mo)), (5, .int (nI n)), (6, .int x6), (7, .int (nI f)), (8, .int (nI g)), (9, .int (nI un)), (10, .int (nI mo)), (11, .int (nI (Ce f))), (12, .int (nI (Fd f))), (14, .int (nI q)), (16, .int ((-1))), (17, .int ((-1))), (18, .int (nI k))]) hx hb dL_law_469 hl (by decide) rfl (fun ls hl => ?_)
    refine lv_iinc (v := nI (k + 1)) (lv' := [(18, .int (nI (k + 1))), (13, .int (nI 1)), (0, .ref bs), (1, .ref ((a 0))), (2, .ref qd), (3, .int (nI nf)), (4, .int (nI mo)), (5, .int (nI n)), (6, .int x6), (7, .int (nI f)), (8, .int (nI g)), (9, .int (nI un)), (10, .int (nI mo)), (11, .int (nI (Ce f))), (12, .int (nI (Fd f))), (14, .int (nI q)), (16, .int ((-1))), (17, .int ((-1)))]) hx hb dL_law_471 hl (k := 17) rfl (by rw [show Int32.ofInt 1 = nI 1 from by decide, nI_add]) (by decide) rfl (fun ls hl => ?_)
    refine lv_goto (tgt := 400) hx hb dL_law_474 (by decide) ?_
    exact ih (k + 1) _ _ _ (by omega) hST (lv_sub hl [2, 3, 4, 5, 6, 7, 8, 9, 10, 11, 12, 13, 14, 1, 15, 16, 17, 0] rfl)

set_option maxHeartbeats 8000000 in
set_option maxRecDepth 100000 in
theorem sg3b_some {p : Program} {l : Launch} {en : Env} {s0 : State} {m : MethodId} {args : Array Value} {below : List Frame} {meth : Method} {co : Code} (F : CallFix p m co cL_law 34 s0 args wsL_law RL) {D : va_G} {cyI cyJ cyS : ClassId} (hKK : KK D (tyS cyI cyJ cyS) s0) {A : Nat → Prop} (hA : ∀ q, s0.heap.size ≤ q → A q) {a a_now a_spare a_text : Nat → Nat} {qd : Nat} {dv : Nat → Int32} {bs Ls : Nat} {xs : Nat → Int32} (hL : Ls ≤ 260) (hX : va_X bs Ls xs s0 s0.heap) (hbl : bs < s0.heap.size) (hbA : ¬ A bs) {Q : State → Prop} {mo nf un : Nat} {Wi Gi Ki Ce Fd FR NR UR : Nat → Nat} {un2 : Nat} {UR2 : Nat → Nat} {ab be : Int64} {n : Nat} (x6 : Int32) {f g : Nat} (hf : f < nf) (hge : g = (f + 1) % nf) (hg : g < nf) {q : Nat} (hq1 : 1 ≤ q) (hq : q ≤ 20) {j : Nat} (hj6 : j ≤ 60) (g1 : runN Wi Gi (Ki f) (Ce f) mo j % 6 = 5) (g2 : ∀ i, i < j → ¬ runN Wi Gi (Ki f) (Ce f) mo i % 6 = 5) {H : Heap} {locs : List Loc} {ck sk : Nat} {ls : Array Slot} (hck : ck ≤ room_1.cells ∧ sk ≤ room_1.slots) (hmo9 : mo ≤ 110)  (hST : ST D cyI cyJ cyS a a_now a_spare a_text qd dv A s0.heap mo nf 0 0 un2 Wi Gi Ki Ce Fd FR NR UR2 (some (mkS mo nf 0 0 un Wi Gi Ki Ce Fd FR NR UR)) ab be H locs) (hl : lv_has ls 34 [(0, .ref bs), (1, .ref ((a 0))), (2, .ref qd), (3, .int (nI nf)), (4, .int (nI mo)), (5, .int (nI n)), (6, .int x6), (7, .int (nI f)), (8, .int (nI g)), (9, .int (nI un)), (10, .int (nI mo)), (11, .int (nI (Ce f))), (12, .int (nI (Fd f))), (13, .int (nI 1)), (14, .int (nI q)), (16, .int (nI j)), (17, .int (nI (j - Fd f)))]) (kont : ∀  (H1 : Heap) (locs1 : List Loc) (ls1 : Array Slot), ST D cyI cyJ cyS a a_now a_spare a_text qd dv A s0.heap mo nf 0 0 un2 Wi Gi Ki Ce Fd FR NR UR2 (some (mkS mo nf 0 0 un Wi Gi Ki Ce Fd FR NR UR)) ab be H1 locs1 → lv_has ls1 34 [(0, .ref bs), (1, .ref ((a 0))), (2, .ref qd), (3, .int (nI nf)), (4, .int (nI mo)), (5, .int (nI n)), (6, .int x6), (7, .int (nI f)), (8, .int (nI g)), (9, .int (nI un)), (10, .int (nI mo)), (11, .int (nI (Ce f))), (12, .int (nI (Fd f))), (13, .int (nI 1)), (14, .int (nI q)), (16, .int (nI j)), (17, .int (nI (j - Fd f)))] → W p l en room_1 s0 m args below meth co H1 locs1 ck sk Q (F0 m 477 ls1 [])) : W p l en room_1 s0 m args below meth co H locs ck sk Q (F0 m 397 ls []) := by
  obtain ⟨hx, hb, hml, hown, hts⟩ := id F
  obtain ⟨hmo, hnf, hun, hW, hG, hK5, hC35, hD99⟩ := ST_ok hST
  refine lv_iconst (v := nI 0) hx hb dL_law_397 (by decide) ?_
  refine lv_istore (lv' := [(18, .int (nI 0)), (0, .ref bs), (1, .ref ((a 0))), (2, .ref qd), (3, .int (nI nf)), (4, .int (nI mo)), (5, .int (nI n)), (6, .int x6), (7, .int (nI f)), (8, .int (nI g)), (9, .int (nI un)), (10, .int (nI mo)), (11, .int (nI (Ce f))), (12, .int (nI (Fd f))), (13, .int (nI 1)), (14, .int (nI q)), (16, .int (nI j)), (17, .int (nI (j - Fd f)))]) hx hb dL_law_398 hl (by decide) rfl (fun ls hl => ?_)
  exact lp3_some F hKK hA hL hX hbl hbA x6 hf hge hg hq1 hq hj6 g1 g2 hck hmo9 kont 61 0 _ _ _ (by omega) hST (lv_sub hl [1, 2, 3, 4, 5, 6, 7, 8, 9, 10, 11, 12, 13, 14, 15, 16, 17, 0] rfl)

set_option maxHeartbeats 8000000 in
set_option maxRecDepth 100000 in
theorem sg3b_none {p : Program} {l : Launch} {en : Env} {s0 : State} {m : MethodId} {args : Array Value} {below : List Frame} {meth : Method} {co : Code} (F : CallFix p m co cL_law 34 s0 args wsL_law RL) {D : va_G} {cyI cyJ cyS : ClassId} (hKK : KK D (tyS cyI cyJ cyS) s0) {A : Nat → Prop} (hA : ∀ q, s0.heap.size ≤ q → A q) {a a_now a_spare a_text : Nat → Nat} {qd : Nat} {dv : Nat → Int32} {bs Ls : Nat} {xs : Nat → Int32} (hL : Ls ≤ 260) (hX : va_X bs Ls xs s0 s0.heap) (hbl : bs < s0.heap.size) (hbA : ¬ A bs) {Q : State → Prop} {mo nf un : Nat} {Wi Gi Ki Ce Fd FR NR UR : Nat → Nat} {un2 : Nat} {UR2 : Nat → Nat} {ab be : Int64} {n : Nat} (x6 : Int32) {f g : Nat} (hf : f < nf) (hge : g = (f + 1) % nf) (hg : g < nf) {q : Nat} (hq1 : 1 ≤ q) (hq : q ≤ 20) (g2 : ∀ i, i ≤ 60 → ¬ runN Wi Gi (Ki f) (Ce f) mo i % 6 = 5) {H : Heap} {locs : List Loc} {ck sk : Nat} {ls : Array Slot} (hck : ck ≤ room_1.cells ∧ sk ≤ room_1.slots) (hmo9 : mo ≤ 110)  (hST : ST D cyI cyJ cyS a a_now a_spare a_text qd dv A s0.heap mo nf 0 0 un2 Wi Gi Ki Ce Fd FR NR UR2 (some (mkS mo nf 0 0 un Wi Gi Ki Ce Fd FR NR UR)) ab be H locs) (hl : lv_has ls 34 [(0, .ref bs), (1, .ref ((a 0))), (2, .ref qd), (3, .int (nI nf)), (4, .int (nI mo)), (5, .int (nI n)), (6, .int x6), (7, .int (nI f)), (8, .int (nI g)), (9, .int (nI un)), (10, .int (nI mo)), (11, .int (nI (Ce f))), (12, .int (nI (Fd f))), (13, .int (nI 1)), (14, .int (nI q)), (16, .int ((-1))), (17, .int ((-1)))]) (kont : ∀  (H1 : Heap) (locs1 : List Loc) (ls1 : Array Slot), ST D cyI cyJ cyS a a_now a_spare a_text qd dv A s0.heap mo nf 0 0 un2 Wi Gi Ki Ce Fd FR NR UR2 (some (mkS mo nf 0 0 un Wi Gi Ki Ce Fd FR NR UR)) ab be H1 locs1 → lv_has ls1 34 [(0, .ref bs), (1, .ref ((a 0))), (2, .ref qd), (3, .int (nI nf)), (4, .int (nI mo)), (5, .int (nI n)), (6, .int x6), (7, .int (nI f)), (8, .int (nI g)), (9, .int (nI un)), (10, .int (nI mo)), (11, .int (nI (Ce f))), (12, .int (nI (Fd f))), (13, .int (nI 1)), (14, .int (nI q)), (16, .int ((-1))), (17, .int ((-1)))] → W p l en room_1 s0 m args below meth co H1 locs1 ck sk Q (F0 m 477 ls1 [])) : W p l en room_1 s0 m args below meth co H locs ck sk Q (F0 m 397 ls []) := by
  obtain ⟨hx, hb, hml, hown, hts⟩ := id F
  obtain ⟨hmo, hnf, hun, hW, hG, hK5, hC35, hD99⟩ := ST_ok hST
  refine lv_iconst (v := nI 0) hx hb dL_law_397 (by decide) ?_
  refine lv_istore (lv' := [(18, .int (nI 0)), (0, .ref bs), (1, .ref ((a 0))), (2, .ref qd), (3, .int (nI nf)), (4, .int (nI mo)), (5, .int (nI n)), (6, .int x6), (7, .int (nI f)), (8, .int (nI g)), (9, .int (nI un)), (10, .int (nI mo)), (11, .int (nI (Ce f))), (12, .int (nI (Fd f))), (13, .int (nI 1)), (14, .int (nI q)), (16, .int ((-1))), (17, .int ((-1)))]) hx hb dL_law_398 hl (by decide) rfl (fun ls hl => ?_)
  exact lp3_none F hKK hA hL hX hbl hbA x6 hf hge hg hq1 hq g2 hck hmo9 kont 61 0 _ _ _ (by omega) hST (lv_sub hl [1, 2, 3, 4, 5, 6, 7, 8, 9, 10, 11, 12, 13, 14, 15, 16, 17, 0] rfl)
