set_option maxHeartbeats 8000000 in
set_option maxRecDepth 100000 in
theorem sg3c_none {p : Program} {l : Launch} {en : Env} {s0 : State} {m : MethodId} {args : Array Value} {below : List Frame} {meth : Method} {co : Code} (F : CallFix p m co cL_law 34 s0 args wsL_law RL) {D : va_G} {cyI cyJ cyS : ClassId} (hKK : KK D (tyS cyI cyJ cyS) s0) {A : Nat → Prop} (hA : ∀ q, s0.heap.size ≤ q → A q) {a a_now a_spare a_text : Nat → Nat} {qd : Nat} {dv : Nat → Int32} {bs Ls : Nat} {xs : Nat → Int32} (hL : Ls ≤ 260) (hX : va_X bs Ls xs s0 s0.heap) (hbl : bs < s0.heap.size) (hbA : ¬ A bs) {Q : State → Prop} {mo nf un : Nat} {Wi Gi Ki Ce Fd FR NR UR : Nat → Nat} {un2 : Nat} {UR2 : Nat → Nat} {ab be : Int64} {n : Nat} (x6 : Int32) {f g : Nat} (hf : f < nf) (hge : g = (f + 1) % nf) (hg : g < nf) {q : Nat} (hq1 : 1 ≤ q) (hq : q ≤ 20) {H : Heap} {locs : List Loc} {ck sk : Nat} {ls : Array Slot} (hck : ck ≤ room_1.cells ∧ sk ≤ room_1.slots) (hmo9 : mo ≤ 110)  (hST : ST D cyI cyJ cyS a a_now a_spare a_text qd dv A s0.heap mo nf 0 0 un2 Wi Gi Ki Ce Fd FR NR UR2 (some (mkS mo nf 0 0 un Wi Gi Ki Ce Fd FR NR UR)) ab be H locs) (hl : lv_has ls 34 [(0, .ref bs), (1, .ref ((a 0))), (2, .ref qd), (3, .int (nI nf)), (4, .int (nI mo)), (5, .int (nI n)), (6, .int x6), (7, .int (nI f)), (8, .int (nI g)), (9, .int (nI un)), (10, .int (nI mo)), (11, .int (nI (Ce f))), (12, .int (nI (Fd f))), (13, .int (nI 1)), (14, .int (nI q)), (16, .int ((-1))), (17, .int ((-1)))]) (kont : ∀ (u3 : Nat) (UR3 : Nat → Nat) (H1 : Heap) (locs1 : List Loc) (ls1 : Array Slot), ST D cyI cyJ cyS a a_now a_spare a_text qd dv A s0.heap mo nf 0 0 u3 Wi Gi Ki Ce Fd FR NR UR3 (some (mkS mo nf 0 0 un Wi Gi Ki Ce Fd FR NR UR)) ab be H1 locs1 → lv_has ls1 34 [(0, .ref bs), (1, .ref ((a 0))), (2, .ref qd), (3, .int (nI nf)), (4, .int (nI mo)), (5, .int (nI n)), (6, .int x6), (7, .int (nI f)), (8, .int (nI g)), (9, .int (nI un)), (10, .int (nI mo)), (11, .int (nI (Ce f))), (12, .int (nI (Fd f))), (13, .int (nI 1)), (14, .int (nI q))] → W p l en room_1 s0 m args below meth co H1 locs1 ck sk Q (F0 m 603 ls1 [])) : W p l en room_1 s0 m args below meth co H locs ck sk Q (F0 m 477 ls []) := by
  obtain ⟨hx, hb, hml, hown, hts⟩ := id F
  obtain ⟨hmo, hnf, hun, hW, hG, hK5, hC35, hD99⟩ := ST_ok hST
  refine lv_iload hx hb dL_law_477 (lv_at hl 15 rfl) ?_
  refine lv_iconst (v := nI 1) hx hb dL_law_479 (by decide) ?_
  refine lv_icmp_le (tgt := 603) hx hb dL_law_480 (by decide) (fun _ => ?_) (fun cz => absurd (by decide : (-1 : Int32) ≤ nI 1) cz)
  exact kont _ _ _ _ _ hST (lv_sub hl [0, 1, 2, 3, 4, 5, 6, 7, 8, 9, 10, 11, 12, 13, 14] rfl)

set_option maxHeartbeats 8000000 in
set_option maxRecDepth 100000 in
theorem sg3c_le {p : Program} {l : Launch} {en : Env} {s0 : State} {m : MethodId} {args : Array Value} {below : List Frame} {meth : Method} {co : Code} (F : CallFix p m co cL_law 34 s0 args wsL_law RL) {D : va_G} {cyI cyJ cyS : ClassId} (hKK : KK D (tyS cyI cyJ cyS) s0) {A : Nat → Prop} (hA : ∀ q, s0.heap.size ≤ q → A q) {a a_now a_spare a_text : Nat → Nat} {qd : Nat} {dv : Nat → Int32} {bs Ls : Nat} {xs : Nat → Int32} (hL : Ls ≤ 260) (hX : va_X bs Ls xs s0 s0.heap) (hbl : bs < s0.heap.size) (hbA : ¬ A bs) {Q : State → Prop} {mo nf un : Nat} {Wi Gi Ki Ce Fd FR NR UR : Nat → Nat} {un2 : Nat} {UR2 : Nat → Nat} {ab be : Int64} {n : Nat} (x6 : Int32) {f g : Nat} (hf : f < nf) (hge : g = (f + 1) % nf) (hg : g < nf) {q : Nat} (hq1 : 1 ≤ q) (hq : q ≤ 20) {j : Nat} (hj1 : j ≤ 1) {H : Heap} {locs : List Loc} {ck sk : Nat} {ls : Array Slot} (hck : ck ≤ room_1.cells ∧ sk ≤ room_1.slots) (hmo9 : mo ≤ 110)  (hST : ST D cyI cyJ cyS a a_now a_spare a_text qd dv A s0.heap mo nf 0 0 un2 Wi Gi Ki Ce Fd FR NR UR2 (some (mkS mo nf 0 0 un Wi Gi Ki Ce Fd FR NR UR)) ab be H locs) (hl : lv_has ls 34 [(0, .ref bs), (1, .ref ((a 0))), (2, .ref qd), (3, .int (nI nf)), (4, .int (nI mo)), (5, .int (nI n)), (6, .int x6), (7, .int (nI f)), (8, .int (nI g)), (9, .int (nI un)), (10, .int (nI mo)), (11, .int (nI (Ce f))), (12, .int (nI (Fd f))), (13, .int (nI 1)), (14, .int (nI q)), (16, .int (nI j)), (17, .int (nI (j - Fd f)))]) (kont : ∀ (u3 : Nat) (UR3 : Nat → Nat) (H1 : Heap) (locs1 : List Loc) (ls1 : Array Slot), ST D cyI cyJ cyS a a_now a_spare a_text qd dv A s0.heap mo nf 0 0 u3 Wi Gi Ki Ce Fd FR NR UR3 (some (mkS mo nf 0 0 un Wi Gi Ki Ce Fd FR NR UR)) ab be H1 locs1 → lv_has ls1 34 [(0, .ref bs), (1, .ref ((a 0))), (2, .ref qd), (3, .int (nI nf)), (4, .int (nI mo)), (5, .int (nI n)), (6, .int x6), (7, .int (nI f)), (8, .int (nI g)), (9, .int (nI un)), (10, .int (nI mo)), (11, .int (nI (Ce f))), (12, .int (nI (Fd f))), (13, .int (nI 1)), (14, .int (nI q))] → W p l en room_1 s0 m args below meth co H1 locs1 ck sk Q (F0 m 603 ls1 [])) : W p l en room_1 s0 m args below meth co H locs ck sk Q (F0 m 477 ls []) := by
  obtain ⟨hx, hb, hml, hown, hts⟩ := id F
  obtain ⟨hmo, hnf, hun, hW, hG, hK5, hC35, hD99⟩ := ST_ok hST
  refine lv_iload hx hb dL_law_477 (lv_at hl 15 rfl) ?_
  refine lv_iconst (v := nI 1) hx hb dL_law_479 (by decide) ?_
  refine lv_icmp_le (tgt := 603) hx hb dL_law_480 (by decide) (fun _ => ?_) (fun cz => absurd (show nI j ≤ nI 1 by rw [nI_leI (by omega) (by omega)]; omega) cz)
  exact kont _ _ _ _ _ hST (lv_sub hl [0, 1, 2, 3, 4, 5, 6, 7, 8, 9, 10, 11, 12, 13, 14] rfl)

set_option maxHeartbeats 8000000 in
set_option maxRecDepth 100000 in
theorem sg3c_gt {p : Program} {l : Launch} {en : Env} {s0 : State} {m : MethodId} {args : Array Value} {below : List Frame} {meth : Method} {co : Code} (F : CallFix p m co cL_law 34 s0 args wsL_law RL) {D : va_G} {cyI cyJ cyS : ClassId} (hKK : KK D (tyS cyI cyJ cyS) s0) {A : Nat → Prop} (hA : ∀ q, s0.heap.size ≤ q → A q) {a a_now a_spare a_text : Nat → Nat} {qd : Nat} {dv : Nat → Int32} {bs Ls : Nat} {xs : Nat → Int32} (hL : Ls ≤ 260) (hX : va_X bs Ls xs s0 s0.heap) (hbl : bs < s0.heap.size) (hbA : ¬ A bs) {Q : State → Prop} {mo nf un : Nat} {Wi Gi Ki Ce Fd FR NR UR : Nat → Nat} {un2 : Nat} {UR2 : Nat → Nat} {ab be : Int64} {n : Nat} (x6 : Int32) {f g : Nat} (hf : f < nf) (hge : g = (f + 1) % nf) (hg : g < nf) {q : Nat} (hq1 : 1 ≤ q) (hq : q ≤ 20) {i : Nat} (hi1 : 1 ≤ i) (hj6 : i + 1 ≤ 60) (g1 : runN Wi Gi (Ki f) (Ce f) mo (i + 1) % 6 = 5) (g2 : ∀ k, k < i + 1 → ¬ runN Wi Gi (Ki f) (Ce f) mo k % 6 = 5) {H : Heap} {locs : List Loc} {ck sk : Nat} {ls : Array Slot} (hck : ck ≤ room_1.cells ∧ sk ≤ room_1.slots) (hmo9 : mo ≤ 110)  (hST : ST D cyI cyJ cyS a a_now a_spare a_text qd dv A s0.heap mo nf 0 0 un2 Wi Gi Ki Ce Fd FR NR UR2 (some (mkS mo nf 0 0 un Wi Gi Ki Ce Fd FR NR UR)) ab be H locs) (hl : lv_has ls 34 [(0, .ref bs), (1, .ref ((a 0))), (2, .ref qd), (3, .int (nI nf)), (4, .int (nI mo)), (5, .int (nI n)), (6, .int x6), (7, .int (nI f)), (8, .int (nI g)), (9, .int (nI un)), (10, .int (nI mo)), (11, .int (nI (Ce f))), (12, .int (nI (Fd f))), (13, .int (nI 1)), (14, .int (nI q)), (16, .int (nI (i + 1))), (17, .int (nI (i + 1 - Fd f)))]) (kont : ∀ (u3 : Nat) (UR3 : Nat → Nat) (H1 : Heap) (locs1 : List Loc) (ls1 : Array Slot), ST D cyI cyJ cyS a a_now a_spare a_text qd dv A s0.heap mo nf 0 0 u3 Wi Gi Ki Ce Fd FR NR UR3 (some (mkS mo nf 0 0 un Wi Gi Ki Ce Fd FR NR UR)) ab be H1 locs1 → lv_has ls1 34 [(0, .ref bs), (1, .ref ((a 0))), (2, .ref qd), (3, .int (nI nf)), (4, .int (nI mo)), (5, .int (nI n)), (6, .int x6), (7, .int (nI f)), (8, .int (nI g)), (9, .int (nI un)), (10, .int (nI mo)), (11, .int (nI (Ce f))), (12, .int (nI (Fd f))), (13, .int (nI 1)), (14, .int (nI q))] → W p l en room_1 s0 m args below meth co H1 locs1 ck sk Q (F0 m 603 ls1 [])) : W p l en room_1 s0 m args below meth co H locs ck sk Q (F0 m 477 ls []) := by
  obtain ⟨hx, hb, hml, hown, hts⟩ := id F
  obtain ⟨hmo, hnf, hun, hW, hG, hK5, hC35, hD99⟩ := ST_ok hST
  have c35 := hC35 f hf
  have d99 := hD99 f hf
  have k5 := hK5 f hf
  refine lv_iload hx hb dL_law_477 (lv_at hl 15 rfl) ?_
  refine lv_iconst (v := nI 1) hx hb dL_law_479 (by decide) ?_
  refine lv_icmp_le (tgt := 603) hx hb dL_law_480 (by decide) (fun cz => absurd cz (show ¬ (nI (i + 1) ≤ nI 1) by rw [nI_leI (by omega) (by omega)]; omega)) (fun _ => ?_)
  refine lv_iload hx hb dL_law_483 (lv_at hl 16 rfl) ?_
  refine lv_if_le (tgt := 516) hx hb dL_law_485 (by decide) (fun cj => ?_) (fun cf => ?_)
  · skip
    have cj : nI (i + 1 - Fd f) ≤ nI 0 := cj
    rw [nI_leI (by omega) (by omega)] at cj
    refine lv_iload hx hb dL_law_516 (lv_at hl 13 rfl) ?_
    refine lv_if_eq (tgt := 600) hx hb dL_law_518 (by decide) (fun cz => absurd cz (show ¬ (nI 1 = nI 0) by rw [nI_eq (by omega) (by omega)]; omega)) (fun _ => ?_)
    refine lv_aload_n hx hb dL_law_521 rfl (lv_at hl 1 rfl) ?_
    refine lv_iload hx hb dL_law_522 (lv_at hl 15 rfl) ?_
    refine lv_iconst (v := nI 1) hx hb dL_law_524 (by decide) ?_
    refine lv_isub hx hb dL_law_525 ?_
    refine lv_nm (pk_sub (a := (i + 1)) (b := 1) (by omega)).symm ?_
    refine lv_nm (show nI i = nI ((i + 1) - 1) from (congrArg nI (by omega))) ?_
    refine lk_month F hKK hA gL_law_X3_month ⟨(Nat.le_of_ble_eq_true rfl), (Nat.le_of_ble_eq_true rfl)⟩ hck dL_law_526 hl.1 (Nat.le_of_ble_eq_true rfl) hST i (by omega) (by omega) (by omega) (fun H locs hST => ?_)
    refine lv_if_lt (tgt := 600) hx hb dL_law_529 (by decide) (fun cz => absurd cz (nI_pos (Nat.lt_of_le_of_lt (outN_le _ _) (by omega)))) (fun _ => ?_)
    refine lv_aload_n hx hb dL_law_532 rfl (lv_at hl 1 rfl) ?_
    refine lv_iload hx hb dL_law_533 (lv_at hl 7 rfl) ?_
    refine lv_iconst (v := nI 2) hx hb dL_law_535 (by decide) ?_
    refine lk_of2 F hKK hA gL_law_X3_of ⟨(Nat.le_of_ble_eq_true rfl), (Nat.le_of_ble_eq_true rfl)⟩ hck dL_law_536 hl.1 (Nat.le_of_ble_eq_true rfl) hST f hf (fun H locs hST => ?_)
    refine lv_if_le (tgt := 600) hx hb dL_law_539 (by decide) (fun cz => absurd cz (show ¬ (nI (Fd f - i) ≤ nI 0) by rw [nI_leI (by omega) (by omega)]; omega)) (fun _ => ?_)
    refine lv_aload_n hx hb dL_law_542 rfl (lv_at hl 1 rfl) ?_
    refine lv_iload hx hb dL_law_543 (lv_at hl 7 rfl) ?_
    refine lv_iconst (v := nI 3) hx hb dL_law_545 (by decide) ?_
    refine lk_of3 F hKK hA gL_law_X3_of ⟨(Nat.le_of_ble_eq_true rfl), (Nat.le_of_ble_eq_true rfl)⟩ hck dL_law_546 hl.1 (Nat.le_of_ble_eq_true rfl) hST f hf (fun H locs hST => ?_)
    refine lv_if_ne (tgt := 600) hx hb dL_law_549 (by decide) (fun cz => absurd (show nI (if runN Wi Gi (Ki f) (Ce f) mo i % 6 = 5 then 1 else 0) = nI 0 by rw [if_neg (g2 i (by omega))]) cz) (fun _ => ?_)
    refine lv_aload_n hx hb dL_law_552 rfl (lv_at hl 1 rfl) ?_
    refine lv_iconst (v := nI 1) hx hb dL_law_553 (by decide) ?_
    refine lk_month F hKK hA gL_law_X3_month ⟨(Nat.le_of_ble_eq_true rfl), (Nat.le_of_ble_eq_true rfl)⟩ hck dL_law_554 hl.1 (Nat.le_of_ble_eq_true rfl) hST 1 (by omega) (by omega) (by omega) (fun H locs hST => ?_)
    have op : 1 ≤ outN (fun f => runN Wi Gi (Ki f) (Ce f) mo (i + 1)) nf := outN_pos (f := f) g1 nf hf
    have ol := outN_le (fun f => runN Wi Gi (Ki f) (Ce f) mo (i + 1)) nf
    refine lv_iconst (v := nI 1) hx hb dL_law_557 (by decide) ?_
    refine lv_icmp_lt (tgt := 600) hx hb dL_law_558 (by decide) (fun cz => absurd cz (show ¬ (nI (outN (fun f => runN Wi Gi (Ki f) (Ce f) mo (i + 1)) nf) < nI 1) by rw [nI_ltI (by omega) (by omega)]; omega)) (fun _ => ?_)
    refine lv_aload_n hx hb dL_law_561 rfl (lv_at hl 1 rfl) ?_
    refine lv_iload hx hb dL_law_562 (lv_at hl 7 rfl) ?_
    refine lv_iconst (v := nI 3) hx hb dL_law_564 (by decide) ?_
    refine lk_of3 F hKK hA gL_law_X3_of ⟨(Nat.le_of_ble_eq_true rfl), (Nat.le_of_ble_eq_true rfl)⟩ hck dL_law_565 hl.1 (Nat.le_of_ble_eq_true rfl) hST f hf (fun H locs hST => ?_)
    refine lv_iconst (v := nI 1) hx hb dL_law_568 (by decide) ?_
    refine lv_icmp_ne (tgt := 600) hx hb dL_law_569 (by decide) (fun cz => absurd (show nI (if runN Wi Gi (Ki f) (Ce f) mo (i + 1) % 6 = 5 then 1 else 0) = nI 1 by rw [if_pos g1]) cz) (fun _ => ?_)
    refine lv_iload hx hb dL_law_572 (lv_at hl 16 rfl) ?_
    refine lv_if_eq (tgt := 587) hx hb dL_law_574 (by decide) (fun _ => ?_) (fun cz => absurd (show nI (i + 1 - Fd f) = nI 0 by rw [nI_eq (by omega) (by omega)]; omega) cz)
    refine lv_aload_n hx hb dL_law_587 rfl (lv_at hl 1 rfl) ?_
    refine lv_iconst (v := nI 0) hx hb dL_law_588 (by decide) ?_
    refine lk_from_old F hKK hA gL_law_X3_from ⟨(Nat.le_of_ble_eq_true rfl), (Nat.le_of_ble_eq_true rfl)⟩ hck dL_law_589 hl.1 (Nat.le_of_ble_eq_true rfl) hST  (fun H locs hST => ?_)
    refine lv_iconst (v := nI 1) hx hb dL_law_592 (by decide) ?_
    refine lv_icmp_ne (tgt := 600) hx hb dL_law_593 (by decide) (fun cz => absurd rfl cz) (fun _ => ?_)
    refine lv_iconst (v := nI 1) hx hb dL_law_596 (by decide) ?_
    refine lv_goto (tgt := 601) hx hb dL_law_597 (by decide) ?_
    refine lv_istore (lv' := [(13, .int (nI 1)), (0, .ref bs), (1, .ref ((a 0))), (2, .ref qd), (3, .int (nI nf)), (4, .int (nI mo)), (5, .int (nI n)), (6, .int x6), (7, .int (nI f)), (8, .int (nI g)), (9, .int (nI un)), (10, .int (nI mo)), (11, .int (nI (Ce f))), (12, .int (nI (Fd f))), (14, .int (nI q)), (16, .int (nI (i + 1))), (17, .int (nI (i + 1 - Fd f)))]) hx hb dL_law_601 hl (by decide) rfl (fun ls hl => ?_)
    exact kont _ _ _ _ _ hST (lv_sub hl [1, 2, 3, 4, 5, 6, 7, 8, 9, 10, 11, 12, 13, 0, 14] rfl)
  · skip
    have cf : ¬ (nI (i + 1 - Fd f) ≤ nI 0) := cf
    rw [nI_leI (by omega) (by omega)] at cf
    have e9 : (upn Fd f (min 99 (Fd f + (i + 1 - Fd f)))) f = i + 1 := by rw [upn_s]; omega
    refine lv_iload hx hb dL_law_488 (lv_at hl 13 rfl) ?_
    refine lv_if_eq (tgt := 513) hx hb dL_law_490 (by decide) (fun cz => absurd cz (show ¬ (nI 1 = nI 0) by rw [nI_eq (by omega) (by omega)]; omega)) (fun _ => ?_)
    refine lv_aload_n hx hb dL_law_493 rfl (lv_at hl 1 rfl) ?_
    refine lv_iload hx hb dL_law_494 (lv_at hl 7 rfl) ?_
    refine lv_iload hx hb dL_law_496 (lv_at hl 16 rfl) ?_
    refine lk_feed F hKK hA gL_law_X3_feed ⟨(Nat.le_of_ble_eq_true rfl), (Nat.le_of_ble_eq_true rfl)⟩ hck dL_law_498 hl.1 (Nat.le_of_ble_eq_true rfl) hST f (i + 1 - Fd f) hf (by omega) (by omega) (fun H locs hST => ?_)
    refine lv_iload hx hb dL_law_501 (lv_at hl 12 rfl) ?_
    refine lv_iload hx hb dL_law_503 (lv_at hl 16 rfl) ?_
    refine lv_iadd hx hb dL_law_505 ?_
    refine lv_nm (nI_add (Fd f) (i + 1 - Fd f)).symm ?_
    refine lv_icmp_ne (tgt := 513) hx hb dL_law_506 (by decide) (fun cz => absurd (show nI (min 99 (Fd f + (i + 1 - Fd f))) = nI (Fd f + (i + 1 - Fd f)) from congrArg nI (by omega)) cz) (fun _ => ?_)
    refine lv_iconst (v := nI 1) hx hb dL_law_509 (by decide) ?_
    refine lv_goto (tgt := 514) hx hb dL_law_510 (by decide) ?_
    refine lv_istore (lv' := [(13, .int (nI 1)), (0, .ref bs), (1, .ref ((a 0))), (2, .ref qd), (3, .int (nI nf)), (4, .int (nI mo)), (5, .int (nI n)), (6, .int x6), (7, .int (nI f)), (8, .int (nI g)), (9, .int (nI un)), (10, .int (nI mo)), (11, .int (nI (Ce f))), (12, .int (nI (Fd f))), (14, .int (nI q)), (16, .int (nI (i + 1))), (17, .int (nI (i + 1 - Fd f)))]) hx hb dL_law_514 hl (by decide) rfl (fun ls hl => ?_)
    refine lv_iload hx hb dL_law_516 (lv_at hl 0 rfl) ?_
    refine lv_if_eq (tgt := 600) hx hb dL_law_518 (by decide) (fun cz => absurd cz (show ¬ (nI 1 = nI 0) by rw [nI_eq (by omega) (by omega)]; omega)) (fun _ => ?_)
    refine lv_aload_n hx hb dL_law_521 rfl (lv_at hl 2 rfl) ?_
    refine lv_iload hx hb dL_law_522 (lv_at hl 15 rfl) ?_
    refine lv_iconst (v := nI 1) hx hb dL_law_524 (by decide) ?_
    refine lv_isub hx hb dL_law_525 ?_
    refine lv_nm (pk_sub (a := (i + 1)) (b := 1) (by omega)).symm ?_
    refine lv_nm (show nI i = nI ((i + 1) - 1) from (congrArg nI (by omega))) ?_
    refine lk_month F hKK hA gL_law_X3_month ⟨(Nat.le_of_ble_eq_true rfl), (Nat.le_of_ble_eq_true rfl)⟩ hck dL_law_526 hl.1 (Nat.le_of_ble_eq_true rfl) hST i (by omega) (by omega) (by omega) (fun H locs hST => ?_)
    refine lv_if_lt (tgt := 600) hx hb dL_law_529 (by decide) (fun cz => absurd cz (nI_pos (Nat.lt_of_le_of_lt (outN_le _ _) (by omega)))) (fun _ => ?_)
    refine lv_aload_n hx hb dL_law_532 rfl (lv_at hl 2 rfl) ?_
    refine lv_iload hx hb dL_law_533 (lv_at hl 8 rfl) ?_
    refine lv_iconst (v := nI 2) hx hb dL_law_535 (by decide) ?_
    refine lk_of2 F hKK hA gL_law_X3_of ⟨(Nat.le_of_ble_eq_true rfl), (Nat.le_of_ble_eq_true rfl)⟩ hck dL_law_536 hl.1 (Nat.le_of_ble_eq_true rfl) hST f hf (fun H locs hST => ?_)
    refine lv_if_le (tgt := 600) hx hb dL_law_539 (by decide) (fun cz => absurd cz (show ¬ (nI ((upn Fd f (min 99 (Fd f + (i + 1 - Fd f)))) f - i) ≤ nI 0) by rw [nI_leI (by omega) (by omega)]; omega)) (fun _ => ?_)
    refine lv_aload_n hx hb dL_law_542 rfl (lv_at hl 2 rfl) ?_
    refine lv_iload hx hb dL_law_543 (lv_at hl 8 rfl) ?_
    refine lv_iconst (v := nI 3) hx hb dL_law_545 (by decide) ?_
    refine lk_of3 F hKK hA gL_law_X3_of ⟨(Nat.le_of_ble_eq_true rfl), (Nat.le_of_ble_eq_true rfl)⟩ hck dL_law_546 hl.1 (Nat.le_of_ble_eq_true rfl) hST f hf (fun H locs hST => ?_)
    refine lv_if_ne (tgt := 600) hx hb dL_law_549 (by decide) (fun cz => absurd (show nI (if runN Wi Gi (Ki f) (Ce f) mo i % 6 = 5 then 1 else 0) = nI 0 by rw [if_neg (g2 i (by omega))]) cz) (fun _ => ?_)
    refine lv_aload_n hx hb dL_law_552 rfl (lv_at hl 2 rfl) ?_
    refine lv_iconst (v := nI 1) hx hb dL_law_553 (by decide) ?_
    refine lk_month F hKK hA gL_law_X3_month ⟨(Nat.le_of_ble_eq_true rfl), (Nat.le_of_ble_eq_true rfl)⟩ hck dL_law_554 hl.1 (Nat.le_of_ble_eq_true rfl) hST 1 (by omega) (by omega) (by omega) (fun H locs hST => ?_)
    have op : 1 ≤ outN (fun f => runN Wi Gi (Ki f) (Ce f) mo (i + 1)) nf := outN_pos (f := f) g1 nf hf
    have ol := outN_le (fun f => runN Wi Gi (Ki f) (Ce f) mo (i + 1)) nf
    refine lv_iconst (v := nI 1) hx hb dL_law_557 (by decide) ?_
    refine lv_icmp_lt (tgt := 600) hx hb dL_law_558 (by decide) (fun cz => absurd cz (show ¬ (nI (outN (fun f => runN Wi Gi (Ki f) (Ce f) mo (i + 1)) nf) < nI 1) by rw [nI_ltI (by omega) (by omega)]; omega)) (fun _ => ?_)
    refine lv_aload_n hx hb dL_law_561 rfl (lv_at hl 2 rfl) ?_
    refine lv_iload hx hb dL_law_562 (lv_at hl 8 rfl) ?_
    refine lv_iconst (v := nI 3) hx hb dL_law_564 (by decide) ?_
    refine lk_of3 F hKK hA gL_law_X3_of ⟨(Nat.le_of_ble_eq_true rfl), (Nat.le_of_ble_eq_true rfl)⟩ hck dL_law_565 hl.1 (Nat.le_of_ble_eq_true rfl) hST f hf (fun H locs hST => ?_)
    refine lv_iconst (v := nI 1) hx hb dL_law_568 (by decide) ?_
    refine lv_icmp_ne (tgt := 600) hx hb dL_law_569 (by decide) (fun cz => absurd (show nI (if runN Wi Gi (Ki f) (Ce f) mo (i + 1) % 6 = 5 then 1 else 0) = nI 1 by rw [if_pos g1]) cz) (fun _ => ?_)
    refine lv_iload hx hb dL_law_572 (lv_at hl 16 rfl) ?_
    refine lv_if_eq (tgt := 587) hx hb dL_law_574 (by decide) (fun cz => absurd cz (show ¬ (nI (i + 1 - Fd f) = nI 0) by rw [nI_eq (by omega) (by omega)]; omega)) (fun _ => ?_)
    refine lv_aload_n hx hb dL_law_577 rfl (lv_at hl 2 rfl) ?_
    refine lv_iload hx hb dL_law_578 (lv_at hl 8 rfl) ?_
    refine lv_iconst (v := nI 2) hx hb dL_law_580 (by decide) ?_
    refine lk_of2 F hKK hA gL_law_X3_of ⟨(Nat.le_of_ble_eq_true rfl), (Nat.le_of_ble_eq_true rfl)⟩ hck dL_law_581 hl.1 (Nat.le_of_ble_eq_true rfl) hST f hf (fun H locs hST => ?_)
    refine lv_if_ne (tgt := 600) hx hb dL_law_584 (by decide) (fun cz => absurd (show nI ((upn Fd f (min 99 (Fd f + (i + 1 - Fd f)))) f - i - 1) = nI 0 by rw [nI_eq (by omega) (by omega)]; omega) cz) (fun _ => ?_)
    refine lv_aload_n hx hb dL_law_587 rfl (lv_at hl 2 rfl) ?_
    refine lv_iconst (v := nI 0) hx hb dL_law_588 (by decide) ?_
    refine lk_from_old F hKK hA gL_law_X3_from ⟨(Nat.le_of_ble_eq_true rfl), (Nat.le_of_ble_eq_true rfl)⟩ hck dL_law_589 hl.1 (Nat.le_of_ble_eq_true rfl) hST  (fun H locs hST => ?_)
    refine lv_iconst (v := nI 1) hx hb dL_law_592 (by decide) ?_
    refine lv_icmp_ne (tgt := 600) hx hb dL_law_593 (by decide) (fun cz => absurd rfl cz) (fun _ => ?_)
    refine lv_iconst (v := nI 1) hx hb dL_law_596 (by decide) ?_
    refine lv_goto (tgt := 601) hx hb dL_law_597 (by decide) ?_
    refine lv_istore (lv' := [(13, .int (nI 1)), (0, .ref bs), (1, .ref ((a 0))), (2, .ref qd), (3, .int (nI nf)), (4, .int (nI mo)), (5, .int (nI n)), (6, .int x6), (7, .int (nI f)), (8, .int (nI g)), (9, .int (nI un)), (10, .int (nI mo)), (11, .int (nI (Ce f))), (12, .int (nI (Fd f))), (14, .int (nI q)), (16, .int (nI (i + 1))), (17, .int (nI (i + 1 - Fd f)))]) hx hb dL_law_601 hl (by decide) rfl (fun ls hl => ?_)
    exact kont _ _ _ _ _ hST (lv_sub hl [1, 2, 3, 4, 5, 6, 7, 8, 9, 10, 11, 12, 13, 0, 14] rfl)

set_option maxHeartbeats 8000000 in
set_option maxRecDepth 100000 in
theorem sg3 {p : Program} {l : Launch} {en : Env} {s0 : State} {m : MethodId} {args : Array Value} {below : List Frame} {meth : Method} {co : Code} (F : CallFix p m co cL_law 34 s0 args wsL_law RL) {D : va_G} {cyI cyJ cyS : ClassId} (hKK : KK D (tyS cyI cyJ cyS) s0) {A : Nat → Prop} (hA : ∀ q, s0.heap.size ≤ q → A q) {a a_now a_spare a_text : Nat → Nat} {qd : Nat} {dv : Nat → Int32} {bs Ls : Nat} {xs : Nat → Int32} (hL : Ls ≤ 260) (hX : va_X bs Ls xs s0 s0.heap) (hbl : bs < s0.heap.size) (hbA : ¬ A bs) {Q : State → Prop} {mo nf un : Nat} {Wi Gi Ki Ce Fd FR NR UR : Nat → Nat} {un2 : Nat} {UR2 : Nat → Nat} {ab be : Int64} {n : Nat} (x6 : Int32) {f g : Nat} (hf : f < nf) (hge : g = (f + 1) % nf) (hg : g < nf) {q : Nat} (hq1 : 1 ≤ q) (hq : q ≤ 20) {H : Heap} {locs : List Loc} {ck sk : Nat} {ls : Array Slot} (hck : ck ≤ room_1.cells ∧ sk ≤ room_1.slots) (hmo9 : mo ≤ 110)  (hST : ST D cyI cyJ cyS a a_now a_spare a_text qd dv A s0.heap mo nf 0 0 un2 Wi Gi Ki Ce Fd FR NR UR2 (some (mkS mo nf 0 0 un Wi Gi Ki Ce Fd FR NR UR)) ab be H locs) (hl : lv_has ls 34 [(0, .ref bs), (1, .ref ((a 0))), (2, .ref qd), (3, .int (nI nf)), (4, .int (nI mo)), (5, .int (nI n)), (6, .int x6), (7, .int (nI f)), (8, .int (nI g)), (9, .int (nI un)), (10, .int (nI mo)), (11, .int (nI (Ce f))), (12, .int (nI (Fd f))), (13, .int (nI 1)), (14, .int (nI q))]) (kont : ∀ (u3 : Nat) (UR3 : Nat → Nat) (H1 : Heap) (locs1 : List Loc) (ls1 : Array Slot), ST D cyI cyJ cyS a a_now a_spare a_text qd dv A s0.heap mo nf 0 0 u3 Wi Gi Ki Ce Fd FR NR UR3 (some (mkS mo nf 0 0 un Wi Gi Ki Ce Fd FR NR UR)) ab be H1 locs1 → lv_has ls1 34 [(0, .ref bs), (1, .ref ((a 0))), (2, .ref qd), (3, .int (nI nf)), (4, .int (nI mo)), (5, .int (nI n)), (6, .int x6), (7, .int (nI f)), (8, .int (nI g)), (9, .int (nI un)), (10, .int (nI mo)), (11, .int (nI (Ce f))), (12, .int (nI (Fd f))), (13, .int (nI 1)), (14, .int (nI q))] → W p l en room_1 s0 m args below meth co H1 locs1 ck sk Q (F0 m 603 ls1 [])) : W p l en room_1 s0 m args below meth co H locs ck sk Q (F0 m 304 ls []) := by
  rcases out_t (runN Wi Gi (Ki f) (Ce f) mo) with ⟨j, hj6, g1, g2⟩ | g2
  · refine sg3a_some F hKK hA hL hX hbl hbA x6 hf hge hg hq1 hq hj6 g1 g2 hck hmo9 hST hl (fun H1 L1 ls1 hST hl => ?_)
    refine sg3b_some F hKK hA hL hX hbl hbA x6 hf hge hg hq1 hq hj6 g1 g2 hck hmo9 hST hl (fun H1 L1 ls1 hST hl => ?_)
    rcases Nat.lt_or_ge 1 j with c | c
    · obtain ⟨i, rfl⟩ : ∃ i, j = i + 1 := ⟨j - 1, by omega⟩
      exact sg3c_gt F hKK hA hL hX hbl hbA x6 hf hge hg hq1 hq (by omega) hj6 g1 g2 hck hmo9 hST hl kont
    · exact sg3c_le F hKK hA hL hX hbl hbA x6 hf hge hg hq1 hq c hck hmo9 hST hl kont
  · refine sg3a_none F hKK hA hL hX hbl hbA x6 hf hge hg hq1 hq g2 hck hmo9 hST hl (fun H1 L1 ls1 hST hl => ?_)
    refine sg3b_none F hKK hA hL hX hbl hbA x6 hf hge hg hq1 hq g2 hck hmo9 hST hl (fun H1 L1 ls1 hST hl => ?_)
    exact sg3c_none F hKK hA hL hX hbl hbA x6 hf hge hg hq1 hq hck hmo9 hST hl kont

set_option maxHeartbeats 8000000 in
set_option maxRecDepth 100000 in
theorem sg4 {p : Program} {l : Launch} {en : Env} {s0 : State} {m : MethodId} {args : Array Value} {below : List Frame} {meth : Method} {co : Code} (F : CallFix p m co cL_law 34 s0 args wsL_law RL) {D : va_G} {cyI cyJ cyS : ClassId} (hKK : KK D (tyS cyI cyJ cyS) s0) {A : Nat → Prop} (hA : ∀ q, s0.heap.size ≤ q → A q) {a a_now a_spare a_text : Nat → Nat} {qd : Nat} {dv : Nat → Int32} {bs Ls : Nat} {xs : Nat → Int32} (hL : Ls ≤ 260) (hX : va_X bs Ls xs s0 s0.heap) (hbl : bs < s0.heap.size) (hbA : ¬ A bs) {Q : State → Prop} {mo nf un : Nat} {Wi Gi Ki Ce Fd FR NR UR : Nat → Nat} {un2 : Nat} {UR2 : Nat → Nat} {ab be : Int64} {n : Nat} (x6 : Int32) {f g : Nat} (hf : f < nf) (hge : g = (f + 1) % nf) (hg : g < nf) {q : Nat} (hq1 : 1 ≤ q) (hq : q ≤ 20) {H : Heap} {locs : List Loc} {ck sk : Nat} {ls : Array Slot} (hck : ck ≤ room_1.cells ∧ sk ≤ room_1.slots) (hmo9 : mo ≤ 110)  (hST : ST D cyI cyJ cyS a a_now a_spare a_text qd dv A s0.heap mo nf 0 0 un2 Wi Gi Ki Ce Fd FR NR UR2 (some (mkS mo nf 0 0 un Wi Gi Ki Ce Fd FR NR UR)) ab be H locs) (hl : lv_has ls 34 [(0, .ref bs), (1, .ref ((a 0))), (2, .ref qd), (3, .int (nI nf)), (4, .int (nI mo)), (5, .int (nI n)), (6, .int x6), (7, .int (nI f)), (8, .int (nI g)), (9, .int (nI un)), (10, .int (nI mo)), (11, .int (nI (Ce f))), (12, .int (nI (Fd f))), (13, .int (nI 1)), (14, .int (nI q))]) (kont : ∀ (kd : Nat) (hkd : kd ≤ 5) (H1 : Heap) (locs1 : List Loc) (ls1 : Array Slot), ST D cyI cyJ cyS a a_now a_spare a_text qd dv A s0.heap mo nf 0 0 un2 Wi Gi Ki Ce Fd FR NR UR2 (some (mkS mo nf 0 0 un Wi Gi Ki Ce Fd FR NR UR)) ab be H1 locs1 → lv_has ls1 34 [(0, .ref bs), (1, .ref ((a 0))), (2, .ref qd), (3, .int (nI nf)), (4, .int (nI mo)), (5, .int (nI n)), (6, .int x6), (7, .int (nI f)), (8, .int (nI g)), (9, .int (nI un)), (10, .int (nI mo)), (11, .int (nI (Ce f))), (12, .int (nI (Fd f))), (13, .int (nI 1)), (14, .int (nI q)), (18, .int (nI kd))] → W p l en room_1 s0 m args below meth co H1 locs1 ck sk Q (F0 m 679 ls1 [])) : W p l en room_1 s0 m args below meth co H locs ck sk Q (F0 m 603 ls []) := by
  obtain ⟨hx, hb, hml, hown, hts⟩ := id F
  obtain ⟨hmo, hnf, hun, hW, hG, hK5, hC35, hD99⟩ := ST_ok hST
  refine lv_iload hx hb dL_law_603 (lv_at hl 6 rfl) ?_
  refine lv_bipush (v := nI 8) hx hb dL_law_605 (by decide) ?_
  refine lv_ishr hx hb dL_law_607 ?_
  refine lv_bipush (v := nI 6) hx hb dL_law_608 (by decide) ?_
  refine lk_low F gL_law_L_low ⟨(Nat.le_of_ble_eq_true rfl), (Nat.le_of_ble_eq_true rfl)⟩ hck dL_law_610 hl.1 (Nat.le_of_ble_eq_true rfl) _ 6 (by omega) (by omega) (fun kd hkd => ?_)
  refine lv_istore (lv' := [(18, .int (nI kd)), (0, .ref bs), (1, .ref ((a 0))), (2, .ref qd), (3, .int (nI nf)), (4, .int (nI mo)), (5, .int (nI n)), (6, .int x6), (7, .int (nI f)), (8, .int (nI g)), (9, .int (nI un)), (10, .int (nI mo)), (11, .int (nI (Ce f))), (12, .int (nI (Fd f))), (13, .int (nI 1)), (14, .int (nI q))]) hx hb dL_law_613 hl (by decide) rfl (fun ls hl => ?_)
  refine lv_aload_n hx hb dL_law_615 rfl (lv_at hl 2 rfl) ?_
  refine lv_iload hx hb dL_law_616 (lv_at hl 0 rfl) ?_
  refine lv_iload hx hb dL_law_618 (lv_at hl 15 rfl) ?_
  refine lk_enter F hKK hA gL_law_X3_enter ⟨(Nat.le_of_ble_eq_true rfl), (Nat.le_of_ble_eq_true rfl)⟩ hck dL_law_620 hl.1 (Nat.le_of_ble_eq_true rfl) hST kd q (by omega) (by omega) (fun H locs hST => ?_)
  have eb := enN_lt (enB Wi Gi kd mo q) 6
  refine lv_istore (lv' := [(19, .int (nI (enN (enB Wi Gi kd mo q) 6))), (18, .int (nI kd)), (0, .ref bs), (1, .ref ((a 0))), (2, .ref qd), (3, .int (nI nf)), (4, .int (nI mo)), (5, .int (nI n)), (6, .int x6), (7, .int (nI f)), (8, .int (nI g)), (9, .int (nI un)), (10, .int (nI mo)), (11, .int (nI (Ce f))), (12, .int (nI (Fd f))), (13, .int (nI 1)), (14, .int (nI q))]) hx hb dL_law_623 hl (by decide) rfl (fun ls hl => ?_)
  refine lv_iload hx hb dL_law_625 (lv_at hl 15 rfl) ?_
  refine lv_if_eq (tgt := 676) hx hb dL_law_627 (by decide) (fun cz => absurd cz (show ¬ (nI 1 = nI 0) by rw [nI_eq (by omega) (by omega)]; omega)) (fun _ => ?_)
  refine lv_iload hx hb dL_law_630 (lv_at hl 0 rfl) ?_
  refine lv_if_lt (tgt := 676) hx hb dL_law_632 (by decide) (fun cz => absurd cz (show ¬ (nI (enN (enB Wi Gi kd mo q) 6) < nI 0) by rw [nI_ltI (by omega) (by omega)]; omega)) (fun _ => ?_)
  refine lv_iload hx hb dL_law_635 (lv_at hl 0 rfl) ?_
  refine lv_bipush (v := nI 64) hx hb dL_law_637 (by decide) ?_
  refine lv_icmp_ge (tgt := 676) hx hb dL_law_639 (by decide) (fun cz => absurd cz (show ¬ (nI 64 ≤ nI (enN (enB Wi Gi kd mo q) 6)) by rw [nI_leI (by omega) (by omega)]; omega)) (fun _ => ?_)
  refine lv_iload hx hb dL_law_642 (lv_at hl 0 rfl) ?_
  refine lv_aload_n hx hb dL_law_644 rfl (lv_at hl 3 rfl) ?_
  refine lv_iload hx hb dL_law_645 (lv_at hl 1 rfl) ?_
  refine lv_iload hx hb dL_law_647 (lv_at hl 16 rfl) ?_
  refine lv_bipush (v := nI 9) hx hb dL_law_649 (by decide) ?_
  refine lv_iadd hx hb dL_law_651 ?_
  refine lv_nm (nI_add q 9).symm ?_
  refine lk_enter F hKK hA gL_law_X3_enter ⟨(Nat.le_of_ble_eq_true rfl), (Nat.le_of_ble_eq_true rfl)⟩ hck dL_law_652 hl.1 (Nat.le_of_ble_eq_true rfl) hST kd (q + 9) (by omega) (by omega) (fun H locs hST => ?_)
  refine lv_iconst (v := (-1)) hx hb dL_law_655 (by decide) ?_
  refine lv_ixor hx hb dL_law_656 ?_
  refine lv_iand hx hb dL_law_657 ?_
  refine lv_if_ne (tgt := 676) hx hb dL_law_658 (by decide) (fun cz => absurd (en_sub (A := enB Wi Gi kd mo q) (B := enB Wi Gi kd mo (q + 9)) (fun i hi h => by
      obtain ⟨j, j1, j2⟩ := exB_t.mp h
      exact exB_t.mpr ⟨j, by omega, j2⟩)) cz) (fun _ => ?_)
  refine lv_iload hx hb dL_law_661 (lv_at hl 16 rfl) ?_
  refine lv_iconst (v := nI 3) hx hb dL_law_663 (by decide) ?_
  refine lv_icmp_ge (tgt := 672) hx hb dL_law_664 (by decide) (fun cj => ?_) (fun cf => ?_)
  · skip
    refine lv_iconst (v := nI 1) hx hb dL_law_672 (by decide) ?_
    refine lv_goto (tgt := 677) hx hb dL_law_673 (by decide) ?_
    refine lv_istore (lv' := [(13, .int (nI 1)), (19, .int (nI (enN (enB Wi Gi kd mo q) 6))), (18, .int (nI kd)), (0, .ref bs), (1, .ref ((a 0))), (2, .ref qd), (3, .int (nI nf)), (4, .int (nI mo)), (5, .int (nI n)), (6, .int x6), (7, .int (nI f)), (8, .int (nI g)), (9, .int (nI un)), (10, .int (nI mo)), (11, .int (nI (Ce f))), (12, .int (nI (Fd f))), (14, .int (nI q))]) hx hb dL_law_677 hl (by decide) rfl (fun ls hl => ?_)
    exact kont kd (by omega) _ _ _ hST (lv_sub hl [3, 4, 5, 6, 7, 8, 9, 10, 11, 12, 13, 14, 15, 0, 16, 2] rfl)
  · skip
    have cf : ¬ (nI 3 ≤ nI q) := cf
    rw [nI_leI (by omega) (by omega)] at cf
    have ez : enN (enB Wi Gi kd mo q) 6 = 0 := by
      refine en_zero (fun i hi => ?_)
      cases h : enB Wi Gi kd mo q i with
      | false => rfl
      | true =>
        obtain ⟨j, j1, j2⟩ := exB_t.mp h
        have j3 := of_decide_eq_true j2
        have rc := run_col (k := kd) (c := 6 * i) (mo := mo) hW hG (by omega) (by omega) j
        omega
    refine lv_iload hx hb dL_law_667 (lv_at hl 0 rfl) ?_
    refine lv_if_ne (tgt := 676) hx hb dL_law_669 (by decide) (fun cz => absurd (show nI (enN (enB Wi Gi kd mo q) 6) = nI 0 by rw [nI_eq (by omega) (by omega)]; omega) cz) (fun _ => ?_)
    refine lv_iconst (v := nI 1) hx hb dL_law_672 (by decide) ?_
    refine lv_goto (tgt := 677) hx hb dL_law_673 (by decide) ?_
    refine lv_istore (lv' := [(13, .int (nI 1)), (19, .int (nI (enN (enB Wi Gi kd mo q) 6))), (18, .int (nI kd)), (0, .ref bs), (1, .ref ((a 0))), (2, .ref qd), (3, .int (nI nf)), (4, .int (nI mo)), (5, .int (nI n)), (6, .int x6), (7, .int (nI f)), (8, .int (nI g)), (9, .int (nI un)), (10, .int (nI mo)), (11, .int (nI (Ce f))), (12, .int (nI (Fd f))), (14, .int (nI q))]) hx hb dL_law_677 hl (by decide) rfl (fun ls hl => ?_)
    exact kont kd (by omega) _ _ _ hST (lv_sub hl [3, 4, 5, 6, 7, 8, 9, 10, 11, 12, 13, 14, 15, 0, 16, 2] rfl)
