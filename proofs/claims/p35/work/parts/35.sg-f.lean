set_option maxHeartbeats 8000000 in
set_option maxRecDepth 100000 in
theorem sg10 {p : Program} {l : Launch} {en : Env} {s0 : State} {m : MethodId} {args : Array Value} {below : List Frame} {meth : Method} {co : Code} (F : CallFix p m co cL_law 34 s0 args wsL_law RL) {D : va_G} {cyI cyJ cyS : ClassId} (hKK : KK D (tyS cyI cyJ cyS) s0) {A : Nat → Prop} (hA : ∀ q, s0.heap.size ≤ q → A q) {a a_now a_spare a_text : Nat → Nat} {qd : Nat} {dv : Nat → Int32} {bs Ls : Nat} {xs : Nat → Int32} (hL : Ls ≤ 260) (hX : va_X bs Ls xs s0 s0.heap) (hbl : bs < s0.heap.size) (hbA : ¬ A bs) {Q : State → Prop} {mo nf un : Nat} {Wi Gi Ki Ce Fd FR NR UR : Nat → Nat} {un2 : Nat} {UR2 : Nat → Nat} {ab be : Int64} {n : Nat} (x6 : Int32) {f g : Nat} (hf : f < nf) (hge : g = (f + 1) % nf) (hg : g < nf) {q : Nat} (hq1 : 1 ≤ q) (hq : q ≤ 20) {kd : Nat} (hkd : kd ≤ 5) {st : Nat} (hst : st ≤ 35) {FR3 NR3 : Nat → Nat} {H : Heap} {locs : List Loc} {ck sk : Nat} {ls : Array Slot} (hck : ck ≤ room_1.cells ∧ sk ≤ room_1.slots) (hmo9 : mo ≤ 110)  (hST : ST D cyI cyJ cyS a a_now a_spare a_text qd dv A s0.heap mo nf 0 (0 + 1) un2 Wi Gi Ki Ce Fd FR3 NR3 UR2 (some (mkS mo nf 0 0 un Wi Gi Ki Ce Fd FR NR UR)) ab be H locs) (hl : lv_has ls 34 [(0, .ref bs), (1, .ref ((a 0))), (2, .ref qd), (3, .int (nI nf)), (4, .int (nI mo)), (5, .int (nI n)), (6, .int x6), (7, .int (nI f)), (8, .int (nI g)), (9, .int (nI un)), (10, .int (nI mo)), (11, .int (nI (Ce f))), (12, .int (nI (Fd f))), (13, .int (nI 1)), (14, .int (nI q)), (18, .int (nI kd)), (22, .int (nI st))]) (kont : ∀  (H1 : Heap) (locs1 : List Loc) (ls1 : Array Slot), ST D cyI cyJ cyS a a_now a_spare a_text qd dv A s0.heap mo nf 0 (0 + 1) un2 Wi Gi Ki Ce Fd FR3 NR3 UR2 (some (mkS mo nf 0 0 un Wi Gi Ki Ce Fd FR NR UR)) ((if Ce f % 6 = 5 then (1 : Int64) else 0)) 1 H1 locs1 → lv_has ls1 34 [(0, .ref bs), (1, .ref ((a 0))), (2, .ref qd), (3, .int (nI nf)), (4, .int (nI mo)), (5, .int (nI n)), (6, .int x6), (7, .int (nI f)), (8, .int (nI g)), (9, .int (nI un)), (10, .int (nI mo)), (11, .int (nI (Ce f))), (12, .int (nI (Fd f))), (13, .int (nI 1)), (14, .int (nI q)), (18, .int (nI kd)), (22, .int (nI st))] → W p l en room_1 s0 m args below meth co H1 locs1 ck sk Q (F0 m 1543 ls1 [])) : W p l en room_1 s0 m args below meth co H locs ck sk Q (F0 m 1410 ls []) := by
  obtain ⟨hx, hb, hml, hown, hts⟩ := id F
  obtain ⟨hmo, hnf, hun, hW, hG, hK5, hC35, hD99⟩ := ST_ok hST
  have c35 := hC35 f hf
  have d99 := hD99 f hf
  have k5 := hK5 f hf
  refine lv_iload hx hb dL_law_1410 (lv_at hl 6 rfl) ?_
  refine lv_bipush (v := nI 24) hx hb dL_law_1412 (by decide) ?_
  refine lv_ishr hx hb dL_law_1414 ?_
  refine lv_bipush (v := nI 9) hx hb dL_law_1415 (by decide) ?_
  refine lk_low F gL_law_L_low ⟨(Nat.le_of_ble_eq_true rfl), (Nat.le_of_ble_eq_true rfl)⟩ hck dL_law_1417 hl.1 (Nat.le_of_ble_eq_true rfl) _ 9 (by omega) (by omega) (fun m2 hm2 => ?_)
  refine lv_istore (lv' := [(32, .int (nI m2)), (0, .ref bs), (1, .ref ((a 0))), (2, .ref qd), (3, .int (nI nf)), (4, .int (nI mo)), (5, .int (nI n)), (6, .int x6), (7, .int (nI f)), (8, .int (nI g)), (9, .int (nI un)), (10, .int (nI mo)), (11, .int (nI (Ce f))), (12, .int (nI (Fd f))), (13, .int (nI 1)), (14, .int (nI q)), (18, .int (nI kd)), (22, .int (nI st))]) hx hb dL_law_1420 hl (by decide) rfl (fun ls hl => ?_)
  refine lv_iload hx hb dL_law_1422 (lv_at hl 14 rfl) ?_
  refine lv_if_eq (tgt := 1540) hx hb dL_law_1424 (by decide) (fun cz => absurd cz (show ¬ (nI 1 = nI 0) by rw [nI_eq (by omega) (by omega)]; omega)) (fun _ => ?_)
  refine lv_aload_n hx hb dL_law_1427 rfl (lv_at hl 2 rfl) ?_
  refine lv_iload hx hb dL_law_1428 (lv_at hl 8 rfl) ?_
  refine lv_iload hx hb dL_law_1430 (lv_at hl 0 rfl) ?_
  refine lv_iconst (v := nI 0) hx hb dL_law_1432 (by decide) ?_
  refine lk_calms0 F hKK hA gL_law_X3_calms ⟨(Nat.le_of_ble_eq_true rfl), (Nat.le_of_ble_eq_true rfl)⟩ hck dL_law_1433 hl.1 (Nat.le_of_ble_eq_true rfl) hST f m2 hf (by omega) (fun H locs hST => ?_)
  refine lv_iconst (v := nI 1) hx hb dL_law_1436 (by decide) ?_
  refine lv_icmp_ne (tgt := 1540) hx hb dL_law_1437 (by decide) (fun cz => absurd rfl cz) (fun _ => ?_)
  refine lv_aload_n hx hb dL_law_1440 rfl (lv_at hl 2 rfl) ?_
  refine lv_iconst (v := nI 0) hx hb dL_law_1441 (by decide) ?_
  refine lk_part0 F hKK hA gL_law_X3_part ⟨(Nat.le_of_ble_eq_true rfl), (Nat.le_of_ble_eq_true rfl)⟩ hck dL_law_1442 hl.1 (Nat.le_of_ble_eq_true rfl) hST  (fun H locs hST => ?_)
  refine lv_aload_n hx hb dL_law_1445 rfl (lv_at hl 2 rfl) ?_
  refine lv_iload hx hb dL_law_1446 (lv_at hl 8 rfl) ?_
  refine lv_iload hx hb dL_law_1448 (lv_at hl 0 rfl) ?_
  refine lk_then F hKK hA gL_law_X3_then ⟨(Nat.le_of_ble_eq_true rfl), (Nat.le_of_ble_eq_true rfl)⟩ hck dL_law_1450 hl.1 (Nat.le_of_ble_eq_true rfl) hST f m2 hf (by omega) (fun H locs hST => ?_)
  have r35 : runN Wi Gi (Ki f) (Ce f) mo m2 ≤ 35 := runN_le hW hG k5 c35 m2
  refine lv_bipush (v := nI 6) hx hb dL_law_1453 (by decide) ?_
  refine lv_irem hx hb dL_law_1455 (by decide) ?_
  refine lv_nm (pk_rem (a := (runN Wi Gi (Ki f) (Ce f) mo m2)) (d := 6) (by omega) (by omega) (by omega)).symm ?_
  refine lv_iconst (v := nI 5) hx hb dL_law_1456 (by decide) ?_
  have J : W p l en room_1 s0 m args below meth co H locs ck sk Q (F0 m 1465 ls (.long (if runN Wi Gi (Ki f) (Ce f) mo m2 % 6 = 5 then (1 : Int64) else 0) :: .long (if runN Wi Gi (Ki f) (Ce f) mo m2 % 6 = 5 then (1 : Int64) else 0) :: [])) := by
    refine W.lcmp hx hb dL_law_1465 ?_
    refine lv_if_ne (tgt := 1540) hx hb dL_law_1466 (by decide) (fun cz => absurd (lgc_eq rfl) cz) (fun _ => ?_)
    refine lv_aload_n hx hb dL_law_1469 rfl (lv_at hl 2 rfl) ?_
    refine lv_iconst (v := nI 1) hx hb dL_law_1470 (by decide) ?_
    refine lk_part1 F hKK hA gL_law_X3_part ⟨(Nat.le_of_ble_eq_true rfl), (Nat.le_of_ble_eq_true rfl)⟩ hck dL_law_1471 hl.1 (Nat.le_of_ble_eq_true rfl) hST  (fun H locs hST => ?_)
    refine lv_lconst (v := 1) hx hb dL_law_1474 (by decide) ?_
    refine W.lcmp hx hb dL_law_1475 ?_
    refine lv_if_ne (tgt := 1540) hx hb dL_law_1476 (by decide) (fun cz => absurd (lgc_eq rfl) cz) (fun _ => ?_)
    refine lv_aload_n hx hb dL_law_1479 rfl (lv_at hl 2 rfl) ?_
    refine lv_iload hx hb dL_law_1480 (lv_at hl 8 rfl) ?_
    refine lv_iload hx hb dL_law_1482 (lv_at hl 0 rfl) ?_
    refine lv_bipush (v := nI 10) hx hb dL_law_1484 (by decide) ?_
    refine lk_calms10 F hKK hA gL_law_X3_calms ⟨(Nat.le_of_ble_eq_true rfl), (Nat.le_of_ble_eq_true rfl)⟩ hck dL_law_1486 hl.1 (Nat.le_of_ble_eq_true rfl) hST f m2 hf (by omega) (fun H locs hST => ?_)
    refine lv_iconst (v := nI 1) hx hb dL_law_1489 (by decide) ?_
    refine lv_icmp_ne (tgt := 1540) hx hb dL_law_1490 (by decide) (fun cz => absurd rfl cz) (fun _ => ?_)
    refine lv_aload_n hx hb dL_law_1493 rfl (lv_at hl 2 rfl) ?_
    refine lv_iconst (v := nI 0) hx hb dL_law_1494 (by decide) ?_
    refine lk_part0 F hKK hA gL_law_X3_part ⟨(Nat.le_of_ble_eq_true rfl), (Nat.le_of_ble_eq_true rfl)⟩ hck dL_law_1495 hl.1 (Nat.le_of_ble_eq_true rfl) hST  (fun H locs hST => ?_)
    refine lv_iload hx hb dL_law_1498 (lv_at hl 12 rfl) ?_
    refine lv_bipush (v := nI 6) hx hb dL_law_1500 (by decide) ?_
    refine lv_irem hx hb dL_law_1502 (by decide) ?_
    refine lv_nm (pk_rem (a := (Ce f)) (d := 6) (by omega) (by omega) (by omega)).symm ?_
    refine lv_iconst (v := nI 5) hx hb dL_law_1503 (by decide) ?_
    have J : W p l en room_1 s0 m args below meth co H locs ck sk Q (F0 m 1512 ls (.long (if Ce f % 6 = 5 then (1 : Int64) else 0) :: .long (if Ce f % 6 = 5 then (1 : Int64) else 0) :: [])) := by
      refine W.lcmp hx hb dL_law_1512 ?_
      refine lv_if_ne (tgt := 1540) hx hb dL_law_1513 (by decide) (fun cz => absurd (lgc_eq rfl) cz) (fun _ => ?_)
      refine lv_aload_n hx hb dL_law_1516 rfl (lv_at hl 2 rfl) ?_
      refine lv_iload hx hb dL_law_1517 (lv_at hl 7 rfl) ?_
      refine lv_ldc (v := nI 1000000) hx hb hown (hts (Cond.constant RL 133 (1000000)) (List.mem_of_getElem? (i := 4) (by decide +kernel))) dL_law_1519 ?_
      refine lk_low F gL_law_L_low ⟨(Nat.le_of_ble_eq_true rfl), (Nat.le_of_ble_eq_true rfl)⟩ hck dL_law_1521 hl.1 (Nat.le_of_ble_eq_true rfl) _ 1000000 (by omega) (by omega) (fun yv hyv => ?_)
      refine lv_iconst (v := nI 0) hx hb dL_law_1524 (by decide) ?_
      refine lk_years0 F hKK hA gL_law_X3_years ⟨(Nat.le_of_ble_eq_true rfl), (Nat.le_of_ble_eq_true rfl)⟩ hck dL_law_1525 hl.1 (Nat.le_of_ble_eq_true rfl) hST yv (by omega) (fun H locs hST => ?_)
      refine lv_aload_n hx hb dL_law_1528 rfl (lv_at hl 2 rfl) ?_
      refine lv_iconst (v := nI 2) hx hb dL_law_1529 (by decide) ?_
      refine lk_count2 F hKK hA gL_law_X3_count ⟨(Nat.le_of_ble_eq_true rfl), (Nat.le_of_ble_eq_true rfl)⟩ hck dL_law_1530 hl.1 (Nat.le_of_ble_eq_true rfl) hST  (fun H locs hST => ?_)
      refine lv_icmp_ne (tgt := 1540) hx hb dL_law_1533 (by decide) (fun cz => absurd rfl cz) (fun _ => ?_)
      refine lv_iconst (v := nI 1) hx hb dL_law_1536 (by decide) ?_
      refine lv_goto (tgt := 1541) hx hb dL_law_1537 (by decide) ?_
      refine lv_istore (lv' := [(13, .int (nI 1)), (32, .int (nI m2)), (0, .ref bs), (1, .ref ((a 0))), (2, .ref qd), (3, .int (nI nf)), (4, .int (nI mo)), (5, .int (nI n)), (6, .int x6), (7, .int (nI f)), (8, .int (nI g)), (9, .int (nI un)), (10, .int (nI mo)), (11, .int (nI (Ce f))), (12, .int (nI (Fd f))), (14, .int (nI q)), (18, .int (nI kd)), (22, .int (nI st))]) hx hb dL_law_1541 hl (by decide) rfl (fun ls hl => ?_)
      exact kont _ _ _ hST (lv_sub hl [2, 3, 4, 5, 6, 7, 8, 9, 10, 11, 12, 13, 14, 0, 15, 16, 17] rfl)
    refine lv_icmp_ne (tgt := 1511) hx hb dL_law_1504 (by decide) (fun cj => ?_) (fun cf => ?_)
    · skip
      have cj : ¬ (nI ((Ce f) % 6) = nI 5) := cj
      rw [nI_eq (by omega) (by omega)] at cj
      refine lv_lconst (v := 0) hx hb dL_law_1511 (by decide) ?_
      refine lv_nml (show (if Ce f % 6 = 5 then (1 : Int64) else 0) = 0 from if_neg cj) ?_
      exact J
    · skip
      have cf : nI ((Ce f) % 6) = nI 5 := cf
      rw [nI_eq (by omega) (by omega)] at cf
      refine lv_lconst (v := 1) hx hb dL_law_1507 (by decide) ?_
      refine lv_goto (tgt := 1512) hx hb dL_law_1508 (by decide) ?_
      refine lv_nml (show (if Ce f % 6 = 5 then (1 : Int64) else 0) = 1 from if_pos cf) ?_
      exact J
  refine lv_icmp_ne (tgt := 1464) hx hb dL_law_1457 (by decide) (fun cj => ?_) (fun cf => ?_)
  · skip
    have cj : ¬ (nI ((runN Wi Gi (Ki f) (Ce f) mo m2) % 6) = nI 5) := cj
    rw [nI_eq (by omega) (by omega)] at cj
    refine lv_lconst (v := 0) hx hb dL_law_1464 (by decide) ?_
    refine lv_nml (show (if runN Wi Gi (Ki f) (Ce f) mo m2 % 6 = 5 then (1 : Int64) else 0) = 0 from if_neg cj) ?_
    exact J
  · skip
    have cf : nI ((runN Wi Gi (Ki f) (Ce f) mo m2) % 6) = nI 5 := cf
    rw [nI_eq (by omega) (by omega)] at cf
    refine lv_lconst (v := 1) hx hb dL_law_1460 (by decide) ?_
    refine lv_goto (tgt := 1465) hx hb dL_law_1461 (by decide) ?_
    refine lv_nml (show (if runN Wi Gi (Ki f) (Ce f) mo m2 % 6 = 5 then (1 : Int64) else 0) = 1 from if_pos cf) ?_
    exact J

set_option maxHeartbeats 8000000 in
set_option maxRecDepth 100000 in
theorem sg11 {p : Program} {l : Launch} {en : Env} {s0 : State} {m : MethodId} {args : Array Value} {below : List Frame} {meth : Method} {co : Code} (F : CallFix p m co cL_law 34 s0 args wsL_law RL) {D : va_G} {cyI cyJ cyS : ClassId} (hKK : KK D (tyS cyI cyJ cyS) s0) {A : Nat → Prop} (hA : ∀ q, s0.heap.size ≤ q → A q) {a a_now a_spare a_text : Nat → Nat} {qd : Nat} {dv : Nat → Int32} {bs Ls : Nat} {xs : Nat → Int32} (hL : Ls ≤ 260) (hX : va_X bs Ls xs s0 s0.heap) (hbl : bs < s0.heap.size) (hbA : ¬ A bs) {Q : State → Prop} {mo nf un : Nat} {Wi Gi Ki Ce Fd FR NR UR : Nat → Nat} {un2 : Nat} {UR2 : Nat → Nat} {ab be : Int64} {n : Nat} (x6 : Int32) {f g : Nat} (hf : f < nf) (hge : g = (f + 1) % nf) (hg : g < nf) {q : Nat} (hq1 : 1 ≤ q) (hq : q ≤ 20) {kd : Nat} (hkd : kd ≤ 5) {st : Nat} (hst : st ≤ 35) {FR3 NR3 : Nat → Nat} {H : Heap} {locs : List Loc} {ck sk : Nat} {ls : Array Slot} (hck : ck ≤ room_1.cells ∧ sk ≤ room_1.slots) (hmo9 : mo ≤ 110)  (hST : ST D cyI cyJ cyS a a_now a_spare a_text qd dv A s0.heap mo nf 0 (0 + 1) un2 Wi Gi Ki Ce Fd FR3 NR3 UR2 (some (mkS mo nf 0 0 un Wi Gi Ki Ce Fd FR NR UR)) ab be H locs) (hl : lv_has ls 34 [(0, .ref bs), (1, .ref ((a 0))), (2, .ref qd), (3, .int (nI nf)), (4, .int (nI mo)), (5, .int (nI n)), (6, .int x6), (7, .int (nI f)), (8, .int (nI g)), (9, .int (nI un)), (10, .int (nI mo)), (11, .int (nI (Ce f))), (12, .int (nI (Fd f))), (13, .int (nI 1)), (14, .int (nI q)), (18, .int (nI kd)), (22, .int (nI st))]) (kont : ∀  (H1 : Heap) (locs1 : List Loc) (ls1 : Array Slot), ST D cyI cyJ cyS a a_now a_spare a_text qd dv A s0.heap mo nf 0 0 un Wi Gi Ki Ce Fd FR NR UR (some (mkS mo nf 0 0 un Wi Gi Ki Ce Fd FR NR UR)) ab be H1 locs1 → lv_has ls1 34 [(0, .ref bs), (1, .ref ((a 0))), (2, .ref qd), (3, .int (nI nf)), (4, .int (nI mo)), (5, .int (nI n)), (6, .int x6), (7, .int (nI f)), (8, .int (nI g)), (9, .int (nI un)), (10, .int (nI mo)), (11, .int (nI (Ce f))), (12, .int (nI (Fd f))), (13, .int (nI 1)), (14, .int (nI q)), (18, .int (nI kd)), (22, .int (nI st))] → W p l en room_1 s0 m args below meth co H1 locs1 ck sk Q (F0 m 1626 ls1 [])) : W p l en room_1 s0 m args below meth co H locs ck sk Q (F0 m 1543 ls []) := by
  obtain ⟨hx, hb, hml, hown, hts⟩ := id F
  obtain ⟨hmo, hnf, hun, hW, hG, hK5, hC35, hD99⟩ := ST_ok hST
  have c35 := hC35 f hf
  have d99 := hD99 f hf
  have k5 := hK5 f hf
  refine lv_iload hx hb dL_law_1543 (lv_at hl 13 rfl) ?_
  refine lv_if_eq (tgt := 1623) hx hb dL_law_1545 (by decide) (fun cz => absurd cz (show ¬ (nI 1 = nI 0) by rw [nI_eq (by omega) (by omega)]; omega)) (fun _ => ?_)
  refine lv_aload_n hx hb dL_law_1548 rfl (lv_at hl 1 rfl) ?_
  refine lv_iload hx hb dL_law_1549 (lv_at hl 7 rfl) ?_
  refine lv_bipush (v := nI 35) hx hb dL_law_1551 (by decide) ?_
  refine lv_iload hx hb dL_law_1553 (lv_at hl 11 rfl) ?_
  refine lv_isub hx hb dL_law_1555 ?_
  refine lv_nm (pk_sub (a := 35) (b := (Ce f)) (by omega)).symm ?_
  refine lk_moves F hKK hA gL_law_X3_moves ⟨(Nat.le_of_ble_eq_true rfl), (Nat.le_of_ble_eq_true rfl)⟩ hck dL_law_1556 hl.1 (Nat.le_of_ble_eq_true rfl) hST f (35 - Ce f) hf (by omega) (fun H locs hST => ?_)
  refine lv_iload hx hb dL_law_1559 (lv_at hl 11 rfl) ?_
  refine lv_icmp_ne (tgt := 1623) hx hb dL_law_1561 (by decide) (fun cz => absurd rfl cz) (fun _ => ?_)
  refine lv_aload_n hx hb dL_law_1564 rfl (lv_at hl 1 rfl) ?_
  refine lv_iload hx hb dL_law_1565 (lv_at hl 7 rfl) ?_
  refine lv_iconst (v := nI 1) hx hb dL_law_1567 (by decide) ?_
  refine lk_of1 F hKK hA gL_law_X3_of ⟨(Nat.le_of_ble_eq_true rfl), (Nat.le_of_ble_eq_true rfl)⟩ hck dL_law_1568 hl.1 (Nat.le_of_ble_eq_true rfl) hST f hf (fun H locs hST => ?_)
  refine lv_bipush (v := nI 35) hx hb dL_law_1571 (by decide) ?_
  refine lv_iload hx hb dL_law_1573 (lv_at hl 11 rfl) ?_
  refine lv_isub hx hb dL_law_1575 ?_
  refine lv_nm (pk_sub (a := 35) (b := (Ce f)) (by omega)).symm ?_
  refine lv_icmp_ne (tgt := 1623) hx hb dL_law_1576 (by decide) (fun cz => absurd (show nI (upn Ce f (35 - Ce f) f) = nI (35 - Ce f) from congrArg nI upn_s) cz) (fun _ => ?_)
  refine lv_aload_n hx hb dL_law_1579 rfl (lv_at hl 1 rfl) ?_
  refine lk_undo F hKK hA gL_law_X3_undo ⟨(Nat.le_of_ble_eq_true rfl), (Nat.le_of_ble_eq_true rfl)⟩ hck dL_law_1580 hl.1 (Nat.le_of_ble_eq_true rfl) hST (kept un2) mo Ce Fd rfl ku_top.1 (fun f hf => ku_top.2 f (by omega)) (fun H locs hST => ?_)
  refine lv_iload hx hb dL_law_1583 (lv_at hl 10 rfl) ?_
  refine lv_icmp_ne (tgt := 1623) hx hb dL_law_1585 (by decide) (fun cz => absurd rfl cz) (fun _ => ?_)
  refine lv_aload_n hx hb dL_law_1588 rfl (lv_at hl 1 rfl) ?_
  refine lv_iload hx hb dL_law_1589 (lv_at hl 7 rfl) ?_
  refine lv_iconst (v := nI 1) hx hb dL_law_1591 (by decide) ?_
  refine lk_of1 F hKK hA gL_law_X3_of ⟨(Nat.le_of_ble_eq_true rfl), (Nat.le_of_ble_eq_true rfl)⟩ hck dL_law_1592 hl.1 (Nat.le_of_ble_eq_true rfl) hST f hf (fun H locs hST => ?_)
  refine lv_iload hx hb dL_law_1595 (lv_at hl 11 rfl) ?_
  refine lv_icmp_ne (tgt := 1623) hx hb dL_law_1597 (by decide) (fun cz => absurd rfl cz) (fun _ => ?_)
  refine lv_aload_n hx hb dL_law_1600 rfl (lv_at hl 1 rfl) ?_
  refine lv_iconst (v := nI 0) hx hb dL_law_1601 (by decide) ?_
  refine lk_from_old F hKK hA gL_law_X3_from ⟨(Nat.le_of_ble_eq_true rfl), (Nat.le_of_ble_eq_true rfl)⟩ hck dL_law_1602 hl.1 (Nat.le_of_ble_eq_true rfl) hST  (fun H locs hST => ?_)
  refine lv_iconst (v := nI 1) hx hb dL_law_1605 (by decide) ?_
  refine lv_icmp_ne (tgt := 1623) hx hb dL_law_1606 (by decide) (fun cz => absurd rfl cz) (fun _ => ?_)
  refine lv_aload_n hx hb dL_law_1609 rfl (lv_at hl 1 rfl) ?_
  refine lv_iconst (v := nI 5) hx hb dL_law_1610 (by decide) ?_
  refine lk_count5 F hKK hA gL_law_X3_count ⟨(Nat.le_of_ble_eq_true rfl), (Nat.le_of_ble_eq_true rfl)⟩ hck dL_law_1611 hl.1 (Nat.le_of_ble_eq_true rfl) hST  (fun H locs hST => ?_)
  refine lv_iload hx hb dL_law_1614 (lv_at hl 9 rfl) ?_
  refine lv_icmp_ne (tgt := 1623) hx hb dL_law_1616 (by decide) (fun cz => absurd rfl cz) (fun _ => ?_)
  refine lv_iconst (v := nI 1) hx hb dL_law_1619 (by decide) ?_
  refine lv_goto (tgt := 1624) hx hb dL_law_1620 (by decide) ?_
  refine lv_istore (lv' := [(13, .int (nI 1)), (0, .ref bs), (1, .ref ((a 0))), (2, .ref qd), (3, .int (nI nf)), (4, .int (nI mo)), (5, .int (nI n)), (6, .int x6), (7, .int (nI f)), (8, .int (nI g)), (9, .int (nI un)), (10, .int (nI mo)), (11, .int (nI (Ce f))), (12, .int (nI (Fd f))), (14, .int (nI q)), (18, .int (nI kd)), (22, .int (nI st))]) hx hb dL_law_1624 hl (by decide) rfl (fun ls hl => ?_)
  exact kont _ _ _ hST (lv_sub hl [1, 2, 3, 4, 5, 6, 7, 8, 9, 10, 11, 12, 13, 0, 14, 15, 16] rfl)

set_option maxHeartbeats 8000000 in
set_option maxRecDepth 100000 in
theorem sg12 {p : Program} {l : Launch} {en : Env} {s0 : State} {m : MethodId} {args : Array Value} {below : List Frame} {meth : Method} {co : Code} (F : CallFix p m co cL_law 34 s0 args wsL_law RL) {D : va_G} {cyI cyJ cyS : ClassId} (hKK : KK D (tyS cyI cyJ cyS) s0) {A : Nat → Prop} (hA : ∀ q, s0.heap.size ≤ q → A q) {a a_now a_spare a_text : Nat → Nat} {qd : Nat} {dv : Nat → Int32} {bs Ls : Nat} {xs : Nat → Int32} (hL : Ls ≤ 260) (hX : va_X bs Ls xs s0 s0.heap) (hbl : bs < s0.heap.size) (hbA : ¬ A bs) {Q : State → Prop} {mo nf un : Nat} {Wi Gi Ki Ce Fd FR NR UR : Nat → Nat} {ab be : Int64} {n : Nat} (x6 : Int32) {f g : Nat} (hf : f < nf) (hge : g = (f + 1) % nf) (hg : g < nf) {q : Nat} (hq1 : 1 ≤ q) (hq : q ≤ 20) {kd : Nat} (hkd : kd ≤ 5) {st : Nat} (hst : st ≤ 35) {H : Heap} {locs : List Loc} {ck sk : Nat} {ls : Array Slot} (hck : ck ≤ room_1.cells ∧ sk ≤ room_1.slots) (hmo9 : mo ≤ 110)  (hST : ST D cyI cyJ cyS a a_now a_spare a_text qd dv A s0.heap mo nf 0 0 un Wi Gi Ki Ce Fd FR NR UR (some (mkS mo nf 0 0 un Wi Gi Ki Ce Fd FR NR UR)) ab be H locs) (hl : lv_has ls 34 [(0, .ref bs), (1, .ref ((a 0))), (2, .ref qd), (3, .int (nI nf)), (4, .int (nI mo)), (5, .int (nI n)), (6, .int x6), (7, .int (nI f)), (8, .int (nI g)), (9, .int (nI un)), (10, .int (nI mo)), (11, .int (nI (Ce f))), (12, .int (nI (Fd f))), (13, .int (nI 1)), (14, .int (nI q)), (18, .int (nI kd)), (22, .int (nI st))]) (kont : ∀ (u4 : Nat) (Ce4 Fd4 UR4 : Nat → Nat) (H1 : Heap) (locs1 : List Loc) (ls1 : Array Slot), ST D cyI cyJ cyS a a_now a_spare a_text qd dv A s0.heap (mo + 1) nf 0 0 u4 Wi Gi Ki Ce4 Fd4 FR NR UR4 (some (mkS mo nf 0 0 un Wi Gi Ki Ce Fd FR NR UR)) ab be H1 locs1 → lv_has ls1 34 [(0, .ref bs), (1, .ref ((a 0))), (2, .ref qd), (3, .int (nI nf)), (4, .int (nI (mo + 1))), (5, .int (nI (n + 1)))] → W p l en room_1 s0 m args below meth co H1 locs1 ck sk Q (F0 m 47 ls1 [])) : W p l en room_1 s0 m args below meth co H locs ck sk Q (F0 m 1626 ls []) := by
  obtain ⟨hx, hb, hml, hown, hts⟩ := id F
  obtain ⟨hmo, hnf, hun, hW, hG, hK5, hC35, hD99⟩ := ST_ok hST
  have c35 := hC35 f hf
  have d99 := hD99 f hf
  have k5 := hK5 f hf
  refine lv_iload hx hb dL_law_1626 (lv_at hl 6 rfl) ?_
  refine lv_bipush (v := nI 26) hx hb dL_law_1628 (by decide) ?_
  refine lv_ishr hx hb dL_law_1630 ?_
  refine lv_iconst (v := nI 3) hx hb dL_law_1631 (by decide) ?_
  refine lk_low F gL_law_L_low ⟨(Nat.le_of_ble_eq_true rfl), (Nat.le_of_ble_eq_true rfl)⟩ hck dL_law_1632 hl.1 (Nat.le_of_ble_eq_true rfl) _ 3 (by omega) (by omega) (fun dz hdz => ?_)
  refine lv_istore (lv' := [(33, .int (nI dz)), (0, .ref bs), (1, .ref ((a 0))), (2, .ref qd), (3, .int (nI nf)), (4, .int (nI mo)), (5, .int (nI n)), (6, .int x6), (7, .int (nI f)), (8, .int (nI g)), (9, .int (nI un)), (10, .int (nI mo)), (11, .int (nI (Ce f))), (12, .int (nI (Fd f))), (13, .int (nI 1)), (14, .int (nI q)), (18, .int (nI kd)), (22, .int (nI st))]) hx hb dL_law_1635 hl (by decide) rfl (fun ls hl => ?_)
  refine lv_iload hx hb dL_law_1637 (lv_at hl 14 rfl) ?_
  refine lv_if_eq (tgt := 1710) hx hb dL_law_1639 (by decide) (fun cz => absurd cz (show ¬ (nI 1 = nI 0) by rw [nI_eq (by omega) (by omega)]; omega)) (fun _ => ?_)
  refine lv_iload hx hb dL_law_1642 (lv_at hl 0 rfl) ?_
  refine lv_if_ne (tgt := 1663) hx hb dL_law_1644 (by decide) (fun cj => ?_) (fun cf => ?_)
  · skip
    have cj : ¬ (nI dz = nI 0) := cj
    rw [nI_eq (by omega) (by omega)] at cj
    refine lv_iload hx hb dL_law_1663 (lv_at hl 0 rfl) ?_
    refine lv_iconst (v := nI 1) hx hb dL_law_1665 (by decide) ?_
    refine lv_icmp_ne (tgt := 1692) hx hb dL_law_1666 (by decide) (fun cj2 => ?_) (fun cf2 => ?_)
    · skip
      have cj2 : ¬ (nI dz = nI 1) := cj2
      rw [nI_eq (by omega) (by omega)] at cj2
      refine lv_iload hx hb dL_law_1692 (lv_at hl 0 rfl) ?_
      refine lv_iconst (v := nI 2) hx hb dL_law_1694 (by decide) ?_
      refine lv_icmp_ne (tgt := 1710) hx hb dL_law_1695 (by decide) (fun cz => absurd (show nI dz = nI 2 by rw [nI_eq (by omega) (by omega)]; omega) cz) (fun _ => ?_)
      refine lv_aload_n hx hb dL_law_1698 rfl (lv_at hl 2 rfl) ?_
      refine lv_iconst (v := nI 1) hx hb dL_law_1699 (by decide) ?_
      refine lk_month F hKK hA gL_law_X3_month ⟨(Nat.le_of_ble_eq_true rfl), (Nat.le_of_ble_eq_true rfl)⟩ hck dL_law_1700 hl.1 (Nat.le_of_ble_eq_true rfl) hST 1 (by omega) (by omega) (by omega) (fun H locs hST => ?_)
      refine lv_if_lt (tgt := 1710) hx hb dL_law_1703 (by decide) (fun cz => absurd cz (nI_pos (Nat.lt_of_le_of_lt (outN_le _ _) (by omega)))) (fun _ => ?_)
      refine lv_iconst (v := nI 1) hx hb dL_law_1706 (by decide) ?_
      refine lv_goto (tgt := 1711) hx hb dL_law_1707 (by decide) ?_
      refine lv_istore (lv' := [(13, .int (nI 1)), (33, .int (nI dz)), (0, .ref bs), (1, .ref ((a 0))), (2, .ref qd), (3, .int (nI nf)), (4, .int (nI mo)), (5, .int (nI n)), (6, .int x6), (7, .int (nI f)), (8, .int (nI g)), (9, .int (nI un)), (10, .int (nI mo)), (11, .int (nI (Ce f))), (12, .int (nI (Fd f))), (14, .int (nI q)), (18, .int (nI kd)), (22, .int (nI st))]) hx hb dL_law_1711 hl (by decide) rfl (fun ls hl => ?_)
      refine lv_iinc (v := nI (mo + 1)) (lv' := [(4, .int (nI (mo + 1))), (13, .int (nI 1)), (33, .int (nI dz)), (0, .ref bs), (1, .ref ((a 0))), (2, .ref qd), (3, .int (nI nf)), (5, .int (nI n)), (6, .int x6), (7, .int (nI f)), (8, .int (nI g)), (9, .int (nI un)), (10, .int (nI mo)), (11, .int (nI (Ce f))), (12, .int (nI (Fd f))), (14, .int (nI q)), (18, .int (nI kd)), (22, .int (nI st))]) hx hb dL_law_1713 hl (k := 6) rfl (by rw [show Int32.ofInt 1 = nI 1 from by decide, nI_add]) (by decide) rfl (fun ls hl => ?_)
      refine lv_iload hx hb dL_law_1716 (lv_at hl 1 rfl) ?_
      refine lv_if_ne (tgt := 1723) hx hb dL_law_1718 (by decide) (fun _ => ?_) (fun cz => absurd cz (show ¬ (nI 1 = nI 0) by rw [nI_eq (by omega) (by omega)]; omega))
      refine lv_iinc (v := nI (n + 1)) (lv' := [(5, .int (nI (n + 1))), (4, .int (nI (mo + 1))), (13, .int (nI 1)), (33, .int (nI dz)), (0, .ref bs), (1, .ref ((a 0))), (2, .ref qd), (3, .int (nI nf)), (6, .int x6), (7, .int (nI f)), (8, .int (nI g)), (9, .int (nI un)), (10, .int (nI mo)), (11, .int (nI (Ce f))), (12, .int (nI (Fd f))), (14, .int (nI q)), (18, .int (nI kd)), (22, .int (nI st))]) hx hb dL_law_1723 hl (k := 7) rfl (by rw [show Int32.ofInt 1 = nI 1 from by decide, nI_add]) (by decide) rfl (fun ls hl => ?_)
      refine lv_goto (tgt := 47) hx hb dL_law_1726 (by decide) ?_
      exact kont _ _ _ _ _ _ _ hST (lv_sub hl [4, 5, 6, 7, 1, 0] rfl)
    · skip
      refine lv_aload_n hx hb dL_law_1669 rfl (lv_at hl 2 rfl) ?_
      refine lv_iload hx hb dL_law_1670 (lv_at hl 8 rfl) ?_
      refine lv_iconst (v := nI 1) hx hb dL_law_1672 (by decide) ?_
      refine lv_iload hx hb dL_law_1673 (lv_at hl 7 rfl) ?_
      refine lv_iconst (v := nI 4) hx hb dL_law_1675 (by decide) ?_
      refine lv_ishr hx hb dL_law_1676 ?_
      refine lv_bipush (v := nI 20) hx hb dL_law_1677 (by decide) ?_
      refine lk_low F gL_law_L_low ⟨(Nat.le_of_ble_eq_true rfl), (Nat.le_of_ble_eq_true rfl)⟩ hck dL_law_1679 hl.1 (Nat.le_of_ble_eq_true rfl) _ 20 (by omega) (by omega) (fun j hj => ?_)
      refine lv_iadd hx hb dL_law_1682 ?_
      refine lv_nm (nI_add 1 j).symm ?_
      obtain ⟨fq, hfq⟩ : ∃ q, q = 1 + j := ⟨_, rfl⟩
      refine lv_nm (show nI fq = nI (1 + j) from (congrArg nI hfq)) ?_
      refine lk_feed F hKK hA gL_law_X3_feed ⟨(Nat.le_of_ble_eq_true rfl), (Nat.le_of_ble_eq_true rfl)⟩ hck dL_law_1683 hl.1 (Nat.le_of_ble_eq_true rfl) hST f fq hf (by omega) (by omega) (fun H locs hST => ?_)
      refine lv_if_le (tgt := 1710) hx hb dL_law_1686 (by decide) (fun cz => absurd cz (show ¬ (nI (min 99 (Fd f + fq)) ≤ nI 0) by rw [nI_leI (by omega) (by omega)]; omega)) (fun _ => ?_)
      refine lv_goto (tgt := 1698) hx hb dL_law_1689 (by decide) ?_
      refine lv_aload_n hx hb dL_law_1698 rfl (lv_at hl 2 rfl) ?_
      refine lv_iconst (v := nI 1) hx hb dL_law_1699 (by decide) ?_
      refine lk_month F hKK hA gL_law_X3_month ⟨(Nat.le_of_ble_eq_true rfl), (Nat.le_of_ble_eq_true rfl)⟩ hck dL_law_1700 hl.1 (Nat.le_of_ble_eq_true rfl) hST 1 (by omega) (by omega) (by omega) (fun H locs hST => ?_)
      refine lv_if_lt (tgt := 1710) hx hb dL_law_1703 (by decide) (fun cz => absurd cz (nI_pos (Nat.lt_of_le_of_lt (outN_le _ _) (by omega)))) (fun _ => ?_)
      refine lv_iconst (v := nI 1) hx hb dL_law_1706 (by decide) ?_
      refine lv_goto (tgt := 1711) hx hb dL_law_1707 (by decide) ?_
      refine lv_istore (lv' := [(13, .int (nI 1)), (33, .int (nI dz)), (0, .ref bs), (1, .ref ((a 0))), (2, .ref qd), (3, .int (nI nf)), (4, .int (nI mo)), (5, .int (nI n)), (6, .int x6), (7, .int (nI f)), (8, .int (nI g)), (9, .int (nI un)), (10, .int (nI mo)), (11, .int (nI (Ce f))), (12, .int (nI (Fd f))), (14, .int (nI q)), (18, .int (nI kd)), (22, .int (nI st))]) hx hb dL_law_1711 hl (by decide) rfl (fun ls hl => ?_)
      refine lv_iinc (v := nI (mo + 1)) (lv' := [(4, .int (nI (mo + 1))), (13, .int (nI 1)), (33, .int (nI dz)), (0, .ref bs), (1, .ref ((a 0))), (2, .ref qd), (3, .int (nI nf)), (5, .int (nI n)), (6, .int x6), (7, .int (nI f)), (8, .int (nI g)), (9, .int (nI un)), (10, .int (nI mo)), (11, .int (nI (Ce f))), (12, .int (nI (Fd f))), (14, .int (nI q)), (18, .int (nI kd)), (22, .int (nI st))]) hx hb dL_law_1713 hl (k := 6) rfl (by rw [show Int32.ofInt 1 = nI 1 from by decide, nI_add]) (by decide) rfl (fun ls hl => ?_)
      refine lv_iload hx hb dL_law_1716 (lv_at hl 1 rfl) ?_
      refine lv_if_ne (tgt := 1723) hx hb dL_law_1718 (by decide) (fun _ => ?_) (fun cz => absurd cz (show ¬ (nI 1 = nI 0) by rw [nI_eq (by omega) (by omega)]; omega))
      refine lv_iinc (v := nI (n + 1)) (lv' := [(5, .int (nI (n + 1))), (4, .int (nI (mo + 1))), (13, .int (nI 1)), (33, .int (nI dz)), (0, .ref bs), (1, .ref ((a 0))), (2, .ref qd), (3, .int (nI nf)), (6, .int x6), (7, .int (nI f)), (8, .int (nI g)), (9, .int (nI un)), (10, .int (nI mo)), (11, .int (nI (Ce f))), (12, .int (nI (Fd f))), (14, .int (nI q)), (18, .int (nI kd)), (22, .int (nI st))]) hx hb dL_law_1723 hl (k := 7) rfl (by rw [show Int32.ofInt 1 = nI 1 from by decide, nI_add]) (by decide) rfl (fun ls hl => ?_)
      refine lv_goto (tgt := 47) hx hb dL_law_1726 (by decide) ?_
      exact kont _ _ _ _ _ _ _ hST (lv_sub hl [4, 5, 6, 7, 1, 0] rfl)
  · skip
    refine lv_aload_n hx hb dL_law_1647 rfl (lv_at hl 2 rfl) ?_
    refine lv_iload hx hb dL_law_1648 (lv_at hl 8 rfl) ?_
    refine lv_iload hx hb dL_law_1650 (lv_at hl 17 rfl) ?_
    refine lk_moves F hKK hA gL_law_X3_moves ⟨(Nat.le_of_ble_eq_true rfl), (Nat.le_of_ble_eq_true rfl)⟩ hck dL_law_1652 hl.1 (Nat.le_of_ble_eq_true rfl) hST f st hf hst (fun H locs hST => ?_)
    refine lv_iload hx hb dL_law_1655 (lv_at hl 12 rfl) ?_
    refine lv_icmp_ne (tgt := 1710) hx hb dL_law_1657 (by decide) (fun cz => absurd rfl cz) (fun _ => ?_)
    refine lv_goto (tgt := 1698) hx hb dL_law_1660 (by decide) ?_
    refine lv_aload_n hx hb dL_law_1698 rfl (lv_at hl 2 rfl) ?_
    refine lv_iconst (v := nI 1) hx hb dL_law_1699 (by decide) ?_
    refine lk_month F hKK hA gL_law_X3_month ⟨(Nat.le_of_ble_eq_true rfl), (Nat.le_of_ble_eq_true rfl)⟩ hck dL_law_1700 hl.1 (Nat.le_of_ble_eq_true rfl) hST 1 (by omega) (by omega) (by omega) (fun H locs hST => ?_)
    refine lv_if_lt (tgt := 1710) hx hb dL_law_1703 (by decide) (fun cz => absurd cz (nI_pos (Nat.lt_of_le_of_lt (outN_le _ _) (by omega)))) (fun _ => ?_)
    refine lv_iconst (v := nI 1) hx hb dL_law_1706 (by decide) ?_
    refine lv_goto (tgt := 1711) hx hb dL_law_1707 (by decide) ?_
    refine lv_istore (lv' := [(13, .int (nI 1)), (33, .int (nI dz)), (0, .ref bs), (1, .ref ((a 0))), (2, .ref qd), (3, .int (nI nf)), (4, .int (nI mo)), (5, .int (nI n)), (6, .int x6), (7, .int (nI f)), (8, .int (nI g)), (9, .int (nI un)), (10, .int (nI mo)), (11, .int (nI (Ce f))), (12, .int (nI (Fd f))), (14, .int (nI q)), (18, .int (nI kd)), (22, .int (nI st))]) hx hb dL_law_1711 hl (by decide) rfl (fun ls hl => ?_)
    refine lv_iinc (v := nI (mo + 1)) (lv' := [(4, .int (nI (mo + 1))), (13, .int (nI 1)), (33, .int (nI dz)), (0, .ref bs), (1, .ref ((a 0))), (2, .ref qd), (3, .int (nI nf)), (5, .int (nI n)), (6, .int x6), (7, .int (nI f)), (8, .int (nI g)), (9, .int (nI un)), (10, .int (nI mo)), (11, .int (nI (Ce f))), (12, .int (nI (Fd f))), (14, .int (nI q)), (18, .int (nI kd)), (22, .int (nI st))]) hx hb dL_law_1713 hl (k := 6) rfl (by rw [show Int32.ofInt 1 = nI 1 from by decide, nI_add]) (by decide) rfl (fun ls hl => ?_)
    refine lv_iload hx hb dL_law_1716 (lv_at hl 1 rfl) ?_
    refine lv_if_ne (tgt := 1723) hx hb dL_law_1718 (by decide) (fun _ => ?_) (fun cz => absurd cz (show ¬ (nI 1 = nI 0) by rw [nI_eq (by omega) (by omega)]; omega))
    refine lv_iinc (v := nI (n + 1)) (lv' := [(5, .int (nI (n + 1))), (4, .int (nI (mo + 1))), (13, .int (nI 1)), (33, .int (nI dz)), (0, .ref bs), (1, .ref ((a 0))), (2, .ref qd), (3, .int (nI nf)), (6, .int x6), (7, .int (nI f)), (8, .int (nI g)), (9, .int (nI un)), (10, .int (nI mo)), (11, .int (nI (Ce f))), (12, .int (nI (Fd f))), (14, .int (nI q)), (18, .int (nI kd)), (22, .int (nI st))]) hx hb dL_law_1723 hl (k := 7) rfl (by rw [show Int32.ofInt 1 = nI 1 from by decide, nI_add]) (by decide) rfl (fun ls hl => ?_)
    refine lv_goto (tgt := 47) hx hb dL_law_1726 (by decide) ?_
    exact kont _ _ _ _ _ _ _ hST (lv_sub hl [4, 5, 6, 7, 1, 0] rfl)

set_option maxHeartbeats 8000000 in
set_option maxRecDepth 100000 in
theorem law_turn {p : Program} {l : Launch} {en : Env} {s0 : State} {m : MethodId} {args : Array Value} {below : List Frame} {meth : Method} {co : Code} (F : CallFix p m co cL_law 34 s0 args wsL_law RL) {D : va_G} {cyI cyJ cyS : ClassId} (hKK : KK D (tyS cyI cyJ cyS) s0) {A : Nat → Prop} (hA : ∀ q, s0.heap.size ≤ q → A q) {a a_now a_spare a_text : Nat → Nat} {qd : Nat} {dv : Nat → Int32} {bs Ls : Nat} {xs : Nat → Int32} (hL : Ls ≤ 260) (hX : va_X bs Ls xs s0 s0.heap) (hbl : bs < s0.heap.size) (hbA : ¬ A bs) {Q : State → Prop} {mo nf un : Nat} {Wi Gi Ki Ce Fd FR NR UR : Nat → Nat} {I : Option SeaN} {ab be : Int64} {n : Nat} (hdv : ∀ i, i < 12 → dv (17 + i) = nI (Wi i + 4 * Gi i)) {H : Heap} {locs : List Loc} {ck sk : Nat} {ls : Array Slot} (hck : ck + 9 ≤ room_1.cells ∧ sk + 194 ≤ room_1.slots) (hn : n < 9) (hnf1 : 1 ≤ nf) (hmo9 : mo ≤ 110) (hST : ST D cyI cyJ cyS a a_now a_spare a_text qd dv A s0.heap mo nf 0 0 un Wi Gi Ki Ce Fd FR NR UR I ab be H locs) (hl : lv_has ls 34 [(0, .ref bs), (1, .ref ((a 0))), (2, .ref qd), (3, .int (nI nf)), (4, .int (nI mo)), (5, .int (nI n))]) (kont : ∀ (u4 : Nat) (Ce4 Fd4 UR4 : Nat → Nat) (I4 : SeaN) (ab4 be4 : Int64) (H1 : Heap) (locs1 : List Loc) (ls1 : Array Slot), ST D cyI cyJ cyS a a_now a_spare a_text qd dv A s0.heap (mo + 1) nf 0 0 u4 Wi Gi Ki Ce4 Fd4 FR NR UR4 (some I4) ab4 be4 H1 locs1 → lv_has ls1 34 [(0, .ref bs), (1, .ref ((a 0))), (2, .ref qd), (3, .int (nI nf)), (4, .int (nI (mo + 1))), (5, .int (nI (n + 1)))] → W p l en room_1 s0 m args below meth co H1 locs1 (ck + 9) (sk + 194) Q (F0 m 47 ls1 [])) : W p l en room_1 s0 m args below meth co H locs ck sk Q (F0 m 54 ls []) := by
  have hck9 : ck + 9 ≤ room_1.cells ∧ sk + 194 ≤ room_1.slots := hck
  refine sg1 F hKK hA hL hX hbl hbA hck hn hnf1 hST hl (fun x6 f g hf hge hg H1 L1 ls1 hST hl => ?_)
  refine sg2 F hKK hA hL hX hbl hbA x6 hf hge hg hck9 hmo9 hST hl (fun q hq1 hq H1 L1 ls1 hST hl => ?_)
  refine sg3 F hKK hA hL hX hbl hbA x6 hf hge hg hq1 hq hck9 hmo9 hST (lv_sub hl [0, 1, 2, 3, 4, 5, 6, 7, 8, 9, 10, 11, 12, 13, 14] rfl) (fun u3 UR3 H1 L1 ls1 hST hl => ?_)
  refine sg4 F hKK hA hL hX hbl hbA x6 hf hge hg hq1 hq hck9 hmo9 hST hl (fun kd hkd H1 L1 ls1 hST hl => ?_)
  refine sg5 F hKK hA hL hX hbl hbA x6 hf hge hg hq1 hq hkd hck9 hmo9 hST hl (fun H1 L1 ls1 hST hl => ?_)
  refine sg6 F hKK hA hL hX hbl hbA x6 hf hge hg hq1 hq hkd hck9 hmo9 hST hl (fun H1 L1 ls1 hST hl => ?_)
  refine sg7 F hKK hA hL hX hbl hbA x6 hf hge hg hq1 hq hkd hdv hck9 hmo9 hST hl (fun st e hst he1 he H1 L1 ls1 hST hl => ?_)
  refine sg8 F hKK hA hL hX hbl hbA x6 hf hge hg hq1 hq hkd hst he1 he hck9 hmo9 hST hl (fun FR3 H1 L1 ls1 hST hl => ?_)
  refine sg9 F hKK hA hL hX hbl hbA x6 hf hge hg hq1 hq hkd hst hck9 hmo9 hST hl (fun NR3 H1 L1 ls1 hST hl => ?_)
  refine sg10 F hKK hA hL hX hbl hbA x6 hf hge hg hq1 hq hkd hst hck9 hmo9 hST hl (fun H1 L1 ls1 hST hl => ?_)
  refine sg11 F hKK hA hL hX hbl hbA x6 hf hge hg hq1 hq hkd hst hck9 hmo9 hST hl (fun H1 L1 ls1 hST hl => ?_)
  exact sg12 F hKK hA hL hX hbl hbA x6 hf hge hg hq1 hq hkd hst hck9 hmo9 hST hl (fun u4 Ce4 Fd4 UR4 H1 L1 ls1 hST hl => kont _ _ _ _ _ _ _ _ _ _ hST hl)
