set_option maxHeartbeats 8000000 in
set_option maxRecDepth 100000 in
theorem sg5e {p : Program} {l : Launch} {en : Env} {s0 : State} {m : MethodId} {args : Array Value} {below : List Frame} {meth : Method} {co : Code} (F : CallFix p m co cL_law 34 s0 args wsL_law RL) {D : va_G} {cyI cyJ cyS : ClassId} (hKK : KK D (tyS cyI cyJ cyS) s0) {A : Nat → Prop} (hA : ∀ q, s0.heap.size ≤ q → A q) {a a_now a_spare a_text : Nat → Nat} {qd : Nat} {dv : Nat → Int32} {bs Ls : Nat} {xs : Nat → Int32} (hL : Ls ≤ 260) (hX : va_X bs Ls xs s0 s0.heap) (hbl : bs < s0.heap.size) (hbA : ¬ A bs) {Q : State → Prop} {mo nf un : Nat} {Wi Gi Ki Ce Fd FR NR UR : Nat → Nat} {un2 : Nat} {UR2 : Nat → Nat} {ab be : Int64} {n : Nat} (x6 : Int32) {f g : Nat} (hf : f < nf) (hge : g = (f + 1) % nf) (hg : g < nf) {q : Nat} (hq1 : 1 ≤ q) (hq : q ≤ 20) {kd : Nat} (hkd : kd ≤ 5) (hn1 : ¬ 1 < nf) {H : Heap} {locs : List Loc} {ck sk : Nat} {ls : Array Slot} (hck : ck ≤ room_1.cells ∧ sk ≤ room_1.slots) (hmo9 : mo ≤ 110)  (hST : ST D cyI cyJ cyS a a_now a_spare a_text qd dv A s0.heap mo nf 0 0 un2 Wi Gi Ki Ce Fd FR NR UR2 (some (mkS mo nf 0 0 un Wi Gi Ki Ce Fd FR NR UR)) ab be H locs) (hl : lv_has ls 34 [(0, .ref bs), (1, .ref ((a 0))), (2, .ref qd), (3, .int (nI nf)), (4, .int (nI mo)), (5, .int (nI n)), (6, .int x6), (7, .int (nI f)), (8, .int (nI g)), (9, .int (nI un)), (10, .int (nI mo)), (11, .int (nI (Ce f))), (12, .int (nI (Fd f))), (13, .int (nI 1)), (14, .int (nI q)), (18, .int (nI kd))]) (kont : ∀  (H1 : Heap) (locs1 : List Loc) (ls1 : Array Slot), ST D cyI cyJ cyS a a_now a_spare a_text qd dv A s0.heap mo nf 0 0 un2 Wi Gi Ki Ce Fd FR NR UR2 (some (mkS mo nf 0 0 un Wi Gi Ki Ce Fd FR NR UR)) ab be H1 locs1 → lv_has ls1 34 [(0, .ref bs), (1, .ref ((a 0))), (2, .ref qd), (3, .int (nI nf)), (4, .int (nI mo)), (5, .int (nI n)), (6, .int x6), (7, .int (nI f)), (8, .int (nI g)), (9, .int (nI un)), (10, .int (nI mo)), (11, .int (nI (Ce f))), (12, .int (nI (Fd f))), (13, .int (nI 1)), (14, .int (nI q)), (18, .int (nI kd))] → W p l en room_1 s0 m args below meth co H1 locs1 ck sk Q (F0 m 987 ls1 [])) : W p l en room_1 s0 m args below meth co H locs ck sk Q (F0 m 679 ls []) := by
  obtain ⟨hx, hb, hml, hown, hts⟩ := id F
  obtain ⟨hmo, hnf, hun, hW, hG, hK5, hC35, hD99⟩ := ST_ok hST
  obtain rfl : nf = 1 := by omega
  obtain rfl : f = 0 := by omega
  obtain rfl : g = 0 := by omega
  refine lv_iload_n hx hb dL_law_679 rfl (lv_at hl 3 rfl) ?_
  refine lv_iconst (v := nI 1) hx hb dL_law_680 (by decide) ?_
  refine lv_icmp_le (tgt := 947) hx hb dL_law_681 (by decide) (fun _ => ?_) (fun cz => absurd (show nI 1 ≤ nI 1 by rw [nI_leI (by omega) (by omega)]; omega) cz)
  refine lv_iload hx hb dL_law_947 (lv_at hl 13 rfl) ?_
  refine lv_if_eq (tgt := 984) hx hb dL_law_949 (by decide) (fun cz => absurd cz (show ¬ (nI 1 = nI 0) by rw [nI_eq (by omega) (by omega)]; omega)) (fun _ => ?_)
  refine lv_aload_n hx hb dL_law_952 rfl (lv_at hl 1 rfl) ?_
  refine lv_iload hx hb dL_law_953 (lv_at hl 7 rfl) ?_
  refine lv_iload hx hb dL_law_955 (lv_at hl 8 rfl) ?_
  refine lv_iconst (v := nI 0) hx hb dL_law_957 (by decide) ?_
  refine lk_nearest_bad F hKK hA gL_law_X3_nearest ⟨(Nat.le_of_ble_eq_true rfl), (Nat.le_of_ble_eq_true rfl)⟩ hck dL_law_958 hl.1 (Nat.le_of_ble_eq_true rfl) hST 0 hf (fun H locs hST => ?_)
  refine lv_bipush (v := (-2)) hx hb dL_law_961 (by decide) ?_
  refine lv_icmp_ne (tgt := 984) hx hb dL_law_963 (by decide) (fun cz => absurd (rfl : (-2 : Int32) = -2) cz) (fun _ => ?_)
  refine lv_aload_n hx hb dL_law_966 rfl (lv_at hl 1 rfl) ?_
  refine lv_iload hx hb dL_law_967 (lv_at hl 7 rfl) ?_
  refine lv_iload hx hb dL_law_969 (lv_at hl 8 rfl) ?_
  refine lv_iconst (v := (-1)) hx hb dL_law_971 (by decide) ?_
  refine lk_leave_bad F hKK hA gL_law_X3_leave ⟨(Nat.le_of_ble_eq_true rfl), (Nat.le_of_ble_eq_true rfl)⟩ hck dL_law_972 hl.1 (Nat.le_of_ble_eq_true rfl) hST 0 hf (fun H locs hST => ?_)
  refine lv_bipush (v := (-10)) hx hb dL_law_975 (by decide) ?_
  refine lv_icmp_ne (tgt := 984) hx hb dL_law_977 (by decide) (fun cz => absurd (rfl : (-10 : Int32) = -10) cz) (fun _ => ?_)
  refine lv_iconst (v := nI 1) hx hb dL_law_980 (by decide) ?_
  refine lv_goto (tgt := 985) hx hb dL_law_981 (by decide) ?_
  refine lv_istore (lv' := [(13, .int (nI 1)), (0, .ref bs), (1, .ref ((a 0))), (2, .ref qd), (3, .int (nI 1)), (4, .int (nI mo)), (5, .int (nI n)), (6, .int x6), (7, .int (nI 0)), (8, .int (nI 0)), (9, .int (nI un)), (10, .int (nI mo)), (11, .int (nI (Ce 0))), (12, .int (nI (Fd 0))), (14, .int (nI q)), (18, .int (nI kd))]) hx hb dL_law_985 hl (by decide) rfl (fun ls hl => ?_)
  exact kont _ _ _ hST (lv_sub hl [1, 2, 3, 4, 5, 6, 7, 8, 9, 10, 11, 12, 13, 0, 14, 15] rfl)

set_option maxHeartbeats 8000000 in
set_option maxRecDepth 100000 in
theorem sg5a {p : Program} {l : Launch} {en : Env} {s0 : State} {m : MethodId} {args : Array Value} {below : List Frame} {meth : Method} {co : Code} (F : CallFix p m co cL_law 34 s0 args wsL_law RL) {D : va_G} {cyI cyJ cyS : ClassId} (hKK : KK D (tyS cyI cyJ cyS) s0) {A : Nat → Prop} (hA : ∀ q, s0.heap.size ≤ q → A q) {a a_now a_spare a_text : Nat → Nat} {qd : Nat} {dv : Nat → Int32} {bs Ls : Nat} {xs : Nat → Int32} (hL : Ls ≤ 260) (hX : va_X bs Ls xs s0 s0.heap) (hbl : bs < s0.heap.size) (hbA : ¬ A bs) {Q : State → Prop} {mo nf un : Nat} {Wi Gi Ki Ce Fd FR NR UR : Nat → Nat} {un2 : Nat} {UR2 : Nat → Nat} {ab be : Int64} {n : Nat} (x6 : Int32) {f g : Nat} (hf : f < nf) (hge : g = (f + 1) % nf) (hg : g < nf) {q : Nat} (hq1 : 1 ≤ q) (hq : q ≤ 20) {kd : Nat} (hkd : kd ≤ 5) (hn1 : 1 < nf) (hfg0 : ¬ f = g) {H : Heap} {locs : List Loc} {ck sk : Nat} {ls : Array Slot} (hck : ck ≤ room_1.cells ∧ sk ≤ room_1.slots) (hmo9 : mo ≤ 110)  (hST : ST D cyI cyJ cyS a a_now a_spare a_text qd dv A s0.heap mo nf 0 0 un2 Wi Gi Ki Ce Fd FR NR UR2 (some (mkS mo nf 0 0 un Wi Gi Ki Ce Fd FR NR UR)) ab be H locs) (hl : lv_has ls 34 [(0, .ref bs), (1, .ref ((a 0))), (2, .ref qd), (3, .int (nI nf)), (4, .int (nI mo)), (5, .int (nI n)), (6, .int x6), (7, .int (nI f)), (8, .int (nI g)), (9, .int (nI un)), (10, .int (nI mo)), (11, .int (nI (Ce f))), (12, .int (nI (Fd f))), (13, .int (nI 1)), (14, .int (nI q)), (18, .int (nI kd))]) (kont : ∀  (H1 : Heap) (locs1 : List Loc) (ls1 : Array Slot), ST D cyI cyJ cyS a a_now a_spare a_text qd dv A s0.heap mo nf 0 0 un2 Wi Gi Ki Ce Fd FR NR UR2 (some (mkS mo nf 0 0 un Wi Gi Ki Ce Fd FR NR UR)) ab be H1 locs1 → lv_has ls1 34 [(0, .ref bs), (1, .ref ((a 0))), (2, .ref qd), (3, .int (nI nf)), (4, .int (nI mo)), (5, .int (nI n)), (6, .int x6), (7, .int (nI f)), (8, .int (nI g)), (9, .int (nI un)), (10, .int (nI mo)), (11, .int (nI (Ce f))), (12, .int (nI (Fd f))), (13, .int (nI 1)), (14, .int (nI q)), (18, .int (nI kd)), (20, .int (nI (nrN (runN Wi Gi (Ki f) (Ce f) mo) (runN Wi Gi (Ki g) (Ce g) mo) 60).1)), (21, .int (nI (nrN (runN Wi Gi (Ki f) (Ce f) mo) (runN Wi Gi (Ki g) (Ce g) mo) 60).2))] → W p l en room_1 s0 m args below meth co H1 locs1 ck sk Q (F0 m 768 ls1 [])) : W p l en room_1 s0 m args below meth co H locs ck sk Q (F0 m 679 ls []) := by
  obtain ⟨hx, hb, hml, hown, hts⟩ := id F
  obtain ⟨hmo, hnf, hun, hW, hG, hK5, hC35, hD99⟩ := ST_ok hST
  have c35 := hC35 f hf
  have d99 := hD99 f hf
  have k5 := hK5 f hf
  have c35g := hC35 g hg
  have k5g := hK5 g hg
  have hfg : ¬ f = g := hfg0
  have ra := fun k => runN_le (m := mo) hW hG k5 c35 k
  have rb := fun k => runN_le (m := mo) hW hG k5g c35g k
  obtain ⟨nr1, nr2, nr3, nr4⟩ := nr_at (A := runN Wi Gi (Ki f) (Ce f) mo) (B := runN Wi Gi (Ki g) (Ce g) mo) 60
  have nl := (nrN_le ra rb 60).1
  refine lv_iload_n hx hb dL_law_679 rfl (lv_at hl 3 rfl) ?_
  refine lv_iconst (v := nI 1) hx hb dL_law_680 (by decide) ?_
  refine lv_icmp_le (tgt := 947) hx hb dL_law_681 (by decide) (fun cz => absurd cz (show ¬ (nI nf ≤ nI 1) by rw [nI_leI (by omega) (by omega)]; omega)) (fun _ => ?_)
  refine lv_aload_n hx hb dL_law_684 rfl (lv_at hl 1 rfl) ?_
  refine lv_iload hx hb dL_law_685 (lv_at hl 7 rfl) ?_
  refine lv_iload hx hb dL_law_687 (lv_at hl 8 rfl) ?_
  refine lv_iconst (v := nI 0) hx hb dL_law_689 (by decide) ?_
  refine lk_nearest0 F hKK hA gL_law_X3_nearest ⟨(Nat.le_of_ble_eq_true rfl), (Nat.le_of_ble_eq_true rfl)⟩ hck dL_law_690 hl.1 (Nat.le_of_ble_eq_true rfl) hST f g hf hg hfg (fun H locs hST => ?_)
  refine lv_istore (lv' := [(20, .int (nI (nrN (runN Wi Gi (Ki f) (Ce f) mo) (runN Wi Gi (Ki g) (Ce g) mo) 60).1)), (0, .ref bs), (1, .ref ((a 0))), (2, .ref qd), (3, .int (nI nf)), (4, .int (nI mo)), (5, .int (nI n)), (6, .int x6), (7, .int (nI f)), (8, .int (nI g)), (9, .int (nI un)), (10, .int (nI mo)), (11, .int (nI (Ce f))), (12, .int (nI (Fd f))), (13, .int (nI 1)), (14, .int (nI q)), (18, .int (nI kd))]) hx hb dL_law_693 hl (by decide) rfl (fun ls hl => ?_)
  refine lv_aload_n hx hb dL_law_695 rfl (lv_at hl 2 rfl) ?_
  refine lv_iload hx hb dL_law_696 (lv_at hl 8 rfl) ?_
  refine lv_iload hx hb dL_law_698 (lv_at hl 9 rfl) ?_
  refine lv_iconst (v := nI 1) hx hb dL_law_700 (by decide) ?_
  refine lk_nearest1 F hKK hA gL_law_X3_nearest ⟨(Nat.le_of_ble_eq_true rfl), (Nat.le_of_ble_eq_true rfl)⟩ hck dL_law_701 hl.1 (Nat.le_of_ble_eq_true rfl) hST f g hf hg hfg (fun H locs hST => ?_)
  refine lv_istore (lv' := [(21, .int (nI (nrN (runN Wi Gi (Ki f) (Ce f) mo) (runN Wi Gi (Ki g) (Ce g) mo) 60).2)), (20, .int (nI (nrN (runN Wi Gi (Ki f) (Ce f) mo) (runN Wi Gi (Ki g) (Ce g) mo) 60).1)), (0, .ref bs), (1, .ref ((a 0))), (2, .ref qd), (3, .int (nI nf)), (4, .int (nI mo)), (5, .int (nI n)), (6, .int x6), (7, .int (nI f)), (8, .int (nI g)), (9, .int (nI un)), (10, .int (nI mo)), (11, .int (nI (Ce f))), (12, .int (nI (Fd f))), (13, .int (nI 1)), (14, .int (nI q)), (18, .int (nI kd))]) hx hb dL_law_704 hl (by decide) rfl (fun ls hl => ?_)
  refine lv_iload hx hb dL_law_706 (lv_at hl 15 rfl) ?_
  refine lv_if_eq (tgt := 765) hx hb dL_law_708 (by decide) (fun cz => absurd cz (show ¬ (nI 1 = nI 0) by rw [nI_eq (by omega) (by omega)]; omega)) (fun _ => ?_)
  refine lv_iload hx hb dL_law_711 (lv_at hl 1 rfl) ?_
  refine lv_if_lt (tgt := 765) hx hb dL_law_713 (by decide) (fun cz => absurd cz (show ¬ (nI (nrN (runN Wi Gi (Ki f) (Ce f) mo) (runN Wi Gi (Ki g) (Ce g) mo) 60).1 < nI 0) by rw [nI_ltI (by omega) (by omega)]; omega)) (fun _ => ?_)
  refine lv_iload hx hb dL_law_716 (lv_at hl 1 rfl) ?_
  refine lv_bipush (v := nI 61) hx hb dL_law_718 (by decide) ?_
  refine lv_icmp_ge (tgt := 765) hx hb dL_law_720 (by decide) (fun cz => absurd cz (show ¬ (nI 61 ≤ nI (nrN (runN Wi Gi (Ki f) (Ce f) mo) (runN Wi Gi (Ki g) (Ce g) mo) 60).1) by rw [nI_leI (by omega) (by omega)]; omega)) (fun _ => ?_)
  refine lv_iload hx hb dL_law_723 (lv_at hl 0 rfl) ?_
  refine lv_aload_n hx hb dL_law_725 rfl (lv_at hl 3 rfl) ?_
  refine lv_iload hx hb dL_law_726 (lv_at hl 9 rfl) ?_
  refine lv_iload hx hb dL_law_728 (lv_at hl 1 rfl) ?_
  refine lk_then F hKK hA gL_law_X3_then ⟨(Nat.le_of_ble_eq_true rfl), (Nat.le_of_ble_eq_true rfl)⟩ hck dL_law_730 hl.1 (Nat.le_of_ble_eq_true rfl) hST f (nrN (runN Wi Gi (Ki f) (Ce f) mo) (runN Wi Gi (Ki g) (Ce g) mo) 60).1 hf (by omega) (fun H locs hST => ?_)
  refine lv_aload_n hx hb dL_law_733 rfl (lv_at hl 3 rfl) ?_
  refine lv_iload hx hb dL_law_734 (lv_at hl 10 rfl) ?_
  refine lv_iload hx hb dL_law_736 (lv_at hl 1 rfl) ?_
  refine lk_then F hKK hA gL_law_X3_then ⟨(Nat.le_of_ble_eq_true rfl), (Nat.le_of_ble_eq_true rfl)⟩ hck dL_law_738 hl.1 (Nat.le_of_ble_eq_true rfl) hST g (nrN (runN Wi Gi (Ki f) (Ce f) mo) (runN Wi Gi (Ki g) (Ce g) mo) 60).1 hg (by omega) (fun H locs hST => ?_)
  refine lk_far F gL_law_L_far ⟨(Nat.le_of_ble_eq_true rfl), (Nat.le_of_ble_eq_true rfl)⟩ hck dL_law_741 hl.1 (Nat.le_of_ble_eq_true rfl) (runN Wi Gi (Ki f) (Ce f) mo (nrN (runN Wi Gi (Ki f) (Ce f) mo) (runN Wi Gi (Ki g) (Ce g) mo) 60).1) (runN Wi Gi (Ki g) (Ce g) mo (nrN (runN Wi Gi (Ki f) (Ce f) mo) (runN Wi Gi (Ki g) (Ce g) mo) 60).1) (ra _) (rb _) ?_
  refine lv_icmp_ne (tgt := 765) hx hb dL_law_744 (by decide) (fun cz => absurd (show nI (nrN (runN Wi Gi (Ki f) (Ce f) mo) (runN Wi Gi (Ki g) (Ce g) mo) 60).2 = nI (farN (runN Wi Gi (Ki f) (Ce f) mo (nrN (runN Wi Gi (Ki f) (Ce f) mo) (runN Wi Gi (Ki g) (Ce g) mo) 60).1) (runN Wi Gi (Ki g) (Ce g) mo (nrN (runN Wi Gi (Ki f) (Ce f) mo) (runN Wi Gi (Ki g) (Ce g) mo) 60).1)) from congrArg nI nr1) cz) (fun _ => ?_)
  refine lv_iload hx hb dL_law_747 (lv_at hl 1 rfl) ?_
  refine lv_aload_n hx hb dL_law_749 rfl (lv_at hl 3 rfl) ?_
  refine lv_iload hx hb dL_law_750 (lv_at hl 10 rfl) ?_
  refine lv_iload hx hb dL_law_752 (lv_at hl 9 rfl) ?_
  refine lv_iconst (v := nI 0) hx hb dL_law_754 (by decide) ?_
  refine lk_nearest0 F hKK hA gL_law_X3_nearest ⟨(Nat.le_of_ble_eq_true rfl), (Nat.le_of_ble_eq_true rfl)⟩ hck dL_law_755 hl.1 (Nat.le_of_ble_eq_true rfl) hST g f hg hf (fun h => hfg h.symm) (fun H locs hST => ?_)
  refine lv_icmp_ne (tgt := 765) hx hb dL_law_758 (by decide) (fun cz => absurd (show nI (nrN (runN Wi Gi (Ki f) (Ce f) mo) (runN Wi Gi (Ki g) (Ce g) mo) 60).1 = nI (nrN (runN Wi Gi (Ki g) (Ce g) mo) (runN Wi Gi (Ki f) (Ce f) mo) 60).1 by rw [nr_c]) cz) (fun _ => ?_)
  refine lv_iconst (v := nI 1) hx hb dL_law_761 (by decide) ?_
  refine lv_goto (tgt := 766) hx hb dL_law_762 (by decide) ?_
  refine lv_istore (lv' := [(13, .int (nI 1)), (21, .int (nI (nrN (runN Wi Gi (Ki f) (Ce f) mo) (runN Wi Gi (Ki g) (Ce g) mo) 60).2)), (20, .int (nI (nrN (runN Wi Gi (Ki f) (Ce f) mo) (runN Wi Gi (Ki g) (Ce g) mo) 60).1)), (0, .ref bs), (1, .ref ((a 0))), (2, .ref qd), (3, .int (nI nf)), (4, .int (nI mo)), (5, .int (nI n)), (6, .int x6), (7, .int (nI f)), (8, .int (nI g)), (9, .int (nI un)), (10, .int (nI mo)), (11, .int (nI (Ce f))), (12, .int (nI (Fd f))), (14, .int (nI q)), (18, .int (nI kd))]) hx hb dL_law_766 hl (by decide) rfl (fun ls hl => ?_)
  exact kont _ _ _ hST (lv_sub hl [3, 4, 5, 6, 7, 8, 9, 10, 11, 12, 13, 14, 15, 0, 16, 17, 2, 1] rfl)

set_option maxHeartbeats 8000000 in
set_option maxRecDepth 100000 in
theorem lpz5 {p : Program} {l : Launch} {en : Env} {s0 : State} {m : MethodId} {args : Array Value} {below : List Frame} {meth : Method} {co : Code} (F : CallFix p m co cL_law 34 s0 args wsL_law RL) {D : va_G} {cyI cyJ cyS : ClassId} (hKK : KK D (tyS cyI cyJ cyS) s0) {A : Nat → Prop} (hA : ∀ q, s0.heap.size ≤ q → A q) {a a_now a_spare a_text : Nat → Nat} {qd : Nat} {dv : Nat → Int32} {bs Ls : Nat} {xs : Nat → Int32} (hL : Ls ≤ 260) (hX : va_X bs Ls xs s0 s0.heap) (hbl : bs < s0.heap.size) (hbA : ¬ A bs) {Q : State → Prop} {mo nf un : Nat} {Wi Gi Ki Ce Fd FR NR UR : Nat → Nat} {un2 : Nat} {UR2 : Nat → Nat} {ab be : Int64} {n : Nat} (x6 : Int32) {f g : Nat} (hf : f < nf) (hge : g = (f + 1) % nf) (hg : g < nf) {q : Nat} (hq1 : 1 ≤ q) (hq : q ≤ 20) {kd : Nat} (hkd : kd ≤ 5) {ck sk : Nat} (hck : ck ≤ room_1.cells ∧ sk ≤ room_1.slots) (hmo9 : mo ≤ 110) (kont : ∀  (H1 : Heap) (locs1 : List Loc) (ls1 : Array Slot), ST D cyI cyJ cyS a a_now a_spare a_text qd dv A s0.heap mo nf 0 0 un2 Wi Gi Ki Ce Fd FR NR UR2 (some (mkS mo nf 0 0 un Wi Gi Ki Ce Fd FR NR UR)) ab be H1 locs1 → lv_has ls1 34 [(0, .ref bs), (1, .ref ((a 0))), (2, .ref qd), (3, .int (nI nf)), (4, .int (nI mo)), (5, .int (nI n)), (6, .int x6), (7, .int (nI f)), (8, .int (nI g)), (9, .int (nI un)), (10, .int (nI mo)), (11, .int (nI (Ce f))), (12, .int (nI (Fd f))), (13, .int (nI 1)), (14, .int (nI q)), (18, .int (nI kd)), (20, .int (nI (nrN (runN Wi Gi (Ki f) (Ce f) mo) (runN Wi Gi (Ki g) (Ce g) mo) 60).1)), (21, .int (nI (nrN (runN Wi Gi (Ki f) (Ce f) mo) (runN Wi Gi (Ki g) (Ce g) mo) 60).2))] → W p l en room_1 s0 m args below meth co H1 locs1 ck sk Q (F0 m 841 ls1 [])) : ∀ (d k : Nat) (H : Heap) (locs : List Loc) (ls : Array Slot), k + d = 61 → ST D cyI cyJ cyS a a_now a_spare a_text qd dv A s0.heap mo nf 0 0 un2 Wi Gi Ki Ce Fd FR NR UR2 (some (mkS mo nf 0 0 un Wi Gi Ki Ce Fd FR NR UR)) ab be H locs → lv_has ls 34 [(0, .ref bs), (1, .ref ((a 0))), (2, .ref qd), (3, .int (nI nf)), (4, .int (nI mo)), (5, .int (nI n)), (6, .int x6), (7, .int (nI f)), (8, .int (nI g)), (9, .int (nI un)), (10, .int (nI mo)), (11, .int (nI (Ce f))), (12, .int (nI (Fd f))), (13, .int (nI 1)), (14, .int (nI q)), (18, .int (nI kd)), (20, .int (nI (nrN (runN Wi Gi (Ki f) (Ce f) mo) (runN Wi Gi (Ki g) (Ce g) mo) 60).1)), (21, .int (nI (nrN (runN Wi Gi (Ki f) (Ce f) mo) (runN Wi Gi (Ki g) (Ce g) mo) 60).2)), (22, .int (nI k))] → W p l en room_1 s0 m args below meth co H locs ck sk Q (F0 m 771 ls []) := by
  obtain ⟨hx, hb, hml, hown, hts⟩ := id F
  intro d
  induction d with
  | zero =>
    intro k H locs ls hkn hST hl
    obtain ⟨hmo, hnf, hun, hW, hG, hK5, hC35, hD99⟩ := ST_ok hST
    refine lv_iload hx hb dL_law_771 (lv_at hl 18 rfl) ?_
    refine lv_bipush (v := nI 61) hx hb dL_law_773 (by decide) ?_
    refine lv_icmp_ge (tgt := 841) hx hb dL_law_775 (by decide) (fun _ => ?_) (fun cz => absurd (show nI 61 ≤ nI k by rw [nI_leI (by omega) (by omega)]; omega) cz)
    exact kont _ _ _ hST (lv_sub hl [0, 1, 2, 3, 4, 5, 6, 7, 8, 9, 10, 11, 12, 13, 14, 15, 16, 17] rfl)
  | succ d ih =>
    intro k H locs ls hkn hST hl
    obtain ⟨hmo, hnf, hun, hW, hG, hK5, hC35, hD99⟩ := ST_ok hST
    have c35 := hC35 f hf
    have d99 := hD99 f hf
    have k5 := hK5 f hf
    have c35g := hC35 g hg
    have k5g := hK5 g hg
    have ra := fun k => runN_le (m := mo) hW hG k5 c35 k
    have rb := fun k => runN_le (m := mo) hW hG k5g c35g k
    obtain ⟨nr1, nr2, nr3, nr4⟩ := nr_at (A := runN Wi Gi (Ki f) (Ce f) mo) (B := runN Wi Gi (Ki g) (Ce g) mo) 60
    have nl := (nrN_le ra rb 60).1
    have n3 := nr3 k (by omega)
    have ff := (far_n (ra k) (rb k)).2
    refine lv_iload hx hb dL_law_771 (lv_at hl 18 rfl) ?_
    refine lv_bipush (v := nI 61) hx hb dL_law_773 (by decide) ?_
    refine lv_icmp_ge (tgt := 841) hx hb dL_law_775 (by decide) (fun cz => absurd cz (show ¬ (nI 61 ≤ nI k) by rw [nI_leI (by omega) (by omega)]; omega)) (fun _ => ?_)
    refine lv_aload_n hx hb dL_law_778 rfl (lv_at hl 1 rfl) ?_
    refine lv_iload hx hb dL_law_779 (lv_at hl 7 rfl) ?_
    refine lv_iload hx hb dL_law_781 (lv_at hl 18 rfl) ?_
    refine lk_then F hKK hA gL_law_X3_then ⟨(Nat.le_of_ble_eq_true rfl), (Nat.le_of_ble_eq_true rfl)⟩ hck dL_law_783 hl.1 (Nat.le_of_ble_eq_true rfl) hST f k hf (by omega) (fun H locs hST => ?_)
    refine lv_aload_n hx hb dL_law_786 rfl (lv_at hl 1 rfl) ?_
    refine lv_iload hx hb dL_law_787 (lv_at hl 8 rfl) ?_
    refine lv_iload hx hb dL_law_789 (lv_at hl 18 rfl) ?_
    refine lk_then F hKK hA gL_law_X3_then ⟨(Nat.le_of_ble_eq_true rfl), (Nat.le_of_ble_eq_true rfl)⟩ hck dL_law_791 hl.1 (Nat.le_of_ble_eq_true rfl) hST g k hg (by omega) (fun H locs hST => ?_)
    refine lk_far F gL_law_L_far ⟨(Nat.le_of_ble_eq_true rfl), (Nat.le_of_ble_eq_true rfl)⟩ hck dL_law_794 hl.1 (Nat.le_of_ble_eq_true rfl) (runN Wi Gi (Ki f) (Ce f) mo k) (runN Wi Gi (Ki g) (Ce g) mo k) (ra _) (rb _) ?_
    refine lv_istore (lv' := [(23, .int (nI (farN (runN Wi Gi (Ki f) (Ce f) mo k) (runN Wi Gi (Ki g) (Ce g) mo k)))), (0, .ref bs), (1, .ref ((a 0))), (2, .ref qd), (3, .int (nI nf)), (4, .int (nI mo)), (5, .int (nI n)), (6, .int x6), (7, .int (nI f)), (8, .int (nI g)), (9, .int (nI un)), (10, .int (nI mo)), (11, .int (nI (Ce f))), (12, .int (nI (Fd f))), (13, .int (nI 1)), (14, .int (nI q)), (18, .int (nI kd)), (20, .int (nI (nrN (runN Wi Gi (Ki f) (Ce f) mo) (runN Wi Gi (Ki g) (Ce g) mo) 60).1)), (21, .int (nI (nrN (runN Wi Gi (Ki f) (Ce f) mo) (runN Wi Gi (Ki g) (Ce g) mo) 60).2)), (22, .int (nI k))]) hx hb dL_law_797 hl (by decide) rfl (fun ls hl => ?_)
    refine lv_iload hx hb dL_law_799 (lv_at hl 14 rfl) ?_
    refine lv_if_eq (tgt := 832) hx hb dL_law_801 (by decide) (fun cz => absurd cz (show ¬ (nI 1 = nI 0) by rw [nI_eq (by omega) (by omega)]; omega)) (fun _ => ?_)
    refine lv_iload hx hb dL_law_804 (lv_at hl 19 rfl) ?_
    refine lv_iload hx hb dL_law_806 (lv_at hl 17 rfl) ?_
    refine lv_icmp_ge (tgt := 821) hx hb dL_law_808 (by decide) (fun cj => ?_) (fun cf => ?_)
    · skip
      refine lv_iload hx hb dL_law_821 (lv_at hl 0 rfl) ?_
      refine lv_iload hx hb dL_law_823 (lv_at hl 18 rfl) ?_
      refine lv_icmp_lt (tgt := 832) hx hb dL_law_825 (by decide) (fun cz => absurd cz (show ¬ (nI (farN (runN Wi Gi (Ki f) (Ce f) mo k) (runN Wi Gi (Ki g) (Ce g) mo k)) < nI (nrN (runN Wi Gi (Ki f) (Ce f) mo) (runN Wi Gi (Ki g) (Ce g) mo) 60).2) by rw [nI_ltI (by omega) (by omega)]; omega)) (fun _ => ?_)
      refine lv_iconst (v := nI 1) hx hb dL_law_828 (by decide) ?_
      refine lv_goto (tgt := 833) hx hb dL_law_829 (by decide) ?_
      refine lv_istore (lv' := [(13, .int (nI 1)), (23, .int (nI (farN (runN Wi Gi (Ki f) (Ce f) mo k) (runN Wi Gi (Ki g) (Ce g) mo k)))), (0, .ref bs), (1, .ref ((a 0))), (2, .ref qd), (3, .int (nI nf)), (4, .int (nI mo)), (5, .int (nI n)), (6, .int x6), (7, .int (nI f)), (8, .int (nI g)), (9, .int (nI un)), (10, .int (nI mo)), (11, .int (nI (Ce f))), (12, .int (nI (Fd f))), (14, .int (nI q)), (18, .int (nI kd)), (20, .int (nI (nrN (runN Wi Gi (Ki f) (Ce f) mo) (runN Wi Gi (Ki g) (Ce g) mo) 60).1)), (21, .int (nI (nrN (runN Wi Gi (Ki f) (Ce f) mo) (runN Wi Gi (Ki g) (Ce g) mo) 60).2)), (22, .int (nI k))]) hx hb dL_law_833 hl (by decide) rfl (fun ls hl => ?_)
      refine lv_iinc (v := nI (k + 1)) (lv' := [(22, .int (nI (k + 1))), (13, .int (nI 1)), (23, .int (nI (farN (runN Wi Gi (Ki f) (Ce f) mo k) (runN Wi Gi (Ki g) (Ce g) mo k)))), (0, .ref bs), (1, .ref ((a 0))), (2, .ref qd), (3, .int (nI nf)), (4, .int (nI mo)), (5, .int (nI n)), (6, .int x6), (7, .int (nI f)), (8, .int (nI g)), (9, .int (nI un)), (10, .int (nI mo)), (11, .int (nI (Ce f))), (12, .int (nI (Fd f))), (14, .int (nI q)), (18, .int (nI kd)), (20, .int (nI (nrN (runN Wi Gi (Ki f) (Ce f) mo) (runN Wi Gi (Ki g) (Ce g) mo) 60).1)), (21, .int (nI (nrN (runN Wi Gi (Ki f) (Ce f) mo) (runN Wi Gi (Ki g) (Ce g) mo) 60).2))]) hx hb dL_law_835 hl (k := 19) rfl (by rw [show Int32.ofInt 1 = nI 1 from by decide, nI_add]) (by decide) rfl (fun ls hl => ?_)
      refine lv_goto (tgt := 771) hx hb dL_law_838 (by decide) ?_
      exact ih (k + 1) _ _ _ (by omega) hST (lv_sub hl [3, 4, 5, 6, 7, 8, 9, 10, 11, 12, 13, 14, 15, 1, 16, 17, 18, 19, 0] rfl)
    · skip
      have cf : ¬ (nI (nrN (runN Wi Gi (Ki f) (Ce f) mo) (runN Wi Gi (Ki g) (Ce g) mo) 60).1 ≤ nI k) := cf
      rw [nI_leI (by omega) (by omega)] at cf
      have n4 := nr4 k (by omega)
      refine lv_iload hx hb dL_law_811 (lv_at hl 0 rfl) ?_
      refine lv_iload hx hb dL_law_813 (lv_at hl 18 rfl) ?_
      refine lv_icmp_le (tgt := 832) hx hb dL_law_815 (by decide) (fun cz => absurd cz (show ¬ (nI (farN (runN Wi Gi (Ki f) (Ce f) mo k) (runN Wi Gi (Ki g) (Ce g) mo k)) ≤ nI (nrN (runN Wi Gi (Ki f) (Ce f) mo) (runN Wi Gi (Ki g) (Ce g) mo) 60).2) by rw [nI_leI (by omega) (by omega)]; omega)) (fun _ => ?_)
      refine lv_goto (tgt := 828) hx hb dL_law_818 (by decide) ?_
      refine lv_iconst (v := nI 1) hx hb dL_law_828 (by decide) ?_
      refine lv_goto (tgt := 833) hx hb dL_law_829 (by decide) ?_
      refine lv_istore (lv' := [(13, .int (nI 1)), (23, .int (nI (farN (runN Wi Gi (Ki f) (Ce f) mo k) (runN Wi Gi (Ki g) (Ce g) mo k)))), (0, .ref bs), (1, .ref ((a 0))), (2, .ref qd), (3, .int (nI nf)), (4, .int (nI mo)), (5, .int (nI n)), (6, .int x6), (7, .int (nI f)), (8, .int (nI g)), (9, .int (nI un)), (10, .int (nI mo)), (11, .int (nI (Ce f))), (12, .int (nI (Fd f))), (14, .int (nI q)), (18, .int (nI kd)), (20, .int (nI (nrN (runN Wi Gi (Ki f) (Ce f) mo) (runN Wi Gi (Ki g) (Ce g) mo) 60).1)), (21, .int (nI (nrN (runN Wi Gi (Ki f) (Ce f) mo) (runN Wi Gi (Ki g) (Ce g) mo) 60).2)), (22, .int (nI k))]) hx hb dL_law_833 hl (by decide) rfl (fun ls hl => ?_)
      refine lv_iinc (v := nI (k + 1)) (lv' := [(22, .int (nI (k + 1))), (13, .int (nI 1)), (23, .int (nI (farN (runN Wi Gi (Ki f) (Ce f) mo k) (runN Wi Gi (Ki g) (Ce g) mo k)))), (0, .ref bs), (1, .ref ((a 0))), (2, .ref qd), (3, .int (nI nf)), (4, .int (nI mo)), (5, .int (nI n)), (6, .int x6), (7, .int (nI f)), (8, .int (nI g)), (9, .int (nI un)), (10, .int (nI mo)), (11, .int (nI (Ce f))), (12, .int (nI (Fd f))), (14, .int (nI q)), (18, .int (nI kd)), (20, .int (nI (nrN (runN Wi Gi (Ki f) (Ce f) mo) (runN Wi Gi (Ki g) (Ce g) mo) 60).1)), (21, .int (nI (nrN (runN Wi Gi (Ki f) (Ce f) mo) (runN Wi Gi (Ki g) (Ce g) mo) 60).2))]) hx hb dL_law_835 hl (k := 19) rfl (by rw [show Int32.ofInt 1 = nI 1 from by decide, nI_add]) (by decide) rfl (fun ls hl => ?_)
      refine lv_goto (tgt := 771) hx hb dL_law_838 (by decide) ?_
      exact ih (k + 1) _ _ _ (by omega) hST (lv_sub hl [3, 4, 5, 6, 7, 8, 9, 10, 11, 12, 13, 14, 15, 1, 16, 17, 18, 19, 0] rfl)

set_option maxHeartbeats 8000000 in
set_option maxRecDepth 100000 in
theorem sg5b {p : Program} {l : Launch} {en : Env} {s0 : State} {m : MethodId} {args : Array Value} {below : List Frame} {meth : Method} {co : Code} (F : CallFix p m co cL_law 34 s0 args wsL_law RL) {D : va_G} {cyI cyJ cyS : ClassId} (hKK : KK D (tyS cyI cyJ cyS) s0) {A : Nat → Prop} (hA : ∀ q, s0.heap.size ≤ q → A q) {a a_now a_spare a_text : Nat → Nat} {qd : Nat} {dv : Nat → Int32} {bs Ls : Nat} {xs : Nat → Int32} (hL : Ls ≤ 260) (hX : va_X bs Ls xs s0 s0.heap) (hbl : bs < s0.heap.size) (hbA : ¬ A bs) {Q : State → Prop} {mo nf un : Nat} {Wi Gi Ki Ce Fd FR NR UR : Nat → Nat} {un2 : Nat} {UR2 : Nat → Nat} {ab be : Int64} {n : Nat} (x6 : Int32) {f g : Nat} (hf : f < nf) (hge : g = (f + 1) % nf) (hg : g < nf) {q : Nat} (hq1 : 1 ≤ q) (hq : q ≤ 20) {kd : Nat} (hkd : kd ≤ 5) {H : Heap} {locs : List Loc} {ck sk : Nat} {ls : Array Slot} (hck : ck ≤ room_1.cells ∧ sk ≤ room_1.slots) (hmo9 : mo ≤ 110)  (hST : ST D cyI cyJ cyS a a_now a_spare a_text qd dv A s0.heap mo nf 0 0 un2 Wi Gi Ki Ce Fd FR NR UR2 (some (mkS mo nf 0 0 un Wi Gi Ki Ce Fd FR NR UR)) ab be H locs) (hl : lv_has ls 34 [(0, .ref bs), (1, .ref ((a 0))), (2, .ref qd), (3, .int (nI nf)), (4, .int (nI mo)), (5, .int (nI n)), (6, .int x6), (7, .int (nI f)), (8, .int (nI g)), (9, .int (nI un)), (10, .int (nI mo)), (11, .int (nI (Ce f))), (12, .int (nI (Fd f))), (13, .int (nI 1)), (14, .int (nI q)), (18, .int (nI kd)), (20, .int (nI (nrN (runN Wi Gi (Ki f) (Ce f) mo) (runN Wi Gi (Ki g) (Ce g) mo) 60).1)), (21, .int (nI (nrN (runN Wi Gi (Ki f) (Ce f) mo) (runN Wi Gi (Ki g) (Ce g) mo) 60).2))]) (kont : ∀  (H1 : Heap) (locs1 : List Loc) (ls1 : Array Slot), ST D cyI cyJ cyS a a_now a_spare a_text qd dv A s0.heap mo nf 0 0 un2 Wi Gi Ki Ce Fd FR NR UR2 (some (mkS mo nf 0 0 un Wi Gi Ki Ce Fd FR NR UR)) ab be H1 locs1 → lv_has ls1 34 [(0, .ref bs), (1, .ref ((a 0))), (2, .ref qd), (3, .int (nI nf)), (4, .int (nI mo)), (5, .int (nI n)), (6, .int x6), (7, .int (nI f)), (8, .int (nI g)), (9, .int (nI un)), (10, .int (nI mo)), (11, .int (nI (Ce f))), (12, .int (nI (Fd f))), (13, .int (nI 1)), (14, .int (nI q)), (18, .int (nI kd)), (20, .int (nI (nrN (runN Wi Gi (Ki f) (Ce f) mo) (runN Wi Gi (Ki g) (Ce g) mo) 60).1)), (21, .int (nI (nrN (runN Wi Gi (Ki f) (Ce f) mo) (runN Wi Gi (Ki g) (Ce g) mo) 60).2))] → W p l en room_1 s0 m args below meth co H1 locs1 ck sk Q (F0 m 841 ls1 [])) : W p l en room_1 s0 m args below meth co H locs ck sk Q (F0 m 768 ls []) := by
  obtain ⟨hx, hb, hml, hown, hts⟩ := id F
  obtain ⟨hmo, hnf, hun, hW, hG, hK5, hC35, hD99⟩ := ST_ok hST
  refine lv_iconst (v := nI 0) hx hb dL_law_768 (by decide) ?_
  refine lv_istore (lv' := [(22, .int (nI 0)), (0, .ref bs), (1, .ref ((a 0))), (2, .ref qd), (3, .int (nI nf)), (4, .int (nI mo)), (5, .int (nI n)), (6, .int x6), (7, .int (nI f)), (8, .int (nI g)), (9, .int (nI un)), (10, .int (nI mo)), (11, .int (nI (Ce f))), (12, .int (nI (Fd f))), (13, .int (nI 1)), (14, .int (nI q)), (18, .int (nI kd)), (20, .int (nI (nrN (runN Wi Gi (Ki f) (Ce f) mo) (runN Wi Gi (Ki g) (Ce g) mo) 60).1)), (21, .int (nI (nrN (runN Wi Gi (Ki f) (Ce f) mo) (runN Wi Gi (Ki g) (Ce g) mo) 60).2))]) hx hb dL_law_769 hl (by decide) rfl (fun ls hl => ?_)
  exact lpz5 F hKK hA hL hX hbl hbA x6 hf hge hg hq1 hq hkd hck hmo9 kont 61 0 _ _ _ (by omega) hST (lv_sub hl [1, 2, 3, 4, 5, 6, 7, 8, 9, 10, 11, 12, 13, 14, 15, 16, 17, 18, 0] rfl)

set_option maxHeartbeats 8000000 in
set_option maxRecDepth 100000 in
theorem sg5c {p : Program} {l : Launch} {en : Env} {s0 : State} {m : MethodId} {args : Array Value} {below : List Frame} {meth : Method} {co : Code} (F : CallFix p m co cL_law 34 s0 args wsL_law RL) {D : va_G} {cyI cyJ cyS : ClassId} (hKK : KK D (tyS cyI cyJ cyS) s0) {A : Nat → Prop} (hA : ∀ q, s0.heap.size ≤ q → A q) {a a_now a_spare a_text : Nat → Nat} {qd : Nat} {dv : Nat → Int32} {bs Ls : Nat} {xs : Nat → Int32} (hL : Ls ≤ 260) (hX : va_X bs Ls xs s0 s0.heap) (hbl : bs < s0.heap.size) (hbA : ¬ A bs) {Q : State → Prop} {mo nf un : Nat} {Wi Gi Ki Ce Fd FR NR UR : Nat → Nat} {un2 : Nat} {UR2 : Nat → Nat} {ab be : Int64} {n : Nat} (x6 : Int32) {f g : Nat} (hf : f < nf) (hge : g = (f + 1) % nf) (hg : g < nf) {q : Nat} (hq1 : 1 ≤ q) (hq : q ≤ 20) {kd : Nat} (hkd : kd ≤ 5) (hfg0 : ¬ f = g) {H : Heap} {locs : List Loc} {ck sk : Nat} {ls : Array Slot} (hck : ck ≤ room_1.cells ∧ sk ≤ room_1.slots) (hmo9 : mo ≤ 110)  (hST : ST D cyI cyJ cyS a a_now a_spare a_text qd dv A s0.heap mo nf 0 0 un2 Wi Gi Ki Ce Fd FR NR UR2 (some (mkS mo nf 0 0 un Wi Gi Ki Ce Fd FR NR UR)) ab be H locs) (hl : lv_has ls 34 [(0, .ref bs), (1, .ref ((a 0))), (2, .ref qd), (3, .int (nI nf)), (4, .int (nI mo)), (5, .int (nI n)), (6, .int x6), (7, .int (nI f)), (8, .int (nI g)), (9, .int (nI un)), (10, .int (nI mo)), (11, .int (nI (Ce f))), (12, .int (nI (Fd f))), (13, .int (nI 1)), (14, .int (nI q)), (18, .int (nI kd)), (20, .int (nI (nrN (runN Wi Gi (Ki f) (Ce f) mo) (runN Wi Gi (Ki g) (Ce g) mo) 60).1)), (21, .int (nI (nrN (runN Wi Gi (Ki f) (Ce f) mo) (runN Wi Gi (Ki g) (Ce g) mo) 60).2))]) (kont : ∀  (H1 : Heap) (locs1 : List Loc) (ls1 : Array Slot), ST D cyI cyJ cyS a a_now a_spare a_text qd dv A s0.heap mo nf 0 0 un2 Wi Gi Ki Ce Fd FR NR UR2 (some (mkS mo nf 0 0 un Wi Gi Ki Ce Fd FR NR UR)) ab be H1 locs1 → lv_has ls1 34 [(0, .ref bs), (1, .ref ((a 0))), (2, .ref qd), (3, .int (nI nf)), (4, .int (nI mo)), (5, .int (nI n)), (6, .int x6), (7, .int (nI f)), (8, .int (nI g)), (9, .int (nI un)), (10, .int (nI mo)), (11, .int (nI (Ce f))), (12, .int (nI (Fd f))), (13, .int (nI 1)), (14, .int (nI q)), (18, .int (nI kd)), (22, .int (nI (cntP (lvR (mkS mo nf 0 0 un2 Wi Gi Ki Ce Fd FR NR UR2) f g) 36)))] → W p l en room_1 s0 m args below meth co H1 locs1 ck sk Q (F0 m 891 ls1 [])) : W p l en room_1 s0 m args below meth co H locs ck sk Q (F0 m 841 ls []) := by
  obtain ⟨hx, hb, hml, hown, hts⟩ := id F
  obtain ⟨hmo, hnf, hun, hW, hG, hK5, hC35, hD99⟩ := ST_ok hST
  refine lv_aload_n hx hb dL_law_841 rfl (lv_at hl 1 rfl) ?_
  refine lv_iload hx hb dL_law_842 (lv_at hl 7 rfl) ?_
  refine lv_iload hx hb dL_law_844 (lv_at hl 8 rfl) ?_
  refine lv_iconst (v := (-1)) hx hb dL_law_846 (by decide) ?_
  refine lk_leave_n F hKK hA gL_law_X3_leave ⟨(Nat.le_of_ble_eq_true rfl), (Nat.le_of_ble_eq_true rfl)⟩ hck dL_law_847 hl.1 (Nat.le_of_ble_eq_true rfl) hST f g hf hg hfg0 (fun H locs hST => ?_)
  have cl := cntP_le (lvR (mkS mo nf 0 0 un2 Wi Gi Ki Ce Fd FR NR UR2) f g) 36
  refine lv_istore (lv' := [(22, .int (nI (cntP (lvR (mkS mo nf 0 0 un2 Wi Gi Ki Ce Fd FR NR UR2) f g) 36))), (0, .ref bs), (1, .ref ((a 0))), (2, .ref qd), (3, .int (nI nf)), (4, .int (nI mo)), (5, .int (nI n)), (6, .int x6), (7, .int (nI f)), (8, .int (nI g)), (9, .int (nI un)), (10, .int (nI mo)), (11, .int (nI (Ce f))), (12, .int (nI (Fd f))), (13, .int (nI 1)), (14, .int (nI q)), (18, .int (nI kd)), (20, .int (nI (nrN (runN Wi Gi (Ki f) (Ce f) mo) (runN Wi Gi (Ki g) (Ce g) mo) 60).1)), (21, .int (nI (nrN (runN Wi Gi (Ki f) (Ce f) mo) (runN Wi Gi (Ki g) (Ce g) mo) 60).2))]) hx hb dL_law_850 hl (by decide) rfl (fun ls hl => ?_)
  refine lv_iload hx hb dL_law_852 (lv_at hl 14 rfl) ?_
  refine lv_if_eq (tgt := 888) hx hb dL_law_854 (by decide) (fun cz => absurd cz (show ¬ (nI 1 = nI 0) by rw [nI_eq (by omega) (by omega)]; omega)) (fun _ => ?_)
  refine lv_iload hx hb dL_law_857 (lv_at hl 0 rfl) ?_
  refine lv_if_lt (tgt := 888) hx hb dL_law_859 (by decide) (fun cz => absurd cz (show ¬ (nI (cntP (lvR (mkS mo nf 0 0 un2 Wi Gi Ki Ce Fd FR NR UR2) f g) 36) < nI 0) by rw [nI_ltI (by omega) (by omega)]; omega)) (fun _ => ?_)
  refine lv_iload hx hb dL_law_862 (lv_at hl 0 rfl) ?_
  refine lv_bipush (v := nI 36) hx hb dL_law_864 (by decide) ?_
  refine lv_icmp_gt (tgt := 888) hx hb dL_law_866 (by decide) (fun cz => absurd cz (show ¬ (nI 36 < nI (cntP (lvR (mkS mo nf 0 0 un2 Wi Gi Ki Ce Fd FR NR UR2) f g) 36)) by rw [nI_ltI (by omega) (by omega)]; omega)) (fun _ => ?_)
  refine lv_aload_n hx hb dL_law_869 rfl (lv_at hl 2 rfl) ?_
  refine lv_iload hx hb dL_law_870 (lv_at hl 8 rfl) ?_
  refine lv_iload hx hb dL_law_872 (lv_at hl 9 rfl) ?_
  refine lv_iload hx hb dL_law_874 (lv_at hl 0 rfl) ?_
  refine lk_leave_k F hKK hA gL_law_X3_leave ⟨(Nat.le_of_ble_eq_true rfl), (Nat.le_of_ble_eq_true rfl)⟩ hck dL_law_876 hl.1 (Nat.le_of_ble_eq_true rfl) hST f g (cntP (lvR (mkS mo nf 0 0 un2 Wi Gi Ki Ce Fd FR NR UR2) f g) 36) hf hg hfg0 (by omega) (fun H locs hST => ?_)
  refine lv_bipush (v := (-5)) hx hb dL_law_879 (by decide) ?_
  refine lv_icmp_ne (tgt := 888) hx hb dL_law_881 (by decide) (fun cz => absurd (show tlP (lvR (mkS mo nf 0 0 un2 Wi Gi Ki Ce Fd FR NR UR2) f g) (nI (cntP (lvR (mkS mo nf 0 0 un2 Wi Gi Ki Ce Fd FR NR UR2) f g) 36)) 36 = (-5) from (tl_at (r := (lvR (mkS mo nf 0 0 un2 Wi Gi Ki Ce Fd FR NR UR2) f g)) (k := (cntP (lvR (mkS mo nf 0 0 un2 Wi Gi Ki Ce Fd FR NR UR2) f g) 36)) (by omega) 36 (by omega)).1 (Nat.le_refl _)) cz) (fun _ => ?_)
  refine lv_iconst (v := nI 1) hx hb dL_law_884 (by decide) ?_
  refine lv_goto (tgt := 889) hx hb dL_law_885 (by decide) ?_
  refine lv_istore (lv' := [(13, .int (nI 1)), (22, .int (nI (cntP (lvR (mkS mo nf 0 0 un2 Wi Gi Ki Ce Fd FR NR UR2) f g) 36))), (0, .ref bs), (1, .ref ((a 0))), (2, .ref qd), (3, .int (nI nf)), (4, .int (nI mo)), (5, .int (nI n)), (6, .int x6), (7, .int (nI f)), (8, .int (nI g)), (9, .int (nI un)), (10, .int (nI mo)), (11, .int (nI (Ce f))), (12, .int (nI (Fd f))), (14, .int (nI q)), (18, .int (nI kd)), (20, .int (nI (nrN (runN Wi Gi (Ki f) (Ce f) mo) (runN Wi Gi (Ki g) (Ce g) mo) 60).1)), (21, .int (nI (nrN (runN Wi Gi (Ki f) (Ce f) mo) (runN Wi Gi (Ki g) (Ce g) mo) 60).2))]) hx hb dL_law_889 hl (by decide) rfl (fun ls hl => ?_)
  exact kont _ _ _ hST (lv_sub hl [2, 3, 4, 5, 6, 7, 8, 9, 10, 11, 12, 13, 14, 0, 15, 16, 1] rfl)

set_option maxHeartbeats 8000000 in
set_option maxRecDepth 100000 in
theorem lpz5d {p : Program} {l : Launch} {en : Env} {s0 : State} {m : MethodId} {args : Array Value} {below : List Frame} {meth : Method} {co : Code} (F : CallFix p m co cL_law 34 s0 args wsL_law RL) {D : va_G} {cyI cyJ cyS : ClassId} (hKK : KK D (tyS cyI cyJ cyS) s0) {A : Nat → Prop} (hA : ∀ q, s0.heap.size ≤ q → A q) {a a_now a_spare a_text : Nat → Nat} {qd : Nat} {dv : Nat → Int32} {bs Ls : Nat} {xs : Nat → Int32} (hL : Ls ≤ 260) (hX : va_X bs Ls xs s0 s0.heap) (hbl : bs < s0.heap.size) (hbA : ¬ A bs) {Q : State → Prop} {mo nf un : Nat} {Wi Gi Ki Ce Fd FR NR UR : Nat → Nat} {un2 : Nat} {UR2 : Nat → Nat} {ab be : Int64} {n : Nat} (x6 : Int32) {f g : Nat} (hf : f < nf) (hge : g = (f + 1) % nf) (hg : g < nf) {q : Nat} (hq1 : 1 ≤ q) (hq : q ≤ 20) {kd : Nat} (hkd : kd ≤ 5) (hfg0 : ¬ f = g) {ck sk : Nat} (hck : ck ≤ room_1.cells ∧ sk ≤ room_1.slots) (hmo9 : mo ≤ 110) (kont : ∀  (H1 : Heap) (locs1 : List Loc) (ls1 : Array Slot), ST D cyI cyJ cyS a a_now a_spare a_text qd dv A s0.heap mo nf 0 0 un2 Wi Gi Ki Ce Fd FR NR UR2 (some (mkS mo nf 0 0 un Wi Gi Ki Ce Fd FR NR UR)) ab be H1 locs1 → lv_has ls1 34 [(0, .ref bs), (1, .ref ((a 0))), (2, .ref qd), (3, .int (nI nf)), (4, .int (nI mo)), (5, .int (nI n)), (6, .int x6), (7, .int (nI f)), (8, .int (nI g)), (9, .int (nI un)), (10, .int (nI mo)), (11, .int (nI (Ce f))), (12, .int (nI (Fd f))), (13, .int (nI 1)), (14, .int (nI q)), (18, .int (nI kd)), (22, .int (nI (cntP (lvR (mkS mo nf 0 0 un2 Wi Gi Ki Ce Fd FR NR UR2) f g) 36)))] → W p l en room_1 s0 m args below meth co H1 locs1 ck sk Q (F0 m 944 ls1 [])) : ∀ (d k : Nat) (H : Heap) (locs : List Loc) (ls : Array Slot), k + d = 36 → ST D cyI cyJ cyS a a_now a_spare a_text qd dv A s0.heap mo nf 0 0 un2 Wi Gi Ki Ce Fd FR NR UR2 (some (mkS mo nf 0 0 un Wi Gi Ki Ce Fd FR NR UR)) ab be H locs → lv_has ls 34 [(0, .ref bs), (1, .ref ((a 0))), (2, .ref qd), (3, .int (nI nf)), (4, .int (nI mo)), (5, .int (nI n)), (6, .int x6), (7, .int (nI f)), (8, .int (nI g)), (9, .int (nI un)), (10, .int (nI mo)), (11, .int (nI (Ce f))), (12, .int (nI (Fd f))), (13, .int (nI 1)), (14, .int (nI q)), (18, .int (nI kd)), (22, .int (nI (cntP (lvR (mkS mo nf 0 0 un2 Wi Gi Ki Ce Fd FR NR UR2) f g) 36))), (23, .int (nI (k + 1)))] → W p l en room_1 s0 m args below meth co H locs ck sk Q (F0 m 894 ls []) := by
  obtain ⟨hx, hb, hml, hown, hts⟩ := id F
  intro d
  induction d with
  | zero =>
    intro k H locs ls hkn hST hl
    obtain ⟨hmo, hnf, hun, hW, hG, hK5, hC35, hD99⟩ := ST_ok hST
    have cl := cntP_le (lvR (mkS mo nf 0 0 un2 Wi Gi Ki Ce Fd FR NR UR2) f g) 36
    refine lv_iload hx hb dL_law_894 (lv_at hl 17 rfl) ?_
    refine lv_iload hx hb dL_law_896 (lv_at hl 16 rfl) ?_
    refine lv_icmp_ge (tgt := 944) hx hb dL_law_898 (by decide) (fun _ => ?_) (fun cz => absurd (show nI (cntP (lvR (mkS mo nf 0 0 un2 Wi Gi Ki Ce Fd FR NR UR2) f g) 36) ≤ nI (k + 1) by rw [nI_leI (by omega) (by omega)]; omega) cz)
    exact kont _ _ _ hST (lv_sub hl [0, 1, 2, 3, 4, 5, 6, 7, 8, 9, 10, 11, 12, 13, 14, 15, 16] rfl)
  | succ d ih =>
    intro k H locs ls hkn hST hl
    obtain ⟨hmo, hnf, hun, hW, hG, hK5, hC35, hD99⟩ := ST_ok hST
    have cl := cntP_le (lvR (mkS mo nf 0 0 un2 Wi Gi Ki Ce Fd FR NR UR2) f g) 36
    refine lv_iload hx hb dL_law_894 (lv_at hl 17 rfl) ?_
    refine lv_iload hx hb dL_law_896 (lv_at hl 16 rfl) ?_
    refine lv_icmp_ge (tgt := 944) hx hb dL_law_898 (by decide) (fun cj => ?_) (fun cf => ?_)
    · skip
      exact kont _ _ _ hST (lv_sub hl [0, 1, 2, 3, 4, 5, 6, 7, 8, 9, 10, 11, 12, 13, 14, 15, 16] rfl)
    · skip
      have cf : ¬ (nI (cntP (lvR (mkS mo nf 0 0 un2 Wi Gi Ki Ce Fd FR NR UR2) f g) 36) ≤ nI (k + 1)) := cf
      rw [nI_leI (by omega) (by omega)] at cf
      refine lv_iload hx hb dL_law_901 (lv_at hl 13 rfl) ?_
      refine lv_if_eq (tgt := 935) hx hb dL_law_903 (by decide) (fun cz => absurd cz (show ¬ (nI 1 = nI 0) by rw [nI_eq (by omega) (by omega)]; omega)) (fun _ => ?_)
      refine lv_aload_n hx hb dL_law_906 rfl (lv_at hl 1 rfl) ?_
      refine lv_iload hx hb dL_law_907 (lv_at hl 7 rfl) ?_
      refine lv_iload hx hb dL_law_909 (lv_at hl 8 rfl) ?_
      refine lv_iload hx hb dL_law_911 (lv_at hl 17 rfl) ?_
      refine lk_leave_k F hKK hA gL_law_X3_leave ⟨(Nat.le_of_ble_eq_true rfl), (Nat.le_of_ble_eq_true rfl)⟩ hck dL_law_913 hl.1 (Nat.le_of_ble_eq_true rfl) hST f g (k + 1) hf hg hfg0 (by omega) (fun H locs hST => ?_)
      refine lv_aload_n hx hb dL_law_916 rfl (lv_at hl 1 rfl) ?_
      refine lv_iload hx hb dL_law_917 (lv_at hl 7 rfl) ?_
      refine lv_iload hx hb dL_law_919 (lv_at hl 8 rfl) ?_
      refine lv_iload hx hb dL_law_921 (lv_at hl 17 rfl) ?_
      refine lv_iconst (v := nI 1) hx hb dL_law_923 (by decide) ?_
      refine lv_isub hx hb dL_law_924 ?_
      refine lv_nm (pk_sub (a := (k + 1)) (b := 1) (by omega)).symm ?_
      refine lv_nm (show nI k = nI ((k + 1) - 1) from (congrArg nI (by omega))) ?_
      refine lk_leave_k F hKK hA gL_law_X3_leave ⟨(Nat.le_of_ble_eq_true rfl), (Nat.le_of_ble_eq_true rfl)⟩ hck dL_law_925 hl.1 (Nat.le_of_ble_eq_true rfl) hST f g k hf hg hfg0 (by omega) (fun H locs hST => ?_)
      refine lv_icmp_le (tgt := 935) hx hb dL_law_928 (by decide) (fun cz => absurd cz (Int32.not_le.mpr (tl_rise (r := (lvR (mkS mo nf 0 0 un2 Wi Gi Ki Ce Fd FR NR UR2) f g)) (k := k) (n := 36) (by omega) (by omega)))) (fun _ => ?_)
      refine lv_iconst (v := nI 1) hx hb dL_law_931 (by decide) ?_
      refine lv_goto (tgt := 936) hx hb dL_law_932 (by decide) ?_
      refine lv_istore (lv' := [(13, .int (nI 1)), (0, .ref bs), (1, .ref ((a 0))), (2, .ref qd), (3, .int (nI nf)), (4, .int (nI mo)), (5, .int (nI n)), (6, .int x6), (7, .int (nI f)), (8, .int (nI g)), (9, .int (nI un)), (10, .int (nI mo)), (11, .int (nI (Ce f))), (12, .int (nI (Fd f))), (14, .int (nI q)), (18, .int (nI kd)), (22, .int (nI (cntP (lvR (mkS mo nf 0 0 un2 Wi Gi Ki Ce Fd FR NR UR2) f g) 36))), (23, .int (nI (k + 1)))]) hx hb dL_law_936 hl (by decide) rfl (fun ls hl => ?_)
      refine lv_iinc (v := nI ((k + 1) + 1)) (lv' := [(23, .int (nI ((k + 1) + 1))), (13, .int (nI 1)), (0, .ref bs), (1, .ref ((a 0))), (2, .ref qd), (3, .int (nI nf)), (4, .int (nI mo)), (5, .int (nI n)), (6, .int x6), (7, .int (nI f)), (8, .int (nI g)), (9, .int (nI un)), (10, .int (nI mo)), (11, .int (nI (Ce f))), (12, .int (nI (Fd f))), (14, .int (nI q)), (18, .int (nI kd)), (22, .int (nI (cntP (lvR (mkS mo nf 0 0 un2 Wi Gi Ki Ce Fd FR NR UR2) f g) 36)))]) hx hb dL_law_938 hl (k := 17) rfl (by rw [show Int32.ofInt 1 = nI 1 from by decide, nI_add]) (by decide) rfl (fun ls hl => ?_)
      refine lv_goto (tgt := 894) hx hb dL_law_941 (by decide) ?_
      exact ih (k + 1) _ _ _ (by omega) hST (lv_sub hl [2, 3, 4, 5, 6, 7, 8, 9, 10, 11, 12, 13, 14, 1, 15, 16, 17, 0] rfl)

set_option maxHeartbeats 8000000 in
set_option maxRecDepth 100000 in
theorem sg5f {p : Program} {l : Launch} {en : Env} {s0 : State} {m : MethodId} {args : Array Value} {below : List Frame} {meth : Method} {co : Code} (F : CallFix p m co cL_law 34 s0 args wsL_law RL) {D : va_G} {cyI cyJ cyS : ClassId} (hKK : KK D (tyS cyI cyJ cyS) s0) {A : Nat → Prop} (hA : ∀ q, s0.heap.size ≤ q → A q) {a a_now a_spare a_text : Nat → Nat} {qd : Nat} {dv : Nat → Int32} {bs Ls : Nat} {xs : Nat → Int32} (hL : Ls ≤ 260) (hX : va_X bs Ls xs s0 s0.heap) (hbl : bs < s0.heap.size) (hbA : ¬ A bs) {Q : State → Prop} {mo nf un : Nat} {Wi Gi Ki Ce Fd FR NR UR : Nat → Nat} {un2 : Nat} {UR2 : Nat → Nat} {ab be : Int64} {n : Nat} (x6 : Int32) {f g : Nat} (hf : f < nf) (hge : g = (f + 1) % nf) (hg : g < nf) {q : Nat} (hq1 : 1 ≤ q) (hq : q ≤ 20) {kd : Nat} (hkd : kd ≤ 5) (hfg0 : ¬ f = g) {H : Heap} {locs : List Loc} {ck sk : Nat} {ls : Array Slot} (hck : ck ≤ room_1.cells ∧ sk ≤ room_1.slots) (hmo9 : mo ≤ 110)  (hST : ST D cyI cyJ cyS a a_now a_spare a_text qd dv A s0.heap mo nf 0 0 un2 Wi Gi Ki Ce Fd FR NR UR2 (some (mkS mo nf 0 0 un Wi Gi Ki Ce Fd FR NR UR)) ab be H locs) (hl : lv_has ls 34 [(0, .ref bs), (1, .ref ((a 0))), (2, .ref qd), (3, .int (nI nf)), (4, .int (nI mo)), (5, .int (nI n)), (6, .int x6), (7, .int (nI f)), (8, .int (nI g)), (9, .int (nI un)), (10, .int (nI mo)), (11, .int (nI (Ce f))), (12, .int (nI (Fd f))), (13, .int (nI 1)), (14, .int (nI q)), (18, .int (nI kd)), (22, .int (nI (cntP (lvR (mkS mo nf 0 0 un2 Wi Gi Ki Ce Fd FR NR UR2) f g) 36)))]) (kont : ∀  (H1 : Heap) (locs1 : List Loc) (ls1 : Array Slot), ST D cyI cyJ cyS a a_now a_spare a_text qd dv A s0.heap mo nf 0 0 un2 Wi Gi Ki Ce Fd FR NR UR2 (some (mkS mo nf 0 0 un Wi Gi Ki Ce Fd FR NR UR)) ab be H1 locs1 → lv_has ls1 34 [(0, .ref bs), (1, .ref ((a 0))), (2, .ref qd), (3, .int (nI nf)), (4, .int (nI mo)), (5, .int (nI n)), (6, .int x6), (7, .int (nI f)), (8, .int (nI g)), (9, .int (nI un)), (10, .int (nI mo)), (11, .int (nI (Ce f))), (12, .int (nI (Fd f))), (13, .int (nI 1)), (14, .int (nI q)), (18, .int (nI kd))] → W p l en room_1 s0 m args below meth co H1 locs1 ck sk Q (F0 m 987 ls1 [])) : W p l en room_1 s0 m args below meth co H locs ck sk Q (F0 m 891 ls []) := by
  obtain ⟨hx, hb, hml, hown, hts⟩ := id F
  obtain ⟨hmo, hnf, hun, hW, hG, hK5, hC35, hD99⟩ := ST_ok hST
  refine lv_iconst (v := nI 1) hx hb dL_law_891 (by decide) ?_
  refine lv_istore (lv' := [(23, .int (nI 1)), (0, .ref bs), (1, .ref ((a 0))), (2, .ref qd), (3, .int (nI nf)), (4, .int (nI mo)), (5, .int (nI n)), (6, .int x6), (7, .int (nI f)), (8, .int (nI g)), (9, .int (nI un)), (10, .int (nI mo)), (11, .int (nI (Ce f))), (12, .int (nI (Fd f))), (13, .int (nI 1)), (14, .int (nI q)), (18, .int (nI kd)), (22, .int (nI (cntP (lvR (mkS mo nf 0 0 un2 Wi Gi Ki Ce Fd FR NR UR2) f g) 36)))]) hx hb dL_law_892 hl (by decide) rfl (fun ls hl => ?_)
  refine lpz5d F hKK hA hL hX hbl hbA x6 hf hge hg hq1 hq hkd hfg0 hck hmo9 (fun H1 L1 ls1 hST hl => ?_) 36 0 _ _ _ (by omega) hST (lv_sub hl [1, 2, 3, 4, 5, 6, 7, 8, 9, 10, 11, 12, 13, 14, 15, 16, 17, 0] rfl)
  refine lv_goto (tgt := 987) hx hb dL_law_944 (by decide) ?_
  exact kont _ _ _ hST (lv_sub hl [0, 1, 2, 3, 4, 5, 6, 7, 8, 9, 10, 11, 12, 13, 14, 15] rfl)

set_option maxHeartbeats 8000000 in
set_option maxRecDepth 100000 in
theorem sg5 {p : Program} {l : Launch} {en : Env} {s0 : State} {m : MethodId} {args : Array Value} {below : List Frame} {meth : Method} {co : Code} (F : CallFix p m co cL_law 34 s0 args wsL_law RL) {D : va_G} {cyI cyJ cyS : ClassId} (hKK : KK D (tyS cyI cyJ cyS) s0) {A : Nat → Prop} (hA : ∀ q, s0.heap.size ≤ q → A q) {a a_now a_spare a_text : Nat → Nat} {qd : Nat} {dv : Nat → Int32} {bs Ls : Nat} {xs : Nat → Int32} (hL : Ls ≤ 260) (hX : va_X bs Ls xs s0 s0.heap) (hbl : bs < s0.heap.size) (hbA : ¬ A bs) {Q : State → Prop} {mo nf un : Nat} {Wi Gi Ki Ce Fd FR NR UR : Nat → Nat} {un2 : Nat} {UR2 : Nat → Nat} {ab be : Int64} {n : Nat} (x6 : Int32) {f g : Nat} (hf : f < nf) (hge : g = (f + 1) % nf) (hg : g < nf) {q : Nat} (hq1 : 1 ≤ q) (hq : q ≤ 20) {kd : Nat} (hkd : kd ≤ 5) {H : Heap} {locs : List Loc} {ck sk : Nat} {ls : Array Slot} (hck : ck ≤ room_1.cells ∧ sk ≤ room_1.slots) (hmo9 : mo ≤ 110)  (hST : ST D cyI cyJ cyS a a_now a_spare a_text qd dv A s0.heap mo nf 0 0 un2 Wi Gi Ki Ce Fd FR NR UR2 (some (mkS mo nf 0 0 un Wi Gi Ki Ce Fd FR NR UR)) ab be H locs) (hl : lv_has ls 34 [(0, .ref bs), (1, .ref ((a 0))), (2, .ref qd), (3, .int (nI nf)), (4, .int (nI mo)), (5, .int (nI n)), (6, .int x6), (7, .int (nI f)), (8, .int (nI g)), (9, .int (nI un)), (10, .int (nI mo)), (11, .int (nI (Ce f))), (12, .int (nI (Fd f))), (13, .int (nI 1)), (14, .int (nI q)), (18, .int (nI kd))]) (kont : ∀  (H1 : Heap) (locs1 : List Loc) (ls1 : Array Slot), ST D cyI cyJ cyS a a_now a_spare a_text qd dv A s0.heap mo nf 0 0 un2 Wi Gi Ki Ce Fd FR NR UR2 (some (mkS mo nf 0 0 un Wi Gi Ki Ce Fd FR NR UR)) ab be H1 locs1 → lv_has ls1 34 [(0, .ref bs), (1, .ref ((a 0))), (2, .ref qd), (3, .int (nI nf)), (4, .int (nI mo)), (5, .int (nI n)), (6, .int x6), (7, .int (nI f)), (8, .int (nI g)), (9, .int (nI un)), (10, .int (nI mo)), (11, .int (nI (Ce f))), (12, .int (nI (Fd f))), (13, .int (nI 1)), (14, .int (nI q)), (18, .int (nI kd))] → W p l en room_1 s0 m args below meth co H1 locs1 ck sk Q (F0 m 987 ls1 [])) : W p l en room_1 s0 m args below meth co H locs ck sk Q (F0 m 679 ls []) := by
  rcases Nat.lt_or_ge 1 nf with c | c
  · have hfg : ¬ f = g := by
      intro e
      rw [hge] at e
      rcases Nat.lt_or_ge (f + 1) nf with c2 | c2
      · rw [Nat.mod_eq_of_lt c2] at e; omega
      · rw [show f + 1 = nf by omega, Nat.mod_self] at e; omega
    refine sg5a F hKK hA hL hX hbl hbA x6 hf hge hg hq1 hq hkd c hfg hck hmo9 hST hl (fun H1 L1 ls1 hST hl => ?_)
    refine sg5b F hKK hA hL hX hbl hbA x6 hf hge hg hq1 hq hkd hck hmo9 hST hl (fun H1 L1 ls1 hST hl => ?_)
    refine sg5c F hKK hA hL hX hbl hbA x6 hf hge hg hq1 hq hkd hfg hck hmo9 hST hl (fun H1 L1 ls1 hST hl => ?_)
    exact sg5f F hKK hA hL hX hbl hbA x6 hf hge hg hq1 hq hkd hfg hck hmo9 hST hl kont
  · exact sg5e F hKK hA hL hX hbl hbA x6 hf hge hg hq1 hq hkd (by omega) hck hmo9 hST hl kont

set_option maxHeartbeats 8000000 in
set_option maxRecDepth 100000 in
theorem sg6 {p : Program} {l : Launch} {en : Env} {s0 : State} {m : MethodId} {args : Array Value} {below : List Frame} {meth : Method} {co : Code} (F : CallFix p m co cL_law 34 s0 args wsL_law RL) {D : va_G} {cyI cyJ cyS : ClassId} (hKK : KK D (tyS cyI cyJ cyS) s0) {A : Nat → Prop} (hA : ∀ q, s0.heap.size ≤ q → A q) {a a_now a_spare a_text : Nat → Nat} {qd : Nat} {dv : Nat → Int32} {bs Ls : Nat} {xs : Nat → Int32} (hL : Ls ≤ 260) (hX : va_X bs Ls xs s0 s0.heap) (hbl : bs < s0.heap.size) (hbA : ¬ A bs) {Q : State → Prop} {mo nf un : Nat} {Wi Gi Ki Ce Fd FR NR UR : Nat → Nat} {un2 : Nat} {UR2 : Nat → Nat} {ab be : Int64} {n : Nat} (x6 : Int32) {f g : Nat} (hf : f < nf) (hge : g = (f + 1) % nf) (hg : g < nf) {q : Nat} (hq1 : 1 ≤ q) (hq : q ≤ 20) {kd : Nat} (hkd : kd ≤ 5) {H : Heap} {locs : List Loc} {ck sk : Nat} {ls : Array Slot} (hck : ck ≤ room_1.cells ∧ sk ≤ room_1.slots) (hmo9 : mo ≤ 110)  (hST : ST D cyI cyJ cyS a a_now a_spare a_text qd dv A s0.heap mo nf 0 0 un2 Wi Gi Ki Ce Fd FR NR UR2 (some (mkS mo nf 0 0 un Wi Gi Ki Ce Fd FR NR UR)) ab be H locs) (hl : lv_has ls 34 [(0, .ref bs), (1, .ref ((a 0))), (2, .ref qd), (3, .int (nI nf)), (4, .int (nI mo)), (5, .int (nI n)), (6, .int x6), (7, .int (nI f)), (8, .int (nI g)), (9, .int (nI un)), (10, .int (nI mo)), (11, .int (nI (Ce f))), (12, .int (nI (Fd f))), (13, .int (nI 1)), (14, .int (nI q)), (18, .int (nI kd))]) (kont : ∀  (H1 : Heap) (locs1 : List Loc) (ls1 : Array Slot), ST D cyI cyJ cyS a a_now a_spare a_text qd dv A s0.heap mo nf 0 0 un2 Wi Gi Ki Ce Fd FR NR UR2 (some (mkS mo nf 0 0 un Wi Gi Ki Ce Fd FR NR UR)) ab be H1 locs1 → lv_has ls1 34 [(0, .ref bs), (1, .ref ((a 0))), (2, .ref qd), (3, .int (nI nf)), (4, .int (nI mo)), (5, .int (nI n)), (6, .int x6), (7, .int (nI f)), (8, .int (nI g)), (9, .int (nI un)), (10, .int (nI mo)), (11, .int (nI (Ce f))), (12, .int (nI (Fd f))), (13, .int (nI 1)), (14, .int (nI q)), (18, .int (nI kd))] → W p l en room_1 s0 m args below meth co H1 locs1 ck sk Q (F0 m 1073 ls1 [])) : W p l en room_1 s0 m args below meth co H locs ck sk Q (F0 m 987 ls []) := by
  obtain ⟨hx, hb, hml, hown, hts⟩ := id F
  obtain ⟨hmo, hnf, hun, hW, hG, hK5, hC35, hD99⟩ := ST_ok hST
  have c35 := hC35 f hf
  have d99 := hD99 f hf
  have k5 := hK5 f hf
  have ra := fun k => runN_le (m := mo) hW hG k5 c35 k
  have f6 := (far14 (Ce f) (by omega)).2
  obtain ⟨P, hPe⟩ : ∃ P, P = max 1 ((farN (Ce f) 14 + 1) / 2) := ⟨_, rfl⟩
  obtain ⟨t, t1, t2, t3, t4⟩ := pole_t (A := runN Wi Gi (Ki f) (Ce f) mo) (P := P) ra (by omega)
  refine lv_aload_n hx hb dL_law_987 rfl (lv_at hl 1 rfl) ?_
  refine lv_iload hx hb dL_law_988 (lv_at hl 7 rfl) ?_
  refine lv_iconst (v := nI 0) hx hb dL_law_990 (by decide) ?_
  refine lk_dogs0 F hKK hA gL_law_X3_dogs ⟨(Nat.le_of_ble_eq_true rfl), (Nat.le_of_ble_eq_true rfl)⟩ hck dL_law_991 hl.1 (Nat.le_of_ble_eq_true rfl) hST f P t hf hPe t1 t2 t3 t4 (fun H locs hST => ?_)
  refine lv_istore (lv' := [(20, .int (nI t)), (0, .ref bs), (1, .ref ((a 0))), (2, .ref qd), (3, .int (nI nf)), (4, .int (nI mo)), (5, .int (nI n)), (6, .int x6), (7, .int (nI f)), (8, .int (nI g)), (9, .int (nI un)), (10, .int (nI mo)), (11, .int (nI (Ce f))), (12, .int (nI (Fd f))), (13, .int (nI 1)), (14, .int (nI q)), (18, .int (nI kd))]) hx hb dL_law_994 hl (by decide) rfl (fun ls hl => ?_)
  refine lv_aload_n hx hb dL_law_996 rfl (lv_at hl 2 rfl) ?_
  refine lv_iload hx hb dL_law_997 (lv_at hl 8 rfl) ?_
  refine lv_iconst (v := nI 1) hx hb dL_law_999 (by decide) ?_
  refine lk_dogs1 F hKK hA gL_law_X3_dogs ⟨(Nat.le_of_ble_eq_true rfl), (Nat.le_of_ble_eq_true rfl)⟩ hck dL_law_1000 hl.1 (Nat.le_of_ble_eq_true rfl) hST f P hf hPe (fun H locs hST => ?_)
  refine lv_istore (lv' := [(21, .int (nI P)), (20, .int (nI t)), (0, .ref bs), (1, .ref ((a 0))), (2, .ref qd), (3, .int (nI nf)), (4, .int (nI mo)), (5, .int (nI n)), (6, .int x6), (7, .int (nI f)), (8, .int (nI g)), (9, .int (nI un)), (10, .int (nI mo)), (11, .int (nI (Ce f))), (12, .int (nI (Fd f))), (13, .int (nI 1)), (14, .int (nI q)), (18, .int (nI kd))]) hx hb dL_law_1003 hl (by decide) rfl (fun ls hl => ?_)
  refine lv_iload hx hb dL_law_1005 (lv_at hl 15 rfl) ?_
  refine lv_if_eq (tgt := 1070) hx hb dL_law_1007 (by decide) (fun cz => absurd cz (show ¬ (nI 1 = nI 0) by rw [nI_eq (by omega) (by omega)]; omega)) (fun _ => ?_)
  refine lv_iload hx hb dL_law_1010 (lv_at hl 0 rfl) ?_
  refine lv_if_le (tgt := 1070) hx hb dL_law_1012 (by decide) (fun cz => absurd cz (show ¬ (nI P ≤ nI 0) by rw [nI_leI (by omega) (by omega)]; omega)) (fun _ => ?_)
  refine lv_iload hx hb dL_law_1015 (lv_at hl 0 rfl) ?_
  refine lv_iload hx hb dL_law_1017 (lv_at hl 1 rfl) ?_
  refine lv_icmp_gt (tgt := 1070) hx hb dL_law_1019 (by decide) (fun cz => absurd cz (show ¬ (nI t < nI P) by rw [nI_ltI (by omega) (by omega)]; omega)) (fun _ => ?_)
  refine lv_iload hx hb dL_law_1022 (lv_at hl 1 rfl) ?_
  refine lv_bipush (v := nI 30) hx hb dL_law_1024 (by decide) ?_
  refine lv_icmp_gt (tgt := 1070) hx hb dL_law_1026 (by decide) (fun cz => absurd cz (show ¬ (nI 30 < nI t) by rw [nI_ltI (by omega) (by omega)]; omega)) (fun _ => ?_)
  refine lv_iload hx hb dL_law_1029 (lv_at hl 13 rfl) ?_
  refine lv_bipush (v := nI 14) hx hb dL_law_1031 (by decide) ?_
  refine lk_far F gL_law_L_far ⟨(Nat.le_of_ble_eq_true rfl), (Nat.le_of_ble_eq_true rfl)⟩ hck dL_law_1033 hl.1 (Nat.le_of_ble_eq_true rfl) (Ce f) 14 c35 (by omega) ?_
  refine lv_iconst (v := nI 2) hx hb dL_law_1036 (by decide) ?_
  refine lv_iload hx hb dL_law_1037 (lv_at hl 0 rfl) ?_
  refine lv_imul hx hb dL_law_1039 ?_
  refine lv_nm (pk_mul 2 P).symm ?_
  refine lv_icmp_gt (tgt := 1070) hx hb dL_law_1040 (by decide) (fun cz => absurd cz (show ¬ (nI (2 * P) < nI (farN (Ce f) 14)) by rw [nI_ltI (by omega) (by omega)]; omega)) (fun _ => ?_)
  refine lv_bipush (v := nI 14) hx hb dL_law_1043 (by decide) ?_
  refine lv_aload_n hx hb dL_law_1045 rfl (lv_at hl 3 rfl) ?_
  refine lv_iload hx hb dL_law_1046 (lv_at hl 9 rfl) ?_
  refine lv_iload hx hb dL_law_1048 (lv_at hl 1 rfl) ?_
  refine lk_then F hKK hA gL_law_X3_then ⟨(Nat.le_of_ble_eq_true rfl), (Nat.le_of_ble_eq_true rfl)⟩ hck dL_law_1050 hl.1 (Nat.le_of_ble_eq_true rfl) hST f t hf (by omega) (fun H locs hST => ?_)
  refine lk_far F gL_law_L_far ⟨(Nat.le_of_ble_eq_true rfl), (Nat.le_of_ble_eq_true rfl)⟩ hck dL_law_1053 hl.1 (Nat.le_of_ble_eq_true rfl) 14 (runN Wi Gi (Ki f) (Ce f) mo t) (by omega) (ra t) ?_
  have t3 : farN 14 (runN Wi Gi (Ki f) (Ce f) mo t) ≤ 2 * (t - P) := t3
  refine lv_iconst (v := nI 2) hx hb dL_law_1056 (by decide) ?_
  refine lv_iload hx hb dL_law_1057 (lv_at hl 1 rfl) ?_
  refine lv_iload hx hb dL_law_1059 (lv_at hl 0 rfl) ?_
  refine lv_isub hx hb dL_law_1061 ?_
  refine lv_nm (pk_sub (a := t) (b := P) (by omega)).symm ?_
  refine lv_imul hx hb dL_law_1062 ?_
  refine lv_nm (pk_mul 2 (t - P)).symm ?_
  refine lv_icmp_gt (tgt := 1070) hx hb dL_law_1063 (by decide) (fun cz => absurd cz (show ¬ (nI (2 * (t - P)) < nI (farN 14 (runN Wi Gi (Ki f) (Ce f) mo t))) by rw [nI_ltI (by omega) (by omega)]; omega)) (fun _ => ?_)
  refine lv_iconst (v := nI 1) hx hb dL_law_1066 (by decide) ?_
  refine lv_goto (tgt := 1071) hx hb dL_law_1067 (by decide) ?_
  refine lv_istore (lv' := [(13, .int (nI 1)), (21, .int (nI P)), (20, .int (nI t)), (0, .ref bs), (1, .ref ((a 0))), (2, .ref qd), (3, .int (nI nf)), (4, .int (nI mo)), (5, .int (nI n)), (6, .int x6), (7, .int (nI f)), (8, .int (nI g)), (9, .int (nI un)), (10, .int (nI mo)), (11, .int (nI (Ce f))), (12, .int (nI (Fd f))), (14, .int (nI q)), (18, .int (nI kd))]) hx hb dL_law_1071 hl (by decide) rfl (fun ls hl => ?_)
  exact kont _ _ _ hST (lv_sub hl [3, 4, 5, 6, 7, 8, 9, 10, 11, 12, 13, 14, 15, 0, 16, 17] rfl)
