set_option maxHeartbeats 8000000 in
set_option maxRecDepth 100000 in
theorem lpz7 {p : Program} {l : Launch} {en : Env} {s0 : State} {m : MethodId} {args : Array Value} {below : List Frame} {meth : Method} {co : Code} (F : CallFix p m co cL_law 34 s0 args wsL_law RL) {D : va_G} {cyI cyJ cyS : ClassId} (hKK : KK D (tyS cyI cyJ cyS) s0) {A : Nat → Prop} (hA : ∀ q, s0.heap.size ≤ q → A q) {a a_now a_spare a_text : Nat → Nat} {qd : Nat} {dv : Nat → Int32} {bs Ls : Nat} {xs : Nat → Int32} (hL : Ls ≤ 260) (hX : va_X bs Ls xs s0 s0.heap) (hbl : bs < s0.heap.size) (hbA : ¬ A bs) {Q : State → Prop} {mo nf un : Nat} {Wi Gi Ki Ce Fd FR NR UR : Nat → Nat} {un2 : Nat} {UR2 : Nat → Nat} {ab be : Int64} {n : Nat} (x6 : Int32) {f g : Nat} (hf : f < nf) (hge : g = (f + 1) % nf) (hg : g < nf) {q : Nat} (hq1 : 1 ≤ q) (hq : q ≤ 20) {kd : Nat} (hkd : kd ≤ 5) {st e : Nat} (hst : st ≤ 35) (he1 : 1 ≤ e) (he : e ≤ 12) (hdv : ∀ i, i < 12 → dv (17 + i) = nI (Wi i + 4 * Gi i)) {ck sk : Nat} (hck : ck ≤ room_1.cells ∧ sk ≤ room_1.slots) (hmo9 : mo ≤ 110) (kont : ∀  (H1 : Heap) (locs1 : List Loc) (ls1 : Array Slot), ST D cyI cyJ cyS a a_now a_spare a_text qd dv A s0.heap mo nf 0 0 un2 Wi Gi Ki Ce Fd FR NR UR2 (some (mkS mo nf 0 0 un Wi Gi Ki Ce Fd FR NR UR)) ab be H1 locs1 → lv_has ls1 34 [(0, .ref bs), (1, .ref ((a 0))), (2, .ref qd), (3, .int (nI nf)), (4, .int (nI mo)), (5, .int (nI n)), (6, .int x6), (7, .int (nI f)), (8, .int (nI g)), (9, .int (nI un)), (10, .int (nI mo)), (11, .int (nI (Ce f))), (12, .int (nI (Fd f))), (13, .int (nI 1)), (14, .int (nI q)), (18, .int (nI kd)), (22, .int (nI st)), (23, .int (nI (runN Wi Gi kd st 0 e))), (24, .int (nI e))] → W p l en room_1 s0 m args below meth co H1 locs1 ck sk Q (F0 m 1131 ls1 [])) : ∀ (d k : Nat) (H : Heap) (locs : List Loc) (ls : Array Slot), k + d = e → ST D cyI cyJ cyS a a_now a_spare a_text qd dv A s0.heap mo nf 0 0 un2 Wi Gi Ki Ce Fd FR NR UR2 (some (mkS mo nf 0 0 un Wi Gi Ki Ce Fd FR NR UR)) ab be H locs → lv_has ls 34 [(0, .ref bs), (1, .ref ((a 0))), (2, .ref qd), (3, .int (nI nf)), (4, .int (nI mo)), (5, .int (nI n)), (6, .int x6), (7, .int (nI f)), (8, .int (nI g)), (9, .int (nI un)), (10, .int (nI mo)), (11, .int (nI (Ce f))), (12, .int (nI (Fd f))), (13, .int (nI 1)), (14, .int (nI q)), (18, .int (nI kd)), (22, .int (nI st)), (23, .int (nI (runN Wi Gi kd st 0 k))), (24, .int (nI e)), (25, .int (nI k))] → W p l en room_1 s0 m args below meth co H locs ck sk Q (F0 m 1106 ls []) := by
  obtain ⟨hx, hb, hml, hown, hts⟩ := id F
  intro d
  induction d with
  | zero =>
    intro k H locs ls hkn hST hl
    obtain ⟨hmo, hnf, hun, hW, hG, hK5, hC35, hD99⟩ := ST_ok hST
    obtain rfl : k = e := by omega
    refine lv_iload hx hb dL_law_1106 (lv_at hl 19 rfl) ?_
    refine lv_iload hx hb dL_law_1108 (lv_at hl 18 rfl) ?_
    refine lv_icmp_ge (tgt := 1131) hx hb dL_law_1110 (by decide) (fun _ => ?_) (fun cz => absurd (show nI k ≤ nI k by rw [nI_leI (by omega) (by omega)]; omega) cz)
    exact kont _ _ _ hST (lv_sub hl [0, 1, 2, 3, 4, 5, 6, 7, 8, 9, 10, 11, 12, 13, 14, 15, 16, 17, 18] rfl)
  | succ d ih =>
    intro k H locs ls hkn hST hl
    obtain ⟨hmo, hnf, hun, hW, hG, hK5, hC35, hD99⟩ := ST_ok hST
    have r35 : runN Wi Gi kd st 0 k ≤ 35 := runN_le hW hG hkd hst k
    refine lv_iload hx hb dL_law_1106 (lv_at hl 19 rfl) ?_
    refine lv_iload hx hb dL_law_1108 (lv_at hl 18 rfl) ?_
    refine lv_icmp_ge (tgt := 1131) hx hb dL_law_1110 (by decide) (fun cz => absurd cz (show ¬ (nI e ≤ nI k) by rw [nI_leI (by omega) (by omega)]; omega)) (fun _ => ?_)
    refine lv_aload_n hx hb dL_law_1113 rfl (lv_at hl 2 rfl) ?_
    refine lv_iload hx hb dL_law_1114 (lv_at hl 15 rfl) ?_
    refine lv_iload hx hb dL_law_1116 (lv_at hl 17 rfl) ?_
    refine lv_iload hx hb dL_law_1118 (lv_at hl 19 rfl) ?_
    refine lk_drift F hKK hA gL_law_L_drift ⟨(Nat.le_of_ble_eq_true rfl), (Nat.le_of_ble_eq_true rfl)⟩ hck dL_law_1120 hl.1 (Nat.le_of_ble_eq_true rfl) hST hdv kd (runN Wi Gi kd st 0 k) k hkd r35 (by omega) ?_
    refine lv_nm (show nI (runN Wi Gi kd st 0 (k + 1)) = nI (itN Wi Gi kd (runN Wi Gi kd st 0 k) k) from (by rw [runN, Nat.zero_add])) ?_
    refine lv_istore (lv' := [(23, .int (nI (runN Wi Gi kd st 0 (k + 1)))), (0, .ref bs), (1, .ref ((a 0))), (2, .ref qd), (3, .int (nI nf)), (4, .int (nI mo)), (5, .int (nI n)), (6, .int x6), (7, .int (nI f)), (8, .int (nI g)), (9, .int (nI un)), (10, .int (nI mo)), (11, .int (nI (Ce f))), (12, .int (nI (Fd f))), (13, .int (nI 1)), (14, .int (nI q)), (18, .int (nI kd)), (22, .int (nI st)), (24, .int (nI e)), (25, .int (nI k))]) hx hb dL_law_1123 hl (by decide) rfl (fun ls hl => ?_)
    refine lv_iinc (v := nI (k + 1)) (lv' := [(25, .int (nI (k + 1))), (23, .int (nI (runN Wi Gi kd st 0 (k + 1)))), (0, .ref bs), (1, .ref ((a 0))), (2, .ref qd), (3, .int (nI nf)), (4, .int (nI mo)), (5, .int (nI n)), (6, .int x6), (7, .int (nI f)), (8, .int (nI g)), (9, .int (nI un)), (10, .int (nI mo)), (11, .int (nI (Ce f))), (12, .int (nI (Fd f))), (13, .int (nI 1)), (14, .int (nI q)), (18, .int (nI kd)), (22, .int (nI st)), (24, .int (nI e))]) hx hb dL_law_1125 hl (k := 19) rfl (by rw [show Int32.ofInt 1 = nI 1 from by decide, nI_add]) (by decide) rfl (fun ls hl => ?_)
    refine lv_goto (tgt := 1106) hx hb dL_law_1128 (by decide) ?_
    exact ih (k + 1) _ _ _ (by omega) hST (lv_sub hl [2, 3, 4, 5, 6, 7, 8, 9, 10, 11, 12, 13, 14, 15, 16, 17, 18, 1, 19, 0] rfl)

set_option maxHeartbeats 8000000 in
set_option maxRecDepth 100000 in
theorem sg7 {p : Program} {l : Launch} {en : Env} {s0 : State} {m : MethodId} {args : Array Value} {below : List Frame} {meth : Method} {co : Code} (F : CallFix p m co cL_law 34 s0 args wsL_law RL) {D : va_G} {cyI cyJ cyS : ClassId} (hKK : KK D (tyS cyI cyJ cyS) s0) {A : Nat → Prop} (hA : ∀ q, s0.heap.size ≤ q → A q) {a a_now a_spare a_text : Nat → Nat} {qd : Nat} {dv : Nat → Int32} {bs Ls : Nat} {xs : Nat → Int32} (hL : Ls ≤ 260) (hX : va_X bs Ls xs s0 s0.heap) (hbl : bs < s0.heap.size) (hbA : ¬ A bs) {Q : State → Prop} {mo nf un : Nat} {Wi Gi Ki Ce Fd FR NR UR : Nat → Nat} {un2 : Nat} {UR2 : Nat → Nat} {ab be : Int64} {n : Nat} (x6 : Int32) {f g : Nat} (hf : f < nf) (hge : g = (f + 1) % nf) (hg : g < nf) {q : Nat} (hq1 : 1 ≤ q) (hq : q ≤ 20) {kd : Nat} (hkd : kd ≤ 5) (hdv : ∀ i, i < 12 → dv (17 + i) = nI (Wi i + 4 * Gi i)) {H : Heap} {locs : List Loc} {ck sk : Nat} {ls : Array Slot} (hck : ck ≤ room_1.cells ∧ sk ≤ room_1.slots) (hmo9 : mo ≤ 110)  (hST : ST D cyI cyJ cyS a a_now a_spare a_text qd dv A s0.heap mo nf 0 0 un2 Wi Gi Ki Ce Fd FR NR UR2 (some (mkS mo nf 0 0 un Wi Gi Ki Ce Fd FR NR UR)) ab be H locs) (hl : lv_has ls 34 [(0, .ref bs), (1, .ref ((a 0))), (2, .ref qd), (3, .int (nI nf)), (4, .int (nI mo)), (5, .int (nI n)), (6, .int x6), (7, .int (nI f)), (8, .int (nI g)), (9, .int (nI un)), (10, .int (nI mo)), (11, .int (nI (Ce f))), (12, .int (nI (Fd f))), (13, .int (nI 1)), (14, .int (nI q)), (18, .int (nI kd))]) (kont : ∀ (st e : Nat) (hst : st ≤ 35) (he1 : 1 ≤ e) (he : e ≤ 12) (H1 : Heap) (locs1 : List Loc) (ls1 : Array Slot), ST D cyI cyJ cyS a a_now a_spare a_text qd dv A s0.heap mo nf 0 0 un2 Wi Gi Ki Ce Fd FR NR UR2 (some (mkS mo nf 0 0 un Wi Gi Ki Ce Fd FR NR UR)) ab be H1 locs1 → lv_has ls1 34 [(0, .ref bs), (1, .ref ((a 0))), (2, .ref qd), (3, .int (nI nf)), (4, .int (nI mo)), (5, .int (nI n)), (6, .int x6), (7, .int (nI f)), (8, .int (nI g)), (9, .int (nI un)), (10, .int (nI mo)), (11, .int (nI (Ce f))), (12, .int (nI (Fd f))), (13, .int (nI 1)), (14, .int (nI q)), (18, .int (nI kd)), (22, .int (nI st)), (23, .int (nI (runN Wi Gi kd st 0 e))), (24, .int (nI e))] → W p l en room_1 s0 m args below meth co H1 locs1 ck sk Q (F0 m 1131 ls1 [])) : W p l en room_1 s0 m args below meth co H locs ck sk Q (F0 m 1073 ls []) := by
  obtain ⟨hx, hb, hml, hown, hts⟩ := id F
  obtain ⟨hmo, hnf, hun, hW, hG, hK5, hC35, hD99⟩ := ST_ok hST
  refine lv_iload hx hb dL_law_1073 (lv_at hl 6 rfl) ?_
  refine lv_bipush (v := nI 11) hx hb dL_law_1075 (by decide) ?_
  refine lv_ishr hx hb dL_law_1077 ?_
  refine lv_bipush (v := nI 36) hx hb dL_law_1078 (by decide) ?_
  refine lk_low F gL_law_L_low ⟨(Nat.le_of_ble_eq_true rfl), (Nat.le_of_ble_eq_true rfl)⟩ hck dL_law_1080 hl.1 (Nat.le_of_ble_eq_true rfl) _ 36 (by omega) (by omega) (fun st hst => ?_)
  refine lv_istore (lv' := [(22, .int (nI st)), (0, .ref bs), (1, .ref ((a 0))), (2, .ref qd), (3, .int (nI nf)), (4, .int (nI mo)), (5, .int (nI n)), (6, .int x6), (7, .int (nI f)), (8, .int (nI g)), (9, .int (nI un)), (10, .int (nI mo)), (11, .int (nI (Ce f))), (12, .int (nI (Fd f))), (13, .int (nI 1)), (14, .int (nI q)), (18, .int (nI kd))]) hx hb dL_law_1083 hl (by decide) rfl (fun ls hl => ?_)
  refine lv_iload hx hb dL_law_1085 (lv_at hl 0 rfl) ?_
  refine lv_istore (lv' := [(23, .int (nI st)), (22, .int (nI st)), (0, .ref bs), (1, .ref ((a 0))), (2, .ref qd), (3, .int (nI nf)), (4, .int (nI mo)), (5, .int (nI n)), (6, .int x6), (7, .int (nI f)), (8, .int (nI g)), (9, .int (nI un)), (10, .int (nI mo)), (11, .int (nI (Ce f))), (12, .int (nI (Fd f))), (13, .int (nI 1)), (14, .int (nI q)), (18, .int (nI kd))]) hx hb dL_law_1087 hl (by decide) rfl (fun ls hl => ?_)
  refine lv_iconst (v := nI 1) hx hb dL_law_1089 (by decide) ?_
  refine lv_iload hx hb dL_law_1090 (lv_at hl 8 rfl) ?_
  refine lv_bipush (v := nI 17) hx hb dL_law_1092 (by decide) ?_
  refine lv_ishr hx hb dL_law_1094 ?_
  refine lv_bipush (v := nI 12) hx hb dL_law_1095 (by decide) ?_
  refine lk_low F gL_law_L_low ⟨(Nat.le_of_ble_eq_true rfl), (Nat.le_of_ble_eq_true rfl)⟩ hck dL_law_1097 hl.1 (Nat.le_of_ble_eq_true rfl) _ 12 (by omega) (by omega) (fun j hj => ?_)
  refine lv_iadd hx hb dL_law_1100 ?_
  refine lv_nm (nI_add 1 j).symm ?_
  obtain ⟨e, hee⟩ : ∃ e, e = 1 + j := ⟨_, rfl⟩
  refine lv_nm (show nI e = nI (1 + j) from (congrArg nI hee)) ?_
  refine lv_istore (lv' := [(24, .int (nI e)), (23, .int (nI st)), (22, .int (nI st)), (0, .ref bs), (1, .ref ((a 0))), (2, .ref qd), (3, .int (nI nf)), (4, .int (nI mo)), (5, .int (nI n)), (6, .int x6), (7, .int (nI f)), (8, .int (nI g)), (9, .int (nI un)), (10, .int (nI mo)), (11, .int (nI (Ce f))), (12, .int (nI (Fd f))), (13, .int (nI 1)), (14, .int (nI q)), (18, .int (nI kd))]) hx hb dL_law_1101 hl (by decide) rfl (fun ls hl => ?_)
  refine lv_iconst (v := nI 0) hx hb dL_law_1103 (by decide) ?_
  refine lv_istore (lv' := [(25, .int (nI 0)), (24, .int (nI e)), (23, .int (nI st)), (22, .int (nI st)), (0, .ref bs), (1, .ref ((a 0))), (2, .ref qd), (3, .int (nI nf)), (4, .int (nI mo)), (5, .int (nI n)), (6, .int x6), (7, .int (nI f)), (8, .int (nI g)), (9, .int (nI un)), (10, .int (nI mo)), (11, .int (nI (Ce f))), (12, .int (nI (Fd f))), (13, .int (nI 1)), (14, .int (nI q)), (18, .int (nI kd))]) hx hb dL_law_1104 hl (by decide) rfl (fun ls hl => ?_)
  exact lpz7 F hKK hA hL hX hbl hbA x6 hf hge hg hq1 hq hkd (by omega) (by omega) (by omega) hdv hck hmo9 (fun H1 L1 ls1 hST hl => kont st e (by omega) (by omega) (by omega) _ _ _ hST hl) e 0 _ _ _ (by omega) hST (lv_sub hl [4, 5, 6, 7, 8, 9, 10, 11, 12, 13, 14, 15, 16, 17, 18, 19, 3, 2, 1, 0] rfl)

set_option maxHeartbeats 8000000 in
set_option maxRecDepth 100000 in
theorem sg8 {p : Program} {l : Launch} {en : Env} {s0 : State} {m : MethodId} {args : Array Value} {below : List Frame} {meth : Method} {co : Code} (F : CallFix p m co cL_law 34 s0 args wsL_law RL) {D : va_G} {cyI cyJ cyS : ClassId} (hKK : KK D (tyS cyI cyJ cyS) s0) {A : Nat → Prop} (hA : ∀ q, s0.heap.size ≤ q → A q) {a a_now a_spare a_text : Nat → Nat} {qd : Nat} {dv : Nat → Int32} {bs Ls : Nat} {xs : Nat → Int32} (hL : Ls ≤ 260) (hX : va_X bs Ls xs s0 s0.heap) (hbl : bs < s0.heap.size) (hbA : ¬ A bs) {Q : State → Prop} {mo nf un : Nat} {Wi Gi Ki Ce Fd FR NR UR : Nat → Nat} {un2 : Nat} {UR2 : Nat → Nat} {ab be : Int64} {n : Nat} (x6 : Int32) {f g : Nat} (hf : f < nf) (hge : g = (f + 1) % nf) (hg : g < nf) {q : Nat} (hq1 : 1 ≤ q) (hq : q ≤ 20) {kd : Nat} (hkd : kd ≤ 5) {st e : Nat} (hst : st ≤ 35) (he1 : 1 ≤ e) (he : e ≤ 12) {H : Heap} {locs : List Loc} {ck sk : Nat} {ls : Array Slot} (hck : ck ≤ room_1.cells ∧ sk ≤ room_1.slots) (hmo9 : mo ≤ 110)  (hST : ST D cyI cyJ cyS a a_now a_spare a_text qd dv A s0.heap mo nf 0 0 un2 Wi Gi Ki Ce Fd FR NR UR2 (some (mkS mo nf 0 0 un Wi Gi Ki Ce Fd FR NR UR)) ab be H locs) (hl : lv_has ls 34 [(0, .ref bs), (1, .ref ((a 0))), (2, .ref qd), (3, .int (nI nf)), (4, .int (nI mo)), (5, .int (nI n)), (6, .int x6), (7, .int (nI f)), (8, .int (nI g)), (9, .int (nI un)), (10, .int (nI mo)), (11, .int (nI (Ce f))), (12, .int (nI (Fd f))), (13, .int (nI 1)), (14, .int (nI q)), (18, .int (nI kd)), (22, .int (nI st)), (23, .int (nI (runN Wi Gi kd st 0 e))), (24, .int (nI e))]) (kont : ∀ (FR3 : Nat → Nat) (H1 : Heap) (locs1 : List Loc) (ls1 : Array Slot), ST D cyI cyJ cyS a a_now a_spare a_text qd dv A s0.heap mo nf 0 0 un2 Wi Gi Ki Ce Fd FR3 NR UR2 (some (mkS mo nf 0 0 un Wi Gi Ki Ce Fd FR NR UR)) ab be H1 locs1 → lv_has ls1 34 [(0, .ref bs), (1, .ref ((a 0))), (2, .ref qd), (3, .int (nI nf)), (4, .int (nI mo)), (5, .int (nI n)), (6, .int x6), (7, .int (nI f)), (8, .int (nI g)), (9, .int (nI un)), (10, .int (nI mo)), (11, .int (nI (Ce f))), (12, .int (nI (Fd f))), (13, .int (nI 1)), (14, .int (nI q)), (18, .int (nI kd)), (22, .int (nI st))] → W p l en room_1 s0 m args below meth co H1 locs1 ck sk Q (F0 m 1260 ls1 [])) : W p l en room_1 s0 m args below meth co H locs ck sk Q (F0 m 1131 ls []) := by
  obtain ⟨hx, hb, hml, hown, hts⟩ := id F
  obtain ⟨hmo, hnf, hun, hW, hG, hK5, hC35, hD99⟩ := ST_ok hST
  have r35 : runN Wi Gi kd st 0 e ≤ 35 := runN_le hW hG hkd hst e
  have w1 : (fun c => frN Wi Gi (upn (upn (upn FR (3 * 0) kd) (3 * 0 + 1) e) (3 * 0 + 2) (runN Wi Gi kd st 0 e)) c (0 + 1)) st = true := by
    show frN Wi Gi (upn (upn (upn FR (3 * 0) kd) (3 * 0 + 1) e) (3 * 0 + 2) (runN Wi Gi kd st 0 e)) st 1 = true
    rw [fr_1 (k := kd) (m := e) (e := runN Wi Gi kd st 0 e) (by simp [upn]) (by simp [upn]) (by simp [upn])]
    exact decide_eq_true rfl
  have w2 : ∀ c, c < 36 → (fun c => frN Wi Gi (upn (upn (upn (upn (upn (upn FR (3 * 0) kd) (3 * 0 + 1) e) (3 * 0 + 2) (runN Wi Gi kd st 0 e)) (3 * (0 + 1)) kd) (3 * (0 + 1) + 1) e) (3 * (0 + 1) + 2) ((runN Wi Gi kd st 0 e + 1) % 36)) c (0 + 1 + 1)) c = false := fun c _ => by
    show frN Wi Gi (upn (upn (upn (upn (upn (upn FR (3 * 0) kd) (3 * 0 + 1) e) (3 * 0 + 2) (runN Wi Gi kd st 0 e)) (3 * (0 + 1)) kd) (3 * (0 + 1) + 1) e) (3 * (0 + 1) + 2) ((runN Wi Gi kd st 0 e + 1) % 36)) c 2 = false
    exact fr_2 (k := kd) (m := e) (e := runN Wi Gi kd st 0 e) (e' := (runN Wi Gi kd st 0 e + 1) % 36) (by simp [upn]) (by simp [upn]) (by simp [upn]) (by simp [upn]) (by simp [upn]) (by simp [upn]) (by omega)
  obtain ⟨dd, hd1, hdd⟩ := le_exists (fun c => frN Wi Gi (upn (upn (upn FR (3 * 0) kd) (3 * 0 + 1) e) (3 * 0 + 2) (runN Wi Gi kd st 0 e)) c (0 + 1)) (c := st) (by omega) w1
  refine lv_iload hx hb dL_law_1131 (lv_at hl 13 rfl) ?_
  refine lv_if_eq (tgt := 1162) hx hb dL_law_1133 (by decide) (fun cz => absurd cz (show ¬ (nI 1 = nI 0) by rw [nI_eq (by omega) (by omega)]; omega)) (fun _ => ?_)
  refine lv_aload_n hx hb dL_law_1136 rfl (lv_at hl 1 rfl) ?_
  refine lv_iconst (v := nI 0) hx hb dL_law_1137 (by decide) ?_
  refine lk_forget0 F hKK hA gL_law_X3_forget ⟨(Nat.le_of_ble_eq_true rfl), (Nat.le_of_ble_eq_true rfl)⟩ hck dL_law_1138 hl.1 (Nat.le_of_ble_eq_true rfl) hST  (fun H locs hST => ?_)
  refine lv_if_lt (tgt := 1162) hx hb dL_law_1141 (by decide) (fun cz => absurd cz (by decide : ¬ (nI 0 < 0))) (fun _ => ?_)
  refine lv_aload_n hx hb dL_law_1144 rfl (lv_at hl 1 rfl) ?_
  refine lv_iload hx hb dL_law_1145 (lv_at hl 15 rfl) ?_
  refine lv_iload hx hb dL_law_1147 (lv_at hl 18 rfl) ?_
  refine lv_iload hx hb dL_law_1149 (lv_at hl 17 rfl) ?_
  refine lk_found F hKK hA gL_law_X3_found ⟨(Nat.le_of_ble_eq_true rfl), (Nat.le_of_ble_eq_true rfl)⟩ hck dL_law_1151 hl.1 (Nat.le_of_ble_eq_true rfl) hST kd e (runN Wi Gi kd st 0 e) hkd (by omega) (by omega) r35 (by omega) (fun H locs hST => ?_)
  refine lv_iconst (v := nI 1) hx hb dL_law_1154 (by decide) ?_
  refine lv_icmp_ne (tgt := 1162) hx hb dL_law_1155 (by decide) (fun cz => absurd (rfl : nI 1 = nI 1) cz) (fun _ => ?_)
  refine lv_iconst (v := nI 1) hx hb dL_law_1158 (by decide) ?_
  refine lv_goto (tgt := 1163) hx hb dL_law_1159 (by decide) ?_
  refine lv_istore (lv' := [(13, .int (nI 1)), (0, .ref bs), (1, .ref ((a 0))), (2, .ref qd), (3, .int (nI nf)), (4, .int (nI mo)), (5, .int (nI n)), (6, .int x6), (7, .int (nI f)), (8, .int (nI g)), (9, .int (nI un)), (10, .int (nI mo)), (11, .int (nI (Ce f))), (12, .int (nI (Fd f))), (14, .int (nI q)), (18, .int (nI kd)), (22, .int (nI st)), (23, .int (nI (runN Wi Gi kd st 0 e))), (24, .int (nI e))]) hx hb dL_law_1163 hl (by decide) rfl (fun ls hl => ?_)
  refine lv_aload_n hx hb dL_law_1165 rfl (lv_at hl 2 rfl) ?_
  refine lv_iconst (v := nI 0) hx hb dL_law_1166 (by decide) ?_
  refine lk_whence0 F hKK hA gL_law_X3_whence ⟨(Nat.le_of_ble_eq_true rfl), (Nat.le_of_ble_eq_true rfl)⟩ hck dL_law_1167 hl.1 (Nat.le_of_ble_eq_true rfl) hST  (fun H locs hST => ?_)
  refine lv_istore (lv' := [(25, .int (nI (cD (fun c => frN Wi Gi (upn (upn (upn FR (3 * 0) kd) (3 * 0 + 1) e) (3 * 0 + 2) (runN Wi Gi kd st 0 e)) c (0 + 1)) 36))), (13, .int (nI 1)), (0, .ref bs), (1, .ref ((a 0))), (2, .ref qd), (3, .int (nI nf)), (4, .int (nI mo)), (5, .int (nI n)), (6, .int x6), (7, .int (nI f)), (8, .int (nI g)), (9, .int (nI un)), (10, .int (nI mo)), (11, .int (nI (Ce f))), (12, .int (nI (Fd f))), (14, .int (nI q)), (18, .int (nI kd)), (22, .int (nI st)), (23, .int (nI (runN Wi Gi kd st 0 e))), (24, .int (nI e))]) hx hb dL_law_1170 hl (by decide) rfl (fun ls hl => ?_)
  refine lv_aload_n hx hb dL_law_1172 rfl (lv_at hl 3 rfl) ?_
  refine lv_iconst (v := nI 1) hx hb dL_law_1173 (by decide) ?_
  refine lk_whence1 F hKK hA gL_law_X3_whence ⟨(Nat.le_of_ble_eq_true rfl), (Nat.le_of_ble_eq_true rfl)⟩ hck dL_law_1174 hl.1 (Nat.le_of_ble_eq_true rfl) hST (nI dd) hdd (fun H locs hST => ?_)
  refine lv_istore (lv' := [(26, .int (nI dd)), (25, .int (nI (cD (fun c => frN Wi Gi (upn (upn (upn FR (3 * 0) kd) (3 * 0 + 1) e) (3 * 0 + 2) (runN Wi Gi kd st 0 e)) c (0 + 1)) 36))), (13, .int (nI 1)), (0, .ref bs), (1, .ref ((a 0))), (2, .ref qd), (3, .int (nI nf)), (4, .int (nI mo)), (5, .int (nI n)), (6, .int x6), (7, .int (nI f)), (8, .int (nI g)), (9, .int (nI un)), (10, .int (nI mo)), (11, .int (nI (Ce f))), (12, .int (nI (Fd f))), (14, .int (nI q)), (18, .int (nI kd)), (22, .int (nI st)), (23, .int (nI (runN Wi Gi kd st 0 e))), (24, .int (nI e))]) hx hb dL_law_1177 hl (by decide) rfl (fun ls hl => ?_)
  refine lv_iload hx hb dL_law_1179 (lv_at hl 2 rfl) ?_
  have cp := cD_pos (F := (fun c => frN Wi Gi (upn (upn (upn FR (3 * 0) kd) (3 * 0 + 1) e) (3 * 0 + 2) (runN Wi Gi kd st 0 e)) c (0 + 1))) (c := st) (by omega) w1
  have cl := cD_le (fun c => frN Wi Gi (upn (upn (upn FR (3 * 0) kd) (3 * 0 + 1) e) (3 * 0 + 2) (runN Wi Gi kd st 0 e)) c (0 + 1)) 36
  refine lv_if_eq (tgt := 1257) hx hb dL_law_1181 (by decide) (fun cz => absurd cz (show ¬ (nI 1 = nI 0) by rw [nI_eq (by omega) (by omega)]; omega)) (fun _ => ?_)
  refine lv_iload hx hb dL_law_1184 (lv_at hl 1 rfl) ?_
  refine lv_if_le (tgt := 1257) hx hb dL_law_1186 (by decide) (fun cz => absurd cz (show ¬ (nI (cD (fun c => frN Wi Gi (upn (upn (upn FR (3 * 0) kd) (3 * 0 + 1) e) (3 * 0 + 2) (runN Wi Gi kd st 0 e)) c (0 + 1)) 36) ≤ nI 0) by rw [nI_leI (by omega) (by omega)]; omega)) (fun _ => ?_)
  refine lv_iload hx hb dL_law_1189 (lv_at hl 1 rfl) ?_
  refine lv_bipush (v := nI 36) hx hb dL_law_1191 (by decide) ?_
  refine lv_icmp_gt (tgt := 1257) hx hb dL_law_1193 (by decide) (fun cz => absurd cz (show ¬ (nI 36 < nI (cD (fun c => frN Wi Gi (upn (upn (upn FR (3 * 0) kd) (3 * 0 + 1) e) (3 * 0 + 2) (runN Wi Gi kd st 0 e)) c (0 + 1)) 36)) by rw [nI_ltI (by omega) (by omega)]; omega)) (fun _ => ?_)
  refine lv_iload hx hb dL_law_1196 (lv_at hl 0 rfl) ?_
  refine lv_if_lt (tgt := 1257) hx hb dL_law_1198 (by decide) (fun cz => absurd cz (show ¬ (nI dd < nI 0) by rw [nI_ltI (by omega) (by omega)]; omega)) (fun _ => ?_)
  refine lv_iload hx hb dL_law_1201 (lv_at hl 0 rfl) ?_
  refine lv_iload hx hb dL_law_1203 (lv_at hl 18 rfl) ?_
  refine lv_icmp_gt (tgt := 1257) hx hb dL_law_1205 (by decide) (fun cz => absurd cz (show ¬ (nI st < nI dd) by rw [nI_ltI (by omega) (by omega)]; omega)) (fun _ => ?_)
  refine lv_aload_n hx hb dL_law_1208 rfl (lv_at hl 4 rfl) ?_
  refine lv_iload hx hb dL_law_1209 (lv_at hl 17 rfl) ?_
  refine lv_iload hx hb dL_law_1211 (lv_at hl 20 rfl) ?_
  refine lv_iload hx hb dL_law_1213 (lv_at hl 19 rfl) ?_
  refine lv_iconst (v := nI 1) hx hb dL_law_1215 (by decide) ?_
  refine lv_iadd hx hb dL_law_1216 ?_
  refine lv_nm (nI_add (runN Wi Gi kd st 0 e) 1).symm ?_
  refine lv_bipush (v := nI 36) hx hb dL_law_1217 (by decide) ?_
  refine lv_irem hx hb dL_law_1219 (by decide) ?_
  refine lv_nm (pk_rem (a := ((runN Wi Gi kd st 0 e) + 1)) (d := 36) (by omega) (by omega) (by omega)).symm ?_
  refine lk_found F hKK hA gL_law_X3_found ⟨(Nat.le_of_ble_eq_true rfl), (Nat.le_of_ble_eq_true rfl)⟩ hck dL_law_1220 hl.1 (Nat.le_of_ble_eq_true rfl) hST kd e ((runN Wi Gi kd st 0 e + 1) % 36) hkd (by omega) (by omega) (by omega) (by omega) (fun H locs hST => ?_)
  refine lv_iconst (v := nI 2) hx hb dL_law_1223 (by decide) ?_
  refine lv_icmp_ne (tgt := 1257) hx hb dL_law_1224 (by decide) (fun cz => absurd (rfl : nI 2 = nI 2) cz) (fun _ => ?_)
  refine lv_aload_n hx hb dL_law_1227 rfl (lv_at hl 4 rfl) ?_
  refine lv_iconst (v := nI 0) hx hb dL_law_1228 (by decide) ?_
  refine lk_whence0 F hKK hA gL_law_X3_whence ⟨(Nat.le_of_ble_eq_true rfl), (Nat.le_of_ble_eq_true rfl)⟩ hck dL_law_1229 hl.1 (Nat.le_of_ble_eq_true rfl) hST  (fun H locs hST => ?_)
  refine lv_if_ne (tgt := 1257) hx hb dL_law_1232 (by decide) (fun cz => absurd (show nI (cD (fun c => frN Wi Gi (upn (upn (upn (upn (upn (upn FR (3 * 0) kd) (3 * 0 + 1) e) (3 * 0 + 2) (runN Wi Gi kd st 0 e)) (3 * (0 + 1)) kd) (3 * (0 + 1) + 1) e) (3 * (0 + 1) + 2) ((runN Wi Gi kd st 0 e + 1) % 36)) c (0 + 1 + 1)) 36) = nI 0 from congrArg nI (cD_zero w2)) cz) (fun _ => ?_)
  refine lv_aload_n hx hb dL_law_1235 rfl (lv_at hl 4 rfl) ?_
  refine lv_iconst (v := nI 1) hx hb dL_law_1236 (by decide) ?_
  refine lk_whence1 F hKK hA gL_law_X3_whence ⟨(Nat.le_of_ble_eq_true rfl), (Nat.le_of_ble_eq_true rfl)⟩ hck dL_law_1237 hl.1 (Nat.le_of_ble_eq_true rfl) hST (-1) (.inr ⟨fun d _ d2 => w2 d d2, rfl⟩) (fun H locs hST => ?_)
  refine lv_iconst (v := (-1)) hx hb dL_law_1240 (by decide) ?_
  refine lv_icmp_ne (tgt := 1257) hx hb dL_law_1241 (by decide) (fun cz => absurd (rfl : (-1 : Int32) = -1) cz) (fun _ => ?_)
  refine lv_aload_n hx hb dL_law_1244 rfl (lv_at hl 4 rfl) ?_
  refine lv_iconst (v := nI 0) hx hb dL_law_1245 (by decide) ?_
  refine lk_forget0 F hKK hA gL_law_X3_forget ⟨(Nat.le_of_ble_eq_true rfl), (Nat.le_of_ble_eq_true rfl)⟩ hck dL_law_1246 hl.1 (Nat.le_of_ble_eq_true rfl) hST  (fun H locs hST => ?_)
  refine lv_iconst (v := nI 2) hx hb dL_law_1249 (by decide) ?_
  refine lv_icmp_ne (tgt := 1257) hx hb dL_law_1250 (by decide) (fun cz => absurd (rfl : nI 2 = nI 2) cz) (fun _ => ?_)
  refine lv_iconst (v := nI 1) hx hb dL_law_1253 (by decide) ?_
  refine lv_goto (tgt := 1258) hx hb dL_law_1254 (by decide) ?_
  refine lv_istore (lv' := [(13, .int (nI 1)), (26, .int (nI dd)), (25, .int (nI (cD (fun c => frN Wi Gi (upn (upn (upn FR (3 * 0) kd) (3 * 0 + 1) e) (3 * 0 + 2) (runN Wi Gi kd st 0 e)) c (0 + 1)) 36))), (0, .ref bs), (1, .ref ((a 0))), (2, .ref qd), (3, .int (nI nf)), (4, .int (nI mo)), (5, .int (nI n)), (6, .int x6), (7, .int (nI f)), (8, .int (nI g)), (9, .int (nI un)), (10, .int (nI mo)), (11, .int (nI (Ce f))), (12, .int (nI (Fd f))), (14, .int (nI q)), (18, .int (nI kd)), (22, .int (nI st)), (23, .int (nI (runN Wi Gi kd st 0 e))), (24, .int (nI e))]) hx hb dL_law_1258 hl (by decide) rfl (fun ls hl => ?_)
  exact kont _ _ _ _ hST (lv_sub hl [3, 4, 5, 6, 7, 8, 9, 10, 11, 12, 13, 14, 15, 0, 16, 17, 18] rfl)

set_option maxHeartbeats 8000000 in
set_option maxRecDepth 100000 in
theorem sg9 {p : Program} {l : Launch} {en : Env} {s0 : State} {m : MethodId} {args : Array Value} {below : List Frame} {meth : Method} {co : Code} (F : CallFix p m co cL_law 34 s0 args wsL_law RL) {D : va_G} {cyI cyJ cyS : ClassId} (hKK : KK D (tyS cyI cyJ cyS) s0) {A : Nat → Prop} (hA : ∀ q, s0.heap.size ≤ q → A q) {a a_now a_spare a_text : Nat → Nat} {qd : Nat} {dv : Nat → Int32} {bs Ls : Nat} {xs : Nat → Int32} (hL : Ls ≤ 260) (hX : va_X bs Ls xs s0 s0.heap) (hbl : bs < s0.heap.size) (hbA : ¬ A bs) {Q : State → Prop} {mo nf un : Nat} {Wi Gi Ki Ce Fd FR NR UR : Nat → Nat} {un2 : Nat} {UR2 : Nat → Nat} {ab be : Int64} {n : Nat} (x6 : Int32) {f g : Nat} (hf : f < nf) (hge : g = (f + 1) % nf) (hg : g < nf) {q : Nat} (hq1 : 1 ≤ q) (hq : q ≤ 20) {kd : Nat} (hkd : kd ≤ 5) {st : Nat} (hst : st ≤ 35) {FR3 : Nat → Nat} {H : Heap} {locs : List Loc} {ck sk : Nat} {ls : Array Slot} (hck : ck ≤ room_1.cells ∧ sk ≤ room_1.slots) (hmo9 : mo ≤ 110)  (hST : ST D cyI cyJ cyS a a_now a_spare a_text qd dv A s0.heap mo nf 0 0 un2 Wi Gi Ki Ce Fd FR3 NR UR2 (some (mkS mo nf 0 0 un Wi Gi Ki Ce Fd FR NR UR)) ab be H locs) (hl : lv_has ls 34 [(0, .ref bs), (1, .ref ((a 0))), (2, .ref qd), (3, .int (nI nf)), (4, .int (nI mo)), (5, .int (nI n)), (6, .int x6), (7, .int (nI f)), (8, .int (nI g)), (9, .int (nI un)), (10, .int (nI mo)), (11, .int (nI (Ce f))), (12, .int (nI (Fd f))), (13, .int (nI 1)), (14, .int (nI q)), (18, .int (nI kd)), (22, .int (nI st))]) (kont : ∀ (NR3 : Nat → Nat) (H1 : Heap) (locs1 : List Loc) (ls1 : Array Slot), ST D cyI cyJ cyS a a_now a_spare a_text qd dv A s0.heap mo nf 0 (0 + 1) un2 Wi Gi Ki Ce Fd FR3 NR3 UR2 (some (mkS mo nf 0 0 un Wi Gi Ki Ce Fd FR NR UR)) ab be H1 locs1 → lv_has ls1 34 [(0, .ref bs), (1, .ref ((a 0))), (2, .ref qd), (3, .int (nI nf)), (4, .int (nI mo)), (5, .int (nI n)), (6, .int x6), (7, .int (nI f)), (8, .int (nI g)), (9, .int (nI un)), (10, .int (nI mo)), (11, .int (nI (Ce f))), (12, .int (nI (Fd f))), (13, .int (nI 1)), (14, .int (nI q)), (18, .int (nI kd)), (22, .int (nI st))] → W p l en room_1 s0 m args below meth co H1 locs1 ck sk Q (F0 m 1410 ls1 [])) : W p l en room_1 s0 m args below meth co H locs ck sk Q (F0 m 1260 ls []) := by
  obtain ⟨hx, hb, hml, hown, hts⟩ := id F
  obtain ⟨hmo, hnf, hun, hW, hG, hK5, hC35, hD99⟩ := ST_ok hST
  have c35 := hC35 f hf
  have d99 := hD99 f hf
  have k5 := hK5 f hf
  refine lv_iload hx hb dL_law_1260 (lv_at hl 6 rfl) ?_
  refine lv_bipush (v := nI 20) hx hb dL_law_1262 (by decide) ?_
  refine lv_ishr hx hb dL_law_1264 ?_
  refine lv_iconst (v := nI 4) hx hb dL_law_1265 (by decide) ?_
  refine lk_low F gL_law_L_low ⟨(Nat.le_of_ble_eq_true rfl), (Nat.le_of_ble_eq_true rfl)⟩ hck dL_law_1266 hl.1 (Nat.le_of_ble_eq_true rfl) _ 4 (by omega) (by omega) (fun w hw => ?_)
  refine lv_istore (lv' := [(27, .int (nI w)), (0, .ref bs), (1, .ref ((a 0))), (2, .ref qd), (3, .int (nI nf)), (4, .int (nI mo)), (5, .int (nI n)), (6, .int x6), (7, .int (nI f)), (8, .int (nI g)), (9, .int (nI un)), (10, .int (nI mo)), (11, .int (nI (Ce f))), (12, .int (nI (Fd f))), (13, .int (nI 1)), (14, .int (nI q)), (18, .int (nI kd)), (22, .int (nI st))]) hx hb dL_law_1269 hl (by decide) rfl (fun ls hl => ?_)
  refine lv_iload hx hb dL_law_1271 (lv_at hl 7 rfl) ?_
  refine lv_bipush (v := nI 22) hx hb dL_law_1273 (by decide) ?_
  refine lv_ishr hx hb dL_law_1275 ?_
  refine lv_iconst (v := nI 4) hx hb dL_law_1276 (by decide) ?_
  refine lk_low F gL_law_L_low ⟨(Nat.le_of_ble_eq_true rfl), (Nat.le_of_ble_eq_true rfl)⟩ hck dL_law_1277 hl.1 (Nat.le_of_ble_eq_true rfl) _ 4 (by omega) (by omega) (fun sg hsg => ?_)
  refine lv_istore (lv' := [(28, .int (nI sg)), (27, .int (nI w)), (0, .ref bs), (1, .ref ((a 0))), (2, .ref qd), (3, .int (nI nf)), (4, .int (nI mo)), (5, .int (nI n)), (6, .int x6), (7, .int (nI f)), (8, .int (nI g)), (9, .int (nI un)), (10, .int (nI mo)), (11, .int (nI (Ce f))), (12, .int (nI (Fd f))), (13, .int (nI 1)), (14, .int (nI q)), (18, .int (nI kd)), (22, .int (nI st))]) hx hb dL_law_1280 hl (by decide) rfl (fun ls hl => ?_)
  refine lv_aload_n hx hb dL_law_1282 rfl (lv_at hl 3 rfl) ?_
  refine lv_iload hx hb dL_law_1283 (lv_at hl 9 rfl) ?_
  refine lv_iconst (v := nI 0) hx hb dL_law_1285 (by decide) ?_
  refine lk_of0 F hKK hA gL_law_X3_of ⟨(Nat.le_of_ble_eq_true rfl), (Nat.le_of_ble_eq_true rfl)⟩ hck dL_law_1286 hl.1 (Nat.le_of_ble_eq_true rfl) hST f hf (fun H locs hST => ?_)
  refine lv_istore (lv' := [(29, .int (nI (Ki f))), (28, .int (nI sg)), (27, .int (nI w)), (0, .ref bs), (1, .ref ((a 0))), (2, .ref qd), (3, .int (nI nf)), (4, .int (nI mo)), (5, .int (nI n)), (6, .int x6), (7, .int (nI f)), (8, .int (nI g)), (9, .int (nI un)), (10, .int (nI mo)), (11, .int (nI (Ce f))), (12, .int (nI (Fd f))), (13, .int (nI 1)), (14, .int (nI q)), (18, .int (nI kd)), (22, .int (nI st))]) hx hb dL_law_1289 hl (by decide) rfl (fun ls hl => ?_)
  refine lv_iload hx hb dL_law_1291 (lv_at hl 0 rfl) ?_
  refine lv_iload hx hb dL_law_1293 (lv_at hl 1 rfl) ?_
  refine lv_iload hx hb dL_law_1295 (lv_at hl 14 rfl) ?_
  refine lv_bipush (v := nI 6) hx hb dL_law_1297 (by decide) ?_
  refine lv_irem hx hb dL_law_1299 (by decide) ?_
  refine lv_nm (pk_rem (a := (Ce f)) (d := 6) (by omega) (by omega) (by omega)).symm ?_
  refine lk_many F gL_law_L_many ⟨(Nat.le_of_ble_eq_true rfl), (Nat.le_of_ble_eq_true rfl)⟩ hck dL_law_1300 hl.1 (Nat.le_of_ble_eq_true rfl) (Ki f) sg ((Ce f) % 6) k5 (by omega) (by omega) ?_
  have s2 := st_le (k := Ki f) (s := sg) (c := Ce f % 6) k5 (by omega) (by omega)
  have w3 := wayN_le (k := Ki f) (m := mo % 100) (w := w) (by omega)
  refine lv_istore (lv' := [(30, .int (nI (stN (Ki f) sg ((Ce f) % 6)))), (29, .int (nI (Ki f))), (28, .int (nI sg)), (27, .int (nI w)), (0, .ref bs), (1, .ref ((a 0))), (2, .ref qd), (3, .int (nI nf)), (4, .int (nI mo)), (5, .int (nI n)), (6, .int x6), (7, .int (nI f)), (8, .int (nI g)), (9, .int (nI un)), (10, .int (nI mo)), (11, .int (nI (Ce f))), (12, .int (nI (Fd f))), (13, .int (nI 1)), (14, .int (nI q)), (18, .int (nI kd)), (22, .int (nI st))]) hx hb dL_law_1303 hl (by decide) rfl (fun ls hl => ?_)
  refine lv_iload hx hb dL_law_1305 (lv_at hl 17 rfl) ?_
  refine lv_if_eq (tgt := 1375) hx hb dL_law_1307 (by decide) (fun cz => absurd cz (show ¬ (nI 1 = nI 0) by rw [nI_eq (by omega) (by omega)]; omega)) (fun _ => ?_)
  refine lv_aload_n hx hb dL_law_1310 rfl (lv_at hl 5 rfl) ?_
  refine lv_iconst (v := nI 1) hx hb dL_law_1311 (by decide) ?_
  refine lk_forget1 F hKK hA gL_law_X3_forget ⟨(Nat.le_of_ble_eq_true rfl), (Nat.le_of_ble_eq_true rfl)⟩ hck dL_law_1312 hl.1 (Nat.le_of_ble_eq_true rfl) hST  (fun H locs hST => ?_)
  refine lv_if_lt (tgt := 1375) hx hb dL_law_1315 (by decide) (fun cz => absurd cz (by decide : ¬ (nI 0 < 0))) (fun _ => ?_)
  refine lv_aload_n hx hb dL_law_1318 rfl (lv_at hl 5 rfl) ?_
  refine lv_iload hx hb dL_law_1319 (lv_at hl 11 rfl) ?_
  refine lv_iload hx hb dL_law_1321 (lv_at hl 14 rfl) ?_
  refine lv_bipush (v := nI 100) hx hb dL_law_1323 (by decide) ?_
  refine lv_irem hx hb dL_law_1325 (by decide) ?_
  refine lv_nm (pk_rem (a := mo) (d := 100) (by omega) (by omega) (by omega)).symm ?_
  refine lv_iload hx hb dL_law_1326 (lv_at hl 3 rfl) ?_
  refine lv_iload hx hb dL_law_1328 (lv_at hl 2 rfl) ?_
  refine lv_iload hx hb dL_law_1330 (lv_at hl 15 rfl) ?_
  refine lv_bipush (v := nI 6) hx hb dL_law_1332 (by decide) ?_
  refine lv_irem hx hb dL_law_1334 (by decide) ?_
  refine lv_nm (pk_rem (a := (Ce f)) (d := 6) (by omega) (by omega) (by omega)).symm ?_
  refine lv_iload hx hb dL_law_1335 (lv_at hl 1 rfl) ?_
  refine lv_iload hx hb dL_law_1337 (lv_at hl 14 rfl) ?_
  refine lv_bipush (v := nI 100) hx hb dL_law_1339 (by decide) ?_
  refine lv_irem hx hb dL_law_1341 (by decide) ?_
  refine lv_nm (pk_rem (a := mo) (d := 100) (by omega) (by omega) (by omega)).symm ?_
  refine lv_iload hx hb dL_law_1342 (lv_at hl 3 rfl) ?_
  refine lk_way F gL_law_L_way ⟨(Nat.le_of_ble_eq_true rfl), (Nat.le_of_ble_eq_true rfl)⟩ hck dL_law_1344 hl.1 (Nat.le_of_ble_eq_true rfl) (Ki f) (mo % 100) w k5 (by omega) (by omega) ?_
  refine lv_iload hx hb dL_law_1347 (lv_at hl 0 rfl) ?_
  refine lk_note F hKK hA gL_law_X3_note ⟨(Nat.le_of_ble_eq_true rfl), (Nat.le_of_ble_eq_true rfl)⟩ hck dL_law_1349 hl.1 (Nat.le_of_ble_eq_true rfl) hST f (mo % 100) w sg (Ce f % 6) (wayN (Ki f) (mo % 100) w) (stN (Ki f) sg (Ce f % 6)) hf (by omega) (by omega) (by omega) (by omega) (by omega) (by omega) (by omega) (fun H locs hST => ?_)
  refine lv_iconst (v := nI 1) hx hb dL_law_1352 (by decide) ?_
  refine lv_icmp_ne (tgt := 1375) hx hb dL_law_1353 (by decide) (fun cz => absurd (rfl : nI 1 = nI 1) cz) (fun _ => ?_)
  refine lv_aload_n hx hb dL_law_1356 rfl (lv_at hl 5 rfl) ?_
  refine lv_iload hx hb dL_law_1357 (lv_at hl 11 rfl) ?_
  refine lk_is F hKK hA gL_law_X3_is ⟨(Nat.le_of_ble_eq_true rfl), (Nat.le_of_ble_eq_true rfl)⟩ hck dL_law_1359 hl.1 (Nat.le_of_ble_eq_true rfl) hST f hf (fun H locs hST => ?_)
  have ab1 : (fun k => alN k f (up7 NR 0 f (mo % 100) w sg (Ce f % 6) (wayN (Ki f) (mo % 100) w) (stN (Ki f) sg (Ce f % 6))) (0 + 1)) (Ki f) = true := al_one rfl
  refine lv_iload hx hb dL_law_1362 (lv_at hl 1 rfl) ?_
  refine lv_ishr hx hb dL_law_1364 ?_
  refine lv_iconst (v := nI 1) hx hb dL_law_1365 (by decide) ?_
  refine lv_iand hx hb dL_law_1366 ?_
  refine lv_iconst (v := nI 1) hx hb dL_law_1367 (by decide) ?_
  refine lv_icmp_ne (tgt := 1375) hx hb dL_law_1368 (by decide) (fun cz => absurd (show (nI (enN (fun k => alN k f (up7 NR 0 f (mo % 100) w sg (Ce f % 6) (wayN (Ki f) (mo % 100) w) (stN (Ki f) sg (Ce f % 6))) (0 + 1)) 6) >>> (nI (Ki f) &&& 31)) &&& 1 = nI 1 from (en_bit (B := (fun k => alN k f (up7 NR 0 f (mo % 100) w sg (Ce f % 6) (wayN (Ki f) (mo % 100) w) (stN (Ki f) sg (Ce f % 6))) (0 + 1))) (i := Ki f) (by omega)).trans (congrArg (fun b : Bool => nI b.toNat) ab1)) cz) (fun _ => ?_)
  refine lv_iconst (v := nI 1) hx hb dL_law_1371 (by decide) ?_
  refine lv_goto (tgt := 1376) hx hb dL_law_1372 (by decide) ?_
  refine lv_istore (lv' := [(13, .int (nI 1)), (30, .int (nI (stN (Ki f) sg ((Ce f) % 6)))), (29, .int (nI (Ki f))), (28, .int (nI sg)), (27, .int (nI w)), (0, .ref bs), (1, .ref ((a 0))), (2, .ref qd), (3, .int (nI nf)), (4, .int (nI mo)), (5, .int (nI n)), (6, .int x6), (7, .int (nI f)), (8, .int (nI g)), (9, .int (nI un)), (10, .int (nI mo)), (11, .int (nI (Ce f))), (12, .int (nI (Fd f))), (14, .int (nI q)), (18, .int (nI kd)), (22, .int (nI st))]) hx hb dL_law_1376 hl (by decide) rfl (fun ls hl => ?_)
  refine lv_aload_n hx hb dL_law_1378 rfl (lv_at hl 6 rfl) ?_
  refine lv_iload hx hb dL_law_1379 (lv_at hl 12 rfl) ?_
  refine lk_waits F hKK hA gL_law_X3_waits ⟨(Nat.le_of_ble_eq_true rfl), (Nat.le_of_ble_eq_true rfl)⟩ hck dL_law_1381 hl.1 (Nat.le_of_ble_eq_true rfl) hST f hf (en_ne (A := (fun k => alN k f (up7 NR 0 f (mo % 100) w sg (Ce f % 6) (wayN (Ki f) (mo % 100) w) (stN (Ki f) sg (Ce f % 6))) (0 + 1))) (i := Ki f) (by omega) ab1) (fun tw H locs htw hST => ?_)
  refine lv_istore (lv' := [(31, .int (nI tw)), (13, .int (nI 1)), (30, .int (nI (stN (Ki f) sg ((Ce f) % 6)))), (29, .int (nI (Ki f))), (28, .int (nI sg)), (27, .int (nI w)), (0, .ref bs), (1, .ref ((a 0))), (2, .ref qd), (3, .int (nI nf)), (4, .int (nI mo)), (5, .int (nI n)), (6, .int x6), (7, .int (nI f)), (8, .int (nI g)), (9, .int (nI un)), (10, .int (nI mo)), (11, .int (nI (Ce f))), (12, .int (nI (Fd f))), (14, .int (nI q)), (18, .int (nI kd)), (22, .int (nI st))]) hx hb dL_law_1384 hl (by decide) rfl (fun ls hl => ?_)
  refine lv_iload hx hb dL_law_1386 (lv_at hl 1 rfl) ?_
  refine lv_if_eq (tgt := 1407) hx hb dL_law_1388 (by decide) (fun cz => absurd cz (show ¬ (nI 1 = nI 0) by rw [nI_eq (by omega) (by omega)]; omega)) (fun _ => ?_)
  refine lv_iload hx hb dL_law_1391 (lv_at hl 0 rfl) ?_
  refine lv_if_lt (tgt := 1407) hx hb dL_law_1393 (by decide) (fun cz => absurd cz (show ¬ (nI tw < nI 0) by rw [nI_ltI (by omega) (by omega)]; omega)) (fun _ => ?_)
  refine lv_iload hx hb dL_law_1396 (lv_at hl 0 rfl) ?_
  refine lv_bipush (v := nI 24) hx hb dL_law_1398 (by decide) ?_
  refine lv_icmp_ge (tgt := 1407) hx hb dL_law_1400 (by decide) (fun cz => absurd cz (show ¬ (nI 24 ≤ nI tw) by rw [nI_leI (by omega) (by omega)]; omega)) (fun _ => ?_)
  refine lv_iconst (v := nI 1) hx hb dL_law_1403 (by decide) ?_
  refine lv_goto (tgt := 1408) hx hb dL_law_1404 (by decide) ?_
  refine lv_istore (lv' := [(13, .int (nI 1)), (31, .int (nI tw)), (30, .int (nI (stN (Ki f) sg ((Ce f) % 6)))), (29, .int (nI (Ki f))), (28, .int (nI sg)), (27, .int (nI w)), (0, .ref bs), (1, .ref ((a 0))), (2, .ref qd), (3, .int (nI nf)), (4, .int (nI mo)), (5, .int (nI n)), (6, .int x6), (7, .int (nI f)), (8, .int (nI g)), (9, .int (nI un)), (10, .int (nI mo)), (11, .int (nI (Ce f))), (12, .int (nI (Fd f))), (14, .int (nI q)), (18, .int (nI kd)), (22, .int (nI st))]) hx hb dL_law_1408 hl (by decide) rfl (fun ls hl => ?_)
  exact kont _ _ _ _ hST (lv_sub hl [6, 7, 8, 9, 10, 11, 12, 13, 14, 15, 16, 17, 18, 0, 19, 20, 21] rfl)
