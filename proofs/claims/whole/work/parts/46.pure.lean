/-! the next wind to wait for -/
def trN (k mo w s c : Nat) : Nat := if stN k s c = 0 then 0 else 4 * stN k s c + wayN k mo w
theorem tracks_n {k mo w s c : Nat} (hk : k ≤ 5) (hm : mo < 2 ^ 31) (hw : w ≤ 3) (hs : s ≤ 3) (hc : c ≤ 5) : T_X0_tracks (nI k) (nI mo) (nI w) (nI s) (nI c) = nI (trN k mo w s c) := by
  obtain ⟨s1, s2, s3⟩ := st_all k (by omega) s (by omega) c (by omega)
  have wy := wayOf_n (k := k) (m := mo) (w := w) hk hm hw
  rw [T_X0_tracks, trN]
  by_cases h : stN k s c = 0
  · simp (disch := omega) only [l0, l1, l2, l3, l4, l5, l6, l7, l8, l9, l10, l11, l12, l30, l35, l36, l60, l99, l127, l150, l999, nI_eq, nI_leI, nI_ltI, nI_1, nI_add, pk_mul, obN, nI_clamp, lt', jn, Option.bind_some, inW, inF, inC, inK, fl4, cl4, wi3, T_X3_isFirstOrSecond, badE, fullE, noE, T_X3_refuseBad, T_X3_refuseFull, T_X3_refuseNo, reduceIte, Nat.reduceEqDiff, Nat.reduceLeDiff, Nat.reduceMul, Nat.reduceAdd, Nat.reduceSub, and_true, true_and, s1, h]
  · simp (disch := omega) only [l0, l1, l2, l3, l4, l5, l6, l7, l8, l9, l10, l11, l12, l30, l35, l36, l60, l99, l127, l150, l999, nI_eq, nI_leI, nI_ltI, nI_1, nI_add, pk_mul, obN, nI_clamp, lt', jn, Option.bind_some, inW, inF, inC, inK, fl4, cl4, wi3, T_X3_isFirstOrSecond, badE, fullE, noE, T_X3_refuseBad, T_X3_refuseFull, T_X3_refuseNo, reduceIte, Nat.reduceEqDiff, Nat.reduceLeDiff, Nat.reduceMul, Nat.reduceAdd, Nat.reduceSub, and_true, true_and, s1, h, wy]
theorem areAlike_n {N a b mo c : Nat} {W G : Nat → Nat} {w g : Nat → Int32} (ew : ∀ i, i < 12 → w i = nI (W i)) (eg : ∀ i, i < 12 → g i = nI (G i)) (hW : ∀ i, i < 12 → W i ≤ 3) (hG : ∀ i, i < 12 → G i ≤ 3) (ha : a ≤ 5) (hb : b ≤ 5) (hm : mo < 2 ^ 31) (hc : c ≤ 5) :
    T_X4_areAlike N w g (nI a) (nI b) (nI mo) (nI c) = some (b2 (decide (trN b mo (W (mo % 12)) (G (mo % 12)) c = trN a mo (W (mo % 12)) (G (mo % 12)) c))) := by
  have h12 : mo % 12 < 12 := by omega
  have gw := ew _ h12
  have gg := eg _ h12
  have hw := hW _ h12
  have hg := hG _ h12
  generalize W (mo % 12) = ww at *
  generalize G (mo % 12) = ss at *
  obtain ⟨a1, a2, a3⟩ := st_all a (by omega) ss (by omega) c (by omega)
  obtain ⟨b1, b2', b3⟩ := st_all b (by omega) ss (by omega) c (by omega)
  have wa := wayOf_n (k := a) (m := mo) (w := ww) ha hm hw
  have wb := wayOf_n (k := b) (m := mo) (w := ww) hb hm hw
  have la := wayN_le (k := a) (m := mo) hw
  have lb := wayN_le (k := b) (m := mo) hw
  have e1 := pk_div (a := mo) (d := 12) (by omega) (by omega) (by omega)
  have e2 := pk_rem (a := mo) (d := 12) (by omega) (by omega) (by omega)
  rw [e1, pk_mul] at e2
  rw [T_X4_areAlike, wayBy_e]
  by_cases h1 : stN a ss c = stN b ss c
  · by_cases h2 : stN b ss c = 0
    · have t : trN b mo ww ss c = trN a mo ww ss c := by unfold trN; rw [h1]; simp only [h2, if_true]
      simp (disch := omega) only [l0, l1, l2, l3, l4, l5, l6, l7, l8, l9, l10, l11, l12, l30, l35, l36, l60, l99, l127, l150, l999, nI_eq, nI_leI, nI_ltI, nI_1, nI_add, pk_mul, obN, nI_clamp, lt', jn, Option.bind_some, inW, inF, inC, inK, fl4, cl4, wi3, T_X3_isFirstOrSecond, badE, fullE, noE, T_X3_refuseBad, T_X3_refuseFull, T_X3_refuseNo, reduceIte, Nat.reduceEqDiff, Nat.reduceLeDiff, Nat.reduceMul, Nat.reduceAdd, Nat.reduceSub, and_true, true_and, e1, e2, gw, gg, a2, b2', h1, h2, t, decide_true, b2]
    · by_cases h3 : wayN a mo ww = wayN b mo ww
      · have t : trN b mo ww ss c = trN a mo ww ss c := by unfold trN; rw [h1, h3]
        simp (disch := omega) only [l0, l1, l2, l3, l4, l5, l6, l7, l8, l9, l10, l11, l12, l30, l35, l36, l60, l99, l127, l150, l999, nI_eq, nI_leI, nI_ltI, nI_1, nI_add, pk_mul, obN, nI_clamp, lt', jn, Option.bind_some, inW, inF, inC, inK, fl4, cl4, wi3, T_X3_isFirstOrSecond, badE, fullE, noE, T_X3_refuseBad, T_X3_refuseFull, T_X3_refuseNo, reduceIte, Nat.reduceEqDiff, Nat.reduceLeDiff, Nat.reduceMul, Nat.reduceAdd, Nat.reduceSub, and_true, true_and, e1, e2, gw, gg, a2, b2', h1, h2, wa, wb, h3, t, decide_true, b2]
      · have t : ¬ trN b mo ww ss c = trN a mo ww ss c := by unfold trN; rw [h1, if_neg h2, if_neg h2]; omega
        simp (disch := omega) only [l0, l1, l2, l3, l4, l5, l6, l7, l8, l9, l10, l11, l12, l30, l35, l36, l60, l99, l127, l150, l999, nI_eq, nI_leI, nI_ltI, nI_1, nI_add, pk_mul, obN, nI_clamp, lt', jn, Option.bind_some, inW, inF, inC, inK, fl4, cl4, wi3, T_X3_isFirstOrSecond, badE, fullE, noE, T_X3_refuseBad, T_X3_refuseFull, T_X3_refuseNo, reduceIte, Nat.reduceEqDiff, Nat.reduceLeDiff, Nat.reduceMul, Nat.reduceAdd, Nat.reduceSub, and_true, true_and, e1, e2, gw, gg, a2, b2', h1, h2, wa, wb, h3, t, decide_false, b2, Bool.false_eq_true]
  · have t : ¬ trN b mo ww ss c = trN a mo ww ss c := by
      unfold trN; split <;> split <;> omega
    simp (disch := omega) only [l0, l1, l2, l3, l4, l5, l6, l7, l8, l9, l10, l11, l12, l30, l35, l36, l60, l99, l127, l150, l999, nI_eq, nI_leI, nI_ltI, nI_1, nI_add, pk_mul, obN, nI_clamp, lt', jn, Option.bind_some, inW, inF, inC, inK, fl4, cl4, wi3, T_X3_isFirstOrSecond, badE, fullE, noE, T_X3_refuseBad, T_X3_refuseFull, T_X3_refuseNo, reduceIte, Nat.reduceEqDiff, Nat.reduceLeDiff, Nat.reduceMul, Nat.reduceAdd, Nat.reduceSub, and_true, true_and, e1, e2, gw, gg, a2, b2', h1, t, decide_false, b2, Bool.false_eq_true]
/-- is it one of the set -/
def inS (v : Int32) (k : Nat) : Bool := decide ((v >>> (nI k &&& nI 31)) &&& nI 1 = nI 1)
theorem l31 : (31 : Int32) = nI 31 := rfl
theorem has_n (v : Int32) (k : Nat) : T_X4_has v (nI k) = b2 (inS v k) := by
  rw [T_X4_has, inS]
  by_cases h : (v >>> (nI k &&& nI 31)) &&& nI 1 = nI 1
  · simp (disch := omega) only [l0, l1, l2, l3, l4, l5, l6, l7, l8, l9, l10, l11, l12, l30, l35, l36, l60, l99, l127, l150, l999, nI_eq, nI_leI, nI_ltI, nI_1, nI_add, pk_mul, obN, nI_clamp, lt', jn, Option.bind_some, inW, inF, inC, inK, fl4, cl4, wi3, T_X3_isFirstOrSecond, badE, fullE, noE, T_X3_refuseBad, T_X3_refuseFull, T_X3_refuseNo, reduceIte, Nat.reduceEqDiff, Nat.reduceLeDiff, Nat.reduceMul, Nat.reduceAdd, Nat.reduceSub, and_true, true_and, l31, h, decide_true, b2]
  · simp (disch := omega) only [l0, l1, l2, l3, l4, l5, l6, l7, l8, l9, l10, l11, l12, l30, l35, l36, l60, l99, l127, l150, l999, nI_eq, nI_leI, nI_ltI, nI_1, nI_add, pk_mul, obN, nI_clamp, lt', jn, Option.bind_some, inW, inF, inC, inK, fl4, cl4, wi3, T_X3_isFirstOrSecond, badE, fullE, noE, T_X3_refuseBad, T_X3_refuseFull, T_X3_refuseNo, reduceIte, Nat.reduceEqDiff, Nat.reduceLeDiff, Nat.reduceMul, Nat.reduceAdd, Nat.reduceSub, and_true, true_and, l31, h, decide_false, b2, Bool.false_eq_true]
def alkN (v : Int32) (T : Nat → Nat) (a : Nat) : Nat := if inS v a then cntP (fun k => inS v k && decide (T k = T a)) 6 else 0
theorem alkN_le (v : Int32) (T : Nat → Nat) (a : Nat) : alkN v T a ≤ 6 := by
  unfold alkN
  split
  · exact cntP_le _ 6
  · omega
def mxN (f : Nat → Nat) : Nat → Nat
  | 0 => 0
  | n + 1 => if mxN f n < f n then f n else mxN f n
theorem mxN_le {f : Nat → Nat} {b : Nat} (h : ∀ n, f n ≤ b) : ∀ n, mxN f n ≤ b
  | 0 => Nat.zero_le b
  | n + 1 => by
    have := mxN_le h n
    have := h n
    unfold mxN; split <;> omega
theorem alikeTo_n {N a mo c : Nat} {v : Int32} {W G : Nat → Nat} {w g : Nat → Int32} (hN : 1000 ≤ N) (ew : ∀ i, i < 12 → w i = nI (W i)) (eg : ∀ i, i < 12 → g i = nI (G i)) (hW : ∀ i, i < 12 → W i ≤ 3) (hG : ∀ i, i < 12 → G i ≤ 3) (ha : a ≤ 5) (hm : mo < 2 ^ 31) (hc : c ≤ 5) :
    T_X1_alikeTo N w g (nI a) v (nI mo) (nI c) = some (nI (cntP (fun k => inS v k && decide (trN k mo (W (mo % 12)) (G (mo % 12)) c = trN a mo (W (mo % 12)) (G (mo % 12)) c)) 6)) := by
  have h12 : mo % 12 < 12 := by omega
  have gw := ew _ h12
  have gg := eg _ h12
  have hw := hW _ h12
  have hg := hG _ h12
  generalize W (mo % 12) = ww at *
  generalize G (mo % 12) = ss at *
  have e1 := pk_div (a := mo) (d := 12) (by omega) (by omega) (by omega)
  have e2 := pk_rem (a := mo) (d := 12) (by omega) (by omega) (by omega)
  rw [e1, pk_mul] at e2
  have ta := tracks_n (mo := mo) ha hm hw hg hc
  obtain ⟨r, x1, rfl⟩ := lp (fun n (s : Int32 × Int32) => T_X1_alikeTo_L41 N v (nI mo) (nI c) (nI ww) (nI ss) (nI (trN a mo ww ss c)) n s.1 s.2) (fun k s => s = (nI (cntP (fun k => inS v k && decide (trN k mo ww ss c = trN a mo ww ss c)) k), nI k)) (fun r => r = nI (cntP (fun k => inS v k && decide (trN k mo ww ss c = trN a mo ww ss c)) 6)) 6
    (fun k s n hk hs => by
      subst hs
      have hn5 : ¬ 6 ≤ k := by omega
      have tk := tracks_n (k := k) (mo := mo) (by omega) hm hw hg hc
      have lk : trN k mo ww ss c < 2 ^ 31 := by
        have := (st_all k (by omega) ss (by omega) c (by omega)).2.2
        have := wayN_le (k := k) (m := mo) hw
        unfold trN; split <;> omega
      have lk' : trN a mo ww ss c < 2 ^ 31 := by
        have := (st_all a (by omega) ss (by omega) c (by omega)).2.2
        have := wayN_le (k := a) (m := mo) hw
        unfold trN; split <;> omega
      refine .inl ⟨_, rfl, ?_⟩
      (try simp only)
      rw [T_X1_alikeTo_L41, cntP]
      by_cases h1 : (v >>> (nI k &&& nI 31)) &&& nI 1 = nI 1
      · by_cases h2 : trN k mo ww ss c = trN a mo ww ss c
        · simp (disch := omega) only [l0, l1, l2, l3, l4, l5, l6, l7, l8, l9, l10, l11, l12, l30, l35, l36, l60, l99, l127, l150, l999, nI_eq, nI_leI, nI_ltI, nI_1, nI_add, pk_mul, obN, nI_clamp, lt', jn, Option.bind_some, inW, inF, inC, inK, fl4, cl4, wi3, T_X3_isFirstOrSecond, badE, fullE, noE, T_X3_refuseBad, T_X3_refuseFull, T_X3_refuseNo, reduceIte, Nat.reduceEqDiff, Nat.reduceLeDiff, Nat.reduceMul, Nat.reduceAdd, Nat.reduceSub, and_true, true_and, hn5, l31, h1, h2, tk, inS, decide_true, Bool.and_true]
        · simp (disch := omega) only [l0, l1, l2, l3, l4, l5, l6, l7, l8, l9, l10, l11, l12, l30, l35, l36, l60, l99, l127, l150, l999, nI_eq, nI_leI, nI_ltI, nI_1, nI_add, pk_mul, obN, nI_clamp, lt', jn, Option.bind_some, inW, inF, inC, inK, fl4, cl4, wi3, T_X3_isFirstOrSecond, badE, fullE, noE, T_X3_refuseBad, T_X3_refuseFull, T_X3_refuseNo, reduceIte, Nat.reduceEqDiff, Nat.reduceLeDiff, Nat.reduceMul, Nat.reduceAdd, Nat.reduceSub, and_true, true_and, hn5, l31, h1, h2, tk, inS, decide_true, decide_false, Bool.and_false, Bool.false_eq_true]
      · simp (disch := omega) only [l0, l1, l2, l3, l4, l5, l6, l7, l8, l9, l10, l11, l12, l30, l35, l36, l60, l99, l127, l150, l999, nI_eq, nI_leI, nI_ltI, nI_1, nI_add, pk_mul, obN, nI_clamp, lt', jn, Option.bind_some, inW, inF, inC, inK, fl4, cl4, wi3, T_X3_isFirstOrSecond, badE, fullE, noE, T_X3_refuseBad, T_X3_refuseFull, T_X3_refuseNo, reduceIte, Nat.reduceEqDiff, Nat.reduceLeDiff, Nat.reduceMul, Nat.reduceAdd, Nat.reduceSub, and_true, true_and, hn5, l31, h1, inS, decide_false, Bool.false_and, Bool.false_eq_true])
    (fun s n hs => by
      subst hs
      exact ⟨_, by (try simp only); rw [T_X1_alikeTo_L41]; simp (disch := omega) only [l0, l1, l2, l3, l4, l5, l6, l7, l8, l9, l10, l11, l12, l30, l35, l36, l60, l99, l127, l150, l999, nI_eq, nI_leI, nI_ltI, nI_1, nI_add, pk_mul, obN, nI_clamp, lt', jn, Option.bind_some, inW, inF, inC, inK, fl4, cl4, wi3, T_X3_isFirstOrSecond, badE, fullE, noE, T_X3_refuseBad, T_X3_refuseFull, T_X3_refuseNo, reduceIte, Nat.reduceEqDiff, Nat.reduceLeDiff, Nat.reduceMul, Nat.reduceAdd, Nat.reduceSub, and_true, true_and, Nat.le_refl], rfl⟩)
    6 0 (0, 0) N rfl rfl (by omega)
  rw [T_X1_alikeTo]
  simp (disch := omega) only [l0, l1, l2, l3, l4, l5, l6, l7, l8, l9, l10, l11, l12, l30, l35, l36, l60, l99, l127, l150, l999, nI_eq, nI_leI, nI_ltI, nI_1, nI_add, pk_mul, obN, nI_clamp, lt', jn, Option.bind_some, inW, inF, inC, inK, fl4, cl4, wi3, T_X3_isFirstOrSecond, badE, fullE, noE, T_X3_refuseBad, T_X3_refuseFull, T_X3_refuseNo, reduceIte, Nat.reduceEqDiff, Nat.reduceLeDiff, Nat.reduceMul, Nat.reduceAdd, Nat.reduceSub, and_true, true_and, e1, e2, gw, gg, ta]
  exact x1
theorem mostAlike_n {N mo c : Nat} {v : Int32} {W G : Nat → Nat} {w g : Nat → Int32} (hN : 1000 ≤ N) (ew : ∀ i, i < 12 → w i = nI (W i)) (eg : ∀ i, i < 12 → g i = nI (G i)) (hW : ∀ i, i < 12 → W i ≤ 3) (hG : ∀ i, i < 12 → G i ≤ 3) (hm : mo < 2 ^ 31) (hc : c ≤ 5) :
    T_X1_mostAlike N w g v (nI mo) (nI c) = some (nI (mxN (alkN v (fun k => trN k mo (W (mo % 12)) (G (mo % 12)) c)) 6)) := by
  generalize hT : (fun k => trN k mo (W (mo % 12)) (G (mo % 12)) c) = T
  have ml := mxN_le (alkN_le v T)
  obtain ⟨r, x1, rfl⟩ := lp (fun n (s : Int32 × Int32) => T_X1_mostAlike_L6 N v (nI mo) (nI c) w g n s.1 s.2) (fun k s => s = (nI (mxN (alkN v T) k), nI k)) (fun r => r = nI (mxN (alkN v T) 6)) 6
    (fun k s n hk hs => by
      subst hs
      have hn5 : ¬ 6 ≤ k := by omega
      have lk := ml k
      have la := alkN_le v T k
      have ta := alikeTo_n (a := k) (v := v) hN ew eg hW hG (by omega) hm hc
      rw [show (fun k_1 => inS v k_1 && decide (trN k_1 mo (W (mo % 12)) (G (mo % 12)) c = trN k mo (W (mo % 12)) (G (mo % 12)) c)) = (fun i => inS v i && decide (T i = T k)) by rw [← hT]] at ta
      refine .inl ⟨_, rfl, ?_⟩
      (try simp only)
      rw [T_X1_mostAlike_L6, mxN]
      have cl := cntP_le (fun i => inS v i && decide (T i = T k)) 6
      by_cases h1 : (v >>> (nI k &&& nI 31)) &&& nI 1 = nI 1
      · have ak : alkN v T k = cntP (fun i => inS v i && decide (T i = T k)) 6 := by unfold alkN inS; simp only [h1, decide_true, if_true]
        rw [ak]
        by_cases h2 : mxN (alkN v T) k < cntP (fun i => inS v i && decide (T i = T k)) 6
        · simp (disch := omega) only [l0, l1, l2, l3, l4, l5, l6, l7, l8, l9, l10, l11, l12, l30, l35, l36, l60, l99, l127, l150, l999, nI_eq, nI_leI, nI_ltI, nI_1, nI_add, pk_mul, obN, nI_clamp, lt', jn, Option.bind_some, inW, inF, inC, inK, fl4, cl4, wi3, T_X3_isFirstOrSecond, badE, fullE, noE, T_X3_refuseBad, T_X3_refuseFull, T_X3_refuseNo, reduceIte, Nat.reduceEqDiff, Nat.reduceLeDiff, Nat.reduceMul, Nat.reduceAdd, Nat.reduceSub, and_true, true_and, hn5, l31, h1, h2, ta]
        · simp (disch := omega) only [l0, l1, l2, l3, l4, l5, l6, l7, l8, l9, l10, l11, l12, l30, l35, l36, l60, l99, l127, l150, l999, nI_eq, nI_leI, nI_ltI, nI_1, nI_add, pk_mul, obN, nI_clamp, lt', jn, Option.bind_some, inW, inF, inC, inK, fl4, cl4, wi3, T_X3_isFirstOrSecond, badE, fullE, noE, T_X3_refuseBad, T_X3_refuseFull, T_X3_refuseNo, reduceIte, Nat.reduceEqDiff, Nat.reduceLeDiff, Nat.reduceMul, Nat.reduceAdd, Nat.reduceSub, and_true, true_and, hn5, l31, h1, h2, ta]
      · have ak : alkN v T k = 0 := by unfold alkN inS; simp only [h1, decide_false, Bool.false_eq_true, if_false]
        rw [ak]
        simp (disch := omega) only [l0, l1, l2, l3, l4, l5, l6, l7, l8, l9, l10, l11, l12, l30, l35, l36, l60, l99, l127, l150, l999, nI_eq, nI_leI, nI_ltI, nI_1, nI_add, pk_mul, obN, nI_clamp, lt', jn, Option.bind_some, inW, inF, inC, inK, fl4, cl4, wi3, T_X3_isFirstOrSecond, badE, fullE, noE, T_X3_refuseBad, T_X3_refuseFull, T_X3_refuseNo, reduceIte, Nat.reduceEqDiff, Nat.reduceLeDiff, Nat.reduceMul, Nat.reduceAdd, Nat.reduceSub, and_true, true_and, hn5, l31, h1, Nat.not_lt_zero])
    (fun s n hs => by
      subst hs
      exact ⟨_, by (try simp only); rw [T_X1_mostAlike_L6]; simp (disch := omega) only [l0, l1, l2, l3, l4, l5, l6, l7, l8, l9, l10, l11, l12, l30, l35, l36, l60, l99, l127, l150, l999, nI_eq, nI_leI, nI_ltI, nI_1, nI_add, pk_mul, obN, nI_clamp, lt', jn, Option.bind_some, inW, inF, inC, inK, fl4, cl4, wi3, T_X3_isFirstOrSecond, badE, fullE, noE, T_X3_refuseBad, T_X3_refuseFull, T_X3_refuseNo, reduceIte, Nat.reduceEqDiff, Nat.reduceLeDiff, Nat.reduceMul, Nat.reduceAdd, Nat.reduceSub, and_true, true_and, Nat.le_refl], rfl⟩)
    6 0 (0, 0) N rfl rfl (by omega)
  rw [T_X1_mostAlike]
  exact x1
theorem alike18_n {N a mo c : Nat} {v : Int32} {W G : Nat → Nat} {w g : Nat → Int32} {T : Nat → Nat} (hT : T = (fun k => trN k mo (W (mo % 12)) (G (mo % 12)) c)) (K : Int32 → Option Int32) (ew : ∀ i, i < 12 → w i = nI (W i)) (eg : ∀ i, i < 12 → g i = nI (G i)) (hW : ∀ i, i < 12 → W i ≤ 3) (hG : ∀ i, i < 12 → G i ≤ 3) (ha : a ≤ 5) (hm : mo < 2 ^ 31) (hc : c ≤ 5) :
    ∀ (d k n : Nat), k + d = 6 → d < n → T_X4_alike_L18 N v (nI mo) (nI c) (nI a) w g K n (nI (if inS v a then cntP (fun i => inS v i && decide (T i = T a)) k else 0)) (nI k) = K (nI (alkN v T a)) := by
  intro d
  induction d with
  | zero =>
    intro k n hk hn
    obtain ⟨n, rfl⟩ := Nat.exists_eq_succ_of_ne_zero (show n ≠ 0 by omega)
    obtain rfl : k = 6 := by omega
    rw [T_X4_alike_L18]; simp (disch := omega) only [l0, l1, l2, l3, l4, l5, l6, l7, l8, l9, l10, l11, l12, l30, l35, l36, l60, l99, l127, l150, l999, nI_eq, nI_leI, nI_ltI, nI_1, nI_add, pk_mul, obN, nI_clamp, lt', jn, Option.bind_some, inW, inF, inC, inK, fl4, cl4, wi3, T_X3_isFirstOrSecond, badE, fullE, noE, T_X3_refuseBad, T_X3_refuseFull, T_X3_refuseNo, reduceIte, Nat.reduceEqDiff, Nat.reduceLeDiff, Nat.reduceMul, Nat.reduceAdd, Nat.reduceSub, and_true, true_and, (by omega : 5 < 6)]; rfl
  | succ d ih =>
    intro k n hk hn
    obtain ⟨n, rfl⟩ := Nat.exists_eq_succ_of_ne_zero (show n ≠ 0 by omega)
    have hn5 : ¬ 5 < k := by omega
    have al : T_X4_areAlike N w g (nI a) (nI k) (nI mo) (nI c) = some (b2 (decide (T k = T a))) := by rw [hT]; exact areAlike_n (N := N) (a := a) (b := k) ew eg hW hG ha (by omega) hm hc
    have cl := cntP_le (fun i => inS v i && decide (T i = T a)) k
    rw [← ih (k + 1) n (by omega) (by omega), T_X4_alike_L18, cntP]
    have ha' := has_n v a
    have hk' := has_n v k
    cases h1 : inS v a with
    | false => rw [h1] at ha'; simp (disch := omega) only [l0, l1, l2, l3, l4, l5, l6, l7, l8, l9, l10, l11, l12, l30, l35, l36, l60, l99, l127, l150, l999, nI_eq, nI_leI, nI_ltI, nI_1, nI_add, pk_mul, obN, nI_clamp, lt', jn, Option.bind_some, inW, inF, inC, inK, fl4, cl4, wi3, T_X3_isFirstOrSecond, badE, fullE, noE, T_X3_refuseBad, T_X3_refuseFull, T_X3_refuseNo, reduceIte, Nat.reduceEqDiff, Nat.reduceLeDiff, Nat.reduceMul, Nat.reduceAdd, Nat.reduceSub, and_true, true_and, hn5, ha', b2, Bool.false_eq_true]
    | true =>
      rw [h1] at ha'
      cases h2 : inS v k with
      | false => rw [h2] at hk'; simp (disch := omega) only [l0, l1, l2, l3, l4, l5, l6, l7, l8, l9, l10, l11, l12, l30, l35, l36, l60, l99, l127, l150, l999, nI_eq, nI_leI, nI_ltI, nI_1, nI_add, pk_mul, obN, nI_clamp, lt', jn, Option.bind_some, inW, inF, inC, inK, fl4, cl4, wi3, T_X3_isFirstOrSecond, badE, fullE, noE, T_X3_refuseBad, T_X3_refuseFull, T_X3_refuseNo, reduceIte, Nat.reduceEqDiff, Nat.reduceLeDiff, Nat.reduceMul, Nat.reduceAdd, Nat.reduceSub, and_true, true_and, hn5, ha', hk', b2, Bool.false_eq_true, Bool.false_and, Nat.add_zero]
      | true =>
        rw [h2] at hk'
        by_cases h3 : T k = T a
        · simp (disch := omega) only [l0, l1, l2, l3, l4, l5, l6, l7, l8, l9, l10, l11, l12, l30, l35, l36, l60, l99, l127, l150, l999, nI_eq, nI_leI, nI_ltI, nI_1, nI_add, pk_mul, obN, nI_clamp, lt', jn, Option.bind_some, inW, inF, inC, inK, fl4, cl4, wi3, T_X3_isFirstOrSecond, badE, fullE, noE, T_X3_refuseBad, T_X3_refuseFull, T_X3_refuseNo, reduceIte, Nat.reduceEqDiff, Nat.reduceLeDiff, Nat.reduceMul, Nat.reduceAdd, Nat.reduceSub, and_true, true_and, hn5, ha', hk', b2, h3, al, decide_true, Bool.true_and]
        · simp (disch := omega) only [l0, l1, l2, l3, l4, l5, l6, l7, l8, l9, l10, l11, l12, l30, l35, l36, l60, l99, l127, l150, l999, nI_eq, nI_leI, nI_ltI, nI_1, nI_add, pk_mul, obN, nI_clamp, lt', jn, Option.bind_some, inW, inF, inC, inK, fl4, cl4, wi3, T_X3_isFirstOrSecond, badE, fullE, noE, T_X3_refuseBad, T_X3_refuseFull, T_X3_refuseNo, reduceIte, Nat.reduceEqDiff, Nat.reduceLeDiff, Nat.reduceMul, Nat.reduceAdd, Nat.reduceSub, and_true, true_and, hn5, ha', hk', b2, h3, al, decide_false, Bool.and_false, Bool.false_eq_true, Nat.add_zero]
theorem alike_n {N mo c : Nat} {v : Int32} {W G : Nat → Nat} {w g : Nat → Int32} (hN : 1000 ≤ N) (ew : ∀ i, i < 12 → w i = nI (W i)) (eg : ∀ i, i < 12 → g i = nI (G i)) (hW : ∀ i, i < 12 → W i ≤ 3) (hG : ∀ i, i < 12 → G i ≤ 3) (hm : mo < 2 ^ 31) (hc : c ≤ 5) :
    T_X4_alike N w g v (nI mo) (nI c) = some (nI (mxN (alkN v (fun k => trN k mo (W (mo % 12)) (G (mo % 12)) c)) 6)) := by
  generalize hT : (fun k => trN k mo (W (mo % 12)) (G (mo % 12)) c) = T
  have ml := mxN_le (alkN_le v T)
  obtain ⟨r, x1, rfl⟩ := lp (fun n (s : Int32 × Int32) => T_X4_alike_L6 N v (nI mo) (nI c) w g n s.1 s.2) (fun k s => s = (nI (mxN (alkN v T) k), nI k)) (fun r => r = nI (mxN (alkN v T) 6)) 6
    (fun k s n hk hs => by
      subst hs
      have hn5 : ¬ 5 < k := by omega
      have lk := ml k
      have la := alkN_le v T k
      refine .inl ⟨_, rfl, ?_⟩
      (try simp only)
      rw [T_X4_alike_L6, if_neg (by rw [l5, nI_ltI (by omega) (by omega)]; exact hn5)]
      have z : (0 : Int32) = nI (if inS v k then cntP (fun i => inS v i && decide (T i = T k)) 0 else 0) := by
        split <;> rfl
      have e := alike18_n (N := N) (a := k) (v := v) hT.symm (fun (x48 : Int32) => (jn (fun (x50 : Int32) => (lt' (nI k + 1) fun x55 => (T_X4_alike_L6 N v (nI mo) (nI c) w g n x50 x55))) fun j51 => (if x48 ≤ nI (mxN (alkN v T) k) then (j51 (nI (mxN (alkN v T) k))) else (j51 x48)))) ew eg hW hG (by omega) hm hc 6 0 N rfl (by omega)
      rw [← z] at e
      refine Eq.trans e ?_
      rw [mxN]
      by_cases h2 : mxN (alkN v T) k < alkN v T k
      · have h3 : ¬ alkN v T k ≤ mxN (alkN v T) k := by omega
        simp (disch := omega) only [l0, l1, l2, l3, l4, l5, l6, l7, l8, l9, l10, l11, l12, l30, l35, l36, l60, l99, l127, l150, l999, nI_eq, nI_leI, nI_ltI, nI_1, nI_add, pk_mul, obN, nI_clamp, lt', jn, Option.bind_some, inW, inF, inC, inK, fl4, cl4, wi3, T_X3_isFirstOrSecond, badE, fullE, noE, T_X3_refuseBad, T_X3_refuseFull, T_X3_refuseNo, reduceIte, Nat.reduceEqDiff, Nat.reduceLeDiff, Nat.reduceMul, Nat.reduceAdd, Nat.reduceSub, and_true, true_and, h2, h3]
      · have h3 : alkN v T k ≤ mxN (alkN v T) k := by omega
        simp (disch := omega) only [l0, l1, l2, l3, l4, l5, l6, l7, l8, l9, l10, l11, l12, l30, l35, l36, l60, l99, l127, l150, l999, nI_eq, nI_leI, nI_ltI, nI_1, nI_add, pk_mul, obN, nI_clamp, lt', jn, Option.bind_some, inW, inF, inC, inK, fl4, cl4, wi3, T_X3_isFirstOrSecond, badE, fullE, noE, T_X3_refuseBad, T_X3_refuseFull, T_X3_refuseNo, reduceIte, Nat.reduceEqDiff, Nat.reduceLeDiff, Nat.reduceMul, Nat.reduceAdd, Nat.reduceSub, and_true, true_and, h2, h3])
    (fun s n hs => by
      subst hs
      exact ⟨_, by (try simp only); rw [T_X4_alike_L6]; simp (disch := omega) only [l0, l1, l2, l3, l4, l5, l6, l7, l8, l9, l10, l11, l12, l30, l35, l36, l60, l99, l127, l150, l999, nI_eq, nI_leI, nI_ltI, nI_1, nI_add, pk_mul, obN, nI_clamp, lt', jn, Option.bind_some, inW, inF, inC, inK, fl4, cl4, wi3, T_X3_isFirstOrSecond, badE, fullE, noE, T_X3_refuseBad, T_X3_refuseFull, T_X3_refuseNo, reduceIte, Nat.reduceEqDiff, Nat.reduceLeDiff, Nat.reduceMul, Nat.reduceAdd, Nat.reduceSub, and_true, true_and, (by omega : 5 < 6)], rfl⟩)
    6 0 (0, 0) N rfl rfl (by omega)
  rw [T_X4_alike]
  exact x1
set_option maxHeartbeats 4000000 in
theorem op_waits (N : Nat) (hN : 1000 ≤ N) (x : FIV) (m : MV) (p1 : Int32) (h : REL x m) : ∃ (R : Int32 × Int32) (RM : Int32 × (Nat → Int32)), T_X3_waits N (x_bads x) (xn_month x) (xn_floes x) (xn_notes x) (xn_ways x) (xn_strengths x) (xn_cells x) (xn_noteRows x) p1 = some R ∧ T_X4_waits N (m_many m) (m_now m) (m_noteMany m) (m_refused m) (m_ways m) (m_strengths m) (m_cells m) (m_noted m) p1 = some RM ∧ R.1 = RM.1 ∧ REL ((xn_month x), (xn_ways x), (xn_strengths x), (xn_floes x), (xn_kinds x), (xn_cells x), (xn_foods x), (xn_founds x), (xn_foundRows x), (xn_notes x), (xn_noteRows x), (xn_undos x), (xn_undoRows x), (xs_month x), (xs_ways x), (xs_strengths x), (xs_floes x), (xs_kinds x), (xs_cells x), (xs_foods x), (xs_founds x), (xs_foundRows x), (xs_notes x), (xs_noteRows x), (xs_undos x), (xs_undoRows x), (xt_bytes x), (xt_length x), (xt_place x), (xt_fault x), (x_odds x), (x_nextOdds x), (x_gains x), (x_above x), (x_below x), R.2, (x_nos x), (x_fulls x), (x_img0 x), (x_img1 x)) (RM.2, (m_many m), (m_now m), (m_findMany m), (m_noteMany m), (m_ways m), (m_strengths m), (m_kinds m), (m_cells m), (m_food m), (m_findKind m), (m_findMonth m), (m_findCell m), (m_noted m), (m_text m), (m_typed m), (m_readAt m), (m_readMonth m), (m_readMany m), (m_readFloe m), (m_readWind m), (m_readNumber m), (m_ahead m), (m_undoMany m), (m_aside m), (m_above m), (m_below m), (m_images m), (m_isKept m), (m_h0 m)) := by
  obtain ⟨⟨S, hok, hc, hm⟩, htx, hab, hrf, hg0, hg1⟩ := h
  have q := hok
  have q1 := hc
  have q2 := hm
  obtain ⟨o0, o1, o2, o3, o4, o5, o6, o7, o8, o9, o10, o11, o12⟩ := q
  obtain ⟨⟨c0, c1, c2, c3, c4⟩, c5, c6, c7, c8, c9, c10, c11, c12⟩ := q1
  obtain ⟨⟨m0, m1, m2, m3, m4⟩, m5, m6, m7, m8, m9, m10, m11, m12⟩ := q2
  rcases wif p1 (S 1 0) (by omega) with h0 | ⟨f, hf, rfl, h1⟩
  · refine opI (by rw [T_X3_waits]; simp (disch := omega) only [l0, l1, l2, l3, l4, l5, l6, l7, l8, l9, l10, l11, l12, l30, l35, l36, l60, l99, l127, l150, l999, nI_eq, nI_leI, nI_ltI, nI_1, nI_add, pk_mul, obN, nI_clamp, lt', jn, Option.bind_some, inW, inF, inC, inK, fl4, cl4, wi3, T_X3_isFirstOrSecond, badE, fullE, noE, T_X3_refuseBad, T_X3_refuseFull, T_X3_refuseNo, reduceIte, Nat.reduceEqDiff, Nat.reduceLeDiff, Nat.reduceMul, Nat.reduceAdd, Nat.reduceSub, and_true, true_and, c1, m1, h0]; rfl) (by rw [T_X4_waits]; simp (disch := omega) only [l0, l1, l2, l3, l4, l5, l6, l7, l8, l9, l10, l11, l12, l30, l35, l36, l60, l99, l127, l150, l999, nI_eq, nI_leI, nI_ltI, nI_1, nI_add, pk_mul, obN, nI_clamp, lt', jn, Option.bind_some, inW, inF, inC, inK, fl4, cl4, wi3, T_X3_isFirstOrSecond, badE, fullE, noE, T_X3_refuseBad, T_X3_refuseFull, T_X3_refuseNo, reduceIte, Nat.reduceEqDiff, Nat.reduceLeDiff, Nat.reduceMul, Nat.reduceAdd, Nat.reduceSub, and_true, true_and, c1, m1, h0]; rfl) ?_; exact ⟨rfl, ⟨S, hok, hc, hm⟩, htx, hab, rf_bad hrf, hg0, hg1⟩
  have hf5 : f < 5 := by omega
  obtain ⟨v, v1, v2⟩ := kinds_n (f := f) hN o3 (by omega) c11 m11 o11
  by_cases hv : v = nI 0
  · subst hv
    refine opI (a := (-nI 1, x_bads x)) (b := (-nI 1, m_refused m)) ?_ ?_ ⟨rfl, ⟨S, hok, hc, hm⟩, htx, hab, hrf, hg0, hg1⟩
    · rw [T_X3_waits]; simp (disch := omega) only [l0, l1, l2, l3, l4, l5, l6, l7, l8, l9, l10, l11, l12, l30, l35, l36, l60, l99, l127, l150, l999, nI_eq, nI_leI, nI_ltI, nI_1, nI_add, pk_mul, obN, nI_clamp, lt', jn, Option.bind_some, inW, inF, inC, inK, fl4, cl4, wi3, T_X3_isFirstOrSecond, badE, fullE, noE, T_X3_refuseBad, T_X3_refuseFull, T_X3_refuseNo, reduceIte, Nat.reduceEqDiff, Nat.reduceLeDiff, Nat.reduceMul, Nat.reduceAdd, Nat.reduceSub, and_true, true_and, c1, c3, h1, v1]
    · obtain ⟨n, rfl⟩ := Nat.exists_eq_succ_of_ne_zero (show N ≠ 0 by omega)
      rw [T_X4_waits]; simp (disch := omega) only [l0, l1, l2, l3, l4, l5, l6, l7, l8, l9, l10, l11, l12, l30, l35, l36, l60, l99, l127, l150, l999, nI_eq, nI_leI, nI_ltI, nI_1, nI_add, pk_mul, obN, nI_clamp, lt', jn, Option.bind_some, inW, inF, inC, inK, fl4, cl4, wi3, T_X3_isFirstOrSecond, badE, fullE, noE, T_X3_refuseBad, T_X3_refuseFull, T_X3_refuseNo, reduceIte, Nat.reduceEqDiff, Nat.reduceLeDiff, Nat.reduceMul, Nat.reduceAdd, Nat.reduceSub, and_true, true_and, m1, m3, h1, v2]
      rw [T_X4_waits_L28]; simp only [show (24 : Int32) = nI 24 from rfl]; simp (disch := omega) only [l0, l1, l2, l3, l4, l5, l6, l7, l8, l9, l10, l11, l12, l30, l35, l36, l60, l99, l127, l150, l999, nI_eq, nI_leI, nI_ltI, nI_1, nI_add, pk_mul, obN, nI_clamp, lt', jn, Option.bind_some, inW, inF, inC, inK, fl4, cl4, wi3, T_X3_isFirstOrSecond, badE, fullE, noE, T_X3_refuseBad, T_X3_refuseFull, T_X3_refuseNo, reduceIte, Nat.reduceEqDiff, Nat.reduceLeDiff, Nat.reduceMul, Nat.reduceAdd, Nat.reduceSub, and_true, true_and, (by omega : ¬ 24 ≤ 0)]
  have a8 := c8 f hf
  have b8 := m8 f hf
  have l8 := o8 f hf
  have e1 := pk_div (a := S 8 f) (d := 6) (by omega) (by omega) (by omega)
  have e2 := pk_rem (a := S 8 f) (d := 6) (by omega) (by omega) (by omega)
  rw [e1, pk_mul] at e2
  have hA : ∀ t, ∃ u, u ≤ 6 ∧ (t < 24 → T_X1_mostAlike N (xn_ways x) (xn_strengths x) v (nI (S 0 0 + t)) (nI (S 8 f % 6)) = some (nI u) ∧ T_X4_alike N (m_ways m) (m_strengths m) v (nI (S 0 0 + t)) (nI (S 8 f % 6)) = some (nI u)) :=
    fun t => ⟨_, mxN_le (alkN_le v (fun k => trN k (S 0 0 + t) (S 5 ((S 0 0 + t) % 12)) (S 6 ((S 0 0 + t) % 12)) (S 8 f % 6))) 6, fun ht => ⟨mostAlike_n hN c5 c6 o5 o6 (by omega) (by omega), alike_n hN m5 m6 o5 o6 (by omega) (by omega)⟩⟩
  have key : ∀ (d t : Nat) (b : Int32) (l n n' : Nat), t + d = 24 → l ≤ 6 → d < n → d < n' → ∃ r, T_X3_waits_L37 N (nI f) v (x_bads x) (xn_month x) (xn_ways x) (xn_strengths x) (xn_cells x) n b (nI l) (nI t) = some (r, x_bads x) ∧ T_X4_waits_L28 N (nI f) v (m_now m) (m_ways m) (m_strengths m) (m_cells m) (fun (x40 : Int32) => (some (x40, m_refused m))) n' b (nI l) (nI t) = some (r, m_refused m) := by
    intro d
    induction d with
    | zero =>
      intro t b l n n' ht hl hn hn'
      obtain ⟨n, rfl⟩ := Nat.exists_eq_succ_of_ne_zero (show n ≠ 0 by omega)
      obtain ⟨n', rfl⟩ := Nat.exists_eq_succ_of_ne_zero (show n' ≠ 0 by omega)
      obtain rfl : t = 24 := by omega
      refine ⟨b, ?_, ?_⟩
      · rw [T_X3_waits_L37]; simp only [show (24 : Int32) = nI 24 from rfl]; simp (disch := omega) only [l0, l1, l2, l3, l4, l5, l6, l7, l8, l9, l10, l11, l12, l30, l35, l36, l60, l99, l127, l150, l999, nI_eq, nI_leI, nI_ltI, nI_1, nI_add, pk_mul, obN, nI_clamp, lt', jn, Option.bind_some, inW, inF, inC, inK, fl4, cl4, wi3, T_X3_isFirstOrSecond, badE, fullE, noE, T_X3_refuseBad, T_X3_refuseFull, T_X3_refuseNo, reduceIte, Nat.reduceEqDiff, Nat.reduceLeDiff, Nat.reduceMul, Nat.reduceAdd, Nat.reduceSub, and_true, true_and, Nat.le_refl]
      · rw [T_X4_waits_L28]; simp only [show (24 : Int32) = nI 24 from rfl]; simp (disch := omega) only [l0, l1, l2, l3, l4, l5, l6, l7, l8, l9, l10, l11, l12, l30, l35, l36, l60, l99, l127, l150, l999, nI_eq, nI_leI, nI_ltI, nI_1, nI_add, pk_mul, obN, nI_clamp, lt', jn, Option.bind_some, inW, inF, inC, inK, fl4, cl4, wi3, T_X3_isFirstOrSecond, badE, fullE, noE, T_X3_refuseBad, T_X3_refuseFull, T_X3_refuseNo, reduceIte, Nat.reduceEqDiff, Nat.reduceLeDiff, Nat.reduceMul, Nat.reduceAdd, Nat.reduceSub, and_true, true_and, Nat.le_refl]
    | succ d ih =>
      intro t b l n n' ht hl hn hn'
      obtain ⟨n, rfl⟩ := Nat.exists_eq_succ_of_ne_zero (show n ≠ 0 by omega)
      obtain ⟨n', rfl⟩ := Nat.exists_eq_succ_of_ne_zero (show n' ≠ 0 by omega)
      have hn5 : ¬ 24 ≤ t := by omega
      obtain ⟨u, hu, hx⟩ := hA t
      obtain ⟨x1, x2⟩ := hx (by omega)
      by_cases h2 : l ≤ u
      · obtain ⟨r, r1, r2⟩ := ih (t + 1) b l n n' (by omega) hl (by omega) (by omega)
        refine ⟨r, ?_, ?_⟩
        · rw [T_X3_waits_L37]; simp only [show (24 : Int32) = nI 24 from rfl]; simp (disch := omega) only [l0, l1, l2, l3, l4, l5, l6, l7, l8, l9, l10, l11, l12, l30, l35, l36, l60, l99, l127, l150, l999, nI_eq, nI_leI, nI_ltI, nI_1, nI_add, pk_mul, obN, nI_clamp, lt', jn, Option.bind_some, inW, inF, inC, inK, fl4, cl4, wi3, T_X3_isFirstOrSecond, badE, fullE, noE, T_X3_refuseBad, T_X3_refuseFull, T_X3_refuseNo, reduceIte, Nat.reduceEqDiff, Nat.reduceLeDiff, Nat.reduceMul, Nat.reduceAdd, Nat.reduceSub, and_true, true_and, hn5, a8, e1, e2, c0, x1, h2]; rw [c0] at r1; exact r1
        · rw [T_X4_waits_L28]; simp only [show (24 : Int32) = nI 24 from rfl, T_X4_lesser]
          by_cases h3 : u ≤ l
          · obtain rfl : u = l := by omega
            simp (disch := omega) only [l0, l1, l2, l3, l4, l5, l6, l7, l8, l9, l10, l11, l12, l30, l35, l36, l60, l99, l127, l150, l999, nI_eq, nI_leI, nI_ltI, nI_1, nI_add, pk_mul, obN, nI_clamp, lt', jn, Option.bind_some, inW, inF, inC, inK, fl4, cl4, wi3, T_X3_isFirstOrSecond, badE, fullE, noE, T_X3_refuseBad, T_X3_refuseFull, T_X3_refuseNo, reduceIte, Nat.reduceEqDiff, Nat.reduceLeDiff, Nat.reduceMul, Nat.reduceAdd, Nat.reduceSub, and_true, true_and, hn5, b8, e1, e2, m0, x2, h2, hv]; rw [m0] at r2; exact r2
          · simp (disch := omega) only [l0, l1, l2, l3, l4, l5, l6, l7, l8, l9, l10, l11, l12, l30, l35, l36, l60, l99, l127, l150, l999, nI_eq, nI_leI, nI_ltI, nI_1, nI_add, pk_mul, obN, nI_clamp, lt', jn, Option.bind_some, inW, inF, inC, inK, fl4, cl4, wi3, T_X3_isFirstOrSecond, badE, fullE, noE, T_X3_refuseBad, T_X3_refuseFull, T_X3_refuseNo, reduceIte, Nat.reduceEqDiff, Nat.reduceLeDiff, Nat.reduceMul, Nat.reduceAdd, Nat.reduceSub, and_true, true_and, hn5, b8, e1, e2, m0, x2, h2, h3, hv]; rw [m0] at r2; exact r2
      · obtain ⟨r, r1, r2⟩ := ih (t + 1) (nI t) u n n' (by omega) hu (by omega) (by omega)
        have h3 : u ≤ l := by omega
        refine ⟨r, ?_, ?_⟩
        · rw [T_X3_waits_L37]; simp only [show (24 : Int32) = nI 24 from rfl]; simp (disch := omega) only [l0, l1, l2, l3, l4, l5, l6, l7, l8, l9, l10, l11, l12, l30, l35, l36, l60, l99, l127, l150, l999, nI_eq, nI_leI, nI_ltI, nI_1, nI_add, pk_mul, obN, nI_clamp, lt', jn, Option.bind_some, inW, inF, inC, inK, fl4, cl4, wi3, T_X3_isFirstOrSecond, badE, fullE, noE, T_X3_refuseBad, T_X3_refuseFull, T_X3_refuseNo, reduceIte, Nat.reduceEqDiff, Nat.reduceLeDiff, Nat.reduceMul, Nat.reduceAdd, Nat.reduceSub, and_true, true_and, hn5, a8, e1, e2, c0, x1, h2]; rw [c0] at r1; exact r1
        · rw [T_X4_waits_L28]; simp only [show (24 : Int32) = nI 24 from rfl, T_X4_lesser]; simp (disch := omega) only [l0, l1, l2, l3, l4, l5, l6, l7, l8, l9, l10, l11, l12, l30, l35, l36, l60, l99, l127, l150, l999, nI_eq, nI_leI, nI_ltI, nI_1, nI_add, pk_mul, obN, nI_clamp, lt', jn, Option.bind_some, inW, inF, inC, inK, fl4, cl4, wi3, T_X3_isFirstOrSecond, badE, fullE, noE, T_X3_refuseBad, T_X3_refuseFull, T_X3_refuseNo, reduceIte, Nat.reduceEqDiff, Nat.reduceLeDiff, Nat.reduceMul, Nat.reduceAdd, Nat.reduceSub, and_true, true_and, hn5, b8, e1, e2, m0, x2, h2, h3, hv]; rw [m0] at r2; exact r2
  obtain ⟨n, rfl⟩ := Nat.exists_eq_succ_of_ne_zero (show N ≠ 0 by omega)
  obtain ⟨u, hu, hx⟩ := hA 0
  obtain ⟨x1, x2⟩ := hx (by omega)
  have h7 : ¬ 7 ≤ u := by omega
  have h8 : ¬ 1048576 ≤ u := by omega
  have h9 : u ≤ 1048576 := by omega
  have h24 : ¬ 24 ≤ 0 := by omega
  obtain ⟨r, r1, r2⟩ := key 23 1 (nI 0) u n n (by omega) hu (by omega) (by omega)
  refine opI (a := (r, x_bads x)) (b := (r, m_refused m)) ?_ ?_ ⟨rfl, ⟨S, hok, hc, hm⟩, htx, hab, hrf, hg0, hg1⟩
  · rw [T_X3_waits]; simp (disch := omega) only [l0, l1, l2, l3, l4, l5, l6, l7, l8, l9, l10, l11, l12, l30, l35, l36, l60, l99, l127, l150, l999, nI_eq, nI_leI, nI_ltI, nI_1, nI_add, pk_mul, obN, nI_clamp, lt', jn, Option.bind_some, inW, inF, inC, inK, fl4, cl4, wi3, T_X3_isFirstOrSecond, badE, fullE, noE, T_X3_refuseBad, T_X3_refuseFull, T_X3_refuseNo, reduceIte, Nat.reduceEqDiff, Nat.reduceLeDiff, Nat.reduceMul, Nat.reduceAdd, Nat.reduceSub, and_true, true_and, c1, c3, h1, v1, hv]
    rw [T_X3_waits_L37]; simp only [show (24 : Int32) = nI 24 from rfl]; simp (disch := omega) only [l0, l1, l2, l3, l4, l5, l6, l7, l8, l9, l10, l11, l12, l30, l35, l36, l60, l99, l127, l150, l999, nI_eq, nI_leI, nI_ltI, nI_1, nI_add, pk_mul, obN, nI_clamp, lt', jn, Option.bind_some, inW, inF, inC, inK, fl4, cl4, wi3, T_X3_isFirstOrSecond, badE, fullE, noE, T_X3_refuseBad, T_X3_refuseFull, T_X3_refuseNo, reduceIte, Nat.reduceEqDiff, Nat.reduceLeDiff, Nat.reduceMul, Nat.reduceAdd, Nat.reduceSub, and_true, true_and, (by omega : ¬ 24 ≤ 0), a8, e1, e2, c0, x1, h7]
    rw [c0] at r1; exact r1
  · rw [T_X4_waits]; simp (disch := omega) only [l0, l1, l2, l3, l4, l5, l6, l7, l8, l9, l10, l11, l12, l30, l35, l36, l60, l99, l127, l150, l999, nI_eq, nI_leI, nI_ltI, nI_1, nI_add, pk_mul, obN, nI_clamp, lt', jn, Option.bind_some, inW, inF, inC, inK, fl4, cl4, wi3, T_X3_isFirstOrSecond, badE, fullE, noE, T_X3_refuseBad, T_X3_refuseFull, T_X3_refuseNo, reduceIte, Nat.reduceEqDiff, Nat.reduceLeDiff, Nat.reduceMul, Nat.reduceAdd, Nat.reduceSub, and_true, true_and, m1, m3, h1, v2]
    rw [T_X4_waits_L28]; simp only [show (24 : Int32) = nI 24 from rfl, show (1048576 : Int32) = nI 1048576 from rfl, T_X4_lesser]; simp (disch := omega) only [l0, l1, l2, l3, l4, l5, l6, l7, l8, l9, l10, l11, l12, l30, l35, l36, l60, l99, l127, l150, l999, nI_eq, nI_leI, nI_ltI, nI_1, nI_add, pk_mul, obN, nI_clamp, lt', jn, Option.bind_some, inW, inF, inC, inK, fl4, cl4, wi3, T_X3_isFirstOrSecond, badE, fullE, noE, T_X3_refuseBad, T_X3_refuseFull, T_X3_refuseNo, reduceIte, Nat.reduceEqDiff, Nat.reduceLeDiff, Nat.reduceMul, Nat.reduceAdd, Nat.reduceSub, and_true, true_and, (by omega : ¬ 24 ≤ 0), b8, e1, e2, m0, x2, h8, h9, hv]
    rw [m0] at r2; exact r2
