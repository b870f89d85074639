/-! what is folded -/
def f1 (a : Nat → Int32) (h : Int64) : Nat → Int64
  | 0 => h
  | i + 1 => 31 * f1 a h i + (a i).toInt64
def f2 (a b : Nat → Int32) (h : Int64) : Nat → Int64
  | 0 => h
  | i + 1 => 31 * (31 * f2 a b h i + (a i).toInt64) + (b i).toInt64
def f3 (a b c : Nat → Int32) (h : Int64) : Nat → Int64
  | 0 => h
  | i + 1 => 31 * (31 * (31 * f3 a b c h i + (a i).toInt64) + (b i).toInt64) + (c i).toInt64
theorem f1_c {a a' : Nat → Int32} {h : Int64} {n : Nat} (e : ∀ i, i < n → a i = a' i) : ∀ k, k ≤ n → f1 a h k = f1 a' h k
  | 0, _ => rfl
  | k + 1, hk => by rw [f1, f1, f1_c e k (by omega), e k (by omega)]
theorem f2_c {a a' b b' : Nat → Int32} {h : Int64} {n : Nat} (e : ∀ i, i < n → a i = a' i) (e2 : ∀ i, i < n → b i = b' i) : ∀ k, k ≤ n → f2 a b h k = f2 a' b' h k
  | 0, _ => rfl
  | k + 1, hk => by rw [f2, f2, f2_c e e2 k (by omega), e k (by omega), e2 k (by omega)]
theorem f3_c {a a' b b' c c' : Nat → Int32} {h : Int64} {n : Nat} (e : ∀ i, i < n → a i = a' i) (e2 : ∀ i, i < n → b i = b' i) (e3 : ∀ i, i < n → c i = c' i) : ∀ k, k ≤ n → f3 a b c h k = f3 a' b' c' h k
  | 0, _ => rfl
  | k + 1, hk => by rw [f3, f3, f3_c e e2 e3 k (by omega), e k (by omega), e2 k (by omega), e3 k (by omega)]
theorem f1_3 (a : Nat → Int32) (h : Int64) : ∀ n, f1 a h (3 * n) = f3 (fun i => a (3 * i)) (fun i => a (3 * i + 1)) (fun i => a (3 * i + 2)) h n
  | 0 => rfl
  | n + 1 => by
    rw [show 3 * (n + 1) = 3 * n + 1 + 1 + 1 by omega, f1, f1, f1, f1_3 a h n, f3]
theorem row_n {N n2 n : Nat} (hN : 1000 ≤ N) (hn : n ≤ n2) (h2 : n2 ≤ 100) (a : Nat → Int32) (h : Int64) : T_X1_foldRow N n2 a h (nI n) = some (f1 a h n) := by
  obtain ⟨r, x1, rfl⟩ := lp (fun j (s : Int64 × Int32) => T_X1_foldRow_L6 N (nI n) a n2 j s.1 s.2) (fun i s => s = (f1 a h i, nI i)) (fun r => r = f1 a h n) n
    (fun i s j hi hs => by
      subst hs
      have hn5 : ¬ n ≤ i := by omega
      refine .inl ⟨_, rfl, ?_⟩
      (try simp only)
      rw [T_X1_foldRow_L6, f1]
      simp (disch := omega) only [l0, l1, l2, l3, l4, l5, l6, l7, l8, l9, l10, l11, l12, l30, l35, l36, l60, l99, l127, l150, l999, nI_eq, nI_leI, nI_ltI, nI_1, nI_add, pk_mul, obN, nI_clamp, lt', jn, Option.bind_some, inW, inF, inC, inK, fl4, cl4, wi3, T_X3_isFirstOrSecond, badE, fullE, noE, T_X3_refuseBad, T_X3_refuseFull, T_X3_refuseNo, reduceIte, Nat.reduceEqDiff, Nat.reduceLeDiff, Nat.reduceMul, Nat.reduceAdd, Nat.reduceSub, and_true, true_and, hn5])
    (fun s j hs => by
      subst hs
      exact ⟨_, by (try simp only); rw [T_X1_foldRow_L6]; simp (disch := omega) only [l0, l1, l2, l3, l4, l5, l6, l7, l8, l9, l10, l11, l12, l30, l35, l36, l60, l99, l127, l150, l999, nI_eq, nI_leI, nI_ltI, nI_1, nI_add, pk_mul, obN, nI_clamp, lt', jn, Option.bind_some, inW, inF, inC, inK, fl4, cl4, wi3, T_X3_isFirstOrSecond, badE, fullE, noE, T_X3_refuseBad, T_X3_refuseFull, T_X3_refuseNo, reduceIte, Nat.reduceEqDiff, Nat.reduceLeDiff, Nat.reduceMul, Nat.reduceAdd, Nat.reduceSub, and_true, true_and, Nat.le_refl] <;> rfl, rfl⟩)
    n 0 (h, 0) N (by omega) rfl (by omega)
  exact x1
theorem fold5_n {N : Nat} (w g : Nat → Int32) (h : Int64) (K : Int64 → Option Int64) : ∀ (d i j : Nat), i + d = 12 → d < j → T_X1_foldInto_L5 N w g K j (f2 w g h i) (nI i) = K (f2 w g h 12) := by
  intro d
  induction d with
  | zero =>
    intro i j hi hj
    obtain ⟨j, rfl⟩ := Nat.exists_eq_succ_of_ne_zero (show j ≠ 0 by omega)
    obtain rfl : i = 12 := by omega
    rw [T_X1_foldInto_L5]; simp (disch := omega) only [l0, l1, l2, l3, l4, l5, l6, l7, l8, l9, l10, l11, l12, l30, l35, l36, l60, l99, l127, l150, l999, nI_eq, nI_leI, nI_ltI, nI_1, nI_add, pk_mul, obN, nI_clamp, lt', jn, Option.bind_some, inW, inF, inC, inK, fl4, cl4, wi3, T_X3_isFirstOrSecond, badE, fullE, noE, T_X3_refuseBad, T_X3_refuseFull, T_X3_refuseNo, reduceIte, Nat.reduceEqDiff, Nat.reduceLeDiff, Nat.reduceMul, Nat.reduceAdd, Nat.reduceSub, and_true, true_and, Nat.le_refl]
  | succ d ih =>
    intro i j hi hj
    obtain ⟨j, rfl⟩ := Nat.exists_eq_succ_of_ne_zero (show j ≠ 0 by omega)
    have hn5 : ¬ 12 ≤ i := by omega
    rw [← ih (i + 1) j (by omega) (by omega), T_X1_foldInto_L5, f2]
    simp (disch := omega) only [l0, l1, l2, l3, l4, l5, l6, l7, l8, l9, l10, l11, l12, l30, l35, l36, l60, l99, l127, l150, l999, nI_eq, nI_leI, nI_ltI, nI_1, nI_add, pk_mul, obN, nI_clamp, lt', jn, Option.bind_some, inW, inF, inC, inK, fl4, cl4, wi3, T_X3_isFirstOrSecond, badE, fullE, noE, T_X3_refuseBad, T_X3_refuseFull, T_X3_refuseNo, reduceIte, Nat.reduceEqDiff, Nat.reduceLeDiff, Nat.reduceMul, Nat.reduceAdd, Nat.reduceSub, and_true, true_and, hn5]
theorem fold49_n {N n : Nat} (hn : n ≤ 5) (a b c : Nat → Int32) (h : Int64) (K : Int64 → Option Int64) : ∀ (d i j : Nat), i + d = n → d < j → T_X1_foldInto_L49 N (nI n) a b c K j (f3 a b c h i) (nI i) = K (f3 a b c h n) := by
  intro d
  induction d with
  | zero =>
    intro i j hi hj
    obtain ⟨j, rfl⟩ := Nat.exists_eq_succ_of_ne_zero (show j ≠ 0 by omega)
    obtain rfl : i = n := by omega
    rw [T_X1_foldInto_L49]; simp (disch := omega) only [l0, l1, l2, l3, l4, l5, l6, l7, l8, l9, l10, l11, l12, l30, l35, l36, l60, l99, l127, l150, l999, nI_eq, nI_leI, nI_ltI, nI_1, nI_add, pk_mul, obN, nI_clamp, lt', jn, Option.bind_some, inW, inF, inC, inK, fl4, cl4, wi3, T_X3_isFirstOrSecond, badE, fullE, noE, T_X3_refuseBad, T_X3_refuseFull, T_X3_refuseNo, reduceIte, Nat.reduceEqDiff, Nat.reduceLeDiff, Nat.reduceMul, Nat.reduceAdd, Nat.reduceSub, and_true, true_and, Nat.le_refl]
  | succ d ih =>
    intro i j hi hj
    obtain ⟨j, rfl⟩ := Nat.exists_eq_succ_of_ne_zero (show j ≠ 0 by omega)
    have hn5 : ¬ n ≤ i := by omega
    rw [← ih (i + 1) j (by omega) (by omega), T_X1_foldInto_L49, f3]
    simp (disch := omega) only [l0, l1, l2, l3, l4, l5, l6, l7, l8, l9, l10, l11, l12, l30, l35, l36, l60, l99, l127, l150, l999, nI_eq, nI_leI, nI_ltI, nI_1, nI_add, pk_mul, obN, nI_clamp, lt', jn, Option.bind_some, inW, inF, inC, inK, fl4, cl4, wi3, T_X3_isFirstOrSecond, badE, fullE, noE, T_X3_refuseBad, T_X3_refuseFull, T_X3_refuseNo, reduceIte, Nat.reduceEqDiff, Nat.reduceLeDiff, Nat.reduceMul, Nat.reduceAdd, Nat.reduceSub, and_true, true_and, hn5]
theorem dig33_n {N : Nat} (w g : Nat → Int32) (h : Int64) (K : Int64 → Option (Int64 × Int64)) : ∀ (d i j : Nat), i + d = 12 → d < j → T_X4_digest_L33 N w g K j (nI i) (f2 w g h i) = K (f2 w g h 12) := by
  intro d
  induction d with
  | zero =>
    intro i j hi hj
    obtain ⟨j, rfl⟩ := Nat.exists_eq_succ_of_ne_zero (show j ≠ 0 by omega)
    obtain rfl : i = 12 := by omega
    rw [T_X4_digest_L33]; simp (disch := omega) only [l0, l1, l2, l3, l4, l5, l6, l7, l8, l9, l10, l11, l12, l30, l35, l36, l60, l99, l127, l150, l999, nI_eq, nI_leI, nI_ltI, nI_1, nI_add, pk_mul, obN, nI_clamp, lt', jn, Option.bind_some, inW, inF, inC, inK, fl4, cl4, wi3, T_X3_isFirstOrSecond, badE, fullE, noE, T_X3_refuseBad, T_X3_refuseFull, T_X3_refuseNo, reduceIte, Nat.reduceEqDiff, Nat.reduceLeDiff, Nat.reduceMul, Nat.reduceAdd, Nat.reduceSub, and_true, true_and, Nat.le_refl]
  | succ d ih =>
    intro i j hi hj
    obtain ⟨j, rfl⟩ := Nat.exists_eq_succ_of_ne_zero (show j ≠ 0 by omega)
    have hn5 : ¬ 12 ≤ i := by omega
    rw [← ih (i + 1) j (by omega) (by omega), T_X4_digest_L33, f2]
    simp (disch := omega) only [l0, l1, l2, l3, l4, l5, l6, l7, l8, l9, l10, l11, l12, l30, l35, l36, l60, l99, l127, l150, l999, nI_eq, nI_leI, nI_ltI, nI_1, nI_add, pk_mul, obN, nI_clamp, lt', jn, Option.bind_some, inW, inF, inC, inK, fl4, cl4, wi3, T_X3_isFirstOrSecond, badE, fullE, noE, T_X3_refuseBad, T_X3_refuseFull, T_X3_refuseNo, reduceIte, Nat.reduceEqDiff, Nat.reduceLeDiff, Nat.reduceMul, Nat.reduceAdd, Nat.reduceSub, and_true, true_and, hn5, T_X4_mix]
theorem dig69_n {N n : Nat} (hn : n ≤ 5) (a b c : Nat → Int32) (h : Int64) (K : Int64 → Option (Int64 × Int64)) : ∀ (d i j : Nat), i + d = n → d < j → T_X4_digest_L69 N (nI n) a b c K j (nI i) (f3 a b c h i) = K (f3 a b c h n) := by
  intro d
  induction d with
  | zero =>
    intro i j hi hj
    obtain ⟨j, rfl⟩ := Nat.exists_eq_succ_of_ne_zero (show j ≠ 0 by omega)
    obtain rfl : i = n := by omega
    rw [T_X4_digest_L69]; simp (disch := omega) only [l0, l1, l2, l3, l4, l5, l6, l7, l8, l9, l10, l11, l12, l30, l35, l36, l60, l99, l127, l150, l999, nI_eq, nI_leI, nI_ltI, nI_1, nI_add, pk_mul, obN, nI_clamp, lt', jn, Option.bind_some, inW, inF, inC, inK, fl4, cl4, wi3, T_X3_isFirstOrSecond, badE, fullE, noE, T_X3_refuseBad, T_X3_refuseFull, T_X3_refuseNo, reduceIte, Nat.reduceEqDiff, Nat.reduceLeDiff, Nat.reduceMul, Nat.reduceAdd, Nat.reduceSub, and_true, true_and, Nat.le_refl]
  | succ d ih =>
    intro i j hi hj
    obtain ⟨j, rfl⟩ := Nat.exists_eq_succ_of_ne_zero (show j ≠ 0 by omega)
    have hn5 : ¬ n ≤ i := by omega
    rw [← ih (i + 1) j (by omega) (by omega), T_X4_digest_L69, f3]
    simp (disch := omega) only [l0, l1, l2, l3, l4, l5, l6, l7, l8, l9, l10, l11, l12, l30, l35, l36, l60, l99, l127, l150, l999, nI_eq, nI_leI, nI_ltI, nI_1, nI_add, pk_mul, obN, nI_clamp, lt', jn, Option.bind_some, inW, inF, inC, inK, fl4, cl4, wi3, T_X3_isFirstOrSecond, badE, fullE, noE, T_X3_refuseBad, T_X3_refuseFull, T_X3_refuseNo, reduceIte, Nat.reduceEqDiff, Nat.reduceLeDiff, Nat.reduceMul, Nat.reduceAdd, Nat.reduceSub, and_true, true_and, hn5, T_X4_mix]
theorem dig118_n {N n : Nat} (hn : n ≤ 4) (a b c : Nat → Int32) (h : Int64) (K : Int64 → Option (Int64 × Int64)) : ∀ (d i j : Nat), i + d = n → d < j → T_X4_digest_L118 N (nI n) a b c K j (nI i) (f3 a b c h i) = K (f3 a b c h n) := by
  intro d
  induction d with
  | zero =>
    intro i j hi hj
    obtain ⟨j, rfl⟩ := Nat.exists_eq_succ_of_ne_zero (show j ≠ 0 by omega)
    obtain rfl : i = n := by omega
    rw [T_X4_digest_L118]; simp (disch := omega) only [l0, l1, l2, l3, l4, l5, l6, l7, l8, l9, l10, l11, l12, l30, l35, l36, l60, l99, l127, l150, l999, nI_eq, nI_leI, nI_ltI, nI_1, nI_add, pk_mul, obN, nI_clamp, lt', jn, Option.bind_some, inW, inF, inC, inK, fl4, cl4, wi3, T_X3_isFirstOrSecond, badE, fullE, noE, T_X3_refuseBad, T_X3_refuseFull, T_X3_refuseNo, reduceIte, Nat.reduceEqDiff, Nat.reduceLeDiff, Nat.reduceMul, Nat.reduceAdd, Nat.reduceSub, and_true, true_and, Nat.le_refl]
  | succ d ih =>
    intro i j hi hj
    obtain ⟨j, rfl⟩ := Nat.exists_eq_succ_of_ne_zero (show j ≠ 0 by omega)
    have hn5 : ¬ n ≤ i := by omega
    rw [← ih (i + 1) j (by omega) (by omega), T_X4_digest_L118, f3]
    simp (disch := omega) only [l0, l1, l2, l3, l4, l5, l6, l7, l8, l9, l10, l11, l12, l30, l35, l36, l60, l99, l127, l150, l999, nI_eq, nI_leI, nI_ltI, nI_1, nI_add, pk_mul, obN, nI_clamp, lt', jn, Option.bind_some, inW, inF, inC, inK, fl4, cl4, wi3, T_X3_isFirstOrSecond, badE, fullE, noE, T_X3_refuseBad, T_X3_refuseFull, T_X3_refuseNo, reduceIte, Nat.reduceEqDiff, Nat.reduceLeDiff, Nat.reduceMul, Nat.reduceAdd, Nat.reduceSub, and_true, true_and, hn5, T_X4_mix]
theorem dig167_n {N n : Nat} (hn : n ≤ 6) (a : Nat → Int32) (h : Int64) (K : Int64 → Option (Int64 × Int64)) : ∀ (d i j : Nat), i + d = 7 * n → d < j → T_X4_digest_L167 N (nI n) a K j (nI i) (f1 a h i) = K (f1 a h (7 * n)) := by
  intro d
  induction d with
  | zero =>
    intro i j hi hj
    obtain ⟨j, rfl⟩ := Nat.exists_eq_succ_of_ne_zero (show j ≠ 0 by omega)
    obtain rfl : i = 7 * n := by omega
    rw [T_X4_digest_L167]; simp (disch := omega) only [l0, l1, l2, l3, l4, l5, l6, l7, l8, l9, l10, l11, l12, l30, l35, l36, l60, l99, l127, l150, l999, nI_eq, nI_leI, nI_ltI, nI_1, nI_add, pk_mul, obN, nI_clamp, lt', jn, Option.bind_some, inW, inF, inC, inK, fl4, cl4, wi3, T_X3_isFirstOrSecond, badE, fullE, noE, T_X3_refuseBad, T_X3_refuseFull, T_X3_refuseNo, reduceIte, Nat.reduceEqDiff, Nat.reduceLeDiff, Nat.reduceMul, Nat.reduceAdd, Nat.reduceSub, and_true, true_and, Nat.le_refl]
  | succ d ih =>
    intro i j hi hj
    obtain ⟨j, rfl⟩ := Nat.exists_eq_succ_of_ne_zero (show j ≠ 0 by omega)
    have hn5 : ¬ 7 * n ≤ i := by omega
    rw [← ih (i + 1) j (by omega) (by omega), T_X4_digest_L167, f1]
    simp (disch := omega) only [l0, l1, l2, l3, l4, l5, l6, l7, l8, l9, l10, l11, l12, l30, l35, l36, l60, l99, l127, l150, l999, nI_eq, nI_leI, nI_ltI, nI_1, nI_add, pk_mul, obN, nI_clamp, lt', jn, Option.bind_some, inW, inF, inC, inK, fl4, cl4, wi3, T_X3_isFirstOrSecond, badE, fullE, noE, T_X3_refuseBad, T_X3_refuseFull, T_X3_refuseNo, reduceIte, Nat.reduceEqDiff, Nat.reduceLeDiff, Nat.reduceMul, Nat.reduceAdd, Nat.reduceSub, and_true, true_and, hn5, T_X4_mix]
/-- the seven counts -/
def cvS (S : SeaN) (len : Nat) : Nat → Int32 := fun i => match i with
  | 0 => nI (S 1 0) | 1 => nI (S 0 0) | 2 => nI (outN (S 8) (S 1 0)) | 3 => nI (S 2 0) | 4 => nI (S 3 0) | 5 => nI (S 4 0) | _ => nI len
set_option maxHeartbeats 4000000 in
theorem op_digest (N : Nat) (hN : 1000 ≤ N) (x : FIV) (m : MV) (h : REL x m) : ∃ (R : Int64 × Int32) (RM : Int64 × Int64), T_X3_digest N (x_above x) (x_below x) (x_bads x) (xn_month x) (xn_floes x) (xn_founds x) (xn_notes x) (xn_undos x) (xn_ways x) (xn_strengths x) (xn_kinds x) (xn_cells x) (xn_foods x) (xn_foundRows x) (xn_noteRows x) (xt_length x) = some R ∧ T_X4_digest N (m_many m) (m_now m) (m_findMany m) (m_noteMany m) (m_typed m) (m_undoMany m) (m_above m) (m_below m) (m_h0 m) (m_ways m) (m_strengths m) (m_kinds m) (m_cells m) (m_food m) (m_findKind m) (m_findMonth m) (m_findCell m) (m_noted m) = some RM ∧ R.1 = RM.1 ∧ REL ((xn_month x), (xn_ways x), (xn_strengths x), (xn_floes x), (xn_kinds x), (xn_cells x), (xn_foods x), (xn_founds x), (xn_foundRows x), (xn_notes x), (xn_noteRows x), (xn_undos x), (xn_undoRows x), (xs_month x), (xs_ways x), (xs_strengths x), (xs_floes x), (xs_kinds x), (xs_cells x), (xs_foods x), (xs_founds x), (xs_foundRows x), (xs_notes x), (xs_noteRows x), (xs_undos x), (xs_undoRows x), (xt_bytes x), (xt_length x), (xt_place x), (xt_fault x), (x_odds x), (x_nextOdds x), (x_gains x), (x_above x), (x_below x), R.2, (x_nos x), (x_fulls x), (x_img0 x), (x_img1 x)) ((m_refused m), (m_many m), (m_now m), (m_findMany m), (m_noteMany m), (m_ways m), (m_strengths m), (m_kinds m), (m_cells m), (m_food m), (m_findKind m), (m_findMonth m), (m_findCell m), (m_noted m), (m_text m), (m_typed m), (m_readAt m), (m_readMonth m), (m_readMany m), (m_readFloe m), (m_readWind m), (m_readNumber m), (m_ahead m), (m_undoMany m), (m_aside m), (m_above m), (m_below m), (m_images m), (m_isKept m), RM.2) := by
  obtain ⟨⟨S, hok, hc, hm⟩, htx, hab, hrf, hg0, hg1⟩ := h
  have q := hok
  have q1 := hc
  have q2 := hm
  obtain ⟨o0, o1, o2, o3, o4, o5, o6, o7, o8, o9, o10, o11, o12⟩ := q
  obtain ⟨⟨c0, c1, c2, c3, c4⟩, c5, c6, c7, c8, c9, c10, c11, c12⟩ := q1
  obtain ⟨⟨m0, m1, m2, m3, m4⟩, m5, m6, m7, m8, m9, m10, m11, m12⟩ := q2
  have tx := htx
  obtain ⟨n, hn, t1, t2, -⟩ := tx
  have fo1 := floesOut_n hN o1 c8 o8
  have fo2 := outs_n hN o1 m8 o8
  have h7 : ∀ i, i < 7 → i = 0 ∨ i = 1 ∨ i = 2 ∨ i = 3 ∨ i = 4 ∨ i = 5 ∨ i = 6 := by omega
  have ct : ∀ i, i < 7 → ∀ b, T_X3_count N b (nI (S 0 0)) (nI (S 1 0)) (nI (S 2 0)) (nI (S 3 0)) (nI (S 4 0)) (xn_cells x) (nI n) (nI i) = some (cvS S n i, b) := by
    intro i hi b
    rw [T_X3_count]
    obtain rfl | rfl | rfl | rfl | rfl | rfl | rfl := h7 i hi <;> simp (disch := omega) only [l0, l1, l2, l3, l4, l5, l6, l7, l8, l9, l10, l11, l12, l30, l35, l36, l60, l99, l127, l150, l999, nI_eq, nI_leI, nI_ltI, nI_1, nI_add, pk_mul, obN, nI_clamp, lt', jn, Option.bind_some, inW, inF, inC, inK, fl4, cl4, wi3, T_X3_isFirstOrSecond, badE, fullE, noE, T_X3_refuseBad, T_X3_refuseFull, T_X3_refuseNo, reduceIte, Nat.reduceEqDiff, Nat.reduceLeDiff, Nat.reduceMul, Nat.reduceAdd, Nat.reduceSub, and_true, true_and, fo1, cvS]
  have ct4 : ∀ i, i < 7 → T_X4_countOf N (nI (S 1 0)) (nI (S 0 0)) (nI (S 2 0)) (nI (S 3 0)) (nI n) (nI (S 4 0)) (m_cells m) (nI i) = some (cvS S n i) := by
    intro i hi
    rw [T_X4_countOf]
    obtain rfl | rfl | rfl | rfl | rfl | rfl | rfl := h7 i hi <;> simp (disch := omega) only [l0, l1, l2, l3, l4, l5, l6, l7, l8, l9, l10, l11, l12, l30, l35, l36, l60, l99, l127, l150, l999, nI_eq, nI_leI, nI_ltI, nI_1, nI_add, pk_mul, obN, nI_clamp, lt', jn, Option.bind_some, inW, inF, inC, inK, fl4, cl4, wi3, T_X3_isFirstOrSecond, badE, fullE, noE, T_X3_refuseBad, T_X3_refuseFull, T_X3_refuseNo, reduceIte, Nat.reduceEqDiff, Nat.reduceLeDiff, Nat.reduceMul, Nat.reduceAdd, Nat.reduceSub, and_true, true_and, fo2, cvS]
  have L6 : ∀ (K : Int64 → Int32 → Option (Int64 × Int32)) (b : Int32) (d i j : Nat), i + d = 7 → d < j → T_X3_digest_L6 N (nI (S 0 0)) (nI (S 1 0)) (nI (S 2 0)) (nI (S 3 0)) (nI (S 4 0)) (xn_cells x) (nI n) K j (f1 (cvS S n) 1427 i) (nI i) b = K (f1 (cvS S n) 1427 7) b := by
    intro K b d
    induction d with
    | zero =>
      intro i j hi hj
      obtain ⟨j, rfl⟩ := Nat.exists_eq_succ_of_ne_zero (show j ≠ 0 by omega)
      obtain rfl : i = 7 := by omega
      rw [T_X3_digest_L6]; simp (disch := omega) only [l0, l1, l2, l3, l4, l5, l6, l7, l8, l9, l10, l11, l12, l30, l35, l36, l60, l99, l127, l150, l999, nI_eq, nI_leI, nI_ltI, nI_1, nI_add, pk_mul, obN, nI_clamp, lt', jn, Option.bind_some, inW, inF, inC, inK, fl4, cl4, wi3, T_X3_isFirstOrSecond, badE, fullE, noE, T_X3_refuseBad, T_X3_refuseFull, T_X3_refuseNo, reduceIte, Nat.reduceEqDiff, Nat.reduceLeDiff, Nat.reduceMul, Nat.reduceAdd, Nat.reduceSub, and_true, true_and, (by omega : 6 < 7)]
    | succ d ih =>
      intro i j hi hj
      obtain ⟨j, rfl⟩ := Nat.exists_eq_succ_of_ne_zero (show j ≠ 0 by omega)
      have hn5 : ¬ 6 < i := by omega
      have e := ct i (by omega) b
      rw [← ih (i + 1) j (by omega) (by omega), T_X3_digest_L6, f1]
      simp (disch := omega) only [l0, l1, l2, l3, l4, l5, l6, l7, l8, l9, l10, l11, l12, l30, l35, l36, l60, l99, l127, l150, l999, nI_eq, nI_leI, nI_ltI, nI_1, nI_add, pk_mul, obN, nI_clamp, lt', jn, Option.bind_some, inW, inF, inC, inK, fl4, cl4, wi3, T_X3_isFirstOrSecond, badE, fullE, noE, T_X3_refuseBad, T_X3_refuseFull, T_X3_refuseNo, reduceIte, Nat.reduceEqDiff, Nat.reduceLeDiff, Nat.reduceMul, Nat.reduceAdd, Nat.reduceSub, and_true, true_and, hn5, e]
  have L9 : ∀ (K : Int64 → Option (Int64 × Int64)) (d i j : Nat), i + d = 7 → d < j → T_X4_digest_L9 N (nI (S 1 0)) (nI (S 0 0)) (nI (S 2 0)) (nI (S 3 0)) (nI n) (nI (S 4 0)) (m_cells m) K j (nI i) (f1 (cvS S n) 1427 i) = K (f1 (cvS S n) 1427 7) := by
    intro K d
    induction d with
    | zero =>
      intro i j hi hj
      obtain ⟨j, rfl⟩ := Nat.exists_eq_succ_of_ne_zero (show j ≠ 0 by omega)
      obtain rfl : i = 7 := by omega
      rw [T_X4_digest_L9]; simp (disch := omega) only [l0, l1, l2, l3, l4, l5, l6, l7, l8, l9, l10, l11, l12, l30, l35, l36, l60, l99, l127, l150, l999, nI_eq, nI_leI, nI_ltI, nI_1, nI_add, pk_mul, obN, nI_clamp, lt', jn, Option.bind_some, inW, inF, inC, inK, fl4, cl4, wi3, T_X3_isFirstOrSecond, badE, fullE, noE, T_X3_refuseBad, T_X3_refuseFull, T_X3_refuseNo, reduceIte, Nat.reduceEqDiff, Nat.reduceLeDiff, Nat.reduceMul, Nat.reduceAdd, Nat.reduceSub, and_true, true_and, (by omega : 6 < 7)]
    | succ d ih =>
      intro i j hi hj
      obtain ⟨j, rfl⟩ := Nat.exists_eq_succ_of_ne_zero (show j ≠ 0 by omega)
      have hn5 : ¬ 6 < i := by omega
      have e := ct4 i (by omega)
      rw [← ih (i + 1) j (by omega) (by omega), T_X4_digest_L9, f1]
      simp (disch := omega) only [l0, l1, l2, l3, l4, l5, l6, l7, l8, l9, l10, l11, l12, l30, l35, l36, l60, l99, l127, l150, l999, nI_eq, nI_leI, nI_ltI, nI_1, nI_add, pk_mul, obN, nI_clamp, lt', jn, Option.bind_some, inW, inF, inC, inK, fl4, cl4, wi3, T_X3_isFirstOrSecond, badE, fullE, noE, T_X3_refuseBad, T_X3_refuseFull, T_X3_refuseNo, reduceIte, Nat.reduceEqDiff, Nat.reduceLeDiff, Nat.reduceMul, Nat.reduceAdd, Nat.reduceSub, and_true, true_and, hn5, e, T_X4_mix]
  have z0 : ∀ a h, f1 a h 0 = h := fun _ _ => rfl
  obtain ⟨V, hV⟩ : ∃ V, V = f1 (xn_noteRows x) (f1 (xn_foundRows x) (f3 (xn_kinds x) (xn_cells x) (xn_foods x) (f2 (xn_ways x) (xn_strengths x) (f1 (cvS S n) 1427 7) 12) (S 1 0)) (3 * S 2 0)) (7 * S 3 0) := ⟨_, rfl⟩
  have hV' : V = f1 (m_noted m) (f3 (m_findKind m) (m_findMonth m) (m_findCell m) (f3 (m_kinds m) (m_cells m) (m_food m) (f2 (m_ways m) (m_strengths m) (f1 (cvS S n) 1427 7) 12) (S 1 0)) (S 2 0)) (7 * S 3 0) := by
    rw [hV, f1_3]
    rw [f2_c (fun i hi => (c5 i hi).trans (m5 i hi).symm) (fun i hi => (c6 i hi).trans (m6 i hi).symm) 12 (Nat.le_refl _)]
    rw [f3_c (fun i hi => (c7 i hi).trans (m7 i hi).symm) (fun i hi => (c8 i hi).trans (m8 i hi).symm) (fun i hi => (c9 i hi).trans (m9 i hi).symm) (S 1 0) (Nat.le_refl _)]
    rw [f3_c (n := S 2 0) (fun i hi => (c10 (3 * i) (by omega)).trans (m10 i hi).1.symm) (fun i hi => (c10 (3 * i + 1) (by omega)).trans (m10 i hi).2.1.symm) (fun i hi => (c10 (3 * i + 2) (by omega)).trans (m10 i hi).2.2.symm) (S 2 0) (Nat.le_refl _)]
    rw [f1_c (n := 7 * S 3 0) (fun i hi => (c11 i hi).trans (m11 i hi).symm) (7 * S 3 0) (Nat.le_refl _)]
  refine opI (a := (31 * (31 * V + x_above x) + x_below x, x_bads x)) (b := (31 * (31 * V + m_above m) + m_below m, 31 * (31 * V + m_above m) + m_below m)) ?_ ?_ ⟨by rw [hab.1, hab.2], ⟨S, hok, hc, hm⟩, htx, hab, hrf, hg0, hg1⟩
  · have a6 := L6 (fun x21 z22 => Option.bind (T_X1_foldInto N (nI (S 1 0)) (nI (S 2 0)) (nI (S 3 0)) (xn_ways x) (xn_strengths x) (xn_kinds x) (xn_cells x) (xn_foods x) (xn_foundRows x) (xn_noteRows x) x21) fun u26 => lt' (31 * u26 + x_above x) fun x29 => some (31 * x29 + x_below x, z22)) (x_bads x) 7 0 N rfl (by omega)
    rw [T_X3_digest, c0, c1, c2, c3, c4, t1]
    refine a6.trans ?_
    have fi : T_X1_foldInto N (nI (S 1 0)) (nI (S 2 0)) (nI (S 3 0)) (xn_ways x) (xn_strengths x) (xn_kinds x) (xn_cells x) (xn_foods x) (xn_foundRows x) (xn_noteRows x) (f1 (cvS S n) 1427 7) = some V := by
      rw [T_X1_foldInto]
      refine (fold5_n (N := N) (xn_ways x) (xn_strengths x) (f1 (cvS S n) 1427 7) _ 12 0 N rfl (by omega)).trans ?_
      refine (fold49_n (N := N) o1 (xn_kinds x) (xn_cells x) (xn_foods x) _ _ (S 1 0) 0 N (by omega) (by omega)).trans ?_
      rw [l3, l7, pk_mul, pk_mul, row_n hN (by omega) (by omega)]
      simp only [Option.bind_some]
      rw [row_n hN (by omega) (by omega), hV]
      rfl
    simp only [fi, Option.bind_some, lt']
  · rw [T_X4_digest, m0, m1, m2, m3, m4, t2]
    refine (L9 _ 7 0 N rfl (by omega)).trans ?_
    refine (dig33_n (N := N) (m_ways m) (m_strengths m) (f1 (cvS S n) 1427 7) _ 12 0 N rfl (by omega)).trans ?_
    refine (dig69_n (N := N) o1 (m_kinds m) (m_cells m) (m_food m) _ _ (S 1 0) 0 N (by omega) (by omega)).trans ?_
    refine (dig118_n (N := N) o2 (m_findKind m) (m_findMonth m) (m_findCell m) _ _ (S 2 0) 0 N (by omega) (by omega)).trans ?_
    refine (dig167_n (N := N) o3 (m_noted m) _ _ (7 * S 3 0) 0 N (by omega) (by omega)).trans ?_
    rw [hV']
    rfl
