/-! seeded years -/
def sdN (v : Nat) : Nat → Nat
  | 0 => v
  | i + 1 => (sdN v i * 1103515245 + 12345) % 2147483648
theorem sdN_lt {v : Nat} (hv : v < 2147483648) : ∀ i, sdN v i < 2147483648
  | 0 => hv
  | i + 1 => Nat.mod_lt _ (by omega)
theorem lmul (a b : Nat) : lN a * lN b = lN (a * b) := by
  show Int64.ofNat a * Int64.ofNat b = Int64.ofNat (a * b)
  exact (Int64.ofNat_mul a b).symm
theorem ladd (a b : Nat) : lN a + lN b = lN (a + b) := by
  show Int64.ofNat a + Int64.ofNat b = Int64.ofNat (a + b)
  exact (Int64.ofNat_add a b).symm
theorem sd_step {v i : Nat} (hv : v < 2147483648) : (lN (sdN v i) * 1103515245 + 12345) - (lN (sdN v i) * 1103515245 + 12345) / 2147483648 * 2147483648 = lN (sdN v (i + 1)) := by
  have h := sdN_lt hv i
  have e : lN (sdN v i) * 1103515245 + 12345 = lN (sdN v i * 1103515245 + 12345) := by
    rw [show (1103515245 : Int64) = lN 1103515245 from rfl, show (12345 : Int64) = lN 12345 from rfl, lmul, ladd]
  rw [e, show (2147483648 : Int64) = lN 2147483648 from rfl, pk_lRem (by omega) (by omega) (by omega), sdN]
def wyN (v i : Nat) : Nat := sdN v i / 65536 % 4
def sgN (v i : Nat) : Nat := sdN v i / 1048576 % 4
theorem wy_i {v i : Nat} (hv : v < 2147483648) : ((lN (sdN v i) / 65536) - (lN (sdN v i) / 65536) / 4 * 4).toInt32 = nI (wyN v i) := by
  have h := sdN_lt hv i
  rw [show (65536 : Int64) = lN 65536 from rfl, show (4 : Int64) = lN 4 from rfl, pk_lDiv (by omega) (by omega) (by omega), pk_lRem (by omega) (by omega) (by omega), lN_i, wyN]
theorem sg_i {v i : Nat} (hv : v < 2147483648) : ((lN (sdN v i) / 1048576) - (lN (sdN v i) / 1048576) / 4 * 4).toInt32 = nI (sgN v i) := by
  have h := sdN_lt hv i
  rw [show (1048576 : Int64) = lN 1048576 from rfl, show (4 : Int64) = lN 4 from rfl, pk_lDiv (by omega) (by omega) (by omega), pk_lRem (by omega) (by omega) (by omega), lN_i, sgN]
def ysN (v k c mo : Nat) : Nat → Nat
  | 0 => c
  | i + 1 => nxN k (ysN v k c mo i) (mo + i) (wyN v (i + 1)) (sgN v (i + 1))
theorem wyN_le (v i : Nat) : wyN v i ≤ 3 := by unfold wyN; omega
theorem sgN_le (v i : Nat) : sgN v i ≤ 3 := by unfold sgN; omega
theorem ysN_le {v k c mo : Nat} (hk : k ≤ 5) (hc : c ≤ 35) : ∀ i, ysN v k c mo i ≤ 35
  | 0 => hc
  | i + 1 => nxN_le hk (ysN_le hk hc i) (wyN_le _ _) (sgN_le _ _)
set_option maxHeartbeats 4000000 in
theorem op_years (N : Nat) (hN : 1000 ≤ N) (x : FIV) (m : MV) (p1 p2 : Int32) (h : REL x m) : ∃ (R : Int32 × Int32) (RM : Int32 × Int32 × (Nat → Int32) × (Nat → Int32) × (Nat → Int32) × (Nat → Int32)), T_X3_years N (x_bads x) (xn_month x) (xn_floes x) (xn_kinds x) (xn_cells x) p1 p2 = some R ∧ T_X4_years N (m_many m) (m_now m) (m_refused m) (m_kinds m) (m_cells m) (m_food m) (m_aside m) p1 p2 = some RM ∧ R.1 = RM.1 ∧ REL ((xn_month x), (xn_ways x), (xn_strengths x), (xn_floes x), (xn_kinds x), (xn_cells x), (xn_foods x), (xn_founds x), (xn_foundRows x), (xn_notes x), (xn_noteRows x), (xn_undos x), (xn_undoRows x), (xs_month x), (xs_ways x), (xs_strengths x), (xs_floes x), (xs_kinds x), (xs_cells x), (xs_foods x), (xs_founds x), (xs_foundRows x), (xs_notes x), (xs_noteRows x), (xs_undos x), (xs_undoRows x), (xt_bytes x), (xt_length x), (xt_place x), (xt_fault x), (x_odds x), (x_nextOdds x), (x_gains x), (x_above x), (x_below x), R.2, (x_nos x), (x_fulls x), (x_img0 x), (x_img1 x)) (RM.2.2.1, (m_many m), RM.2.1, (m_findMany m), (m_noteMany m), (m_ways m), (m_strengths m), (m_kinds m), RM.2.2.2.1, RM.2.2.2.2.1, (m_findKind m), (m_findMonth m), (m_findCell m), (m_noted m), (m_text m), (m_typed m), (m_readAt m), (m_readMonth m), (m_readMany m), (m_readFloe m), (m_readWind m), (m_readNumber m), (m_ahead m), (m_undoMany m), RM.2.2.2.2.2, (m_above m), (m_below m), (m_images m), (m_isKept m), (m_h0 m)) := by
  obtain ⟨⟨S, hok, hc, hm⟩, htx, hab, hrf, hg0, hg1⟩ := h
  have q := hok
  have q1 := hc
  have q2 := hm
  obtain ⟨o0, o1, o2, o3, o4, o5, o6, o7, o8, o9, o10, o11, o12⟩ := q
  obtain ⟨⟨c0, c1, c2, c3, c4⟩, c5, c6, c7, c8, c9, c10, c11, c12⟩ := q1
  obtain ⟨⟨m0, m1, m2, m3, m4⟩, m5, m6, m7, m8, m9, m10, m11, m12⟩ := q2
  have lm : (999999 : Int32) = nI 999999 := rfl
  rcases wi p1 999999 (by omega) with h0 | ⟨v, hv, rfl, h1⟩
  · refine opI (by rw [T_X3_years]; simp (disch := omega) only [l0, l1, l2, l3, l4, l5, l6, l7, l8, l9, l10, l11, l12, l30, l35, l36, l60, l99, l127, l150, l999, nI_eq, nI_leI, nI_ltI, nI_1, nI_add, pk_mul, obN, nI_clamp, lt', jn, Option.bind_some, inW, inF, inC, inK, fl4, cl4, wi3, T_X3_isFirstOrSecond, badE, fullE, noE, T_X3_refuseBad, T_X3_refuseFull, T_X3_refuseNo, reduceIte, Nat.reduceEqDiff, Nat.reduceLeDiff, Nat.reduceMul, Nat.reduceAdd, Nat.reduceSub, and_true, true_and, lm, h0]; rfl) (by rw [T_X4_years]; simp (disch := omega) only [l0, l1, l2, l3, l4, l5, l6, l7, l8, l9, l10, l11, l12, l30, l35, l36, l60, l99, l127, l150, l999, nI_eq, nI_leI, nI_ltI, nI_1, nI_add, pk_mul, obN, nI_clamp, lt', jn, Option.bind_some, inW, inF, inC, inK, fl4, cl4, wi3, T_X3_isFirstOrSecond, badE, fullE, noE, T_X3_refuseBad, T_X3_refuseFull, T_X3_refuseNo, reduceIte, Nat.reduceEqDiff, Nat.reduceLeDiff, Nat.reduceMul, Nat.reduceAdd, Nat.reduceSub, and_true, true_and, lm, h0]; rfl) ?_; exact ⟨rfl, ⟨S, hok, hc, hm⟩, htx, hab, rf_bad hrf, hg0, hg1⟩
  rcases wi p2 60 (by omega) with h0 | ⟨n, hn, rfl, h2⟩
  · refine opI (by rw [T_X3_years]; simp (disch := omega) only [l0, l1, l2, l3, l4, l5, l6, l7, l8, l9, l10, l11, l12, l30, l35, l36, l60, l99, l127, l150, l999, nI_eq, nI_leI, nI_ltI, nI_1, nI_add, pk_mul, obN, nI_clamp, lt', jn, Option.bind_some, inW, inF, inC, inK, fl4, cl4, wi3, T_X3_isFirstOrSecond, badE, fullE, noE, T_X3_refuseBad, T_X3_refuseFull, T_X3_refuseNo, reduceIte, Nat.reduceEqDiff, Nat.reduceLeDiff, Nat.reduceMul, Nat.reduceAdd, Nat.reduceSub, and_true, true_and, lm, h0, h1]; rfl) (by rw [T_X4_years]; simp (disch := omega) only [l0, l1, l2, l3, l4, l5, l6, l7, l8, l9, l10, l11, l12, l30, l35, l36, l60, l99, l127, l150, l999, nI_eq, nI_leI, nI_ltI, nI_1, nI_add, pk_mul, obN, nI_clamp, lt', jn, Option.bind_some, inW, inF, inC, inK, fl4, cl4, wi3, T_X3_isFirstOrSecond, badE, fullE, noE, T_X3_refuseBad, T_X3_refuseFull, T_X3_refuseNo, reduceIte, Nat.reduceEqDiff, Nat.reduceLeDiff, Nat.reduceMul, Nat.reduceAdd, Nat.reduceSub, and_true, true_and, lm, h0, h1]; rfl) ?_; exact ⟨rfl, ⟨S, hok, hc, hm⟩, htx, hab, rf_bad hrf, hg0, hg1⟩
  have hv' : v < 2147483648 := by omega
  have sl : (nI v).toInt64 = lN (sdN v 0) := nI_l (by omega)
  have yl : ∀ f, f < S 1 0 → ∀ i, ysN v (S 7 f) (S 8 f) (S 0 0) i ≤ 35 := fun f hf => ysN_le (o7 f hf) (o8 f hf)
  -- the class: floe by floe
  have one : ∀ f, f < S 1 0 → T_X1_cellBySeed N (xn_month x) (xn_kinds x) (xn_cells x) (nI f) (nI v) (nI n) = some (nI (ysN v (S 7 f) (S 8 f) (S 0 0) n)) := by
    intro f hf
    have hf5 : f < 5 := by omega
    have a7 := c7 f hf
    have a8 := c8 f hf
    obtain ⟨r, x1, rfl⟩ := lp (fun j (s : Int32 × Int64 × Int32) => T_X1_cellBySeed_L15 N (nI f) (nI n) (xn_month x) (xn_kinds x) j s.1 s.2.1 s.2.2) (fun i s => s = (nI (ysN v (S 7 f) (S 8 f) (S 0 0) i), lN (sdN v i), nI i)) (fun r => r = nI (ysN v (S 7 f) (S 8 f) (S 0 0) n)) n
      (fun i s j hi hs => by
        subst hs
        have hn5 : ¬ n ≤ i := by omega
        have cb := cellBy_n (m := S 0 0 + i) (o7 f hf) (yl f hf i) (by omega) (wyN_le v (i + 1)) (sgN_le v (i + 1))
        have e1 := sd_step (i := i) hv'
        have e2 := wy_i (i := i + 1) hv'
        have e3 := sg_i (i := i + 1) hv'
        refine .inl ⟨_, rfl, ?_⟩
        (try simp only)
        rw [T_X1_cellBySeed_L15, ysN]
        simp only [lt']
        rw [e1, e2, e3]
        simp (disch := omega) only [l0, l1, l2, l3, l4, l5, l6, l7, l8, l9, l10, l11, l12, l30, l35, l36, l60, l99, l127, l150, l999, nI_eq, nI_leI, nI_ltI, nI_1, nI_add, pk_mul, obN, nI_clamp, lt', jn, Option.bind_some, inW, inF, inC, inK, fl4, cl4, wi3, T_X3_isFirstOrSecond, badE, fullE, noE, T_X3_refuseBad, T_X3_refuseFull, T_X3_refuseNo, reduceIte, Nat.reduceEqDiff, Nat.reduceLeDiff, Nat.reduceMul, Nat.reduceAdd, Nat.reduceSub, and_true, true_and, hn5, a7, c0, cb])
      (fun s j hs => by
        subst hs
        exact ⟨_, by (try simp only); rw [T_X1_cellBySeed_L15]; simp (disch := omega) only [l0, l1, l2, l3, l4, l5, l6, l7, l8, l9, l10, l11, l12, l30, l35, l36, l60, l99, l127, l150, l999, nI_eq, nI_leI, nI_ltI, nI_1, nI_add, pk_mul, obN, nI_clamp, lt', jn, Option.bind_some, inW, inF, inC, inK, fl4, cl4, wi3, T_X3_isFirstOrSecond, badE, fullE, noE, T_X3_refuseBad, T_X3_refuseFull, T_X3_refuseNo, reduceIte, Nat.reduceEqDiff, Nat.reduceLeDiff, Nat.reduceMul, Nat.reduceAdd, Nat.reduceSub, and_true, true_and, Nat.le_refl] <;> rfl, rfl⟩)
      n 0 (nI (S 8 f), lN (sdN v 0), 0) N (by omega) rfl (by omega)
    rw [T_X1_cellBySeed, obN hf5 (by omega), nI_clamp (by omega), a8, sl]
    exact x1
  obtain ⟨r, x1, rfl⟩ := lp (fun j (s : Int32 × Int32) => T_X3_years_L30 N (nI v) (nI n) (x_bads x) (xn_month x) (nI (S 1 0)) (xn_kinds x) (xn_cells x) j s.1 s.2) (fun i s => s = (nI (outN (fun f => ysN v (S 7 f) (S 8 f) (S 0 0) n) i), nI i)) (fun r => r = (nI (outN (fun f => ysN v (S 7 f) (S 8 f) (S 0 0) n) (S 1 0)), x_bads x)) (S 1 0)
    (fun i s j hi hs => by
      subst hs
      have hn5 : ¬ S 1 0 ≤ i := by omega
      have e1 := one i hi
      have e2 := isOut_n (c := ysN v (S 7 i) (S 8 i) (S 0 0) n) (by have := yl i hi n; omega)
      refine .inl ⟨_, rfl, ?_⟩
      (try simp only)
      rw [T_X3_years_L30, outN]
      by_cases h : ysN v (S 7 i) (S 8 i) (S 0 0) n % 6 = 5
      · simp (disch := omega) only [l0, l1, l2, l3, l4, l5, l6, l7, l8, l9, l10, l11, l12, l30, l35, l36, l60, l99, l127, l150, l999, nI_eq, nI_leI, nI_ltI, nI_1, nI_add, pk_mul, obN, nI_clamp, lt', jn, Option.bind_some, inW, inF, inC, inK, fl4, cl4, wi3, T_X3_isFirstOrSecond, badE, fullE, noE, T_X3_refuseBad, T_X3_refuseFull, T_X3_refuseNo, reduceIte, Nat.reduceEqDiff, Nat.reduceLeDiff, Nat.reduceMul, Nat.reduceAdd, Nat.reduceSub, and_true, true_and, hn5, e1, e2, h]
      · simp (disch := omega) only [l0, l1, l2, l3, l4, l5, l6, l7, l8, l9, l10, l11, l12, l30, l35, l36, l60, l99, l127, l150, l999, nI_eq, nI_leI, nI_ltI, nI_1, nI_add, pk_mul, obN, nI_clamp, lt', jn, Option.bind_some, inW, inF, inC, inK, fl4, cl4, wi3, T_X3_isFirstOrSecond, badE, fullE, noE, T_X3_refuseBad, T_X3_refuseFull, T_X3_refuseNo, reduceIte, Nat.reduceEqDiff, Nat.reduceLeDiff, Nat.reduceMul, Nat.reduceAdd, Nat.reduceSub, and_true, true_and, hn5, e1, e2, h, Nat.add_zero])
    (fun s j hs => by
      subst hs
      exact ⟨_, by (try simp only); rw [T_X3_years_L30]; simp (disch := omega) only [l0, l1, l2, l3, l4, l5, l6, l7, l8, l9, l10, l11, l12, l30, l35, l36, l60, l99, l127, l150, l999, nI_eq, nI_leI, nI_ltI, nI_1, nI_add, pk_mul, obN, nI_clamp, lt', jn, Option.bind_some, inW, inF, inC, inK, fl4, cl4, wi3, T_X3_isFirstOrSecond, badE, fullE, noE, T_X3_refuseBad, T_X3_refuseFull, T_X3_refuseNo, reduceIte, Nat.reduceEqDiff, Nat.reduceLeDiff, Nat.reduceMul, Nat.reduceAdd, Nat.reduceSub, and_true, true_and, Nat.le_refl] <;> rfl, rfl⟩)
    (S 1 0) 0 (nI 0, nI 0) N (by omega) rfl (by omega)
  -- the reference: month by month
  obtain ⟨A, eA, A0, A5, -⟩ := lays_n (n1 := 11) (q := 0) hN (by omega) (by omega) (m_now m) (m_cells m) (m_food m) (m_aside m)
  have inner : ∀ (i : Nat) (K : (Nat → Int32) → Option (Int32 × Int32 × (Nat → Int32) × (Nat → Int32) × (Nat → Int32) × (Nat → Int32))) (P : Option (Int32 × Int32 × (Nat → Int32) × (Nat → Int32) × (Nat → Int32) × (Nat → Int32)) → Prop) (hi : i < n),
      (∀ z : Nat → Int32, (∀ f, f < S 1 0 → z f = nI (ysN v (S 7 f) (S 8 f) (S 0 0) (i + 1))) → P (K z)) →
      ∀ (d f j : Nat) (z : Nat → Int32), f + d = S 1 0 → d < j → (∀ g, g < S 1 0 → z g = nI (ysN v (S 7 g) (S 8 g) (S 0 0) (if g < f then i + 1 else i))) → P (T_X4_years_L82 N (nI (wyN v (i + 1))) (nI (sgN v (i + 1))) (nI (S 1 0)) (nI (S 0 0 + i)) (m_kinds m) K j (nI f) z) := by
    intro i K P hi hK d
    induction d with
    | zero =>
      intro f j z hf hj hz
      obtain ⟨j, rfl⟩ := Nat.exists_eq_succ_of_ne_zero (show j ≠ 0 by omega)
      have hle : S 1 0 ≤ f := by omega
      have e : T_X4_years_L82 N (nI (wyN v (i + 1))) (nI (sgN v (i + 1))) (nI (S 1 0)) (nI (S 0 0 + i)) (m_kinds m) K (j + 1) (nI f) z = K z := by
        rw [T_X4_years_L82]
        simp (disch := omega) only [l0, l1, l2, l3, l4, l5, l6, l7, l8, l9, l10, l11, l12, l30, l35, l36, l60, l99, l127, l150, l999, nI_eq, nI_leI, nI_ltI, nI_1, nI_add, pk_mul, obN, nI_clamp, lt', jn, Option.bind_some, inW, inF, inC, inK, fl4, cl4, wi3, T_X3_isFirstOrSecond, badE, fullE, noE, T_X3_refuseBad, T_X3_refuseFull, T_X3_refuseNo, reduceIte, Nat.reduceEqDiff, Nat.reduceLeDiff, Nat.reduceMul, Nat.reduceAdd, Nat.reduceSub, and_true, true_and, hle]
      rw [e]
      exact hK z fun g hg => by rw [hz g hg, if_pos (by omega)]
    | succ d ih =>
      intro f j z hf hj hz
      obtain ⟨j, rfl⟩ := Nat.exists_eq_succ_of_ne_zero (show j ≠ 0 by omega)
      have hle : ¬ S 1 0 ≤ f := by omega
      have hf' : f < S 1 0 := by omega
      have hf5 : f < 5 := by omega
      have b7 := m7 f hf'
      have zf := hz f hf'
      rw [if_neg (Nat.lt_irrefl f)] at zf
      have dn := drifts_n (m := S 0 0 + i) hN (o7 f hf') (yl f hf' i) (by omega) (wyN_le v (i + 1)) (sgN_le v (i + 1))
      have e : T_X4_years_L82 N (nI (wyN v (i + 1))) (nI (sgN v (i + 1))) (nI (S 1 0)) (nI (S 0 0 + i)) (m_kinds m) K (j + 1) (nI f) z = T_X4_years_L82 N (nI (wyN v (i + 1))) (nI (sgN v (i + 1))) (nI (S 1 0)) (nI (S 0 0 + i)) (m_kinds m) K j (nI (f + 1)) (upd z f (nI (ysN v (S 7 f) (S 8 f) (S 0 0) (i + 1)))) := by
        rw [T_X4_years_L82, ysN]
        simp (disch := omega) only [l0, l1, l2, l3, l4, l5, l6, l7, l8, l9, l10, l11, l12, l30, l35, l36, l60, l99, l127, l150, l999, nI_eq, nI_leI, nI_ltI, nI_1, nI_add, pk_mul, obN, nI_clamp, lt', jn, Option.bind_some, inW, inF, inC, inK, fl4, cl4, wi3, T_X3_isFirstOrSecond, badE, fullE, noE, T_X3_refuseBad, T_X3_refuseFull, T_X3_refuseNo, reduceIte, Nat.reduceEqDiff, Nat.reduceLeDiff, Nat.reduceMul, Nat.reduceAdd, Nat.reduceSub, and_true, true_and, hle, b7, zf, dn]
      rw [e]
      refine ih (f + 1) j _ (by omega) (by omega) fun g hg => ?_
      by_cases eg : g = f
      · subst eg; rw [pk_us, if_pos (by omega)]
      · rw [pk_un eg, hz g hg]
        by_cases lt : g < f
        · rw [if_pos lt, if_pos (by omega)]
        · rw [if_neg lt, if_neg (by omega)]
  have outer : ∀ (d i j : Nat) (z : Nat → Int32), i + d = n → d < j → (∀ g, g < S 1 0 → z g = nI (ysN v (S 7 g) (S 8 g) (S 0 0) i)) → ∃ c f, T_X4_years_L35 N (nI n) (nI (S 1 0)) (m_kinds m) (fun z81 z82 => Option.bind (T_X4_outs N (nI (S 1 0)) z82) fun u86 => Option.bind (T_X4_back N z81 z82 (m_food m) A) fun u89 => some (u86, u89.1, m_refused m, u89.2.1, u89.2.2, A)) j (lN (sdN v i)) (nI i) (nI (S 0 0 + i)) z = some (nI (outN (fun f => ysN v (S 7 f) (S 8 f) (S 0 0) n) (S 1 0)), A 0, m_refused m, c, f, A) ∧ ∀ k, k < 5 → c k = A (0 + 1 + k) ∧ f k = A (0 + 6 + k) := by
    intro d
    induction d with
    | zero =>
      intro i j z hi hj hz
      obtain ⟨j, rfl⟩ := Nat.exists_eq_succ_of_ne_zero (show j ≠ 0 by omega)
      obtain rfl : i = n := by omega
      have fo := outs_n (C := fun f => ysN v (S 7 f) (S 8 f) (S 0 0) i) hN o1 hz (fun f hf => yl f hf i)
      obtain ⟨c, f, t1, t2⟩ := takes_n (n1 := 11) (q := 0) hN (by omega) (by omega) (nI (S 0 0 + i)) z (m_food m) A
      refine ⟨c, f, ?_, t2⟩
      rw [T_X4_years_L35, if_pos ((nI_leI (by omega) (by omega)).mpr (Nat.le_refl i)), fo, T_X4_back, l0, t1]
      rfl
    | succ d ih =>
      intro i j z hi hj hz
      obtain ⟨j, rfl⟩ := Nat.exists_eq_succ_of_ne_zero (show j ≠ 0 by omega)
      have e1 := sd_step (i := i) hv'
      have e2 := wy_i (i := i + 1) hv'
      have e3 := sg_i (i := i + 1) hv'
      have hn5 : ¬ nI n ≤ nI i := fun h => absurd ((nI_leI (by omega) (by omega)).mp h) (by omega)
      rw [T_X4_years_L35, if_neg hn5]
      simp only [lt']
      rw [e1, e2, e3]
      have P := inner i (fun z73 => T_X4_years_L35 N (nI n) (nI (S 1 0)) (m_kinds m) (fun z81 z82 => Option.bind (T_X4_outs N (nI (S 1 0)) z82) fun u86 => Option.bind (T_X4_back N z81 z82 (m_food m) A) fun u89 => some (u86, u89.1, m_refused m, u89.2.1, u89.2.2, A)) j (lN (sdN v (i + 1))) (nI i + 1) (nI (S 0 0 + i) + 1) z73)
        (fun o => ∃ c f, o = some (nI (outN (fun f => ysN v (S 7 f) (S 8 f) (S 0 0) n) (S 1 0)), A 0, m_refused m, c, f, A) ∧ ∀ k, k < 5 → c k = A (0 + 1 + k) ∧ f k = A (0 + 6 + k)) (by omega)
        (fun z' hz' => by
          have := ih (i + 1) j z' (by omega) (by omega) hz'
          rw [nI_1, nI_1]
          exact this)
        (S 1 0) 0 N z (by omega) (by omega) (fun g hg => (hz g hg).trans (by rw [if_neg (Nat.not_lt_zero g)]))
      exact P
  obtain ⟨c, f, x2, x3⟩ := outer n 0 N (m_cells m) (by omega) (by omega) m8
  refine opI (a := (nI (outN (fun f => ysN v (S 7 f) (S 8 f) (S 0 0) n) (S 1 0)), x_bads x)) (b := (nI (outN (fun f => ysN v (S 7 f) (S 8 f) (S 0 0) n) (S 1 0)), A 0, m_refused m, c, f, A)) ?_ ?_ ?_
  · refine Eq.trans ?_ x1
    rw [T_X3_years, c1]
    simp (disch := omega) only [l0, l1, l2, l3, l4, l5, l6, l7, l8, l9, l10, l11, l12, l30, l35, l36, l60, l99, l127, l150, l999, nI_eq, nI_leI, nI_ltI, nI_1, nI_add, pk_mul, obN, nI_clamp, lt', jn, Option.bind_some, inW, inF, inC, inK, fl4, cl4, wi3, T_X3_isFirstOrSecond, badE, fullE, noE, T_X3_refuseBad, T_X3_refuseFull, T_X3_refuseNo, reduceIte, Nat.reduceEqDiff, Nat.reduceLeDiff, Nat.reduceMul, Nat.reduceAdd, Nat.reduceSub, and_true, true_and, lm, h1, h2]
  · refine Eq.trans ?_ x2
    have eA' : T_X4_lays N 11 (m_now m) (m_cells m) (m_food m) (m_aside m) 0 = some A := eA
    rw [T_X4_years, T_X4_puts, eA', sl, m1, m0]
    simp (disch := omega) only [l0, l1, l2, l3, l4, l5, l6, l7, l8, l9, l10, l11, l12, l30, l35, l36, l60, l99, l127, l150, l999, nI_eq, nI_leI, nI_ltI, nI_1, nI_add, pk_mul, obN, nI_clamp, lt', jn, Option.bind_some, inW, inF, inC, inK, fl4, cl4, wi3, T_X3_isFirstOrSecond, badE, fullE, noE, T_X3_refuseBad, T_X3_refuseFull, T_X3_refuseNo, reduceIte, Nat.reduceEqDiff, Nat.reduceLeDiff, Nat.reduceMul, Nat.reduceAdd, Nat.reduceSub, and_true, true_and, lm, h1, h2, Nat.add_zero]
  · refine ⟨rfl, ⟨S, hok, hc, ⟨A0.trans m0, m1, m2, m3, m4⟩, m5, m6, m7, fun g hg => ?_, fun g hg => ?_, m10, m11, m12⟩, htx, hab, hrf, hg0, hg1⟩
    · exact (x3 g (by omega)).1.trans ((A5 g (by omega)).1.trans (m8 g hg))
    · exact (x3 g (by omega)).2.trans ((A5 g (by omega)).2.trans (m9 g hg))
