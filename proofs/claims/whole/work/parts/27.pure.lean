set_option maxHeartbeats 4000000 in
theorem op_undo (N : Nat) (hN : 1000 ≤ N) (x : FIV) (m : MV) (h : REL x m) : ∃ (R : Int32 × Int32 × Int32 × Int32 × (Nat → Int32) × (Nat → Int32)) (RM : Int32 × Int32 × Int32 × (Nat → Int32) × (Nat → Int32) × (Nat → Int32)), T_X3_undo N (x_nos x) (xn_month x) (xn_undos x) (xn_cells x) (xn_foods x) (xn_undoRows x) = some R ∧ T_X4_undo N (m_now m) (m_undoMany m) (m_refused m) (m_cells m) (m_food m) (m_ahead m) = some RM ∧ R.1 = RM.1 ∧ REL (R.2.2.1, (xn_ways x), (xn_strengths x), (xn_floes x), (xn_kinds x), R.2.2.2.2.1, R.2.2.2.2.2, (xn_founds x), (xn_foundRows x), (xn_notes x), (xn_noteRows x), R.2.2.2.1, (xn_undoRows x), (xs_month x), (xs_ways x), (xs_strengths x), (xs_floes x), (xs_kinds x), (xs_cells x), (xs_foods x), (xs_founds x), (xs_foundRows x), (xs_notes x), (xs_noteRows x), (xs_undos x), (xs_undoRows x), (xt_bytes x), (xt_length x), (xt_place x), (xt_fault x), (x_odds x), (x_nextOdds x), (x_gains x), (x_above x), (x_below x), (x_bads x), R.2.1, (x_fulls x), (x_img0 x), (x_img1 x)) (RM.2.2.2.1, (m_many m), RM.2.1, (m_findMany m), (m_noteMany m), (m_ways m), (m_strengths m), (m_kinds m), RM.2.2.2.2.1, RM.2.2.2.2.2, (m_findKind m), (m_findMonth m), (m_findCell m), (m_noted m), (m_text m), (m_typed m), (m_readAt m), (m_readMonth m), (m_readMany m), (m_readFloe m), (m_readWind m), (m_readNumber m), (m_ahead m), RM.2.2.1, (m_aside m), (m_above m), (m_below m), (m_images m), (m_isKept m), (m_h0 m)) := by
  obtain ⟨⟨S, hok, hc, hm⟩, htx, hab, hrf, hg0, hg1⟩ := h
  obtain ⟨o0, o1, o2, o3, o4, o5, o6, o7, o8, o9, o10, o11, o12⟩ := hok; obtain ⟨⟨c0, c1, c2, c3, c4⟩, c5, c6, c7, c8, c9, c10, c11, c12⟩ := hc; obtain ⟨⟨m0, m1, m2, m3, m4⟩, m5, m6, m7, m8, m9, m10, m11, m12⟩ := hm
  have hok : okS S := ⟨o0, o1, o2, o3, o4, o5, o6, o7, o8, o9, o10, o11, o12⟩
  have hc : cS S (xn_month x) (xn_floes x) (xn_founds x) (xn_notes x) (xn_undos x) (xn_ways x) (xn_strengths x) (xn_kinds x) (xn_cells x) (xn_foods x) (xn_foundRows x) (xn_noteRows x) (xn_undoRows x) := ⟨⟨c0, c1, c2, c3, c4⟩, c5, c6, c7, c8, c9, c10, c11, c12⟩
  have hm : mS S (m_now m) (m_many m) (m_findMany m) (m_noteMany m) (m_undoMany m) (m_ways m) (m_strengths m) (m_kinds m) (m_cells m) (m_food m) (m_findKind m) (m_findMonth m) (m_findCell m) (m_noted m) (m_ahead m) := ⟨⟨m0, m1, m2, m3, m4⟩, m5, m6, m7, m8, m9, m10, m11, m12⟩
  by_cases h0 : S 4 0 = 0
  · have e0 : xn_undos x = nI 0 := by rw [c4, h0]
    have e1 : m_undoMany m = nI 0 := by rw [m4, h0]
    have e5 : nI 0 = nI (S 4 0) := by rw [h0]
    refine opI (by rw [T_X3_undo]; simp (disch := omega) only [l0, l1, l2, l3, l4, l5, l6, l7, l8, l9, l10, l11, l12, l30, l35, l36, l60, l99, l127, l150, l999, nI_eq, nI_leI, nI_ltI, nI_1, nI_add, pk_mul, obN, nI_clamp, lt', jn, Option.bind_some, inW, inF, inC, inK, fl4, cl4, wi3, T_X3_isFirstOrSecond, badE, fullE, noE, T_X3_refuseBad, T_X3_refuseFull, T_X3_refuseNo, reduceIte, Nat.reduceEqDiff, Nat.reduceLeDiff, Nat.reduceMul, Nat.reduceAdd, Nat.reduceSub, and_true, true_and, e0]; rfl) (by rw [T_X4_undo]; simp (disch := omega) only [l0, l1, l2, l3, l4, l5, l6, l7, l8, l9, l10, l11, l12, l30, l35, l36, l60, l99, l127, l150, l999, nI_eq, nI_leI, nI_ltI, nI_1, nI_add, pk_mul, obN, nI_clamp, lt', jn, Option.bind_some, inW, inF, inC, inK, fl4, cl4, wi3, T_X3_isFirstOrSecond, badE, fullE, noE, T_X3_refuseBad, T_X3_refuseFull, T_X3_refuseNo, reduceIte, Nat.reduceEqDiff, Nat.reduceLeDiff, Nat.reduceMul, Nat.reduceAdd, Nat.reduceSub, and_true, true_and, e1]; rfl) ?_
    exact ⟨rfl, ⟨S, hok, ⟨⟨c0, c1, c2, c3, e5⟩, c5, c6, c7, c8, c9, c10, c11, c12⟩, ⟨⟨m0, m1, m2, m3, e5⟩, m5, m6, m7, m8, m9, m10, m11, m12⟩⟩, htx, hab, rf_no hrf, hg0, hg1⟩
  · obtain ⟨v, hv⟩ : ∃ v, S 4 0 = v + 1 := ⟨S 4 0 - 1, by omega⟩
    have e0 : xn_undos x = nI (v + 1) := by rw [c4, hv]
    have e1 : m_undoMany m = nI (v + 1) := by rw [m4, hv]
    have p1 : nI (v + 1) - nI 1 = nI v := nI_pred v
    obtain ⟨c, f, t1, t2⟩ := takes_n (n1 := 88) (q := 11 * v) hN (by omega) (by omega) (m_now m) (m_cells m) (m_food m) (m_ahead m)
    have hne : ¬ v + 1 = 0 := by omega
    refine opI (by rw [T_X3_undo, T_X1_takeBack]; simp (disch := omega) only [l0, l1, l2, l3, l4, l5, l6, l7, l8, l9, l10, l11, l12, l30, l35, l36, l60, l99, l127, l150, l999, nI_eq, nI_leI, nI_ltI, nI_1, nI_add, pk_mul, obN, nI_clamp, lt', jn, Option.bind_some, inW, inF, inC, inK, fl4, cl4, wi3, T_X3_isFirstOrSecond, badE, fullE, noE, T_X3_refuseBad, T_X3_refuseFull, T_X3_refuseNo, reduceIte, Nat.reduceEqDiff, Nat.reduceLeDiff, Nat.reduceMul, Nat.reduceAdd, Nat.reduceSub, and_true, true_and, e0, p1, gcN, hne]; rfl) (by rw [T_X4_undo]; simp (disch := omega) only [l0, l1, l2, l3, l4, l5, l6, l7, l8, l9, l10, l11, l12, l30, l35, l36, l60, l99, l127, l150, l999, nI_eq, nI_leI, nI_ltI, nI_1, nI_add, pk_mul, obN, nI_clamp, lt', jn, Option.bind_some, inW, inF, inC, inK, fl4, cl4, wi3, T_X3_isFirstOrSecond, badE, fullE, noE, T_X3_refuseBad, T_X3_refuseFull, T_X3_refuseNo, reduceIte, Nat.reduceEqDiff, Nat.reduceLeDiff, Nat.reduceMul, Nat.reduceAdd, Nat.reduceSub, and_true, true_and, e1, p1, t1, hne]; rfl) ?_
    have q := c12 v (by omega)
    have q' := m12 v (by omega)
    have qo := o12 v (by omega)
    refine ⟨q.1.trans q'.1.symm, ⟨mkS (S 12 (11 * v)) (S 1 0) (S 2 0) (S 3 0) v (S 5) (S 6) (S 7) (fun f => S 12 (11 * v + 1 + f)) (fun f => S 12 (11 * v + 6 + f)) (S 10) (S 11) (S 12),
      ⟨qo.1, o1, o2, o3, by show v ≤ 8; omega, o5, o6, o7, fun f hf => (qo.2 f hf).1, fun f hf => (qo.2 f hf).2, o10, o11, fun u hu => o12 u (by have : u < v := hu; omega)⟩,
      ⟨⟨q.1, c1, c2, c3, rfl⟩, c5, c6, c7, ?_, ?_, c10, c11, fun u hu => c12 u (by have : u < v := hu; omega)⟩,
      ⟨⟨q'.1, m1, m2, m3, rfl⟩, m5, m6, m7, ?_, ?_, m10, m11, fun u hu => m12 u (by have : u < v := hu; omega)⟩⟩, htx, hab, hrf, hg0, hg1⟩
    · intro f hf
      have hf : f < S 1 0 := hf
      refine Eq.trans ?_ (q.2 f hf).1
      show va_cpy (xn_undoRows x) (xn_cells x) (11 * v + 1) 0 5 f = _
      rw [pk_cpy_in (by omega) (by omega), Nat.sub_zero]
    · intro f hf
      have hf : f < S 1 0 := hf
      refine Eq.trans ?_ (q.2 f hf).2
      show va_cpy (xn_undoRows x) (xn_foods x) (11 * v + 1 + 5) 0 5 f = _
      rw [pk_cpy_in (by omega) (by omega), Nat.sub_zero]
    · intro f hf
      have hf : f < S 1 0 := hf
      exact (t2 f (by omega)).1.trans (q'.2 f hf).1
    · intro f hf
      have hf : f < S 1 0 := hf
      exact (t2 f (by omega)).2.trans (q'.2 f hf).2
/-- how many of some floes are out -/
def outN (C : Nat → Nat) : Nat → Nat
  | 0 => 0
  | n + 1 => outN C n + if C n % 6 = 5 then 1 else 0
theorem outN_le (C : Nat → Nat) : ∀ n, outN C n ≤ n
  | 0 => Nat.le_refl 0
  | n + 1 => by
    have := outN_le C n
    rw [outN]
    split <;> omega
theorem isOut_n {c : Nat} (hc : c < 2 ^ 31) : T_X3_isOut (nI c) = nI (if c % 6 = 5 then 1 else 0) := by
  by_cases h : c % 6 = 5 <;> simp (disch := omega) only [T_X3_isOut, l0, l1, l5, l6, pk_rem, nI_eq, h, reduceIte, Nat.reduceEqDiff]
theorem isOut_e : T_X4_isOut = T_X3_isOut := rfl
theorem floesOut_n {N n : Nat} (hN : 1000 ≤ N) (hn : n ≤ 5) {cells : Nat → Int32} {C : Nat → Nat} (hc : ∀ f, f < n → cells f = nI (C f)) (hC : ∀ f, f < n → C f ≤ 35) : T_X1_floesOut N (nI n) cells = some (nI (outN C n)) := by
  obtain ⟨r, h1, rfl⟩ := lp (fun k (s : Int32 × Int32) => T_X1_floesOut_L4 N (nI n) cells k s.1 s.2) (fun i s => s.2 = nI i ∧ s.1 = nI (outN C i)) (fun r => r = nI (outN C n)) n
    (fun i s k hi ⟨h1, h2⟩ => by
      obtain ⟨s1, s2⟩ := s
      simp only at h1 h2
      subst h1 h2
      refine .inl ⟨(nI (outN C (i + 1)), nI (i + 1)), ⟨rfl, rfl⟩, ?_⟩
      have hn5 : ¬ n ≤ i := by omega
      have e1 := hc i hi
      have e2 := isOut_n (c := C i) (by have := hC i hi; omega)
      have e3 := outN_le C i
      simp only
      rw [T_X1_floesOut_L4, outN]
      by_cases h : C i % 6 = 5
      · simp (disch := omega) only [l0, l1, l2, l3, l4, l5, l6, l7, l8, l9, l10, l11, l12, l30, l35, l36, l60, l99, l127, l150, l999, nI_eq, nI_leI, nI_ltI, nI_1, nI_add, pk_mul, obN, nI_clamp, lt', jn, Option.bind_some, inW, inF, inC, inK, fl4, cl4, wi3, T_X3_isFirstOrSecond, badE, fullE, noE, T_X3_refuseBad, T_X3_refuseFull, T_X3_refuseNo, reduceIte, Nat.reduceEqDiff, Nat.reduceLeDiff, Nat.reduceMul, Nat.reduceAdd, Nat.reduceSub, and_true, true_and, hn5, e1, e2, h]
      · simp (disch := omega) only [l0, l1, l2, l3, l4, l5, l6, l7, l8, l9, l10, l11, l12, l30, l35, l36, l60, l99, l127, l150, l999, nI_eq, nI_leI, nI_ltI, nI_1, nI_add, pk_mul, obN, nI_clamp, lt', jn, Option.bind_some, inW, inF, inC, inK, fl4, cl4, wi3, T_X3_isFirstOrSecond, badE, fullE, noE, T_X3_refuseBad, T_X3_refuseFull, T_X3_refuseNo, reduceIte, Nat.reduceEqDiff, Nat.reduceLeDiff, Nat.reduceMul, Nat.reduceAdd, Nat.reduceSub, and_true, true_and, hn5, e1, e2, h, Nat.add_zero])
    (fun s k ⟨h1, h2⟩ => ⟨_, by (try simp only); rw [T_X1_floesOut_L4, h1, h2]; simp (disch := omega) only [l0, l1, l2, l3, l4, l5, l6, l7, l8, l9, l10, l11, l12, l30, l35, l36, l60, l99, l127, l150, l999, nI_eq, nI_leI, nI_ltI, nI_1, nI_add, pk_mul, obN, nI_clamp, lt', jn, Option.bind_some, inW, inF, inC, inK, fl4, cl4, wi3, T_X3_isFirstOrSecond, badE, fullE, noE, T_X3_refuseBad, T_X3_refuseFull, T_X3_refuseNo, reduceIte, Nat.reduceEqDiff, Nat.reduceLeDiff, Nat.reduceMul, Nat.reduceAdd, Nat.reduceSub, and_true, true_and, Nat.le_refl] <;> rfl, rfl⟩)
    n 0 (0, 0) N (by omega) ⟨rfl, rfl⟩ (by omega)
  exact h1
theorem outs_n {N n : Nat} (hN : 1000 ≤ N) (hn : n ≤ 5) {cells : Nat → Int32} {C : Nat → Nat} (hc : ∀ f, f < n → cells f = nI (C f)) (hC : ∀ f, f < n → C f ≤ 35) : T_X4_outs N (nI n) cells = some (nI (outN C n)) := by
  obtain ⟨r, h1, rfl⟩ := lp (fun k (s : Int32 × Int32) => T_X4_outs_L4 N (nI n) cells k s.1 s.2) (fun i s => s.2 = nI i ∧ s.1 = nI (outN C i)) (fun r => r = nI (outN C n)) n
    (fun i s k hi ⟨h1, h2⟩ => by
      obtain ⟨s1, s2⟩ := s
      simp only at h1 h2
      subst h1 h2
      refine .inl ⟨(nI (outN C (i + 1)), nI (i + 1)), ⟨rfl, rfl⟩, ?_⟩
      have hn5 : ¬ n ≤ i := by omega
      have e1 := hc i hi
      have e2 := isOut_n (c := C i) (by have := hC i hi; omega)
      have e3 := outN_le C i
      simp only
      rw [T_X4_outs_L4, outN, isOut_e]
      by_cases h : C i % 6 = 5
      · simp (disch := omega) only [l0, l1, l2, l3, l4, l5, l6, l7, l8, l9, l10, l11, l12, l30, l35, l36, l60, l99, l127, l150, l999, nI_eq, nI_leI, nI_ltI, nI_1, nI_add, pk_mul, obN, nI_clamp, lt', jn, Option.bind_some, inW, inF, inC, inK, fl4, cl4, wi3, T_X3_isFirstOrSecond, badE, fullE, noE, T_X3_refuseBad, T_X3_refuseFull, T_X3_refuseNo, reduceIte, Nat.reduceEqDiff, Nat.reduceLeDiff, Nat.reduceMul, Nat.reduceAdd, Nat.reduceSub, and_true, true_and, hn5, e1, e2, h]
      · simp (disch := omega) only [l0, l1, l2, l3, l4, l5, l6, l7, l8, l9, l10, l11, l12, l30, l35, l36, l60, l99, l127, l150, l999, nI_eq, nI_leI, nI_ltI, nI_1, nI_add, pk_mul, obN, nI_clamp, lt', jn, Option.bind_some, inW, inF, inC, inK, fl4, cl4, wi3, T_X3_isFirstOrSecond, badE, fullE, noE, T_X3_refuseBad, T_X3_refuseFull, T_X3_refuseNo, reduceIte, Nat.reduceEqDiff, Nat.reduceLeDiff, Nat.reduceMul, Nat.reduceAdd, Nat.reduceSub, and_true, true_and, hn5, e1, e2, h])
    (fun s k ⟨h1, h2⟩ => ⟨_, by (try simp only); rw [T_X4_outs_L4, h1, h2]; simp (disch := omega) only [l0, l1, l2, l3, l4, l5, l6, l7, l8, l9, l10, l11, l12, l30, l35, l36, l60, l99, l127, l150, l999, nI_eq, nI_leI, nI_ltI, nI_1, nI_add, pk_mul, obN, nI_clamp, lt', jn, Option.bind_some, inW, inF, inC, inK, fl4, cl4, wi3, T_X3_isFirstOrSecond, badE, fullE, noE, T_X3_refuseBad, T_X3_refuseFull, T_X3_refuseNo, reduceIte, Nat.reduceEqDiff, Nat.reduceLeDiff, Nat.reduceMul, Nat.reduceAdd, Nat.reduceSub, and_true, true_and, Nat.le_refl] <;> rfl, rfl⟩)
    n 0 (0, 0) N (by omega) ⟨rfl, rfl⟩ (by omega)
  exact h1
set_option maxHeartbeats 4000000 in
theorem op_count (N : Nat) (hN : 1000 ≤ N) (x : FIV) (m : MV) (p1 : Int32) (h : REL x m) : ∃ (R : Int32 × Int32) (RM : Int32 × (Nat → Int32)), T_X3_count N (x_bads x) (xn_month x) (xn_floes x) (xn_founds x) (xn_notes x) (xn_undos x) (xn_cells x) (xt_length x) p1 = some R ∧ T_X4_count N (m_many m) (m_now m) (m_findMany m) (m_noteMany m) (m_typed m) (m_undoMany m) (m_refused m) (m_cells m) p1 = some RM ∧ R.1 = RM.1 ∧ REL ((xn_month x), (xn_ways x), (xn_strengths x), (xn_floes x), (xn_kinds x), (xn_cells x), (xn_foods x), (xn_founds x), (xn_foundRows x), (xn_notes x), (xn_noteRows x), (xn_undos x), (xn_undoRows x), (xs_month x), (xs_ways x), (xs_strengths x), (xs_floes x), (xs_kinds x), (xs_cells x), (xs_foods x), (xs_founds x), (xs_foundRows x), (xs_notes x), (xs_noteRows x), (xs_undos x), (xs_undoRows x), (xt_bytes x), (xt_length x), (xt_place x), (xt_fault x), (x_odds x), (x_nextOdds x), (x_gains x), (x_above x), (x_below x), R.2, (x_nos x), (x_fulls x), (x_img0 x), (x_img1 x)) (RM.2, (m_many m), (m_now m), (m_findMany m), (m_noteMany m), (m_ways m), (m_strengths m), (m_kinds m), (m_cells m), (m_food m), (m_findKind m), (m_findMonth m), (m_findCell m), (m_noted m), (m_text m), (m_typed m), (m_readAt m), (m_readMonth m), (m_readMany m), (m_readFloe m), (m_readWind m), (m_readNumber m), (m_ahead m), (m_undoMany m), (m_aside m), (m_above m), (m_below m), (m_images m), (m_isKept m), (m_h0 m)) := by
  obtain ⟨⟨S, hok, hc, hm⟩, htx, hab, hrf, hg0, hg1⟩ := h
  have q := hc
  have q' := hm
  obtain ⟨⟨c0, c1, c2, c3, c4⟩, c5, c6, c7, c8, c9, c10, c11, c12⟩ := q
  obtain ⟨⟨m0, m1, m2, m3, m4⟩, m5, m6, m7, m8, m9, m10, m11, m12⟩ := q'
  rcases wi p1 6 (by omega) with h0 | ⟨j, hj, rfl, h2⟩
  · have n0 := wi_ne (by omega) h0 0 (by omega)
    have n1 := wi_ne (by omega) h0 1 (by omega)
    have n2 := wi_ne (by omega) h0 2 (by omega)
    have n3 := wi_ne (by omega) h0 3 (by omega)
    have n4 := wi_ne (by omega) h0 4 (by omega)
    have n5 := wi_ne (by omega) h0 5 (by omega)
    have n6 := wi_ne (by omega) h0 6 (by omega)
    refine opI (by rw [T_X3_count]; simp (disch := omega) only [l0, l1, l2, l3, l4, l5, l6, l7, l8, l9, l10, l11, l12, l30, l35, l36, l60, l99, l127, l150, l999, nI_eq, nI_leI, nI_ltI, nI_1, nI_add, pk_mul, obN, nI_clamp, lt', jn, Option.bind_some, inW, inF, inC, inK, fl4, cl4, wi3, T_X3_isFirstOrSecond, badE, fullE, noE, T_X3_refuseBad, T_X3_refuseFull, T_X3_refuseNo, reduceIte, Nat.reduceEqDiff, Nat.reduceLeDiff, Nat.reduceMul, Nat.reduceAdd, Nat.reduceSub, and_true, true_and, h0, n0, n1, n2, n3, n4, n5, n6]; rfl) (by rw [T_X4_count]; simp (disch := omega) only [l0, l1, l2, l3, l4, l5, l6, l7, l8, l9, l10, l11, l12, l30, l35, l36, l60, l99, l127, l150, l999, nI_eq, nI_leI, nI_ltI, nI_1, nI_add, pk_mul, obN, nI_clamp, lt', jn, Option.bind_some, inW, inF, inC, inK, fl4, cl4, wi3, T_X3_isFirstOrSecond, badE, fullE, noE, T_X3_refuseBad, T_X3_refuseFull, T_X3_refuseNo, reduceIte, Nat.reduceEqDiff, Nat.reduceLeDiff, Nat.reduceMul, Nat.reduceAdd, Nat.reduceSub, and_true, true_and, h0, n0, n1, n2, n3, n4, n5, n6]; rfl) ?_; exact ⟨rfl, ⟨S, hok, hc, hm⟩, htx, hab, rf_bad hrf, hg0, hg1⟩
  have f1 := floesOut_n hN hok.2.1 c8 hok.2.2.2.2.2.2.2.2.1
  have f2 := outs_n hN hok.2.1 m8 hok.2.2.2.2.2.2.2.2.1
  rw [← c1] at f1
  rw [← m1] at f2
  have tx := htx
  obtain ⟨n, hn, t1, t2, -⟩ := tx
  have hS := (⟨S, hok, hc, hm⟩ : ∃ S : SeaN, okS S ∧ cS S (xn_month x) (xn_floes x) (xn_founds x) (xn_notes x) (xn_undos x) (xn_ways x) (xn_strengths x) (xn_kinds x) (xn_cells x) (xn_foods x) (xn_foundRows x) (xn_noteRows x) (xn_undoRows x) ∧ mS S (m_now m) (m_many m) (m_findMany m) (m_noteMany m) (m_undoMany m) (m_ways m) (m_strengths m) (m_kinds m) (m_cells m) (m_food m) (m_findKind m) (m_findMonth m) (m_findCell m) (m_noted m) (m_ahead m))
  obtain rfl | rfl | rfl | rfl | rfl | rfl | rfl : j = 0 ∨ j = 1 ∨ j = 2 ∨ j = 3 ∨ j = 4 ∨ j = 5 ∨ j = 6 := by omega
  · refine opI (by rw [T_X3_count]; simp (disch := omega) only [l0, l1, l2, l3, l4, l5, l6, l7, l8, l9, l10, l11, l12, l30, l35, l36, l60, l99, l127, l150, l999, nI_eq, nI_leI, nI_ltI, nI_1, nI_add, pk_mul, obN, nI_clamp, lt', jn, Option.bind_some, inW, inF, inC, inK, fl4, cl4, wi3, T_X3_isFirstOrSecond, badE, fullE, noE, T_X3_refuseBad, T_X3_refuseFull, T_X3_refuseNo, reduceIte, Nat.reduceEqDiff, Nat.reduceLeDiff, Nat.reduceMul, Nat.reduceAdd, Nat.reduceSub, and_true, true_and, h2]; rfl) (by rw [T_X4_count, T_X4_countOf]; simp (disch := omega) only [l0, l1, l2, l3, l4, l5, l6, l7, l8, l9, l10, l11, l12, l30, l35, l36, l60, l99, l127, l150, l999, nI_eq, nI_leI, nI_ltI, nI_1, nI_add, pk_mul, obN, nI_clamp, lt', jn, Option.bind_some, inW, inF, inC, inK, fl4, cl4, wi3, T_X3_isFirstOrSecond, badE, fullE, noE, T_X3_refuseBad, T_X3_refuseFull, T_X3_refuseNo, reduceIte, Nat.reduceEqDiff, Nat.reduceLeDiff, Nat.reduceMul, Nat.reduceAdd, Nat.reduceSub, and_true, true_and, h2]; rfl) ?_
    exact ⟨c1.trans m1.symm, hS, htx, hab, hrf, hg0, hg1⟩
  · refine opI (by rw [T_X3_count]; simp (disch := omega) only [l0, l1, l2, l3, l4, l5, l6, l7, l8, l9, l10, l11, l12, l30, l35, l36, l60, l99, l127, l150, l999, nI_eq, nI_leI, nI_ltI, nI_1, nI_add, pk_mul, obN, nI_clamp, lt', jn, Option.bind_some, inW, inF, inC, inK, fl4, cl4, wi3, T_X3_isFirstOrSecond, badE, fullE, noE, T_X3_refuseBad, T_X3_refuseFull, T_X3_refuseNo, reduceIte, Nat.reduceEqDiff, Nat.reduceLeDiff, Nat.reduceMul, Nat.reduceAdd, Nat.reduceSub, and_true, true_and, h2]; rfl) (by rw [T_X4_count, T_X4_countOf]; simp (disch := omega) only [l0, l1, l2, l3, l4, l5, l6, l7, l8, l9, l10, l11, l12, l30, l35, l36, l60, l99, l127, l150, l999, nI_eq, nI_leI, nI_ltI, nI_1, nI_add, pk_mul, obN, nI_clamp, lt', jn, Option.bind_some, inW, inF, inC, inK, fl4, cl4, wi3, T_X3_isFirstOrSecond, badE, fullE, noE, T_X3_refuseBad, T_X3_refuseFull, T_X3_refuseNo, reduceIte, Nat.reduceEqDiff, Nat.reduceLeDiff, Nat.reduceMul, Nat.reduceAdd, Nat.reduceSub, and_true, true_and, h2]; rfl) ?_
    exact ⟨c0.trans m0.symm, hS, htx, hab, hrf, hg0, hg1⟩
  · refine opI (by rw [T_X3_count, f1]; simp (disch := omega) only [l0, l1, l2, l3, l4, l5, l6, l7, l8, l9, l10, l11, l12, l30, l35, l36, l60, l99, l127, l150, l999, nI_eq, nI_leI, nI_ltI, nI_1, nI_add, pk_mul, obN, nI_clamp, lt', jn, Option.bind_some, inW, inF, inC, inK, fl4, cl4, wi3, T_X3_isFirstOrSecond, badE, fullE, noE, T_X3_refuseBad, T_X3_refuseFull, T_X3_refuseNo, reduceIte, Nat.reduceEqDiff, Nat.reduceLeDiff, Nat.reduceMul, Nat.reduceAdd, Nat.reduceSub, and_true, true_and, h2]; rfl) (by rw [T_X4_count, T_X4_countOf, f2]; simp (disch := omega) only [l0, l1, l2, l3, l4, l5, l6, l7, l8, l9, l10, l11, l12, l30, l35, l36, l60, l99, l127, l150, l999, nI_eq, nI_leI, nI_ltI, nI_1, nI_add, pk_mul, obN, nI_clamp, lt', jn, Option.bind_some, inW, inF, inC, inK, fl4, cl4, wi3, T_X3_isFirstOrSecond, badE, fullE, noE, T_X3_refuseBad, T_X3_refuseFull, T_X3_refuseNo, reduceIte, Nat.reduceEqDiff, Nat.reduceLeDiff, Nat.reduceMul, Nat.reduceAdd, Nat.reduceSub, and_true, true_and, h2]; rfl) ?_
    exact ⟨rfl, hS, htx, hab, hrf, hg0, hg1⟩
  · refine opI (by rw [T_X3_count]; simp (disch := omega) only [l0, l1, l2, l3, l4, l5, l6, l7, l8, l9, l10, l11, l12, l30, l35, l36, l60, l99, l127, l150, l999, nI_eq, nI_leI, nI_ltI, nI_1, nI_add, pk_mul, obN, nI_clamp, lt', jn, Option.bind_some, inW, inF, inC, inK, fl4, cl4, wi3, T_X3_isFirstOrSecond, badE, fullE, noE, T_X3_refuseBad, T_X3_refuseFull, T_X3_refuseNo, reduceIte, Nat.reduceEqDiff, Nat.reduceLeDiff, Nat.reduceMul, Nat.reduceAdd, Nat.reduceSub, and_true, true_and, h2]; rfl) (by rw [T_X4_count, T_X4_countOf]; simp (disch := omega) only [l0, l1, l2, l3, l4, l5, l6, l7, l8, l9, l10, l11, l12, l30, l35, l36, l60, l99, l127, l150, l999, nI_eq, nI_leI, nI_ltI, nI_1, nI_add, pk_mul, obN, nI_clamp, lt', jn, Option.bind_some, inW, inF, inC, inK, fl4, cl4, wi3, T_X3_isFirstOrSecond, badE, fullE, noE, T_X3_refuseBad, T_X3_refuseFull, T_X3_refuseNo, reduceIte, Nat.reduceEqDiff, Nat.reduceLeDiff, Nat.reduceMul, Nat.reduceAdd, Nat.reduceSub, and_true, true_and, h2]; rfl) ?_
    exact ⟨c2.trans m2.symm, hS, htx, hab, hrf, hg0, hg1⟩
  · refine opI (by rw [T_X3_count]; simp (disch := omega) only [l0, l1, l2, l3, l4, l5, l6, l7, l8, l9, l10, l11, l12, l30, l35, l36, l60, l99, l127, l150, l999, nI_eq, nI_leI, nI_ltI, nI_1, nI_add, pk_mul, obN, nI_clamp, lt', jn, Option.bind_some, inW, inF, inC, inK, fl4, cl4, wi3, T_X3_isFirstOrSecond, badE, fullE, noE, T_X3_refuseBad, T_X3_refuseFull, T_X3_refuseNo, reduceIte, Nat.reduceEqDiff, Nat.reduceLeDiff, Nat.reduceMul, Nat.reduceAdd, Nat.reduceSub, and_true, true_and, h2]; rfl) (by rw [T_X4_count, T_X4_countOf]; simp (disch := omega) only [l0, l1, l2, l3, l4, l5, l6, l7, l8, l9, l10, l11, l12, l30, l35, l36, l60, l99, l127, l150, l999, nI_eq, nI_leI, nI_ltI, nI_1, nI_add, pk_mul, obN, nI_clamp, lt', jn, Option.bind_some, inW, inF, inC, inK, fl4, cl4, wi3, T_X3_isFirstOrSecond, badE, fullE, noE, T_X3_refuseBad, T_X3_refuseFull, T_X3_refuseNo, reduceIte, Nat.reduceEqDiff, Nat.reduceLeDiff, Nat.reduceMul, Nat.reduceAdd, Nat.reduceSub, and_true, true_and, h2]; rfl) ?_
    exact ⟨c3.trans m3.symm, hS, htx, hab, hrf, hg0, hg1⟩
  · refine opI (by rw [T_X3_count]; simp (disch := omega) only [l0, l1, l2, l3, l4, l5, l6, l7, l8, l9, l10, l11, l12, l30, l35, l36, l60, l99, l127, l150, l999, nI_eq, nI_leI, nI_ltI, nI_1, nI_add, pk_mul, obN, nI_clamp, lt', jn, Option.bind_some, inW, inF, inC, inK, fl4, cl4, wi3, T_X3_isFirstOrSecond, badE, fullE, noE, T_X3_refuseBad, T_X3_refuseFull, T_X3_refuseNo, reduceIte, Nat.reduceEqDiff, Nat.reduceLeDiff, Nat.reduceMul, Nat.reduceAdd, Nat.reduceSub, and_true, true_and, h2]; rfl) (by rw [T_X4_count, T_X4_countOf]; simp (disch := omega) only [l0, l1, l2, l3, l4, l5, l6, l7, l8, l9, l10, l11, l12, l30, l35, l36, l60, l99, l127, l150, l999, nI_eq, nI_leI, nI_ltI, nI_1, nI_add, pk_mul, obN, nI_clamp, lt', jn, Option.bind_some, inW, inF, inC, inK, fl4, cl4, wi3, T_X3_isFirstOrSecond, badE, fullE, noE, T_X3_refuseBad, T_X3_refuseFull, T_X3_refuseNo, reduceIte, Nat.reduceEqDiff, Nat.reduceLeDiff, Nat.reduceMul, Nat.reduceAdd, Nat.reduceSub, and_true, true_and, h2]; rfl) ?_
    exact ⟨c4.trans m4.symm, hS, htx, hab, hrf, hg0, hg1⟩
  · refine opI (by rw [T_X3_count]; simp (disch := omega) only [l0, l1, l2, l3, l4, l5, l6, l7, l8, l9, l10, l11, l12, l30, l35, l36, l60, l99, l127, l150, l999, nI_eq, nI_leI, nI_ltI, nI_1, nI_add, pk_mul, obN, nI_clamp, lt', jn, Option.bind_some, inW, inF, inC, inK, fl4, cl4, wi3, T_X3_isFirstOrSecond, badE, fullE, noE, T_X3_refuseBad, T_X3_refuseFull, T_X3_refuseNo, reduceIte, Nat.reduceEqDiff, Nat.reduceLeDiff, Nat.reduceMul, Nat.reduceAdd, Nat.reduceSub, and_true, true_and, h2]; rfl) (by rw [T_X4_count, T_X4_countOf]; simp (disch := omega) only [l0, l1, l2, l3, l4, l5, l6, l7, l8, l9, l10, l11, l12, l30, l35, l36, l60, l99, l127, l150, l999, nI_eq, nI_leI, nI_ltI, nI_1, nI_add, pk_mul, obN, nI_clamp, lt', jn, Option.bind_some, inW, inF, inC, inK, fl4, cl4, wi3, T_X3_isFirstOrSecond, badE, fullE, noE, T_X3_refuseBad, T_X3_refuseFull, T_X3_refuseNo, reduceIte, Nat.reduceEqDiff, Nat.reduceLeDiff, Nat.reduceMul, Nat.reduceAdd, Nat.reduceSub, and_true, true_and, h2]; rfl) ?_
    exact ⟨t1.trans t2.symm, hS, htx, hab, hrf, hg0, hg1⟩
