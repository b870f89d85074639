theorem drifted_n {N k c mo j : Nat} {W G : Nat → Nat} {w g : Nat → Int32} (hN : 1000 ≤ N) (ew : ∀ i, i < 12 → w i = nI (W i)) (eg : ∀ i, i < 12 → g i = nI (G i)) (hW : ∀ i, i < 12 → W i ≤ 3) (hG : ∀ i, i < 12 → G i ≤ 3) (hk : k ≤ 5) (hc : c ≤ 35) (hm : mo ≤ 2000) (hj : j ≤ 200) : T_X1_drifted N w g (nI k) (nI c) (nI mo) (nI j) = some (nI (runN W G k c mo j)) := by
  obtain ⟨r, h1, rfl⟩ := lp (fun n (s : Int32 × Int32) => T_X1_drifted_L6 N (nI k) (nI mo) (nI j) w g n s.1 s.2) (fun i s => s.2 = nI i ∧ s.1 = nI (runN W G k c mo i)) (fun r => r = nI (runN W G k c mo j)) j
    (fun i s n hi ⟨h1, h2⟩ => by
      obtain ⟨s1, s2⟩ := s
      simp only at h1 h2
      subst h1 h2
      refine .inl ⟨(nI (runN W G k c mo (i + 1)), nI (i + 1)), ⟨rfl, rfl⟩, ?_⟩
      have hn5 : ¬ j ≤ i := by omega
      have nx := nextCell_n (N := N) (m := mo + i) ew eg hW hG hk (runN_le (m := mo) hW hG hk hc i) (by omega)
      (try simp only)
      rw [T_X1_drifted_L6, runN]
      simp (disch := omega) only [l0, l1, l2, l3, l4, l5, l6, l7, l8, l9, l10, l11, l12, l30, l35, l36, l60, l99, l127, l150, l999, nI_eq, nI_leI, nI_ltI, nI_1, nI_add, pk_mul, obN, nI_clamp, lt', jn, Option.bind_some, inW, inF, inC, inK, fl4, cl4, wi3, T_X3_isFirstOrSecond, badE, fullE, noE, T_X3_refuseBad, T_X3_refuseFull, T_X3_refuseNo, reduceIte, Nat.reduceEqDiff, Nat.reduceLeDiff, Nat.reduceMul, Nat.reduceAdd, Nat.reduceSub, and_true, true_and, hn5, nx])
    (fun s n ⟨h1, h2⟩ => ⟨_, by (try simp only); rw [T_X1_drifted_L6, h1, h2]; simp (disch := omega) only [l0, l1, l2, l3, l4, l5, l6, l7, l8, l9, l10, l11, l12, l30, l35, l36, l60, l99, l127, l150, l999, nI_eq, nI_leI, nI_ltI, nI_1, nI_add, pk_mul, obN, nI_clamp, lt', jn, Option.bind_some, inW, inF, inC, inK, fl4, cl4, wi3, T_X3_isFirstOrSecond, badE, fullE, noE, T_X3_refuseBad, T_X3_refuseFull, T_X3_refuseNo, reduceIte, Nat.reduceEqDiff, Nat.reduceLeDiff, Nat.reduceMul, Nat.reduceAdd, Nat.reduceSub, and_true, true_and, Nat.le_refl] <;> rfl, rfl⟩)
    j 0 (nI c, 0) N (by omega) ⟨rfl, rfl⟩ (by omega)
  exact h1
/-- out first after j months, or not in so many -/
def foN (W G : Nat → Nat) (k c mo e : Nat) (r : Option Int32) : Prop :=
  (∃ j, j ≤ e ∧ runN W G k c mo j % 6 = 5 ∧ (∀ i, i < j → ¬ runN W G k c mo i % 6 = 5) ∧ r = some (nI j)) ∨ ((∀ i, i ≤ e → ¬ runN W G k c mo i % 6 = 5) ∧ r = some (-1))
theorem firstOut_n {N k c mo : Nat} {W G : Nat → Nat} {w g : Nat → Int32} (hN : 1000 ≤ N) (ew : ∀ i, i < 12 → w i = nI (W i)) (eg : ∀ i, i < 12 → g i = nI (G i)) (hW : ∀ i, i < 12 → W i ≤ 3) (hG : ∀ i, i < 12 → G i ≤ 3) (hk : k ≤ 5) (hc : c ≤ 35) (hm : mo ≤ 2000) : foN W G k c mo 60 (T_X1_firstOut N (nI mo) w g (nI k) (nI c)) := by
  obtain ⟨r, h1, h2⟩ := lp (fun n (s : Int32 × Int32) => T_X1_firstOut_L5 N (nI k) (nI mo) w g n s.1 s.2) (fun i s => s.2 = nI i ∧ s.1 = nI (runN W G k c mo i) ∧ ∀ j, j < i → ¬ runN W G k c mo j % 6 = 5) (fun r => foN W G k c mo 60 (some r)) 61
    (fun i s n hi ⟨h1, h2, h3⟩ => by
      obtain ⟨s1, s2⟩ := s
      simp only at h1 h2
      subst h1 h2
      have hn5 : ¬ 60 < i := by omega
      have hr := runN_le (m := mo) hW hG hk hc i
      have nx := nextCell_n (N := N) (m := mo + i) ew eg hW hG hk hr (by omega)
      have io := isOut_n (c := runN W G k c mo i) (by omega)
      by_cases ho : runN W G k c mo i % 6 = 5
      · refine .inr ⟨nI i, ?_, .inl ⟨i, by omega, ho, h3, rfl⟩⟩
        rw [if_pos ho] at io
        (try simp only)
        rw [T_X1_firstOut_L5]
        simp (disch := omega) only [l0, l1, l2, l3, l4, l5, l6, l7, l8, l9, l10, l11, l12, l30, l35, l36, l60, l99, l127, l150, l999, nI_eq, nI_leI, nI_ltI, nI_1, nI_add, pk_mul, obN, nI_clamp, lt', jn, Option.bind_some, inW, inF, inC, inK, fl4, cl4, wi3, T_X3_isFirstOrSecond, badE, fullE, noE, T_X3_refuseBad, T_X3_refuseFull, T_X3_refuseNo, reduceIte, Nat.reduceEqDiff, Nat.reduceLeDiff, Nat.reduceMul, Nat.reduceAdd, Nat.reduceSub, and_true, true_and, hn5, io]
      · refine .inl ⟨(nI (runN W G k c mo (i + 1)), nI (i + 1)), ⟨rfl, rfl, fun j hj => by
          by_cases e : j = i
          · subst e; exact ho
          · exact h3 j (by omega)⟩, ?_⟩
        rw [if_neg ho] at io
        (try simp only)
        rw [T_X1_firstOut_L5, runN]
        simp (disch := omega) only [l0, l1, l2, l3, l4, l5, l6, l7, l8, l9, l10, l11, l12, l30, l35, l36, l60, l99, l127, l150, l999, nI_eq, nI_leI, nI_ltI, nI_1, nI_add, pk_mul, obN, nI_clamp, lt', jn, Option.bind_some, inW, inF, inC, inK, fl4, cl4, wi3, T_X3_isFirstOrSecond, badE, fullE, noE, T_X3_refuseBad, T_X3_refuseFull, T_X3_refuseNo, reduceIte, Nat.reduceEqDiff, Nat.reduceLeDiff, Nat.reduceMul, Nat.reduceAdd, Nat.reduceSub, and_true, true_and, hn5, nx, io])
    (fun s n ⟨h1, h2, h3⟩ => ⟨-1, by (try simp only); rw [T_X1_firstOut_L5, h1, h2, l60, if_pos (by decide)], .inr ⟨fun i hi => h3 i (by omega), rfl⟩⟩)
    61 0 (nI c, 0) N (by omega) ⟨rfl, rfl, fun j hj => absurd hj (Nat.not_lt_zero j)⟩ (by omega)
  rw [T_X1_firstOut]
  rw [show T_X1_firstOut_L5 N (nI k) (nI mo) w g N (nI c) 0 = some r from h1]
  exact h2
theorem outFrom_n {N k c mo e : Nat} {W G : Nat → Nat} {w g : Nat → Int32} (hN : 1000 ≤ N) (ew : ∀ i, i < 12 → w i = nI (W i)) (eg : ∀ i, i < 12 → g i = nI (G i)) (hW : ∀ i, i < 12 → W i ≤ 3) (hG : ∀ i, i < 12 → G i ≤ 3) (hk : k ≤ 5) (hc : c ≤ 35) (hm : mo ≤ 2000) (he : e ≤ 60) : foN W G k c mo e (T_X4_outFrom N (nI mo) w g (nI k) (nI c) (nI e)) := by
  obtain ⟨r, h1, h2⟩ := lp (fun n (s : Int32 × Int32) => T_X4_outFrom_L6 N (nI k) (nI e) (nI mo) w g (fun x20 x21 => if T_X4_isOut x20 = 0 then some (-1) else some x21) n s.1 s.2) (fun i s => s.2 = nI i ∧ s.1 = nI (runN W G k c mo i) ∧ ∀ j, j < i → ¬ runN W G k c mo j % 6 = 5) (fun r => foN W G k c mo e (some r)) e
    (fun i s n hi ⟨h1, h2, h3⟩ => by
      obtain ⟨s1, s2⟩ := s
      simp only at h1 h2
      subst h1 h2
      have hn5 : ¬ e ≤ i := by omega
      have hr := runN_le (m := mo) hW hG hk hc i
      have nx := driftsIn_n (m := mo + i) hN ew eg hW hG hk hr (by omega)
      have io := isOut_n (c := runN W G k c mo i) (by omega)
      by_cases ho : runN W G k c mo i % 6 = 5
      · refine .inr ⟨nI i, ?_, .inl ⟨i, by omega, ho, h3, rfl⟩⟩
        rw [if_pos ho] at io
        (try simp only)
        rw [T_X4_outFrom_L6, isOut_e]
        simp (disch := omega) only [l0, l1, l2, l3, l4, l5, l6, l7, l8, l9, l10, l11, l12, l30, l35, l36, l60, l99, l127, l150, l999, nI_eq, nI_leI, nI_ltI, nI_1, nI_add, pk_mul, obN, nI_clamp, lt', jn, Option.bind_some, inW, inF, inC, inK, fl4, cl4, wi3, T_X3_isFirstOrSecond, badE, fullE, noE, T_X3_refuseBad, T_X3_refuseFull, T_X3_refuseNo, reduceIte, Nat.reduceEqDiff, Nat.reduceLeDiff, Nat.reduceMul, Nat.reduceAdd, Nat.reduceSub, and_true, true_and, hn5, io]
      · refine .inl ⟨(nI (runN W G k c mo (i + 1)), nI (i + 1)), ⟨rfl, rfl, fun j hj => by
          by_cases e : j = i
          · subst e; exact ho
          · exact h3 j (by omega)⟩, ?_⟩
        rw [if_neg ho] at io
        (try simp only)
        rw [T_X4_outFrom_L6, runN, isOut_e]
        simp (disch := omega) only [l0, l1, l2, l3, l4, l5, l6, l7, l8, l9, l10, l11, l12, l30, l35, l36, l60, l99, l127, l150, l999, nI_eq, nI_leI, nI_ltI, nI_1, nI_add, pk_mul, obN, nI_clamp, lt', jn, Option.bind_some, inW, inF, inC, inK, fl4, cl4, wi3, T_X3_isFirstOrSecond, badE, fullE, noE, T_X3_refuseBad, T_X3_refuseFull, T_X3_refuseNo, reduceIte, Nat.reduceEqDiff, Nat.reduceLeDiff, Nat.reduceMul, Nat.reduceAdd, Nat.reduceSub, and_true, true_and, hn5, nx, io])
    (fun s n ⟨h1, h2, h3⟩ => by
      obtain ⟨s1, s2⟩ := s
      simp only at h1 h2
      subst h1 h2
      have hr := runN_le (m := mo) hW hG hk hc e
      have io := isOut_n (c := runN W G k c mo e) (by omega)
      by_cases ho : runN W G k c mo e % 6 = 5
      · rw [if_pos ho] at io
        refine ⟨nI e, ?_, .inl ⟨e, Nat.le_refl e, ho, h3, rfl⟩⟩
        (try simp only)
        rw [T_X4_outFrom_L6, isOut_e]
        simp (disch := omega) only [l0, l1, l2, l3, l4, l5, l6, l7, l8, l9, l10, l11, l12, l30, l35, l36, l60, l99, l127, l150, l999, nI_eq, nI_leI, nI_ltI, nI_1, nI_add, pk_mul, obN, nI_clamp, lt', jn, Option.bind_some, inW, inF, inC, inK, fl4, cl4, wi3, T_X3_isFirstOrSecond, badE, fullE, noE, T_X3_refuseBad, T_X3_refuseFull, T_X3_refuseNo, reduceIte, Nat.reduceEqDiff, Nat.reduceLeDiff, Nat.reduceMul, Nat.reduceAdd, Nat.reduceSub, and_true, true_and, Nat.le_refl, io]
      · rw [if_neg ho] at io
        refine ⟨-1, ?_, .inr ⟨fun i hi => ?_, rfl⟩⟩
        · (try simp only)
          rw [T_X4_outFrom_L6, isOut_e]
          simp (disch := omega) only [l0, l1, l2, l3, l4, l5, l6, l7, l8, l9, l10, l11, l12, l30, l35, l36, l60, l99, l127, l150, l999, nI_eq, nI_leI, nI_ltI, nI_1, nI_add, pk_mul, obN, nI_clamp, lt', jn, Option.bind_some, inW, inF, inC, inK, fl4, cl4, wi3, T_X3_isFirstOrSecond, badE, fullE, noE, T_X3_refuseBad, T_X3_refuseFull, T_X3_refuseNo, reduceIte, Nat.reduceEqDiff, Nat.reduceLeDiff, Nat.reduceMul, Nat.reduceAdd, Nat.reduceSub, and_true, true_and, Nat.le_refl, io]
        · by_cases e' : i = e
          · subst e'; exact ho
          · exact h3 i (by omega))
    e 0 (nI c, 0) N (by omega) ⟨rfl, rfl, fun j hj => absurd hj (Nat.not_lt_zero j)⟩ (by omega)
  rw [T_X4_outFrom]
  rw [show T_X4_outFrom_L6 N (nI k) (nI e) (nI mo) w g (fun x20 x21 => if T_X4_isOut x20 = 0 then some (-1) else some x21) N (nI c) 0 = some r from h1]
  exact h2
theorem foN_eq {W G : Nat → Nat} {k c mo e : Nat} {r r' : Option Int32} (h : foN W G k c mo e r) (h' : foN W G k c mo e r') : r = r' ∧ ∃ v, r = some v ∧ (v = -1 ∨ ∃ j, j ≤ e ∧ v = nI j) := by
  rcases h with ⟨j, a1, a2, a3, rfl⟩ | ⟨a1, rfl⟩
  · rcases h' with ⟨j', b1, b2, b3, rfl⟩ | ⟨b1, rfl⟩
    · rcases Nat.lt_trichotomy j j' with h | rfl | h
      · exact absurd a2 (b3 j h)
      · exact ⟨rfl, _, rfl, .inr ⟨j, a1, rfl⟩⟩
      · exact absurd b2 (a3 j' h)
    · exact absurd a2 (b1 j a1)
  · rcases h' with ⟨j', b1, b2, b3, rfl⟩ | ⟨b1, rfl⟩
    · exact absurd b2 (a1 j' b1)
    · exact ⟨rfl, _, rfl, .inl rfl⟩
set_option maxHeartbeats 4000000 in
theorem op_then (N : Nat) (hN : 1000 ≤ N) (x : FIV) (m : MV) (p1 p2 : Int32) (h : REL x m) : ∃ (R : Int32 × Int32) (RM : Int32 × (Nat → Int32)), T_X3_then N (x_bads x) (xn_month x) (xn_floes x) (xn_ways x) (xn_strengths x) (xn_kinds x) (xn_cells x) p1 p2 = some R ∧ T_X4_then N (m_many m) (m_now m) (m_refused m) (m_ways m) (m_strengths m) (m_kinds m) (m_cells m) p1 p2 = some RM ∧ R.1 = RM.1 ∧ REL ((xn_month x), (xn_ways x), (xn_strengths x), (xn_floes x), (xn_kinds x), (xn_cells x), (xn_foods x), (xn_founds x), (xn_foundRows x), (xn_notes x), (xn_noteRows x), (xn_undos x), (xn_undoRows x), (xs_month x), (xs_ways x), (xs_strengths x), (xs_floes x), (xs_kinds x), (xs_cells x), (xs_foods x), (xs_founds x), (xs_foundRows x), (xs_notes x), (xs_noteRows x), (xs_undos x), (xs_undoRows x), (xt_bytes x), (xt_length x), (xt_place x), (xt_fault x), (x_odds x), (x_nextOdds x), (x_gains x), (x_above x), (x_below x), R.2, (x_nos x), (x_fulls x), (x_img0 x), (x_img1 x)) (RM.2, (m_many m), (m_now m), (m_findMany m), (m_noteMany m), (m_ways m), (m_strengths m), (m_kinds m), (m_cells m), (m_food m), (m_findKind m), (m_findMonth m), (m_findCell m), (m_noted m), (m_text m), (m_typed m), (m_readAt m), (m_readMonth m), (m_readMany m), (m_readFloe m), (m_readWind m), (m_readNumber m), (m_ahead m), (m_undoMany m), (m_aside m), (m_above m), (m_below m), (m_images m), (m_isKept m), (m_h0 m)) := by
  obtain ⟨⟨S, hok, hc, hm⟩, htx, hab, hrf, hg0, hg1⟩ := h
  have q := hok
  have q1 := hc
  have q2 := hm
  obtain ⟨o0, o1, o2, o3, o4, o5, o6, o7, o8, o9, o10, o11, o12⟩ := q
  obtain ⟨⟨c0, c1, c2, c3, c4⟩, c5, c6, c7, c8, c9, c10, c11, c12⟩ := q1
  obtain ⟨⟨m0, m1, m2, m3, m4⟩, m5, m6, m7, m8, m9, m10, m11, m12⟩ := q2
  rcases wif p1 (S 1 0) (by omega) with h0 | ⟨f, hf, rfl, h1⟩
  · refine opI (by rw [T_X3_then]; simp (disch := omega) only [l0, l1, l2, l3, l4, l5, l6, l7, l8, l9, l10, l11, l12, l30, l35, l36, l60, l99, l127, l150, l999, nI_eq, nI_leI, nI_ltI, nI_1, nI_add, pk_mul, obN, nI_clamp, lt', jn, Option.bind_some, inW, inF, inC, inK, fl4, cl4, wi3, T_X3_isFirstOrSecond, badE, fullE, noE, T_X3_refuseBad, T_X3_refuseFull, T_X3_refuseNo, reduceIte, Nat.reduceEqDiff, Nat.reduceLeDiff, Nat.reduceMul, Nat.reduceAdd, Nat.reduceSub, and_true, true_and, c1, m1, h0]; rfl) (by rw [T_X4_then]; simp (disch := omega) only [l0, l1, l2, l3, l4, l5, l6, l7, l8, l9, l10, l11, l12, l30, l35, l36, l60, l99, l127, l150, l999, nI_eq, nI_leI, nI_ltI, nI_1, nI_add, pk_mul, obN, nI_clamp, lt', jn, Option.bind_some, inW, inF, inC, inK, fl4, cl4, wi3, T_X3_isFirstOrSecond, badE, fullE, noE, T_X3_refuseBad, T_X3_refuseFull, T_X3_refuseNo, reduceIte, Nat.reduceEqDiff, Nat.reduceLeDiff, Nat.reduceMul, Nat.reduceAdd, Nat.reduceSub, and_true, true_and, c1, m1, h0]; rfl) ?_; exact ⟨rfl, ⟨S, hok, hc, hm⟩, htx, hab, rf_bad hrf, hg0, hg1⟩
  rcases wi p2 60 (by omega) with h0 | ⟨j, hj, rfl, h2⟩
  · refine opI (by rw [T_X3_then]; simp (disch := omega) only [l0, l1, l2, l3, l4, l5, l6, l7, l8, l9, l10, l11, l12, l30, l35, l36, l60, l99, l127, l150, l999, nI_eq, nI_leI, nI_ltI, nI_1, nI_add, pk_mul, obN, nI_clamp, lt', jn, Option.bind_some, inW, inF, inC, inK, fl4, cl4, wi3, T_X3_isFirstOrSecond, badE, fullE, noE, T_X3_refuseBad, T_X3_refuseFull, T_X3_refuseNo, reduceIte, Nat.reduceEqDiff, Nat.reduceLeDiff, Nat.reduceMul, Nat.reduceAdd, Nat.reduceSub, and_true, true_and, c1, m1, h0, h1]; rfl) (by rw [T_X4_then]; simp (disch := omega) only [l0, l1, l2, l3, l4, l5, l6, l7, l8, l9, l10, l11, l12, l30, l35, l36, l60, l99, l127, l150, l999, nI_eq, nI_leI, nI_ltI, nI_1, nI_add, pk_mul, obN, nI_clamp, lt', jn, Option.bind_some, inW, inF, inC, inK, fl4, cl4, wi3, T_X3_isFirstOrSecond, badE, fullE, noE, T_X3_refuseBad, T_X3_refuseFull, T_X3_refuseNo, reduceIte, Nat.reduceEqDiff, Nat.reduceLeDiff, Nat.reduceMul, Nat.reduceAdd, Nat.reduceSub, and_true, true_and, c1, m1, h0, h1]; rfl) ?_; exact ⟨rfl, ⟨S, hok, hc, hm⟩, htx, hab, rf_bad hrf, hg0, hg1⟩
  have hf5 : f < 5 := by omega
  have d := drifted_n (mo := S 0 0) (j := j) hN c5 c6 o5 o6 (o7 f hf) (o8 f hf) (by omega) (by omega)
  have cb : T_X1_cellBehind N (xn_month x) (xn_ways x) (xn_strengths x) (xn_kinds x) (xn_cells x) (nI f) (nI j) = some (nI (runN (S 5) (S 6) (S 7 f) (S 8 f) (S 0 0) j)) := by
    rw [T_X1_cellBehind, nI_clamp (by omega), c7 f hf, c8 f hf, c0, d, obN hf5 (by omega), obN hf5 (by omega)]
    rfl
  obtain ⟨r, x1, rfl⟩ := lp (fun n (s : Int32 × Int32) => T_X4_then_L33 N (nI f) (nI j) (m_now m) (m_refused m) (m_ways m) (m_strengths m) (m_kinds m) n s.1 s.2) (fun i s => s.2 = nI i ∧ s.1 = nI (runN (S 5) (S 6) (S 7 f) (S 8 f) (S 0 0) i)) (fun r => r = (nI (runN (S 5) (S 6) (S 7 f) (S 8 f) (S 0 0) j), m_refused m)) j
    (fun i s n hi ⟨h1, h2⟩ => by
      obtain ⟨s1, s2⟩ := s
      simp only at h1 h2
      subst h1 h2
      refine .inl ⟨(nI (runN (S 5) (S 6) (S 7 f) (S 8 f) (S 0 0) (i + 1)), nI (i + 1)), ⟨rfl, rfl⟩, ?_⟩
      have hn5 : ¬ j ≤ i := by omega
      have ek := m7 f hf
      have nx := driftsIn_n (m := S 0 0 + i) hN m5 m6 o5 o6 (o7 f hf) (runN_le (m := S 0 0) o5 o6 (o7 f hf) (o8 f hf) i) (by omega)
      (try simp only)
      rw [T_X4_then_L33, runN]
      simp (disch := omega) only [l0, l1, l2, l3, l4, l5, l6, l7, l8, l9, l10, l11, l12, l30, l35, l36, l60, l99, l127, l150, l999, nI_eq, nI_leI, nI_ltI, nI_1, nI_add, pk_mul, obN, nI_clamp, lt', jn, Option.bind_some, inW, inF, inC, inK, fl4, cl4, wi3, T_X3_isFirstOrSecond, badE, fullE, noE, T_X3_refuseBad, T_X3_refuseFull, T_X3_refuseNo, reduceIte, Nat.reduceEqDiff, Nat.reduceLeDiff, Nat.reduceMul, Nat.reduceAdd, Nat.reduceSub, and_true, true_and, hn5, ek, m0, nx])
    (fun s n ⟨h1, h2⟩ => ⟨_, by (try simp only); rw [T_X4_then_L33, h1, h2]; simp (disch := omega) only [l0, l1, l2, l3, l4, l5, l6, l7, l8, l9, l10, l11, l12, l30, l35, l36, l60, l99, l127, l150, l999, nI_eq, nI_leI, nI_ltI, nI_1, nI_add, pk_mul, obN, nI_clamp, lt', jn, Option.bind_some, inW, inF, inC, inK, fl4, cl4, wi3, T_X3_isFirstOrSecond, badE, fullE, noE, T_X3_refuseBad, T_X3_refuseFull, T_X3_refuseNo, reduceIte, Nat.reduceEqDiff, Nat.reduceLeDiff, Nat.reduceMul, Nat.reduceAdd, Nat.reduceSub, and_true, true_and, Nat.le_refl] <;> rfl, rfl⟩)
    j 0 (nI (S 8 f), 0) N (by omega) ⟨rfl, rfl⟩ (by omega)
  have ml := m8 f hf
  refine opI (by rw [T_X3_then, cb]; simp (disch := omega) only [l0, l1, l2, l3, l4, l5, l6, l7, l8, l9, l10, l11, l12, l30, l35, l36, l60, l99, l127, l150, l999, nI_eq, nI_leI, nI_ltI, nI_1, nI_add, pk_mul, obN, nI_clamp, lt', jn, Option.bind_some, inW, inF, inC, inK, fl4, cl4, wi3, T_X3_isFirstOrSecond, badE, fullE, noE, T_X3_refuseBad, T_X3_refuseFull, T_X3_refuseNo, reduceIte, Nat.reduceEqDiff, Nat.reduceLeDiff, Nat.reduceMul, Nat.reduceAdd, Nat.reduceSub, and_true, true_and, c1, h1, h2]; rfl) (b := (nI (runN (S 5) (S 6) (S 7 f) (S 8 f) (S 0 0) j), m_refused m)) ?_ ?_
  · refine Eq.trans ?_ x1
    rw [T_X4_then]
    simp (disch := omega) only [l0, l1, l2, l3, l4, l5, l6, l7, l8, l9, l10, l11, l12, l30, l35, l36, l60, l99, l127, l150, l999, nI_eq, nI_leI, nI_ltI, nI_1, nI_add, pk_mul, obN, nI_clamp, lt', jn, Option.bind_some, inW, inF, inC, inK, fl4, cl4, wi3, T_X3_isFirstOrSecond, badE, fullE, noE, T_X3_refuseBad, T_X3_refuseFull, T_X3_refuseNo, reduceIte, Nat.reduceEqDiff, Nat.reduceLeDiff, Nat.reduceMul, Nat.reduceAdd, Nat.reduceSub, and_true, true_and, m1, h1, h2, ml]
  · exact ⟨rfl, ⟨S, hok, hc, hm⟩, htx, hab, hrf, hg0, hg1⟩
set_option maxHeartbeats 4000000 in
theorem op_out (N : Nat) (hN : 1000 ≤ N) (x : FIV) (m : MV) (p1 : Int32) (h : REL x m) : ∃ (R : Int32 × Int32) (RM : Int32 × (Nat → Int32)), T_X3_out N (x_bads x) (xn_month x) (xn_floes x) (xn_ways x) (xn_strengths x) (xn_kinds x) (xn_cells x) p1 = some R ∧ T_X4_out N (m_many m) (m_now m) (m_refused m) (m_ways m) (m_strengths m) (m_kinds m) (m_cells m) p1 = some RM ∧ R.1 = RM.1 ∧ REL ((xn_month x), (xn_ways x), (xn_strengths x), (xn_floes x), (xn_kinds x), (xn_cells x), (xn_foods x), (xn_founds x), (xn_foundRows x), (xn_notes x), (xn_noteRows x), (xn_undos x), (xn_undoRows x), (xs_month x), (xs_ways x), (xs_strengths x), (xs_floes x), (xs_kinds x), (xs_cells x), (xs_foods x), (xs_founds x), (xs_foundRows x), (xs_notes x), (xs_noteRows x), (xs_undos x), (xs_undoRows x), (xt_bytes x), (xt_length x), (xt_place x), (xt_fault x), (x_odds x), (x_nextOdds x), (x_gains x), (x_above x), (x_below x), R.2, (x_nos x), (x_fulls x), (x_img0 x), (x_img1 x)) (RM.2, (m_many m), (m_now m), (m_findMany m), (m_noteMany m), (m_ways m), (m_strengths m), (m_kinds m), (m_cells m), (m_food m), (m_findKind m), (m_findMonth m), (m_findCell m), (m_noted m), (m_text m), (m_typed m), (m_readAt m), (m_readMonth m), (m_readMany m), (m_readFloe m), (m_readWind m), (m_readNumber m), (m_ahead m), (m_undoMany m), (m_aside m), (m_above m), (m_below m), (m_images m), (m_isKept m), (m_h0 m)) := by
  obtain ⟨⟨S, hok, hc, hm⟩, htx, hab, hrf, hg0, hg1⟩ := h
  have q := hok
  have q1 := hc
  have q2 := hm
  obtain ⟨o0, o1, o2, o3, o4, o5, o6, o7, o8, o9, o10, o11, o12⟩ := q
  obtain ⟨⟨c0, c1, c2, c3, c4⟩, c5, c6, c7, c8, c9, c10, c11, c12⟩ := q1
  obtain ⟨⟨m0, m1, m2, m3, m4⟩, m5, m6, m7, m8, m9, m10, m11, m12⟩ := q2
  rcases wif p1 (S 1 0) (by omega) with h0 | ⟨f, hf, rfl, h1⟩
  · refine opI (by rw [T_X3_out]; simp (disch := omega) only [l0, l1, l2, l3, l4, l5, l6, l7, l8, l9, l10, l11, l12, l30, l35, l36, l60, l99, l127, l150, l999, nI_eq, nI_leI, nI_ltI, nI_1, nI_add, pk_mul, obN, nI_clamp, lt', jn, Option.bind_some, inW, inF, inC, inK, fl4, cl4, wi3, T_X3_isFirstOrSecond, badE, fullE, noE, T_X3_refuseBad, T_X3_refuseFull, T_X3_refuseNo, reduceIte, Nat.reduceEqDiff, Nat.reduceLeDiff, Nat.reduceMul, Nat.reduceAdd, Nat.reduceSub, and_true, true_and, c1, m1, h0]; rfl) (by rw [T_X4_out]; simp (disch := omega) only [l0, l1, l2, l3, l4, l5, l6, l7, l8, l9, l10, l11, l12, l30, l35, l36, l60, l99, l127, l150, l999, nI_eq, nI_leI, nI_ltI, nI_1, nI_add, pk_mul, obN, nI_clamp, lt', jn, Option.bind_some, inW, inF, inC, inK, fl4, cl4, wi3, T_X3_isFirstOrSecond, badE, fullE, noE, T_X3_refuseBad, T_X3_refuseFull, T_X3_refuseNo, reduceIte, Nat.reduceEqDiff, Nat.reduceLeDiff, Nat.reduceMul, Nat.reduceAdd, Nat.reduceSub, and_true, true_and, c1, m1, h0]; rfl) ?_; exact ⟨rfl, ⟨S, hok, hc, hm⟩, htx, hab, rf_bad hrf, hg0, hg1⟩
  have hf5 : f < 5 := by omega
  have d1 := firstOut_n (mo := S 0 0) hN c5 c6 o5 o6 (o7 f hf) (o8 f hf) (by omega)
  have d2 := outFrom_n (mo := S 0 0) (e := 60) hN m5 m6 o5 o6 (o7 f hf) (o8 f hf) (by omega) (by omega)
  obtain ⟨e1, v, e2, -⟩ := foN_eq d1 d2
  have e3 := e1.symm.trans e2
  have a7 := c7 f hf
  have a8 := c8 f hf
  have b7 := m7 f hf
  have b8 := m8 f hf
  refine opI (by rw [T_X3_out]; simp (disch := omega) only [l0, l1, l2, l3, l4, l5, l6, l7, l8, l9, l10, l11, l12, l30, l35, l36, l60, l99, l127, l150, l999, nI_eq, nI_leI, nI_ltI, nI_1, nI_add, pk_mul, obN, nI_clamp, lt', jn, Option.bind_some, inW, inF, inC, inK, fl4, cl4, wi3, T_X3_isFirstOrSecond, badE, fullE, noE, T_X3_refuseBad, T_X3_refuseFull, T_X3_refuseNo, reduceIte, Nat.reduceEqDiff, Nat.reduceLeDiff, Nat.reduceMul, Nat.reduceAdd, Nat.reduceSub, and_true, true_and, c0, c1, h1, a7, a8, e2]; rfl) (by rw [T_X4_out]; simp (disch := omega) only [l0, l1, l2, l3, l4, l5, l6, l7, l8, l9, l10, l11, l12, l30, l35, l36, l60, l99, l127, l150, l999, nI_eq, nI_leI, nI_ltI, nI_1, nI_add, pk_mul, obN, nI_clamp, lt', jn, Option.bind_some, inW, inF, inC, inK, fl4, cl4, wi3, T_X3_isFirstOrSecond, badE, fullE, noE, T_X3_refuseBad, T_X3_refuseFull, T_X3_refuseNo, reduceIte, Nat.reduceEqDiff, Nat.reduceLeDiff, Nat.reduceMul, Nat.reduceAdd, Nat.reduceSub, and_true, true_and, m0, m1, h1, b7, b8, e3]; rfl) ?_
  exact ⟨rfl, ⟨S, hok, ⟨⟨c0, c1, c2, c3, c4⟩, c5, c6, c7, c8, c9, c10, c11, c12⟩, ⟨⟨m0, m1, m2, m3, m4⟩, m5, m6, m7, m8, m9, m10, m11, m12⟩⟩, htx, hab, hrf, hg0, hg1⟩
