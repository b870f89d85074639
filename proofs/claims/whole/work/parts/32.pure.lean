theorem dogMonths_n {d : Nat} (h : d ≤ 10) : T_X3_dogMonths (nI d) = nI ((d + 1) / 2) := by
  rw [T_X3_dogMonths, l1, l2, nI_add, pk_sub (by omega), pk_div (by omega) (by omega) (by omega), show d + 2 - 1 = d + 1 by omega]
set_option maxHeartbeats 4000000 in
theorem op_dogs (N : Nat) (hN : 1000 ≤ N) (x : FIV) (m : MV) (p1 p2 : Int32) (h : REL x m) : ∃ (R : Int32 × Int32) (RM : Int32 × (Nat → Int32)), T_X3_dogs N (x_bads x) (xn_month x) (xn_floes x) (xn_ways x) (xn_strengths x) (xn_kinds x) (xn_cells x) p1 p2 = some R ∧ T_X4_dogs N (m_many m) (m_now m) (m_refused m) (m_ways m) (m_strengths m) (m_kinds m) (m_cells m) p1 p2 = some RM ∧ R.1 = RM.1 ∧ REL ((xn_month x), (xn_ways x), (xn_strengths x), (xn_floes x), (xn_kinds x), (xn_cells x), (xn_foods x), (xn_founds x), (xn_foundRows x), (xn_notes x), (xn_noteRows x), (xn_undos x), (xn_undoRows x), (xs_month x), (xs_ways x), (xs_strengths x), (xs_floes x), (xs_kinds x), (xs_cells x), (xs_foods x), (xs_founds x), (xs_foundRows x), (xs_notes x), (xs_noteRows x), (xs_undos x), (xs_undoRows x), (xt_bytes x), (xt_length x), (xt_place x), (xt_fault x), (x_odds x), (x_nextOdds x), (x_gains x), (x_above x), (x_below x), R.2, (x_nos x), (x_fulls x), (x_img0 x), (x_img1 x)) (RM.2, (m_many m), (m_now m), (m_findMany m), (m_noteMany m), (m_ways m), (m_strengths m), (m_kinds m), (m_cells m), (m_food m), (m_findKind m), (m_findMonth m), (m_findCell m), (m_noted m), (m_text m), (m_typed m), (m_readAt m), (m_readMonth m), (m_readMany m), (m_readFloe m), (m_readWind m), (m_readNumber m), (m_ahead m), (m_undoMany m), (m_aside m), (m_above m), (m_below m), (m_images m), (m_isKept m), (m_h0 m)) := by
  obtain ⟨⟨S, hok, hc, hm⟩, htx, hab, hrf, hg0, hg1⟩ := h
  have q := hok
  have q1 := hc
  have q2 := hm
  obtain ⟨o0, o1, o2, o3, o4, o5, o6, o7, o8, o9, o10, o11, o12⟩ := q
  obtain ⟨⟨c0, c1, c2, c3, c4⟩, c5, c6, c7, c8, c9, c10, c11, c12⟩ := q1
  obtain ⟨⟨m0, m1, m2, m3, m4⟩, m5, m6, m7, m8, m9, m10, m11, m12⟩ := q2
  rcases wif p1 (S 1 0) (by omega) with h0 | ⟨f, hf, rfl, h1⟩
  · refine opI (by rw [T_X3_dogs]; simp (disch := omega) only [l0, l1, l2, l3, l4, l5, l6, l7, l8, l9, l10, l11, l12, l30, l35, l36, l60, l99, l127, l150, l999, nI_eq, nI_leI, nI_ltI, nI_1, nI_add, pk_mul, obN, nI_clamp, lt', jn, Option.bind_some, inW, inF, inC, inK, fl4, cl4, wi3, T_X3_isFirstOrSecond, badE, fullE, noE, T_X3_refuseBad, T_X3_refuseFull, T_X3_refuseNo, reduceIte, Nat.reduceEqDiff, Nat.reduceLeDiff, Nat.reduceMul, Nat.reduceAdd, Nat.reduceSub, and_true, true_and, c1, m1, h0]; rfl) (by rw [T_X4_dogs]; simp (disch := omega) only [l0, l1, l2, l3, l4, l5, l6, l7, l8, l9, l10, l11, l12, l30, l35, l36, l60, l99, l127, l150, l999, nI_eq, nI_leI, nI_ltI, nI_1, nI_add, pk_mul, obN, nI_clamp, lt', jn, Option.bind_some, inW, inF, inC, inK, fl4, cl4, wi3, T_X3_isFirstOrSecond, badE, fullE, noE, T_X3_refuseBad, T_X3_refuseFull, T_X3_refuseNo, reduceIte, Nat.reduceEqDiff, Nat.reduceLeDiff, Nat.reduceMul, Nat.reduceAdd, Nat.reduceSub, and_true, true_and, c1, m1, h0]; rfl) ?_; exact ⟨rfl, ⟨S, hok, hc, hm⟩, htx, hab, rf_bad hrf, hg0, hg1⟩
  rcases wi p2 1 (by omega) with h0 | ⟨j, hj, rfl, h2⟩
  · refine opI (by rw [T_X3_dogs]; simp (disch := omega) only [l0, l1, l2, l3, l4, l5, l6, l7, l8, l9, l10, l11, l12, l30, l35, l36, l60, l99, l127, l150, l999, nI_eq, nI_leI, nI_ltI, nI_1, nI_add, pk_mul, obN, nI_clamp, lt', jn, Option.bind_some, inW, inF, inC, inK, fl4, cl4, wi3, T_X3_isFirstOrSecond, badE, fullE, noE, T_X3_refuseBad, T_X3_refuseFull, T_X3_refuseNo, reduceIte, Nat.reduceEqDiff, Nat.reduceLeDiff, Nat.reduceMul, Nat.reduceAdd, Nat.reduceSub, and_true, true_and, c1, m1, h0, h1]; rfl) (by rw [T_X4_dogs]; simp (disch := omega) only [l0, l1, l2, l3, l4, l5, l6, l7, l8, l9, l10, l11, l12, l30, l35, l36, l60, l99, l127, l150, l999, nI_eq, nI_leI, nI_ltI, nI_1, nI_add, pk_mul, obN, nI_clamp, lt', jn, Option.bind_some, inW, inF, inC, inK, fl4, cl4, wi3, T_X3_isFirstOrSecond, badE, fullE, noE, T_X3_refuseBad, T_X3_refuseFull, T_X3_refuseNo, reduceIte, Nat.reduceEqDiff, Nat.reduceLeDiff, Nat.reduceMul, Nat.reduceAdd, Nat.reduceSub, and_true, true_and, c1, m1, h0, h1]; rfl) ?_; exact ⟨rfl, ⟨S, hok, hc, hm⟩, htx, hab, rf_bad hrf, hg0, hg1⟩
  have hf5 : f < 5 := by omega
  have a7 := c7 f hf
  have a8 := c8 f hf
  have b7 := m7 f hf
  have b8 := m8 f hf
  have l14 : (14 : Int32) = nI 14 := rfl
  have k8 := o8 f hf
  have k7 := o7 f hf
  have hA := runN_le (m := S 0 0) o5 o6 k7 k8
  have dr := fun t (ht : t ≤ 200) => drifted_n (N := N) (mo := S 0 0) (j := t) hN c5 c6 o5 o6 k7 k8 (by omega) ht
  generalize hAe : runN (S 5) (S 6) (S 7 f) (S 8 f) (S 0 0) = A at hA dr
  have sA : ∀ i, A (i + 1) = itN (S 5) (S 6) (S 7 f) (A i) (S 0 0 + i) := fun i => by rw [← hAe]; rfl
  have zA : A 0 = S 8 f := by rw [← hAe]; rfl
  have ff := far_n k8 (show 14 ≤ 35 by omega)
  have ff4 := far4_n k8 (show 14 ≤ 35 by omega)
  have fe := ff.1
  have fl := ff.2
  obtain ⟨P, hP⟩ : ∃ P, P = max 1 ((farN (S 8 f) 14 + 1) / 2) := ⟨_, rfl⟩
  have dm := dogMonths_n fl
  have mx : (if 1 < (farN (S 8 f) 14 + 1) / 2 then nI ((farN (S 8 f) 14 + 1) / 2) else nI 1) = nI P := by
    by_cases h : 1 < (farN (S 8 f) 14 + 1) / 2
    · rw [if_pos h, hP, show max 1 ((farN (S 8 f) 14 + 1) / 2) = (farN (S 8 f) 14 + 1) / 2 by omega]
    · rw [if_neg h, hP, show max 1 ((farN (S 8 f) 14 + 1) / 2) = 1 by omega]
  have hP1 : 1 ≤ P ∧ P ≤ 5 := by omega
  have hPz : (farN (S 8 f) 14 + 1) / 2 = 0 → P = 1 := by omega
  have hPnz : ¬ (farN (S 8 f) 14 + 1) / 2 = 0 → (farN (S 8 f) 14 + 1) / 2 = P := by omega
  have hPn : ¬ P = 0 := by omega
  have hS : ∃ S : SeaN, okS S ∧ cS S (xn_month x) (xn_floes x) (xn_founds x) (xn_notes x) (xn_undos x) (xn_ways x) (xn_strengths x) (xn_kinds x) (xn_cells x) (xn_foods x) (xn_foundRows x) (xn_noteRows x) (xn_undoRows x) ∧ mS S (m_now m) (m_many m) (m_findMany m) (m_noteMany m) (m_undoMany m) (m_ways m) (m_strengths m) (m_kinds m) (m_cells m) (m_food m) (m_findKind m) (m_findMonth m) (m_findCell m) (m_noted m) (m_ahead m) := ⟨S, hok, hc, hm⟩
  obtain rfl | rfl : j = 1 ∨ j = 0 := by omega
  · refine opI (a := (nI P, x_bads x)) (b := (nI P, m_refused m)) ?_ ?_ ⟨rfl, hS, htx, hab, hrf, hg0, hg1⟩
    · rw [T_X3_dogs]
      simp (disch := omega) only [l0, l1, l2, l3, l4, l5, l6, l7, l8, l9, l10, l11, l12, l30, l35, l36, l60, l99, l127, l150, l999, nI_eq, nI_leI, nI_ltI, nI_1, nI_add, pk_mul, obN, nI_clamp, lt', jn, Option.bind_some, inW, inF, inC, inK, fl4, cl4, wi3, T_X3_isFirstOrSecond, badE, fullE, noE, T_X3_refuseBad, T_X3_refuseFull, T_X3_refuseNo, reduceIte, Nat.reduceEqDiff, Nat.reduceLeDiff, Nat.reduceMul, Nat.reduceAdd, Nat.reduceSub, and_true, true_and, c1, h1, h2, a8, l14, fe, dm, mx]
    · rw [T_X4_dogs]
      by_cases hz : (farN (S 8 f) 14 + 1) / 2 = 0
      · have hPe : P = 1 := hPz hz
        simp (disch := omega) only [l0, l1, l2, l3, l4, l5, l6, l7, l8, l9, l10, l11, l12, l30, l35, l36, l60, l99, l127, l150, l999, nI_eq, nI_leI, nI_ltI, nI_1, nI_add, pk_mul, obN, nI_clamp, lt', jn, Option.bind_some, inW, inF, inC, inK, fl4, cl4, wi3, T_X3_isFirstOrSecond, badE, fullE, noE, T_X3_refuseBad, T_X3_refuseFull, T_X3_refuseNo, reduceIte, Nat.reduceEqDiff, Nat.reduceLeDiff, Nat.reduceMul, Nat.reduceAdd, Nat.reduceSub, and_true, true_and, m1, h1, h2, b8, l14, ff4, pk_div, hz, hPe]
      · have hPe : (farN (S 8 f) 14 + 1) / 2 = P := hPnz hz
        simp (disch := omega) only [l0, l1, l2, l3, l4, l5, l6, l7, l8, l9, l10, l11, l12, l30, l35, l36, l60, l99, l127, l150, l999, nI_eq, nI_leI, nI_ltI, nI_1, nI_add, pk_mul, obN, nI_clamp, lt', jn, Option.bind_some, inW, inF, inC, inK, fl4, cl4, wi3, T_X3_isFirstOrSecond, badE, fullE, noE, T_X3_refuseBad, T_X3_refuseFull, T_X3_refuseNo, reduceIte, Nat.reduceEqDiff, Nat.reduceLeDiff, Nat.reduceMul, Nat.reduceAdd, Nat.reduceSub, and_true, true_and, m1, h1, h2, b8, l14, ff4, pk_div, hPe, hPn]
  · -- the way back: the first month that serves
    have fA := fun i => far_n (show 14 ≤ 35 by omega) (hA i)
    have fA4 := fun i => far4_n (show 14 ≤ 35 by omega) (hA i)
    have cb : ∀ t, t ≤ 200 → T_X1_cellBehind N (xn_month x) (xn_ways x) (xn_strengths x) (xn_kinds x) (xn_cells x) (nI f) (nI t) = some (nI (A t)) := by
      intro t ht
      rw [T_X1_cellBehind, nI_clamp (by omega), a7, a8, c0, dr t ht, obN hf5 (by omega), obN hf5 (by omega)]
      rfl
    have two : (∃ t, P ≤ t ∧ t ≤ 30 ∧ farN 14 (A t) ≤ 2 * (t - P) ∧ ∀ i, P ≤ i → i < t → ¬ farN 14 (A i) ≤ 2 * (i - P)) ∨ ∀ i, P ≤ i → i ≤ 30 → ¬ farN 14 (A i) ≤ 2 * (i - P) := by
      by_cases h : ∃ k, P ≤ k ∧ k ≤ 30 ∧ farN 14 (A k) ≤ 2 * (k - P)
      · obtain ⟨k, ⟨g1, g2, g3⟩, g4⟩ := pk_least (fun k => P ≤ k ∧ k ≤ 30 ∧ farN 14 (A k) ≤ 2 * (k - P)) h
        exact .inl ⟨k, g1, g2, g3, fun i i1 i2 i3 => g4 i i2 ⟨i1, by omega, i3⟩⟩
      · exact .inr fun i i1 i2 i3 => h ⟨i, i1, i2, i3⟩
    have hx1 : ∀ v : Int32, ((∃ t, P ≤ t ∧ t ≤ 30 ∧ farN 14 (A t) ≤ 2 * (t - P) ∧ (∀ i, P ≤ i → i < t → ¬ farN 14 (A i) ≤ 2 * (i - P)) ∧ v = nI t) ∨ ((∀ i, P ≤ i → i ≤ 30 → ¬ farN 14 (A i) ≤ 2 * (i - P)) ∧ v = -1)) → T_X3_dogsAndBack_L2 N (nI f) (nI P) (xn_month x) (xn_ways x) (xn_strengths x) (xn_kinds x) (xn_cells x) N (nI P) = some v := by
      intro v hv
      obtain ⟨r, x1, rfl⟩ := lp (fun n (s : Int32) => T_X3_dogsAndBack_L2 N (nI f) (nI P) (xn_month x) (xn_ways x) (xn_strengths x) (xn_kinds x) (xn_cells x) n s)
        (fun i s => s = nI i ∧ P ≤ i ∧ ∀ k, P ≤ k → k < i → ¬ farN 14 (A k) ≤ 2 * (k - P)) (fun r => r = v) 31
        (fun i s n hi ⟨s1, s2, s3⟩ => by
          subst s1
          have hn5 : ¬ 30 < i := by omega
          have cbi := cb i (by omega)
          have fi := (fA i).1
          have fl := (fA i).2
          have dmi := dogMonths_n fl
          by_cases h : farN 14 (A i) ≤ 2 * (i - P)
          · refine .inr ⟨nI i, ?_, ?_⟩
            · have hlt : ¬ i - P < (farN 14 (A i) + 1) / 2 := by omega
              (try simp only)
              rw [T_X3_dogsAndBack_L2]
              simp (disch := omega) only [l0, l1, l2, l3, l4, l5, l6, l7, l8, l9, l10, l11, l12, l30, l35, l36, l60, l99, l127, l150, l999, nI_eq, nI_leI, nI_ltI, nI_1, nI_add, pk_mul, obN, nI_clamp, lt', jn, Option.bind_some, inW, inF, inC, inK, fl4, cl4, wi3, T_X3_isFirstOrSecond, badE, fullE, noE, T_X3_refuseBad, T_X3_refuseFull, T_X3_refuseNo, reduceIte, Nat.reduceEqDiff, Nat.reduceLeDiff, Nat.reduceMul, Nat.reduceAdd, Nat.reduceSub, and_true, true_and, hn5, cbi, l14, fi, dmi, pk_sub, hlt]
            · rcases hv with ⟨t, t1, t2, t3, t4, rfl⟩ | ⟨t1, rfl⟩
              · rcases Nat.lt_trichotomy i t with h' | rfl | h'
                · exact absurd h (t4 i s2 h')
                · rfl
                · exact absurd t3 (s3 t t1 h')
              · exact absurd h (t1 i s2 (by omega))
          · refine .inl ⟨nI (i + 1), ⟨rfl, by omega, fun k k1 k2 => ?_⟩, ?_⟩
            · by_cases e : k = i
              · subst e; exact h
              · exact s3 k k1 (by omega)
            · have hlt : i - P < (farN 14 (A i) + 1) / 2 := by omega
              (try simp only)
              rw [T_X3_dogsAndBack_L2]
              simp (disch := omega) only [l0, l1, l2, l3, l4, l5, l6, l7, l8, l9, l10, l11, l12, l30, l35, l36, l60, l99, l127, l150, l999, nI_eq, nI_leI, nI_ltI, nI_1, nI_add, pk_mul, obN, nI_clamp, lt', jn, Option.bind_some, inW, inF, inC, inK, fl4, cl4, wi3, T_X3_isFirstOrSecond, badE, fullE, noE, T_X3_refuseBad, T_X3_refuseFull, T_X3_refuseNo, reduceIte, Nat.reduceEqDiff, Nat.reduceLeDiff, Nat.reduceMul, Nat.reduceAdd, Nat.reduceSub, and_true, true_and, hn5, cbi, l14, fi, dmi, pk_sub, hlt])
        (fun s n ⟨s1, s2, s3⟩ => by
          subst s1
          refine ⟨-1, by (try simp only); rw [T_X3_dogsAndBack_L2, l30, if_pos (by decide)], ?_⟩
          rcases hv with ⟨t, t1, t2, t3, t4, rfl⟩ | ⟨t1, rfl⟩
          · exact absurd t3 (s3 t t1 (by omega))
          · rfl)
        (31 - P) P (nI P) N (by omega) ⟨rfl, Nat.le_refl _, fun k k1 k2 => absurd k1 (by omega)⟩ (by omega)
      exact x1
    have hx2 : ∀ v : Int32, ((∃ t, P ≤ t ∧ t ≤ 30 ∧ farN 14 (A t) ≤ 2 * (t - P) ∧ (∀ i, P ≤ i → i < t → ¬ farN 14 (A i) ≤ 2 * (i - P)) ∧ v = nI t) ∨ ((∀ i, P ≤ i → i ≤ 30 → ¬ farN 14 (A i) ≤ 2 * (i - P)) ∧ v = -1)) → T_X4_dogs_L69 N (nI f) (nI P) (m_now m) (m_ways m) (m_strengths m) (m_kinds m) (fun x77 x78 => if x78 = 0 then some (-1, m_refused m) else some (x77, m_refused m)) N (nI (S 8 f)) (nI 0) (nI 0) = some (v, m_refused m) := by
      intro v hv
      obtain ⟨r, x1, rfl⟩ := lp (fun n (s : Int32 × Int32 × Int32) => T_X4_dogs_L69 N (nI f) (nI P) (m_now m) (m_ways m) (m_strengths m) (m_kinds m) (fun x77 x78 => if x78 = 0 then some (-1, m_refused m) else some (x77, m_refused m)) n s.1 s.2.1 s.2.2)
        (fun i s => ∃ b : Bool, s = (nI (A i), nI i, if b then nI 1 else nI 0) ∧ (∀ k, P ≤ k → k < i → ¬ farN 14 (A k) ≤ 2 * (k - P)) ∧ (b = true ↔ P ≤ i ∧ farN 14 (A i) ≤ 2 * (i - P))) (fun r => r = (v, m_refused m)) 30
        (fun i s n hi ⟨b, s1, s2, s3⟩ => by
          subst s1
          have hn5 : ¬ 30 ≤ i := by omega
          cases b with
          | true =>
            have s3 := s3.mp rfl
            refine .inr ⟨(nI i, m_refused m), ?_, ?_⟩
            · (try simp only)
              rw [T_X4_dogs_L69]
              simp (disch := omega) only [l0, l1, l2, l3, l4, l5, l6, l7, l8, l9, l10, l11, l12, l30, l35, l36, l60, l99, l127, l150, l999, nI_eq, nI_leI, nI_ltI, nI_1, nI_add, pk_mul, obN, nI_clamp, lt', jn, Option.bind_some, inW, inF, inC, inK, fl4, cl4, wi3, T_X3_isFirstOrSecond, badE, fullE, noE, T_X3_refuseBad, T_X3_refuseFull, T_X3_refuseNo, reduceIte, Nat.reduceEqDiff, Nat.reduceLeDiff, Nat.reduceMul, Nat.reduceAdd, Nat.reduceSub, and_true, true_and, hn5, if_true]
            · rcases hv with ⟨t, t1, t2, t3, t4, rfl⟩ | ⟨t1, rfl⟩
              · rcases Nat.lt_trichotomy i t with h' | rfl | h'
                · exact absurd s3.2 (t4 i s3.1 h')
                · rfl
                · exact absurd t3 (s2 t t1 h')
              · exact absurd s3.2 (t1 i s3.1 (by omega))
          | false =>
            have s3 : ¬ (P ≤ i ∧ farN 14 (A i) ≤ 2 * (i - P)) := fun h => Bool.noConfusion (s3.mpr h)
            have n1 := driftsIn_n (m := S 0 0 + i) hN m5 m6 o5 o6 k7 (hA i) (by omega)
            rw [← sA] at n1
            have fi := fA4 (i + 1)
            have hfl := (fA (i + 1)).2
            have ih : ∀ k, P ≤ k → k < i + 1 → ¬ farN 14 (A k) ≤ 2 * (k - P) := fun k k1 k2 => by
              by_cases e : k = i
              · subst e; exact fun h => s3 ⟨k1, h⟩
              · exact s2 k k1 (by omega)
            by_cases hp : i + 1 < P
            · refine .inl ⟨_, ⟨false, rfl, ih, by simp only [Bool.false_eq_true, false_iff]; omega⟩, ?_⟩
              (try simp only)
              rw [T_X4_dogs_L69]
              simp (disch := omega) only [l0, l1, l2, l3, l4, l5, l6, l7, l8, l9, l10, l11, l12, l30, l35, l36, l60, l99, l127, l150, l999, nI_eq, nI_leI, nI_ltI, nI_1, nI_add, pk_mul, obN, nI_clamp, lt', jn, Option.bind_some, inW, inF, inC, inK, fl4, cl4, wi3, T_X3_isFirstOrSecond, badE, fullE, noE, T_X3_refuseBad, T_X3_refuseFull, T_X3_refuseNo, reduceIte, Nat.reduceEqDiff, Nat.reduceLeDiff, Nat.reduceMul, Nat.reduceAdd, Nat.reduceSub, and_true, true_and, hn5, m0, b7, n1, hp, Bool.false_eq_true]
            · by_cases hq : farN 14 (A (i + 1)) ≤ 2 * (i + 1 - P)
              · refine .inl ⟨_, ⟨true, rfl, ih, by simp only [true_iff]; omega⟩, ?_⟩
                have hq' : ¬ 2 * (i + 1 - P) < farN 14 (A (i + 1)) := by omega
                (try simp only)
                rw [T_X4_dogs_L69]
                simp (disch := omega) only [l0, l1, l2, l3, l4, l5, l6, l7, l8, l9, l10, l11, l12, l30, l35, l36, l60, l99, l127, l150, l999, nI_eq, nI_leI, nI_ltI, nI_1, nI_add, pk_mul, obN, nI_clamp, lt', jn, Option.bind_some, inW, inF, inC, inK, fl4, cl4, wi3, T_X3_isFirstOrSecond, badE, fullE, noE, T_X3_refuseBad, T_X3_refuseFull, T_X3_refuseNo, reduceIte, Nat.reduceEqDiff, Nat.reduceLeDiff, Nat.reduceMul, Nat.reduceAdd, Nat.reduceSub, and_true, true_and, hn5, m0, b7, n1, hp, Bool.false_eq_true, pk_sub, l14, fi, hq', if_true]
              · refine .inl ⟨_, ⟨false, rfl, ih, by simp only [Bool.false_eq_true, false_iff]; omega⟩, ?_⟩
                have hq' : 2 * (i + 1 - P) < farN 14 (A (i + 1)) := by omega
                (try simp only)
                rw [T_X4_dogs_L69]
                simp (disch := omega) only [l0, l1, l2, l3, l4, l5, l6, l7, l8, l9, l10, l11, l12, l30, l35, l36, l60, l99, l127, l150, l999, nI_eq, nI_leI, nI_ltI, nI_1, nI_add, pk_mul, obN, nI_clamp, lt', jn, Option.bind_some, inW, inF, inC, inK, fl4, cl4, wi3, T_X3_isFirstOrSecond, badE, fullE, noE, T_X3_refuseBad, T_X3_refuseFull, T_X3_refuseNo, reduceIte, Nat.reduceEqDiff, Nat.reduceLeDiff, Nat.reduceMul, Nat.reduceAdd, Nat.reduceSub, and_true, true_and, hn5, m0, b7, n1, hp, Bool.false_eq_true, pk_sub, l14, fi, hq'])
        (fun s n ⟨b, s1, s2, s3⟩ => by
          subst s1
          cases b with
          | true =>
            have s3 := s3.mp rfl
            refine ⟨(nI 30, m_refused m), by (try simp only); rw [T_X4_dogs_L69]; simp (disch := omega) only [l0, l1, l2, l3, l4, l5, l6, l7, l8, l9, l10, l11, l12, l30, l35, l36, l60, l99, l127, l150, l999, nI_eq, nI_leI, nI_ltI, nI_1, nI_add, pk_mul, obN, nI_clamp, lt', jn, Option.bind_some, inW, inF, inC, inK, fl4, cl4, wi3, T_X3_isFirstOrSecond, badE, fullE, noE, T_X3_refuseBad, T_X3_refuseFull, T_X3_refuseNo, reduceIte, Nat.reduceEqDiff, Nat.reduceLeDiff, Nat.reduceMul, Nat.reduceAdd, Nat.reduceSub, and_true, true_and, Nat.le_refl, if_true], ?_⟩
            rcases hv with ⟨t, t1, t2, t3, t4, rfl⟩ | ⟨t1, rfl⟩
            · rcases Nat.lt_trichotomy 30 t with h' | rfl | h'
              · omega
              · rfl
              · exact absurd t3 (s2 t t1 h')
            · exact absurd s3.2 (t1 30 s3.1 (by omega))
          | false =>
            have s3 : ¬ (P ≤ 30 ∧ farN 14 (A 30) ≤ 2 * (30 - P)) := fun h => Bool.noConfusion (s3.mpr h)
            refine ⟨(-1, m_refused m), by (try simp only); rw [T_X4_dogs_L69]; simp (disch := omega) only [l0, l1, l2, l3, l4, l5, l6, l7, l8, l9, l10, l11, l12, l30, l35, l36, l60, l99, l127, l150, l999, nI_eq, nI_leI, nI_ltI, nI_1, nI_add, pk_mul, obN, nI_clamp, lt', jn, Option.bind_some, inW, inF, inC, inK, fl4, cl4, wi3, T_X3_isFirstOrSecond, badE, fullE, noE, T_X3_refuseBad, T_X3_refuseFull, T_X3_refuseNo, reduceIte, Nat.reduceEqDiff, Nat.reduceLeDiff, Nat.reduceMul, Nat.reduceAdd, Nat.reduceSub, and_true, true_and, Nat.le_refl, Bool.false_eq_true], ?_⟩
            rcases hv with ⟨t, t1, t2, t3, t4, rfl⟩ | ⟨t1, rfl⟩
            · by_cases e : t = 30
              · subst e; exact absurd ⟨t1, t3⟩ s3
              · exact absurd t3 (s2 t t1 (by omega))
            · rfl)
        30 0 (nI (A 0), nI 0, nI 0) N (by omega) ⟨false, rfl, fun k k1 k2 => absurd k2 (by omega), by simp only [Bool.false_eq_true, false_iff]; omega⟩ (by omega)
      rw [← zA]
      exact x1
    obtain ⟨v, hv⟩ : ∃ v : Int32, ((∃ t, P ≤ t ∧ t ≤ 30 ∧ farN 14 (A t) ≤ 2 * (t - P) ∧ (∀ i, P ≤ i → i < t → ¬ farN 14 (A i) ≤ 2 * (i - P)) ∧ v = nI t) ∨ ((∀ i, P ≤ i → i ≤ 30 → ¬ farN 14 (A i) ≤ 2 * (i - P)) ∧ v = -1)) := by
      rcases two with ⟨t, t1, t2, t3, t4⟩ | t1
      · exact ⟨nI t, .inl ⟨t, t1, t2, t3, t4, rfl⟩⟩
      · exact ⟨-1, .inr ⟨t1, rfl⟩⟩
    have y1 := hx1 v hv
    have y2 := hx2 v hv
    refine opI (a := (v, x_bads x)) (b := (v, m_refused m)) ?_ ?_ ⟨rfl, hS, htx, hab, hrf, hg0, hg1⟩
    · rw [T_X3_dogs]
      simp (disch := omega) only [l0, l1, l2, l3, l4, l5, l6, l7, l8, l9, l10, l11, l12, l30, l35, l36, l60, l99, l127, l150, l999, nI_eq, nI_leI, nI_ltI, nI_1, nI_add, pk_mul, obN, nI_clamp, lt', jn, Option.bind_some, inW, inF, inC, inK, fl4, cl4, wi3, T_X3_isFirstOrSecond, badE, fullE, noE, T_X3_refuseBad, T_X3_refuseFull, T_X3_refuseNo, reduceIte, Nat.reduceEqDiff, Nat.reduceLeDiff, Nat.reduceMul, Nat.reduceAdd, Nat.reduceSub, and_true, true_and, c1, h1, h2, a8, l14, fe, dm, mx, T_X3_dogsAndBack, y1]
    · rw [T_X4_dogs]
      by_cases hz : (farN (S 8 f) 14 + 1) / 2 = 0
      · have hPe : P = 1 := hPz hz
        rw [hPe] at y2
        refine Eq.trans ?_ y2
        simp (disch := omega) only [l0, l1, l2, l3, l4, l5, l6, l7, l8, l9, l10, l11, l12, l30, l35, l36, l60, l99, l127, l150, l999, nI_eq, nI_leI, nI_ltI, nI_1, nI_add, pk_mul, obN, nI_clamp, lt', jn, Option.bind_some, inW, inF, inC, inK, fl4, cl4, wi3, T_X3_isFirstOrSecond, badE, fullE, noE, T_X3_refuseBad, T_X3_refuseFull, T_X3_refuseNo, reduceIte, Nat.reduceEqDiff, Nat.reduceLeDiff, Nat.reduceMul, Nat.reduceAdd, Nat.reduceSub, and_true, true_and, m1, h1, h2, b8, l14, ff4, pk_div, hz]
      · have hPe : (farN (S 8 f) 14 + 1) / 2 = P := hPnz hz
        refine Eq.trans ?_ y2
        simp (disch := omega) only [l0, l1, l2, l3, l4, l5, l6, l7, l8, l9, l10, l11, l12, l30, l35, l36, l60, l99, l127, l150, l999, nI_eq, nI_leI, nI_ltI, nI_1, nI_add, pk_mul, obN, nI_clamp, lt', jn, Option.bind_some, inW, inF, inC, inK, fl4, cl4, wi3, T_X3_isFirstOrSecond, badE, fullE, noE, T_X3_refuseBad, T_X3_refuseFull, T_X3_refuseNo, reduceIte, Nat.reduceEqDiff, Nat.reduceLeDiff, Nat.reduceMul, Nat.reduceAdd, Nat.reduceSub, and_true, true_and, m1, h1, h2, b8, l14, ff4, pk_div, hPe, hPn]
