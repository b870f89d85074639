theorem gain_n {N t u first : Nat} {G : Nat → Int32} (h : first + t < 12) (ht : t < 6) (hu : u < 6) : T_X3_gain N G (nI first) (nI t) (nI u) = some (G (first + t) - (if t = u then nI 5 else nI 0)) := by
  rw [T_X3_gain]
  by_cases e : t = u
  · subst e; simp (disch := omega) only [l0, l1, l2, l3, l4, l5, l6, l7, l8, l9, l10, l11, l12, l30, l35, l36, l60, l99, l127, l150, l999, nI_eq, nI_leI, nI_ltI, nI_1, nI_add, pk_mul, obN, nI_clamp, lt', jn, Option.bind_some, inW, inF, inC, inK, fl4, cl4, wi3, T_X3_isFirstOrSecond, badE, fullE, noE, T_X3_refuseBad, T_X3_refuseFull, T_X3_refuseNo, reduceIte, Nat.reduceEqDiff, Nat.reduceLeDiff, Nat.reduceMul, Nat.reduceAdd, Nat.reduceSub, and_true, true_and]
  · simp (disch := omega) only [l0, l1, l2, l3, l4, l5, l6, l7, l8, l9, l10, l11, l12, l30, l35, l36, l60, l99, l127, l150, l999, nI_eq, nI_leI, nI_ltI, nI_1, nI_add, pk_mul, obN, nI_clamp, lt', jn, Option.bind_some, inW, inF, inC, inK, fl4, cl4, wi3, T_X3_isFirstOrSecond, badE, fullE, noE, T_X3_refuseBad, T_X3_refuseFull, T_X3_refuseNo, reduceIte, Nat.reduceEqDiff, Nat.reduceLeDiff, Nat.reduceMul, Nat.reduceAdd, Nat.reduceSub, and_true, true_and, e]
/-- neither gets more by another month -/
def rsN (g1 g2 : Nat → Nat → Int32) (i j : Nat) : Nat → Bool
  | 0 => true
  | k + 1 => rsN g1 g2 i j k && (!decide (g1 i j < g1 k j) && !decide (g2 j i < g2 k i))
theorem rsN_no {g1 g2 : Nat → Nat → Int32} {i j k : Nat} (h : rsN g1 g2 i j k = false) : ∀ d, rsN g1 g2 i j (k + d) = false
  | 0 => h
  | d + 1 => by
    show (rsN g1 g2 i j (k + d) && _) = false
    rw [rsN_no h d, Bool.false_and]
theorem rests3_n {N i j : Nat} {G : Nat → Int32} {g1 g2 : Nat → Nat → Int32} (hN : 1000 ≤ N) (hi : i < 6) (hj : j < 6) (h1 : ∀ t, t < 6 → ∀ u, u < 6 → G t - (if t = u then nI 5 else nI 0) = g1 t u) (h2 : ∀ t, t < 6 → ∀ u, u < 6 → G (6 + t) - (if t = u then nI 5 else nI 0) = g2 t u) : T_X3_rests N G (nI i) (nI j) = some (b2 (rsN g1 g2 i j 6)) := by
  have e1 : ∀ t, t < 6 → ∀ u, u < 6 → T_X3_gain N G (nI 0) (nI t) (nI u) = some (g1 t u) := fun t ht u hu => by rw [gain_n (by omega) ht hu, Nat.zero_add, h1 t ht u hu]
  have e2 : ∀ t, t < 6 → ∀ u, u < 6 → T_X3_gain N G (nI 6) (nI t) (nI u) = some (g2 t u) := fun t ht u hu => by rw [gain_n (by omega) ht hu, h2 t ht u hu]
  obtain ⟨r, x1, rfl⟩ := lp (fun n (s : Int32) => T_X3_rests_L2 N (nI i) (nI j) G (some 0) n s) (fun k s => s = nI k ∧ rsN g1 g2 i j k = true) (fun r => r = b2 (rsN g1 g2 i j 6)) 6
    (fun k s n hk ⟨s1, s2⟩ => by
      subst s1
      have hn5 : ¬ 6 ≤ k := by omega
      have a1 := e1 k hk j hj
      have a2 := e1 i hi j hj
      have a3 := e2 k hk i hi
      have a4 := e2 j hj i hi
      have no : rsN g1 g2 i j (k + 1) = false → b2 (rsN g1 g2 i j 6) = nI 0 := fun h => by
        have h' := rsN_no h (6 - (k + 1))
        rw [show k + 1 + (6 - (k + 1)) = 6 by omega] at h'
        rw [h']; rfl
      by_cases c1 : g1 i j < g1 k j
      · refine .inr ⟨nI 0, ?_, (no (by rw [rsN]; simp [c1])).symm⟩
        (try simp only)
        rw [T_X3_rests_L2]
        simp (disch := omega) only [l0, l1, l2, l3, l4, l5, l6, l7, l8, l9, l10, l11, l12, l30, l35, l36, l60, l99, l127, l150, l999, nI_eq, nI_leI, nI_ltI, nI_1, nI_add, pk_mul, obN, nI_clamp, lt', jn, Option.bind_some, inW, inF, inC, inK, fl4, cl4, wi3, T_X3_isFirstOrSecond, badE, fullE, noE, T_X3_refuseBad, T_X3_refuseFull, T_X3_refuseNo, reduceIte, Nat.reduceEqDiff, Nat.reduceLeDiff, Nat.reduceMul, Nat.reduceAdd, Nat.reduceSub, and_true, true_and, hn5, a1, a2, c1]
      · by_cases c2 : g2 j i < g2 k i
        · have c3 : ¬ g2 k i ≤ g2 j i := Int32.not_le.mpr c2
          refine .inr ⟨nI 0, ?_, (no (by rw [rsN]; simp [c2])).symm⟩
          (try simp only)
          rw [T_X3_rests_L2]
          simp (disch := omega) only [l0, l1, l2, l3, l4, l5, l6, l7, l8, l9, l10, l11, l12, l30, l35, l36, l60, l99, l127, l150, l999, nI_eq, nI_leI, nI_ltI, nI_1, nI_add, pk_mul, obN, nI_clamp, lt', jn, Option.bind_some, inW, inF, inC, inK, fl4, cl4, wi3, T_X3_isFirstOrSecond, badE, fullE, noE, T_X3_refuseBad, T_X3_refuseFull, T_X3_refuseNo, reduceIte, Nat.reduceEqDiff, Nat.reduceLeDiff, Nat.reduceMul, Nat.reduceAdd, Nat.reduceSub, and_true, true_and, hn5, a1, a2, a3, a4, c1, c3]
        · have c3 : g2 k i ≤ g2 j i := Int32.not_lt.mp c2
          refine .inl ⟨nI (k + 1), ⟨rfl, by rw [rsN, s2]; simp [c1, c2]⟩, ?_⟩
          (try simp only)
          rw [T_X3_rests_L2]
          simp (disch := omega) only [l0, l1, l2, l3, l4, l5, l6, l7, l8, l9, l10, l11, l12, l30, l35, l36, l60, l99, l127, l150, l999, nI_eq, nI_leI, nI_ltI, nI_1, nI_add, pk_mul, obN, nI_clamp, lt', jn, Option.bind_some, inW, inF, inC, inK, fl4, cl4, wi3, T_X3_isFirstOrSecond, badE, fullE, noE, T_X3_refuseBad, T_X3_refuseFull, T_X3_refuseNo, reduceIte, Nat.reduceEqDiff, Nat.reduceLeDiff, Nat.reduceMul, Nat.reduceAdd, Nat.reduceSub, and_true, true_and, hn5, a1, a2, a3, a4, c1, c3])
    (fun s n ⟨s1, s2⟩ => by
      subst s1
      exact ⟨nI 1, by (try simp only); rw [T_X3_rests_L2]; simp (disch := omega) only [l0, l1, l2, l3, l4, l5, l6, l7, l8, l9, l10, l11, l12, l30, l35, l36, l60, l99, l127, l150, l999, nI_eq, nI_leI, nI_ltI, nI_1, nI_add, pk_mul, obN, nI_clamp, lt', jn, Option.bind_some, inW, inF, inC, inK, fl4, cl4, wi3, T_X3_isFirstOrSecond, badE, fullE, noE, T_X3_refuseBad, T_X3_refuseFull, T_X3_refuseNo, reduceIte, Nat.reduceEqDiff, Nat.reduceLeDiff, Nat.reduceMul, Nat.reduceAdd, Nat.reduceSub, and_true, true_and, Nat.le_refl], by rw [s2]; rfl⟩)
    6 0 (nI 0) N rfl ⟨rfl, rfl⟩ (by omega)
  exact x1
theorem rests4_n {N a b i j : Nat} {now : Int32} {w s kk cells food : Nat → Int32} {g1 g2 : Nat → Nat → Int32} (hN : 1000 ≤ N) (hi : i < 6) (hj : j < 6) (h1 : ∀ t, t < 6 → ∀ u, u < 6 → T_X4_gets N now w s kk cells food (nI a) (nI b) (nI t) (nI u) = some (g1 t u)) (h2 : ∀ t, t < 6 → ∀ u, u < 6 → T_X4_gets N now w s kk cells food (nI b) (nI a) (nI t) (nI u) = some (g2 t u)) : T_X4_rests N now w s kk cells food (nI a) (nI i) (nI b) (nI j) = some (b2 (rsN g1 g2 i j 6)) := by
  obtain ⟨r, x1, rfl⟩ := lp (fun n (q : Int32 × Int32) => T_X4_rests_L6 N (nI a) (nI i) (nI b) (nI j) now w s kk cells food n q.1 q.2) (fun k q => q = (b2 (rsN g1 g2 i j k), nI k)) (fun r => r = b2 (rsN g1 g2 i j 6)) 6
    (fun k q n hk hq => by
      subst hq
      have hn5 : ¬ 6 ≤ k := by omega
      have a1 := h1 k hk j hj
      have a2 := h1 i hi j hj
      have a3 := h2 k hk i hi
      have a4 := h2 j hj i hi
      refine .inl ⟨_, rfl, ?_⟩
      (try simp only)
      rw [T_X4_rests_L6, rsN]
      cases hb : rsN g1 g2 i j k with
      | false => simp (disch := omega) only [l0, l1, l2, l3, l4, l5, l6, l7, l8, l9, l10, l11, l12, l30, l35, l36, l60, l99, l127, l150, l999, nI_eq, nI_leI, nI_ltI, nI_1, nI_add, pk_mul, obN, nI_clamp, lt', jn, Option.bind_some, inW, inF, inC, inK, fl4, cl4, wi3, T_X3_isFirstOrSecond, badE, fullE, noE, T_X3_refuseBad, T_X3_refuseFull, T_X3_refuseNo, reduceIte, Nat.reduceEqDiff, Nat.reduceLeDiff, Nat.reduceMul, Nat.reduceAdd, Nat.reduceSub, and_true, true_and, hn5, b2, Bool.false_eq_true, Bool.false_and]
      | true =>
        by_cases c1 : g1 i j < g1 k j
        · simp (disch := omega) only [l0, l1, l2, l3, l4, l5, l6, l7, l8, l9, l10, l11, l12, l30, l35, l36, l60, l99, l127, l150, l999, nI_eq, nI_leI, nI_ltI, nI_1, nI_add, pk_mul, obN, nI_clamp, lt', jn, Option.bind_some, inW, inF, inC, inK, fl4, cl4, wi3, T_X3_isFirstOrSecond, badE, fullE, noE, T_X3_refuseBad, T_X3_refuseFull, T_X3_refuseNo, reduceIte, Nat.reduceEqDiff, Nat.reduceLeDiff, Nat.reduceMul, Nat.reduceAdd, Nat.reduceSub, and_true, true_and, hn5, a1, a2, c1, b2, decide_true, Bool.not_true, Bool.false_and, Bool.true_and, Bool.false_eq_true]
        · by_cases c2 : g2 j i < g2 k i
          · simp (disch := omega) only [l0, l1, l2, l3, l4, l5, l6, l7, l8, l9, l10, l11, l12, l30, l35, l36, l60, l99, l127, l150, l999, nI_eq, nI_leI, nI_ltI, nI_1, nI_add, pk_mul, obN, nI_clamp, lt', jn, Option.bind_some, inW, inF, inC, inK, fl4, cl4, wi3, T_X3_isFirstOrSecond, badE, fullE, noE, T_X3_refuseBad, T_X3_refuseFull, T_X3_refuseNo, reduceIte, Nat.reduceEqDiff, Nat.reduceLeDiff, Nat.reduceMul, Nat.reduceAdd, Nat.reduceSub, and_true, true_and, hn5, a1, a2, a3, a4, c1, c2, b2, decide_true, decide_false, Bool.not_true, Bool.not_false, Bool.and_false, Bool.true_and, Bool.false_eq_true]
          · simp (disch := omega) only [l0, l1, l2, l3, l4, l5, l6, l7, l8, l9, l10, l11, l12, l30, l35, l36, l60, l99, l127, l150, l999, nI_eq, nI_leI, nI_ltI, nI_1, nI_add, pk_mul, obN, nI_clamp, lt', jn, Option.bind_some, inW, inF, inC, inK, fl4, cl4, wi3, T_X3_isFirstOrSecond, badE, fullE, noE, T_X3_refuseBad, T_X3_refuseFull, T_X3_refuseNo, reduceIte, Nat.reduceEqDiff, Nat.reduceLeDiff, Nat.reduceMul, Nat.reduceAdd, Nat.reduceSub, and_true, true_and, hn5, a1, a2, a3, a4, c1, c2, b2, decide_false, Bool.not_false, Bool.true_and])
    (fun q n hq => by
      subst hq
      refine ⟨b2 (rsN g1 g2 i j 6), ?_, rfl⟩
      have hg : b2 (rsN g1 g2 i j 6) = 0 ∨ b2 (rsN g1 g2 i j 6) = 1 := by
        cases rsN g1 g2 i j 6
        · exact .inl rfl
        · exact .inr rfl
      (try simp only)
      rw [T_X4_rests_L6, l6, if_pos ((nI_leI (by omega) (by omega)).mpr (Nat.le_refl 6)), gb, if_pos hg])
    6 0 (1, 0) N rfl rfl (by omega)
  exact x1
