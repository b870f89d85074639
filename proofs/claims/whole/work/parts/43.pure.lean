theorem weigh_n {N a b : Nat} {S : SeaN} {mo : Int32} {w s kk cells food gains : Nat → Int32} (hN : 1000 ≤ N) (hok : okS S) (ha : a < S 1 0) (hb : b < S 1 0) (m0 : mo = nI (S 0 0)) (m5 : ∀ i, i < 12 → w i = nI (S 5 i)) (m6 : ∀ i, i < 12 → s i = nI (S 6 i)) (m7 : ∀ f, f < S 1 0 → kk f = nI (S 7 f)) (m8 : ∀ f, f < S 1 0 → cells f = nI (S 8 f)) (m9 : ∀ f, f < S 1 0 → food f = nI (S 9 f)) :
    ∃ G, T_X3_weighLeaving N mo w s kk cells food gains (nI a) (nI b) = some G ∧ ∀ t, t < 6 → G t = nI (S 9 b - t) - nI (farN (runN (S 5) (S 6) (S 7 a) (S 8 a) (S 0 0) t) (runN (S 5) (S 6) (S 7 b) (S 8 b) (S 0 0) t)) ∧ G (6 + t) = nI (S 9 a - t) - nI (farN (runN (S 5) (S 6) (S 7 a) (S 8 a) (S 0 0) t) (runN (S 5) (S 6) (S 7 b) (S 8 b) (S 0 0) t)) := by
  obtain ⟨o0, o1, o2, o3, o4, o5, o6, o7, o8, o9, -⟩ := hok
  have ha5 : a < 5 := by omega
  have hb5 : b < 5 := by omega
  have cb : ∀ f, f < S 1 0 → ∀ t, t ≤ 200 → T_X1_cellBehind N mo w s kk cells (nI f) (nI t) = some (nI (runN (S 5) (S 6) (S 7 f) (S 8 f) (S 0 0) t)) := by
    intro f hf t ht
    have hf5 : f < 5 := by omega
    rw [T_X1_cellBehind, nI_clamp (by omega), m7 f hf, m8 f hf, m0, drifted_n hN m5 m6 o5 o6 (o7 f hf) (o8 f hf) (by omega) ht, obN hf5 (by omega), obN hf5 (by omega)]
    rfl
  obtain ⟨r, x1, x2⟩ := lp (fun n (q : Int32 × (Nat → Int32)) => T_X3_weighLeaving_L2 N (nI a) (nI b) mo w s kk cells food n q.1 q.2)
    (fun i q => q.1 = nI i ∧ ∀ t, t < i → q.2 t = nI (S 9 b - t) - nI (farN (runN (S 5) (S 6) (S 7 a) (S 8 a) (S 0 0) t) (runN (S 5) (S 6) (S 7 b) (S 8 b) (S 0 0) t)) ∧ q.2 (6 + t) = nI (S 9 a - t) - nI (farN (runN (S 5) (S 6) (S 7 a) (S 8 a) (S 0 0) t) (runN (S 5) (S 6) (S 7 b) (S 8 b) (S 0 0) t)))
    (fun G => ∀ t, t < 6 → G t = nI (S 9 b - t) - nI (farN (runN (S 5) (S 6) (S 7 a) (S 8 a) (S 0 0) t) (runN (S 5) (S 6) (S 7 b) (S 8 b) (S 0 0) t)) ∧ G (6 + t) = nI (S 9 a - t) - nI (farN (runN (S 5) (S 6) (S 7 a) (S 8 a) (S 0 0) t) (runN (S 5) (S 6) (S 7 b) (S 8 b) (S 0 0) t))) 6
    (fun i q n hi ⟨a1, a2⟩ => by
      obtain ⟨q1, q2⟩ := q
      simp only at a1 a2
      subst a1
      have hn5 : ¬ 6 ≤ i := by omega
      have ca := cb a ha i (by omega)
      have cb' := cb b hb i (by omega)
      have ff := (far_n (runN_le (m := S 0 0) o5 o6 (o7 a ha) (o8 a ha) i) (runN_le (m := S 0 0) o5 o6 (o7 b hb) (o8 b hb) i)).1
      have fa := foodBehind_n (N := N) ha5 (m9 a ha) (o9 a ha) (show i ≤ 60 by omega)
      have fb := foodBehind_n (N := N) hb5 (m9 b hb) (o9 b hb) (show i ≤ 60 by omega)
      refine .inl ⟨(nI (i + 1), upd (upd q2 i (nI (S 9 b - i) - nI (farN (runN (S 5) (S 6) (S 7 a) (S 8 a) (S 0 0) i) (runN (S 5) (S 6) (S 7 b) (S 8 b) (S 0 0) i)))) (6 + i) (nI (S 9 a - i) - nI (farN (runN (S 5) (S 6) (S 7 a) (S 8 a) (S 0 0) i) (runN (S 5) (S 6) (S 7 b) (S 8 b) (S 0 0) i)))), ⟨rfl, ?_⟩, ?_⟩
      · intro t ht
        simp only
        by_cases e : t = i
        · subst e
          rw [pk_un (by omega), pk_us, pk_us]; exact ⟨rfl, rfl⟩
        · rw [pk_un (by omega), pk_un (by omega), pk_un (by omega), pk_un (by omega)]; exact a2 t (by omega)
      · (try simp only)
        rw [T_X3_weighLeaving_L2]
        simp (disch := omega) only [l0, l1, l2, l3, l4, l5, l6, l7, l8, l9, l10, l11, l12, l30, l35, l36, l60, l99, l127, l150, l999, nI_eq, nI_leI, nI_ltI, nI_1, nI_add, pk_mul, obN, nI_clamp, lt', jn, Option.bind_some, inW, inF, inC, inK, fl4, cl4, wi3, T_X3_isFirstOrSecond, badE, fullE, noE, T_X3_refuseBad, T_X3_refuseFull, T_X3_refuseNo, reduceIte, Nat.reduceEqDiff, Nat.reduceLeDiff, Nat.reduceMul, Nat.reduceAdd, Nat.reduceSub, and_true, true_and, hn5, ca, cb', ff, fa, fb])
    (fun q n ⟨a1, a2⟩ => ⟨q.2, by (try simp only); rw [T_X3_weighLeaving_L2, a1]; simp (disch := omega) only [l0, l1, l2, l3, l4, l5, l6, l7, l8, l9, l10, l11, l12, l30, l35, l36, l60, l99, l127, l150, l999, nI_eq, nI_leI, nI_ltI, nI_1, nI_add, pk_mul, obN, nI_clamp, lt', jn, Option.bind_some, inW, inF, inC, inK, fl4, cl4, wi3, T_X3_isFirstOrSecond, badE, fullE, noE, T_X3_refuseBad, T_X3_refuseFull, T_X3_refuseNo, reduceIte, Nat.reduceEqDiff, Nat.reduceLeDiff, Nat.reduceMul, Nat.reduceAdd, Nat.reduceSub, and_true, true_and, Nat.le_refl], a2⟩)
    6 0 (0, gains) N rfl ⟨rfl, fun t ht => absurd ht (Nat.not_lt_zero t)⟩ (by omega)
  exact ⟨r, x1, x2⟩
