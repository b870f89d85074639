theorem adN_c (a b : Nat) : adN a b = adN b a := by unfold adN; omega
theorem farN_c (a b : Nat) : farN a b = farN b a := by unfold farN; rw [adN_c, adN_c (a % 6)]
theorem foodBehind_n {N f i F : Nat} {foods : Nat → Int32} (hf : f < 5) (e : foods f = nI F) (hF : F ≤ 99) (hi : i ≤ 60) : T_X1_foodBehind N foods (nI f) (nI i) = some (nI (F - i)) := by
  have h := subP (j := F) (q := i) (by omega) (by omega)
  rw [T_X1_foodBehind, obN hf (by omega), nI_clamp (by omega), e]
  exact congrArg some h
/-- what one gets who goes over after i months, the other after j -/
def gtI (A B : Nat → Nat) (F i j : Nat) : Int32 := nI (F - i) - nI (farN (A i) (B i)) - (if i = j then nI 5 else nI 0)
theorem gets_n {N a b i j : Nat} {S : SeaN} {now : Int32} {w s kk cells food : Nat → Int32} (hN : 1000 ≤ N) (hok : okS S) (ha : a < S 1 0) (hb : b < S 1 0) (hi : i ≤ 6) (hj : j ≤ 6) (m0 : now = nI (S 0 0)) (m5 : ∀ i, i < 12 → w i = nI (S 5 i)) (m6 : ∀ i, i < 12 → s i = nI (S 6 i)) (m7 : ∀ f, f < S 1 0 → kk f = nI (S 7 f)) (m8 : ∀ f, f < S 1 0 → cells f = nI (S 8 f)) (m9 : ∀ f, f < S 1 0 → food f = nI (S 9 f)) :
    T_X4_gets N now w s kk cells food (nI a) (nI b) (nI i) (nI j) = some (gtI (runN (S 5) (S 6) (S 7 a) (S 8 a) (S 0 0)) (runN (S 5) (S 6) (S 7 b) (S 8 b) (S 0 0)) (S 9 b) i j) := by
  obtain ⟨o0, o1, o2, o3, o4, o5, o6, o7, o8, o9, -⟩ := hok
  have ha5 : a < 5 := by omega
  have hb5 : b < 5 := by omega
  have a7 := m7 a ha
  have a8 := m8 a ha
  have b7 := m7 b hb
  have b8 := m8 b hb
  have b9 := m9 b hb
  have l9 := o9 b hb
  have hA := runN_le (m := S 0 0) o5 o6 (o7 a ha) (o8 a ha)
  have hB := runN_le (m := S 0 0) o5 o6 (o7 b hb) (o8 b hb)
  have key : ∀ (K : Int32 → Int32 → Option Int32) (d t n : Nat), t + d = i → d < n → T_X4_gets_L19 N (nI a) (nI b) (nI i) now w s kk K n (nI (runN (S 5) (S 6) (S 7 a) (S 8 a) (S 0 0) t)) (nI (runN (S 5) (S 6) (S 7 b) (S 8 b) (S 0 0) t)) (nI t) = K (nI (runN (S 5) (S 6) (S 7 a) (S 8 a) (S 0 0) i)) (nI (runN (S 5) (S 6) (S 7 b) (S 8 b) (S 0 0) i)) := by
    intro K d
    induction d with
    | zero =>
      intro t n ht hn
      obtain ⟨n, rfl⟩ := Nat.exists_eq_succ_of_ne_zero (show n ≠ 0 by omega)
      obtain rfl : t = i := by omega
      rw [T_X4_gets_L19]; simp (disch := omega) only [l0, l1, l2, l3, l4, l5, l6, l7, l8, l9, l10, l11, l12, l30, l35, l36, l60, l99, l127, l150, l999, nI_eq, nI_leI, nI_ltI, nI_1, nI_add, pk_mul, obN, nI_clamp, lt', jn, Option.bind_some, inW, inF, inC, inK, fl4, cl4, wi3, T_X3_isFirstOrSecond, badE, fullE, noE, T_X3_refuseBad, T_X3_refuseFull, T_X3_refuseNo, reduceIte, Nat.reduceEqDiff, Nat.reduceLeDiff, Nat.reduceMul, Nat.reduceAdd, Nat.reduceSub, and_true, true_and, Nat.le_refl]
    | succ d ih =>
      intro t n ht hn
      obtain ⟨n, rfl⟩ := Nat.exists_eq_succ_of_ne_zero (show n ≠ 0 by omega)
      have hn5 : ¬ i ≤ t := by omega
      have n1 := driftsIn_n (m := S 0 0 + t) hN m5 m6 o5 o6 (o7 a ha) (hA t) (by omega)
      have n2 := driftsIn_n (m := S 0 0 + t) hN m5 m6 o5 o6 (o7 b hb) (hB t) (by omega)
      rw [← ih (t + 1) n (by omega) (by omega), T_X4_gets_L19, runN, runN]
      simp (disch := omega) only [l0, l1, l2, l3, l4, l5, l6, l7, l8, l9, l10, l11, l12, l30, l35, l36, l60, l99, l127, l150, l999, nI_eq, nI_leI, nI_ltI, nI_1, nI_add, pk_mul, obN, nI_clamp, lt', jn, Option.bind_some, inW, inF, inC, inK, fl4, cl4, wi3, T_X3_isFirstOrSecond, badE, fullE, noE, T_X3_refuseBad, T_X3_refuseFull, T_X3_refuseNo, reduceIte, Nat.reduceEqDiff, Nat.reduceLeDiff, Nat.reduceMul, Nat.reduceAdd, Nat.reduceSub, and_true, true_and, hn5, a7, b7, m0, n1, n2]
  have ff := far4_n (hA i) (hB i)
  rw [T_X4_gets]
  simp only [lt']
  rw [obN ha5 (by omega), obN hb5 (by omega), nI_clamp (by omega), nI_clamp (by omega), a8, b8]
  refine (key _ i 0 N (by omega) (by omega)).trans ?_
  unfold gtI
  by_cases h1 : S 9 b ≤ i
  · have e0 : S 9 b - i = 0 := by omega
    by_cases h2 : i = j
    · subst h2; simp (disch := omega) only [l0, l1, l2, l3, l4, l5, l6, l7, l8, l9, l10, l11, l12, l30, l35, l36, l60, l99, l127, l150, l999, nI_eq, nI_leI, nI_ltI, nI_1, nI_add, pk_mul, obN, nI_clamp, lt', jn, Option.bind_some, inW, inF, inC, inK, fl4, cl4, wi3, T_X3_isFirstOrSecond, badE, fullE, noE, T_X3_refuseBad, T_X3_refuseFull, T_X3_refuseNo, reduceIte, Nat.reduceEqDiff, Nat.reduceLeDiff, Nat.reduceMul, Nat.reduceAdd, Nat.reduceSub, and_true, true_and, b9, h1, ff, e0]
    · simp (disch := omega) only [l0, l1, l2, l3, l4, l5, l6, l7, l8, l9, l10, l11, l12, l30, l35, l36, l60, l99, l127, l150, l999, nI_eq, nI_leI, nI_ltI, nI_1, nI_add, pk_mul, obN, nI_clamp, lt', jn, Option.bind_some, inW, inF, inC, inK, fl4, cl4, wi3, T_X3_isFirstOrSecond, badE, fullE, noE, T_X3_refuseBad, T_X3_refuseFull, T_X3_refuseNo, reduceIte, Nat.reduceEqDiff, Nat.reduceLeDiff, Nat.reduceMul, Nat.reduceAdd, Nat.reduceSub, and_true, true_and, b9, h1, h2, ff, e0]
  · by_cases h2 : i = j
    · subst h2; simp (disch := omega) only [l0, l1, l2, l3, l4, l5, l6, l7, l8, l9, l10, l11, l12, l30, l35, l36, l60, l99, l127, l150, l999, nI_eq, nI_leI, nI_ltI, nI_1, nI_add, pk_mul, obN, nI_clamp, lt', jn, Option.bind_some, inW, inF, inC, inK, fl4, cl4, wi3, T_X3_isFirstOrSecond, badE, fullE, noE, T_X3_refuseBad, T_X3_refuseFull, T_X3_refuseNo, reduceIte, Nat.reduceEqDiff, Nat.reduceLeDiff, Nat.reduceMul, Nat.reduceAdd, Nat.reduceSub, and_true, true_and, b9, h1, ff, pk_sub]
    · simp (disch := omega) only [l0, l1, l2, l3, l4, l5, l6, l7, l8, l9, l10, l11, l12, l30, l35, l36, l60, l99, l127, l150, l999, nI_eq, nI_leI, nI_ltI, nI_1, nI_add, pk_mul, obN, nI_clamp, lt', jn, Option.bind_some, inW, inF, inC, inK, fl4, cl4, wi3, T_X3_isFirstOrSecond, badE, fullE, noE, T_X3_refuseBad, T_X3_refuseFull, T_X3_refuseNo, reduceIte, Nat.reduceEqDiff, Nat.reduceLeDiff, Nat.reduceMul, Nat.reduceAdd, Nat.reduceSub, and_true, true_and, b9, h1, h2, ff, pk_sub]
