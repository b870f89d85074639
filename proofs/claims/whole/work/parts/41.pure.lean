theorem get93 {N q : Nat} (hq : q ≤ 200) (g : Nat → Int32)  (K : (Nat → Int32) → (Nat → Int32) → Option (Int32 × Int32 × Int32 × Int32 × Int32 × Int32 × (Nat → Int32) × (Nat → Int32) × (Nat → Int32) × (Nat → Int32) × (Nat → Int32) × (Nat → Int32) × (Nat → Int32) × (Nat → Int32) × (Nat → Int32) × (Nat → Int32) × (Nat → Int32))) : ∀ (d i j : Nat) (z0 z1 : Nat → Int32), i + d = 12 → d < j → ∃ w0 w1, T_X4_from_L93 N (nI q) g K j (nI i) z0 z1 = K w0 w1 ∧ (∀ k, i ≤ k → k < 12 → w0 k = g (q + 15 + k) ∧ w1 k = g (q + 27 + k)) ∧ ∀ k, k < i → w0 k = z0 k ∧ w1 k = z1 k := by
  intro d
  induction d with
  | zero =>
    intro i j z0 z1 hi hj
    obtain ⟨j, rfl⟩ := Nat.exists_eq_succ_of_ne_zero (show j ≠ 0 by omega)
    obtain rfl : i = 12 := by omega
    refine ⟨z0, z1, ?_, fun k k1 k2 => absurd k1 (by omega), fun _ _ => ⟨rfl, rfl⟩⟩
    rw [T_X4_from_L93]; simp (disch := omega) only [l0, l1, l2, l3, l4, l5, l6, l7, l8, l9, l10, l11, l12, l30, l35, l36, l60, l99, l127, l150, l999, nI_eq, nI_leI, nI_ltI, nI_1, nI_add, pk_mul, obN, nI_clamp, lt', jn, Option.bind_some, inW, inF, inC, inK, fl4, cl4, wi3, T_X3_isFirstOrSecond, badE, fullE, noE, T_X3_refuseBad, T_X3_refuseFull, T_X3_refuseNo, reduceIte, Nat.reduceEqDiff, Nat.reduceLeDiff, Nat.reduceMul, Nat.reduceAdd, Nat.reduceSub, and_true, true_and, Nat.le_refl, q42, q88]
  | succ d ih =>
    intro i j z0 z1 hi hj
    obtain ⟨j, rfl⟩ := Nat.exists_eq_succ_of_ne_zero (show j ≠ 0 by omega)
    have hn5 : ¬ 12 ≤ i := by omega
    obtain ⟨w0, w1, e1, e2, e3⟩ := ih (i + 1) j (upd z0 i (g (q + 15 + i))) (upd z1 i (g (q + 27 + i))) (by omega) (by omega)
    refine ⟨w0, w1, ?_, ?_, ?_⟩
    · rw [← e1, T_X4_from_L93]
      simp (disch := omega) only [l0, l1, l2, l3, l4, l5, l6, l7, l8, l9, l10, l11, l12, l30, l35, l36, l60, l99, l127, l150, l999, nI_eq, nI_leI, nI_ltI, nI_1, nI_add, pk_mul, obN, nI_clamp, lt', jn, Option.bind_some, inW, inF, inC, inK, fl4, cl4, wi3, T_X3_isFirstOrSecond, badE, fullE, noE, T_X3_refuseBad, T_X3_refuseFull, T_X3_refuseNo, reduceIte, Nat.reduceEqDiff, Nat.reduceLeDiff, Nat.reduceMul, Nat.reduceAdd, Nat.reduceSub, and_true, true_and, hn5, q42, q88, q15, q27]
    · intro k k1 k2
      by_cases e : k = i
      · subst e
        have h := e3 k (by omega)
        simp only [pk_us] at h
        exact h
      · exact e2 k (by omega) k2
    · intro k hk
      have h := e3 k (by omega)
      have hne : k ≠ i := by omega
      simp only [pk_un hne] at h
      exact h
theorem get141 {N q : Nat} (hq : q ≤ 200) (g : Nat → Int32)  (K : (Nat → Int32) → Option (Int32 × Int32 × Int32 × Int32 × Int32 × Int32 × (Nat → Int32) × (Nat → Int32) × (Nat → Int32) × (Nat → Int32) × (Nat → Int32) × (Nat → Int32) × (Nat → Int32) × (Nat → Int32) × (Nat → Int32) × (Nat → Int32) × (Nat → Int32))) : ∀ (d i j : Nat) (z0 : Nat → Int32), i + d = 5 → d < j → ∃ w0, T_X4_from_L141 N (nI q) g K j (nI i) z0 = K w0 ∧ (∀ k, i ≤ k → k < 5 → w0 k = g (q + 39 + k)) ∧ ∀ k, k < i → w0 k = z0 k := by
  intro d
  induction d with
  | zero =>
    intro i j z0 hi hj
    obtain ⟨j, rfl⟩ := Nat.exists_eq_succ_of_ne_zero (show j ≠ 0 by omega)
    obtain rfl : i = 5 := by omega
    refine ⟨z0, ?_, fun k k1 k2 => absurd k1 (by omega), fun _ _ => rfl⟩
    rw [T_X4_from_L141]; simp (disch := omega) only [l0, l1, l2, l3, l4, l5, l6, l7, l8, l9, l10, l11, l12, l30, l35, l36, l60, l99, l127, l150, l999, nI_eq, nI_leI, nI_ltI, nI_1, nI_add, pk_mul, obN, nI_clamp, lt', jn, Option.bind_some, inW, inF, inC, inK, fl4, cl4, wi3, T_X3_isFirstOrSecond, badE, fullE, noE, T_X3_refuseBad, T_X3_refuseFull, T_X3_refuseNo, reduceIte, Nat.reduceEqDiff, Nat.reduceLeDiff, Nat.reduceMul, Nat.reduceAdd, Nat.reduceSub, and_true, true_and, Nat.le_refl, q42, q88]
  | succ d ih =>
    intro i j z0 hi hj
    obtain ⟨j, rfl⟩ := Nat.exists_eq_succ_of_ne_zero (show j ≠ 0 by omega)
    have hn5 : ¬ 5 ≤ i := by omega
    obtain ⟨w0, e1, e2, e3⟩ := ih (i + 1) j (upd z0 i (g (q + 39 + i))) (by omega) (by omega)
    refine ⟨w0, ?_, ?_, ?_⟩
    · rw [← e1, T_X4_from_L141]
      simp (disch := omega) only [l0, l1, l2, l3, l4, l5, l6, l7, l8, l9, l10, l11, l12, l30, l35, l36, l60, l99, l127, l150, l999, nI_eq, nI_leI, nI_ltI, nI_1, nI_add, pk_mul, obN, nI_clamp, lt', jn, Option.bind_some, inW, inF, inC, inK, fl4, cl4, wi3, T_X3_isFirstOrSecond, badE, fullE, noE, T_X3_refuseBad, T_X3_refuseFull, T_X3_refuseNo, reduceIte, Nat.reduceEqDiff, Nat.reduceLeDiff, Nat.reduceMul, Nat.reduceAdd, Nat.reduceSub, and_true, true_and, hn5, q42, q88, q39]
    · intro k k1 k2
      by_cases e : k = i
      · subst e
        have h := e3 k (by omega)
        simp only [pk_us] at h
        exact h
      · exact e2 k (by omega) k2
    · intro k hk
      have h := e3 k (by omega)
      have hne : k ≠ i := by omega
      simp only [pk_un hne] at h
      exact h
theorem get171 {N q : Nat} (hq : q ≤ 200) (g : Nat → Int32)  (K : (Nat → Int32) → (Nat → Int32) → (Nat → Int32) → Option (Int32 × Int32 × Int32 × Int32 × Int32 × Int32 × (Nat → Int32) × (Nat → Int32) × (Nat → Int32) × (Nat → Int32) × (Nat → Int32) × (Nat → Int32) × (Nat → Int32) × (Nat → Int32) × (Nat → Int32) × (Nat → Int32) × (Nat → Int32))) : ∀ (d i j : Nat) (z0 z1 z2 : Nat → Int32), i + d = 4 → d < j → ∃ w0 w1 w2, T_X4_from_L171 N (nI q) g K j (nI i) z0 z1 z2 = K w0 w1 w2 ∧ (∀ k, i ≤ k → k < 4 → w0 k = g (q + 44 + k) ∧ w1 k = g (q + 48 + k) ∧ w2 k = g (q + 52 + k)) ∧ ∀ k, k < i → w0 k = z0 k ∧ w1 k = z1 k ∧ w2 k = z2 k := by
  intro d
  induction d with
  | zero =>
    intro i j z0 z1 z2 hi hj
    obtain ⟨j, rfl⟩ := Nat.exists_eq_succ_of_ne_zero (show j ≠ 0 by omega)
    obtain rfl : i = 4 := by omega
    refine ⟨z0, z1, z2, ?_, fun k k1 k2 => absurd k1 (by omega), fun _ _ => ⟨rfl, rfl, rfl⟩⟩
    rw [T_X4_from_L171]; simp (disch := omega) only [l0, l1, l2, l3, l4, l5, l6, l7, l8, l9, l10, l11, l12, l30, l35, l36, l60, l99, l127, l150, l999, nI_eq, nI_leI, nI_ltI, nI_1, nI_add, pk_mul, obN, nI_clamp, lt', jn, Option.bind_some, inW, inF, inC, inK, fl4, cl4, wi3, T_X3_isFirstOrSecond, badE, fullE, noE, T_X3_refuseBad, T_X3_refuseFull, T_X3_refuseNo, reduceIte, Nat.reduceEqDiff, Nat.reduceLeDiff, Nat.reduceMul, Nat.reduceAdd, Nat.reduceSub, and_true, true_and, Nat.le_refl, q42, q88]
  | succ d ih =>
    intro i j z0 z1 z2 hi hj
    obtain ⟨j, rfl⟩ := Nat.exists_eq_succ_of_ne_zero (show j ≠ 0 by omega)
    have hn5 : ¬ 4 ≤ i := by omega
    obtain ⟨w0, w1, w2, e1, e2, e3⟩ := ih (i + 1) j (upd z0 i (g (q + 44 + i))) (upd z1 i (g (q + 48 + i))) (upd z2 i (g (q + 52 + i))) (by omega) (by omega)
    refine ⟨w0, w1, w2, ?_, ?_, ?_⟩
    · rw [← e1, T_X4_from_L171]
      simp (disch := omega) only [l0, l1, l2, l3, l4, l5, l6, l7, l8, l9, l10, l11, l12, l30, l35, l36, l60, l99, l127, l150, l999, nI_eq, nI_leI, nI_ltI, nI_1, nI_add, pk_mul, obN, nI_clamp, lt', jn, Option.bind_some, inW, inF, inC, inK, fl4, cl4, wi3, T_X3_isFirstOrSecond, badE, fullE, noE, T_X3_refuseBad, T_X3_refuseFull, T_X3_refuseNo, reduceIte, Nat.reduceEqDiff, Nat.reduceLeDiff, Nat.reduceMul, Nat.reduceAdd, Nat.reduceSub, and_true, true_and, hn5, q42, q88, q44, q48, q52]
    · intro k k1 k2
      by_cases e : k = i
      · subst e
        have h := e3 k (by omega)
        simp only [pk_us] at h
        exact h
      · exact e2 k (by omega) k2
    · intro k hk
      have h := e3 k (by omega)
      have hne : k ≠ i := by omega
      simp only [pk_un hne] at h
      exact h
theorem get235 {N q : Nat} (hq : q ≤ 200) (g : Nat → Int32)  (K : (Nat → Int32) → Option (Int32 × Int32 × Int32 × Int32 × Int32 × Int32 × (Nat → Int32) × (Nat → Int32) × (Nat → Int32) × (Nat → Int32) × (Nat → Int32) × (Nat → Int32) × (Nat → Int32) × (Nat → Int32) × (Nat → Int32) × (Nat → Int32) × (Nat → Int32))) : ∀ (d i j : Nat) (z0 : Nat → Int32), i + d = 42 → d < j → ∃ w0, T_X4_from_L235 N (nI q) g K j (nI i) z0 = K w0 ∧ (∀ k, i ≤ k → k < 42 → w0 k = g (q + 56 + k)) ∧ ∀ k, k < i → w0 k = z0 k := by
  intro d
  induction d with
  | zero =>
    intro i j z0 hi hj
    obtain ⟨j, rfl⟩ := Nat.exists_eq_succ_of_ne_zero (show j ≠ 0 by omega)
    obtain rfl : i = 42 := by omega
    refine ⟨z0, ?_, fun k k1 k2 => absurd k1 (by omega), fun _ _ => rfl⟩
    rw [T_X4_from_L235]; simp (disch := omega) only [l0, l1, l2, l3, l4, l5, l6, l7, l8, l9, l10, l11, l12, l30, l35, l36, l60, l99, l127, l150, l999, nI_eq, nI_leI, nI_ltI, nI_1, nI_add, pk_mul, obN, nI_clamp, lt', jn, Option.bind_some, inW, inF, inC, inK, fl4, cl4, wi3, T_X3_isFirstOrSecond, badE, fullE, noE, T_X3_refuseBad, T_X3_refuseFull, T_X3_refuseNo, reduceIte, Nat.reduceEqDiff, Nat.reduceLeDiff, Nat.reduceMul, Nat.reduceAdd, Nat.reduceSub, and_true, true_and, Nat.le_refl, q42, q88]
  | succ d ih =>
    intro i j z0 hi hj
    obtain ⟨j, rfl⟩ := Nat.exists_eq_succ_of_ne_zero (show j ≠ 0 by omega)
    have hn5 : ¬ 42 ≤ i := by omega
    obtain ⟨w0, e1, e2, e3⟩ := ih (i + 1) j (upd z0 i (g (q + 56 + i))) (by omega) (by omega)
    refine ⟨w0, ?_, ?_, ?_⟩
    · rw [← e1, T_X4_from_L235]
      simp (disch := omega) only [l0, l1, l2, l3, l4, l5, l6, l7, l8, l9, l10, l11, l12, l30, l35, l36, l60, l99, l127, l150, l999, nI_eq, nI_leI, nI_ltI, nI_1, nI_add, pk_mul, obN, nI_clamp, lt', jn, Option.bind_some, inW, inF, inC, inK, fl4, cl4, wi3, T_X3_isFirstOrSecond, badE, fullE, noE, T_X3_refuseBad, T_X3_refuseFull, T_X3_refuseNo, reduceIte, Nat.reduceEqDiff, Nat.reduceLeDiff, Nat.reduceMul, Nat.reduceAdd, Nat.reduceSub, and_true, true_and, hn5, q42, q88, q56]
    · intro k k1 k2
      by_cases e : k = i
      · subst e
        have h := e3 k (by omega)
        simp only [pk_us] at h
        exact h
      · exact e2 k (by omega) k2
    · intro k hk
      have h := e3 k (by omega)
      have hne : k ≠ i := by omega
      simp only [pk_un hne] at h
      exact h
theorem get266 {N q : Nat} (hq : q ≤ 200) (g : Nat → Int32) (y1 y2 y3 y4 y5 : Int32) (rf b1 b2 b3 b4 b5 b6 b7 b8 b9 : Nat → Int32)  : ∀ (d i j : Nat) (z0 : Nat → Int32), i + d = 88 → d < j → ∃ w0, T_X4_from_L266 N (nI q) y1 y2 y3 y4 y5 rf b1 b2 b3 b4 b5 b6 b7 b8 b9 g j (nI i) z0 = some (nI 1, y1, y2, y3, y4, y5, rf, b1, b2, b3, b4, b5, b6, b7, b8, b9, w0) ∧ (∀ k, i ≤ k → k < 88 → w0 k = g (q + 98 + k)) ∧ ∀ k, k < i → w0 k = z0 k := by
  intro d
  induction d with
  | zero =>
    intro i j z0 hi hj
    obtain ⟨j, rfl⟩ := Nat.exists_eq_succ_of_ne_zero (show j ≠ 0 by omega)
    obtain rfl : i = 88 := by omega
    refine ⟨z0, ?_, fun k k1 k2 => absurd k1 (by omega), fun _ _ => rfl⟩
    rw [T_X4_from_L266]; simp (disch := omega) only [l0, l1, l2, l3, l4, l5, l6, l7, l8, l9, l10, l11, l12, l30, l35, l36, l60, l99, l127, l150, l999, nI_eq, nI_leI, nI_ltI, nI_1, nI_add, pk_mul, obN, nI_clamp, lt', jn, Option.bind_some, inW, inF, inC, inK, fl4, cl4, wi3, T_X3_isFirstOrSecond, badE, fullE, noE, T_X3_refuseBad, T_X3_refuseFull, T_X3_refuseNo, reduceIte, Nat.reduceEqDiff, Nat.reduceLeDiff, Nat.reduceMul, Nat.reduceAdd, Nat.reduceSub, and_true, true_and, Nat.le_refl, q42, q88]
  | succ d ih =>
    intro i j z0 hi hj
    obtain ⟨j, rfl⟩ := Nat.exists_eq_succ_of_ne_zero (show j ≠ 0 by omega)
    have hn5 : ¬ 88 ≤ i := by omega
    obtain ⟨w0, e1, e2, e3⟩ := ih (i + 1) j (upd z0 i (g (q + 98 + i))) (by omega) (by omega)
    refine ⟨w0, ?_, ?_, ?_⟩
    · rw [← e1, T_X4_from_L266]
      simp (disch := omega) only [l0, l1, l2, l3, l4, l5, l6, l7, l8, l9, l10, l11, l12, l30, l35, l36, l60, l99, l127, l150, l999, nI_eq, nI_leI, nI_ltI, nI_1, nI_add, pk_mul, obN, nI_clamp, lt', jn, Option.bind_some, inW, inF, inC, inK, fl4, cl4, wi3, T_X3_isFirstOrSecond, badE, fullE, noE, T_X3_refuseBad, T_X3_refuseFull, T_X3_refuseNo, reduceIte, Nat.reduceEqDiff, Nat.reduceLeDiff, Nat.reduceMul, Nat.reduceAdd, Nat.reduceSub, and_true, true_and, hn5, q42, q88, q98]
    · intro k k1 k2
      by_cases e : k = i
      · subst e
        have h := e3 k (by omega)
        simp only [pk_us] at h
        exact h
      · exact e2 k (by omega) k2
    · intro k hk
      have h := e3 k (by omega)
      have hne : k ≠ i := by omega
      simp only [pk_un hne] at h
      exact h
theorem from_n {N i : Nat} (hN : 1000 ≤ N) (hi : i ≤ 1) (many now fM nM uM : Int32) (ref w s kk cells food fk fm fc noted ahead g kp : Nat → Int32) (hk : kp i = 1) {S : SeaN} (hok : okS S) (hm : mI S g (200 * i)) : ∃ a0 a1 a2 a3 a4 w' s' k' c' f' fk' fm' fc' no' ah', T_X4_from N many now fM nM uM ref w s kk cells food fk fm fc noted ahead g kp (nI i) = some (nI 1, a0, a1, a2, a3, a4, ref, w', s', k', c', f', fk', fm', fc', no', ah') ∧ mS S a1 a0 a2 a3 a4 w' s' k' c' f' fk' fm' fc' no' ah' := by
  obtain ⟨q, hq⟩ : ∃ q, q = 200 * i := ⟨_, rfl⟩
  rw [← hq] at hm
  have hq2 : q ≤ 200 := by omega
  have hk' : kp i = nI 1 := hk
  have h1 : T_X3_within (nI i) (nI 0) (nI 1) = nI 1 := by
    obtain rfl | rfl : i = 0 ∨ i = 1 := by omega
    · decide
    · decide
  obtain ⟨c', f', t1, t2⟩ := takes_n (n1 := 400) (q := q + 4) hN (by omega) (by omega) now cells food g
  have x5 := fun w' s' k' fk' fm' fc' no' => get266 (N := N) hq2 g (g q) (g (q + 4)) (g (q + 1)) (g (q + 2)) (g (q + 3)) ref w' s' k' c' f' fk' fm' fc' no' 88 0 N ahead rfl (by omega)
  obtain ⟨w', s', e1, p1, -⟩ := get93 (N := N) hq2 g (fun z64 z65 => T_X4_from_L141 N (nI q) g (fun z96 => T_X4_from_L171 N (nI q) g (fun z144 z145 z146 => T_X4_from_L235 N (nI q) g (fun z181 => T_X4_from_L266 N (nI q) (g q) (g (q + 4)) (g (q + 1)) (g (q + 2)) (g (q + 3)) ref z64 z65 z96 c' f' z144 z145 z146 z181 g N (nI 0) ahead) N (nI 0) noted) N (nI 0) fk fm fc) N (nI 0) kk) 12 0 N w s rfl (by omega)
  obtain ⟨k', e2, p2, -⟩ := get141 (N := N) hq2 g (fun z96 => T_X4_from_L171 N (nI q) g (fun z144 z145 z146 => T_X4_from_L235 N (nI q) g (fun z181 => T_X4_from_L266 N (nI q) (g q) (g (q + 4)) (g (q + 1)) (g (q + 2)) (g (q + 3)) ref w' s' z96 c' f' z144 z145 z146 z181 g N (nI 0) ahead) N (nI 0) noted) N (nI 0) fk fm fc) 5 0 N kk rfl (by omega)
  obtain ⟨fk', fm', fc', e3, p3, -⟩ := get171 (N := N) hq2 g (fun z144 z145 z146 => T_X4_from_L235 N (nI q) g (fun z181 => T_X4_from_L266 N (nI q) (g q) (g (q + 4)) (g (q + 1)) (g (q + 2)) (g (q + 3)) ref w' s' k' c' f' z144 z145 z146 z181 g N (nI 0) ahead) N (nI 0) noted) 4 0 N fk fm fc rfl (by omega)
  obtain ⟨no', e4, p4, -⟩ := get235 (N := N) hq2 g (fun z181 => T_X4_from_L266 N (nI q) (g q) (g (q + 4)) (g (q + 1)) (g (q + 2)) (g (q + 3)) ref w' s' k' c' f' fk' fm' fc' z181 g N (nI 0) ahead) 42 0 N noted rfl (by omega)
  obtain ⟨ah', e5, p5, -⟩ := x5 w' s' k' fk' fm' fc' no'
  refine ⟨g q, g (q + 4), g (q + 1), g (q + 2), g (q + 3), w', s', k', c', f', fk', fm', fc', no', ah', ?_, ?_⟩
  · refine Eq.trans ?_ (e1.trans (e2.trans (e3.trans (e4.trans e5))))
    rw [T_X4_from]
    simp (disch := omega) only [l0, l1, l2, l3, l4, l5, l6, l7, l8, l9, l10, l11, l12, l30, l35, l36, l60, l99, l127, l150, l999, nI_eq, nI_leI, nI_ltI, nI_1, nI_add, pk_mul, obN, nI_clamp, lt', jn, Option.bind_some, inW, inF, inC, inK, fl4, cl4, wi3, T_X3_isFirstOrSecond, badE, fullE, noE, T_X3_refuseBad, T_X3_refuseFull, T_X3_refuseNo, reduceIte, Nat.reduceEqDiff, Nat.reduceLeDiff, Nat.reduceMul, Nat.reduceAdd, Nat.reduceSub, and_true, true_and, q200, h1, hk', ← hq, t1]
  · obtain ⟨o0, o1, o2, o3, o4, -⟩ := hok
    obtain ⟨m0, m5, m6, m7, m8, m9, m10, m11, m12⟩ := hm
    have z : ∀ k, 0 ≤ k := Nat.zero_le
    refine ⟨m0, fun k hk => (p1 k (z k) hk).1.trans (m5 k hk), fun k hk => (p1 k (z k) hk).2.trans (m6 k hk), fun k hk => (p2 k (z k) (by omega)).trans (m7 k hk), fun k hk => ?_, fun k hk => ?_, fun k hk => ⟨(p3 k (z k) (by omega)).1.trans (m10 k hk).1, (p3 k (z k) (by omega)).2.1.trans (m10 k hk).2.1, (p3 k (z k) (by omega)).2.2.trans (m10 k hk).2.2⟩, fun k hk => (p4 k (z k) (by omega)).trans (m11 k hk), fun v hv => ⟨(p5 _ (z _) (by omega)).trans (m12 v hv).1, fun f hf => ⟨?_, ?_⟩⟩⟩
    · have e := m8 k hk
      rw [(t2 k (by omega)).1, show q + 4 + 1 + k = q + 5 + k by omega]; exact e
    · have e := m9 k hk
      rw [(t2 k (by omega)).2, show q + 4 + 6 + k = q + 10 + k by omega]; exact e
    · have e := ((m12 v hv).2 f hf).1
      exact (p5 _ (z _) (by omega)).trans e
    · have e := ((m12 v hv).2 f hf).2
      exact (p5 _ (z _) (by omega)).trans e
set_option maxHeartbeats 4000000 in
theorem op_from_old0 (N : Nat) (hN : 1000 ≤ N) (x : FIV) (m : MV) (h : REL x m) (v : SeaV) (hv : x_img0 x = some v) : ∃ (R : Int32 × Int32 × Int32 × Int32 × Int32 × Int32 × Int32 × (Nat → Int32) × (Nat → Int32) × (Nat → Int32) × (Nat → Int32) × (Nat → Int32) × (Nat → Int32) × (Nat → Int32) × (Nat → Int32)) (RM : Int32 × Int32 × Int32 × Int32 × Int32 × Int32 × (Nat → Int32) × (Nat → Int32) × (Nat → Int32) × (Nat → Int32) × (Nat → Int32) × (Nat → Int32) × (Nat → Int32) × (Nat → Int32) × (Nat → Int32) × (Nat → Int32) × (Nat → Int32)), T_X3_from_old N (x_bads x) (xn_month x) (xn_floes x) (xn_founds x) (xn_notes x) (xn_undos x) (xn_ways x) (xn_strengths x) (xn_kinds x) (xn_cells x) (xn_foods x) (xn_foundRows x) (xn_noteRows x) (xn_undoRows x) (s_month v) (s_floes v) (s_founds v) (s_notes v) (s_undos v) (s_ways v) (s_strengths v) (s_kinds v) (s_cells v) (s_foods v) (s_foundRows v) (s_noteRows v) (s_undoRows v) 0 = some R ∧ T_X4_from N (m_many m) (m_now m) (m_findMany m) (m_noteMany m) (m_undoMany m) (m_refused m) (m_ways m) (m_strengths m) (m_kinds m) (m_cells m) (m_food m) (m_findKind m) (m_findMonth m) (m_findCell m) (m_noted m) (m_ahead m) (m_images m) (m_isKept m) 0 = some RM ∧ R.1 = RM.1 ∧ REL (R.2.2.1, R.2.2.2.2.2.2.2.1, R.2.2.2.2.2.2.2.2.1, R.2.2.2.1, R.2.2.2.2.2.2.2.2.2.1, R.2.2.2.2.2.2.2.2.2.2.1, R.2.2.2.2.2.2.2.2.2.2.2.1, R.2.2.2.2.1, R.2.2.2.2.2.2.2.2.2.2.2.2.1, R.2.2.2.2.2.1, R.2.2.2.2.2.2.2.2.2.2.2.2.2.1, R.2.2.2.2.2.2.1, R.2.2.2.2.2.2.2.2.2.2.2.2.2.2, (xs_month x), (xs_ways x), (xs_strengths x), (xs_floes x), (xs_kinds x), (xs_cells x), (xs_foods x), (xs_founds x), (xs_foundRows x), (xs_notes x), (xs_noteRows x), (xs_undos x), (xs_undoRows x), (xt_bytes x), (xt_length x), (xt_place x), (xt_fault x), (x_odds x), (x_nextOdds x), (x_gains x), (x_above x), (x_below x), R.2.1, (x_nos x), (x_fulls x), (x_img0 x), (x_img1 x)) (RM.2.2.2.2.2.2.1, RM.2.1, RM.2.2.1, RM.2.2.2.1, RM.2.2.2.2.1, RM.2.2.2.2.2.2.2.1, RM.2.2.2.2.2.2.2.2.1, RM.2.2.2.2.2.2.2.2.2.1, RM.2.2.2.2.2.2.2.2.2.2.1, RM.2.2.2.2.2.2.2.2.2.2.2.1, RM.2.2.2.2.2.2.2.2.2.2.2.2.1, RM.2.2.2.2.2.2.2.2.2.2.2.2.2.1, RM.2.2.2.2.2.2.2.2.2.2.2.2.2.2.1, RM.2.2.2.2.2.2.2.2.2.2.2.2.2.2.2.1, (m_text m), (m_typed m), (m_readAt m), (m_readMonth m), (m_readMany m), (m_readFloe m), (m_readWind m), (m_readNumber m), RM.2.2.2.2.2.2.2.2.2.2.2.2.2.2.2.2, RM.2.2.2.2.2.1, (m_aside m), (m_above m), (m_below m), (m_images m), (m_isKept m), (m_h0 m)) := by
  obtain ⟨⟨S, hok, hc, hm⟩, htx, hab, hrf, hg0, hg1⟩ := h
  have hg := hg0
  rw [hv] at hg
  obtain ⟨hk, S', hok', hc', hm'⟩ := hg
  obtain ⟨a0, a1, a2, a3, a4, w', s', k', c', f', fk', fm', fc', no', ah', e1, hm2⟩ := from_n (i := 0) hN (by omega) (m_many m) (m_now m) (m_findMany m) (m_noteMany m) (m_undoMany m) (m_refused m) (m_ways m) (m_strengths m) (m_kinds m) (m_cells m) (m_food m) (m_findKind m) (m_findMonth m) (m_findCell m) (m_noted m) (m_ahead m) (m_images m) (m_isKept m) hk hok' hm'
  have h1 : T_X3_within (nI 0) (nI 0) (nI 1) = nI 1 := by decide
  refine opI (by rw [T_X3_from_old, T_X1_takeFrom]; simp (disch := omega) only [l0, l1, l2, l3, l4, l5, l6, l7, l8, l9, l10, l11, l12, l30, l35, l36, l60, l99, l127, l150, l999, nI_eq, nI_leI, nI_ltI, nI_1, nI_add, pk_mul, obN, nI_clamp, lt', jn, Option.bind_some, inW, inF, inC, inK, fl4, cl4, wi3, T_X3_isFirstOrSecond, badE, fullE, noE, T_X3_refuseBad, T_X3_refuseFull, T_X3_refuseNo, reduceIte, Nat.reduceEqDiff, Nat.reduceLeDiff, Nat.reduceMul, Nat.reduceAdd, Nat.reduceSub, and_true, true_and, h1, gcN, q42, q88]; rfl) e1 ?_
  exact ⟨rfl, ⟨S', hok', cS_cpy hok' hc', hm2⟩, htx, hab, hrf, hg0, hg1⟩
set_option maxHeartbeats 4000000 in
theorem op_from_old1 (N : Nat) (hN : 1000 ≤ N) (x : FIV) (m : MV) (h : REL x m) (v : SeaV) (hv : x_img1 x = some v) : ∃ (R : Int32 × Int32 × Int32 × Int32 × Int32 × Int32 × Int32 × (Nat → Int32) × (Nat → Int32) × (Nat → Int32) × (Nat → Int32) × (Nat → Int32) × (Nat → Int32) × (Nat → Int32) × (Nat → Int32)) (RM : Int32 × Int32 × Int32 × Int32 × Int32 × Int32 × (Nat → Int32) × (Nat → Int32) × (Nat → Int32) × (Nat → Int32) × (Nat → Int32) × (Nat → Int32) × (Nat → Int32) × (Nat → Int32) × (Nat → Int32) × (Nat → Int32) × (Nat → Int32)), T_X3_from_old N (x_bads x) (xn_month x) (xn_floes x) (xn_founds x) (xn_notes x) (xn_undos x) (xn_ways x) (xn_strengths x) (xn_kinds x) (xn_cells x) (xn_foods x) (xn_foundRows x) (xn_noteRows x) (xn_undoRows x) (s_month v) (s_floes v) (s_founds v) (s_notes v) (s_undos v) (s_ways v) (s_strengths v) (s_kinds v) (s_cells v) (s_foods v) (s_foundRows v) (s_noteRows v) (s_undoRows v) 1 = some R ∧ T_X4_from N (m_many m) (m_now m) (m_findMany m) (m_noteMany m) (m_undoMany m) (m_refused m) (m_ways m) (m_strengths m) (m_kinds m) (m_cells m) (m_food m) (m_findKind m) (m_findMonth m) (m_findCell m) (m_noted m) (m_ahead m) (m_images m) (m_isKept m) 1 = some RM ∧ R.1 = RM.1 ∧ REL (R.2.2.1, R.2.2.2.2.2.2.2.1, R.2.2.2.2.2.2.2.2.1, R.2.2.2.1, R.2.2.2.2.2.2.2.2.2.1, R.2.2.2.2.2.2.2.2.2.2.1, R.2.2.2.2.2.2.2.2.2.2.2.1, R.2.2.2.2.1, R.2.2.2.2.2.2.2.2.2.2.2.2.1, R.2.2.2.2.2.1, R.2.2.2.2.2.2.2.2.2.2.2.2.2.1, R.2.2.2.2.2.2.1, R.2.2.2.2.2.2.2.2.2.2.2.2.2.2, (xs_month x), (xs_ways x), (xs_strengths x), (xs_floes x), (xs_kinds x), (xs_cells x), (xs_foods x), (xs_founds x), (xs_foundRows x), (xs_notes x), (xs_noteRows x), (xs_undos x), (xs_undoRows x), (xt_bytes x), (xt_length x), (xt_place x), (xt_fault x), (x_odds x), (x_nextOdds x), (x_gains x), (x_above x), (x_below x), R.2.1, (x_nos x), (x_fulls x), (x_img0 x), (x_img1 x)) (RM.2.2.2.2.2.2.1, RM.2.1, RM.2.2.1, RM.2.2.2.1, RM.2.2.2.2.1, RM.2.2.2.2.2.2.2.1, RM.2.2.2.2.2.2.2.2.1, RM.2.2.2.2.2.2.2.2.2.1, RM.2.2.2.2.2.2.2.2.2.2.1, RM.2.2.2.2.2.2.2.2.2.2.2.1, RM.2.2.2.2.2.2.2.2.2.2.2.2.1, RM.2.2.2.2.2.2.2.2.2.2.2.2.2.1, RM.2.2.2.2.2.2.2.2.2.2.2.2.2.2.1, RM.2.2.2.2.2.2.2.2.2.2.2.2.2.2.2.1, (m_text m), (m_typed m), (m_readAt m), (m_readMonth m), (m_readMany m), (m_readFloe m), (m_readWind m), (m_readNumber m), RM.2.2.2.2.2.2.2.2.2.2.2.2.2.2.2.2, RM.2.2.2.2.2.1, (m_aside m), (m_above m), (m_below m), (m_images m), (m_isKept m), (m_h0 m)) := by
  obtain ⟨⟨S, hok, hc, hm⟩, htx, hab, hrf, hg0, hg1⟩ := h
  have hg := hg1
  rw [hv] at hg
  obtain ⟨hk, S', hok', hc', hm'⟩ := hg
  obtain ⟨a0, a1, a2, a3, a4, w', s', k', c', f', fk', fm', fc', no', ah', e1, hm2⟩ := from_n (i := 1) hN (by omega) (m_many m) (m_now m) (m_findMany m) (m_noteMany m) (m_undoMany m) (m_refused m) (m_ways m) (m_strengths m) (m_kinds m) (m_cells m) (m_food m) (m_findKind m) (m_findMonth m) (m_findCell m) (m_noted m) (m_ahead m) (m_images m) (m_isKept m) hk hok' hm'
  have h1 : T_X3_within (nI 1) (nI 0) (nI 1) = nI 1 := by decide
  refine opI (by rw [T_X3_from_old, T_X1_takeFrom]; simp (disch := omega) only [l0, l1, l2, l3, l4, l5, l6, l7, l8, l9, l10, l11, l12, l30, l35, l36, l60, l99, l127, l150, l999, nI_eq, nI_leI, nI_ltI, nI_1, nI_add, pk_mul, obN, nI_clamp, lt', jn, Option.bind_some, inW, inF, inC, inK, fl4, cl4, wi3, T_X3_isFirstOrSecond, badE, fullE, noE, T_X3_refuseBad, T_X3_refuseFull, T_X3_refuseNo, reduceIte, Nat.reduceEqDiff, Nat.reduceLeDiff, Nat.reduceMul, Nat.reduceAdd, Nat.reduceSub, and_true, true_and, h1, gcN, q42, q88]; rfl) e1 ?_
  exact ⟨rfl, ⟨S', hok', cS_cpy hok' hc', hm2⟩, htx, hab, hrf, hg0, hg1⟩
