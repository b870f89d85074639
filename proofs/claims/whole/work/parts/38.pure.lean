theorem q42 : (42 : Int32) = nI 42 := rfl
theorem q88 : (88 : Int32) = nI 88 := rfl
theorem q15 : (15 : Int32) = nI 15 := rfl
theorem q27 : (27 : Int32) = nI 27 := rfl
theorem q39 : (39 : Int32) = nI 39 := rfl
theorem q44 : (44 : Int32) = nI 44 := rfl
theorem q48 : (48 : Int32) = nI 48 := rfl
theorem q52 : (52 : Int32) = nI 52 := rfl
theorem q56 : (56 : Int32) = nI 56 := rfl
theorem q98 : (98 : Int32) = nI 98 := rfl
theorem q200 : (200 : Int32) = nI 200 := rfl
theorem put86 {N q : Nat} (hq : q ≤ 200) (a b : Nat → Int32) (K : (Nat → Int32) → Option (Int32 × (Nat → Int32) × (Nat → Int32) × (Nat → Int32))) : ∀ (d i j : Nat) (z : Nat → Int32), i + d = 12 → d < j → ∃ z', T_X4_image_L86 N (nI q) a b K j (nI i) z = K z' ∧ (∀ k, i ≤ k → k < 12 → z' (q + 15 + k) = a k ∧ z' (q + 27 + k) = b k) ∧ ∀ p, (p < q + 15 + i ∨ q + 15 + 12 ≤ p) ∧ (p < q + 27 + i ∨ q + 27 + 12 ≤ p) → z' p = z p := by
  intro d
  induction d with
  | zero =>
    intro i j z hi hj
    obtain ⟨j, rfl⟩ := Nat.exists_eq_succ_of_ne_zero (show j ≠ 0 by omega)
    obtain rfl : i = 12 := by omega
    refine ⟨z, ?_, fun k k1 k2 => absurd k1 (by omega), fun _ _ => rfl⟩
    rw [T_X4_image_L86]; simp (disch := omega) only [l0, l1, l2, l3, l4, l5, l6, l7, l8, l9, l10, l11, l12, l30, l35, l36, l60, l99, l127, l150, l999, nI_eq, nI_leI, nI_ltI, nI_1, nI_add, pk_mul, obN, nI_clamp, lt', jn, Option.bind_some, inW, inF, inC, inK, fl4, cl4, wi3, T_X3_isFirstOrSecond, badE, fullE, noE, T_X3_refuseBad, T_X3_refuseFull, T_X3_refuseNo, reduceIte, Nat.reduceEqDiff, Nat.reduceLeDiff, Nat.reduceMul, Nat.reduceAdd, Nat.reduceSub, and_true, true_and, Nat.le_refl, q42, q88]
  | succ d ih =>
    intro i j z hi hj
    obtain ⟨j, rfl⟩ := Nat.exists_eq_succ_of_ne_zero (show j ≠ 0 by omega)
    have hn5 : ¬ 12 ≤ i := by omega
    obtain ⟨z', e1, e2, e3⟩ := ih (i + 1) j (upd (upd z (q + 15 + i) (a i)) (q + 27 + i) (b i)) (by omega) (by omega)
    refine ⟨z', ?_, ?_, ?_⟩
    · rw [← e1, T_X4_image_L86]
      simp (disch := omega) only [l0, l1, l2, l3, l4, l5, l6, l7, l8, l9, l10, l11, l12, l30, l35, l36, l60, l99, l127, l150, l999, nI_eq, nI_leI, nI_ltI, nI_1, nI_add, pk_mul, obN, nI_clamp, lt', jn, Option.bind_some, inW, inF, inC, inK, fl4, cl4, wi3, T_X3_isFirstOrSecond, badE, fullE, noE, T_X3_refuseBad, T_X3_refuseFull, T_X3_refuseNo, reduceIte, Nat.reduceEqDiff, Nat.reduceLeDiff, Nat.reduceMul, Nat.reduceAdd, Nat.reduceSub, and_true, true_and, hn5, q42, q88, q15, q27]
    · intro k k1 k2
      by_cases e : k = i
      · subst e
        refine ⟨?_, ?_⟩
        · rw [e3 _ (by omega), pk_un (by omega), pk_us]
        · rw [e3 _ (by omega), pk_us]
      · exact e2 k (by omega) k2
    · intro p hp
      rw [e3 p (by omega), pk_un (by omega), pk_un (by omega)]
theorem put134 {N q : Nat} (hq : q ≤ 200) (a : Nat → Int32) (K : (Nat → Int32) → Option (Int32 × (Nat → Int32) × (Nat → Int32) × (Nat → Int32))) : ∀ (d i j : Nat) (z : Nat → Int32), i + d = 5 → d < j → ∃ z', T_X4_image_L134 N (nI q) a K j (nI i) z = K z' ∧ (∀ k, i ≤ k → k < 5 → z' (q + 39 + k) = a k) ∧ ∀ p, (p < q + 39 + i ∨ q + 39 + 5 ≤ p) → z' p = z p := by
  intro d
  induction d with
  | zero =>
    intro i j z hi hj
    obtain ⟨j, rfl⟩ := Nat.exists_eq_succ_of_ne_zero (show j ≠ 0 by omega)
    obtain rfl : i = 5 := by omega
    refine ⟨z, ?_, fun k k1 k2 => absurd k1 (by omega), fun _ _ => rfl⟩
    rw [T_X4_image_L134]; simp (disch := omega) only [l0, l1, l2, l3, l4, l5, l6, l7, l8, l9, l10, l11, l12, l30, l35, l36, l60, l99, l127, l150, l999, nI_eq, nI_leI, nI_ltI, nI_1, nI_add, pk_mul, obN, nI_clamp, lt', jn, Option.bind_some, inW, inF, inC, inK, fl4, cl4, wi3, T_X3_isFirstOrSecond, badE, fullE, noE, T_X3_refuseBad, T_X3_refuseFull, T_X3_refuseNo, reduceIte, Nat.reduceEqDiff, Nat.reduceLeDiff, Nat.reduceMul, Nat.reduceAdd, Nat.reduceSub, and_true, true_and, Nat.le_refl, q42, q88]
  | succ d ih =>
    intro i j z hi hj
    obtain ⟨j, rfl⟩ := Nat.exists_eq_succ_of_ne_zero (show j ≠ 0 by omega)
    have hn5 : ¬ 5 ≤ i := by omega
    obtain ⟨z', e1, e2, e3⟩ := ih (i + 1) j (upd z (q + 39 + i) (a i)) (by omega) (by omega)
    refine ⟨z', ?_, ?_, ?_⟩
    · rw [← e1, T_X4_image_L134]
      simp (disch := omega) only [l0, l1, l2, l3, l4, l5, l6, l7, l8, l9, l10, l11, l12, l30, l35, l36, l60, l99, l127, l150, l999, nI_eq, nI_leI, nI_ltI, nI_1, nI_add, pk_mul, obN, nI_clamp, lt', jn, Option.bind_some, inW, inF, inC, inK, fl4, cl4, wi3, T_X3_isFirstOrSecond, badE, fullE, noE, T_X3_refuseBad, T_X3_refuseFull, T_X3_refuseNo, reduceIte, Nat.reduceEqDiff, Nat.reduceLeDiff, Nat.reduceMul, Nat.reduceAdd, Nat.reduceSub, and_true, true_and, hn5, q42, q88, q39]
    · intro k k1 k2
      by_cases e : k = i
      · subst e
        skip
        · rw [e3 _ (by omega), pk_us]
      · exact e2 k (by omega) k2
    · intro p hp
      rw [e3 p (by omega), pk_un (by omega)]
theorem put164 {N q : Nat} (hq : q ≤ 200) (a b c : Nat → Int32) (K : (Nat → Int32) → Option (Int32 × (Nat → Int32) × (Nat → Int32) × (Nat → Int32))) : ∀ (d i j : Nat) (z : Nat → Int32), i + d = 4 → d < j → ∃ z', T_X4_image_L164 N (nI q) a b c K j (nI i) z = K z' ∧ (∀ k, i ≤ k → k < 4 → z' (q + 44 + k) = a k ∧ z' (q + 48 + k) = b k ∧ z' (q + 52 + k) = c k) ∧ ∀ p, (p < q + 44 + i ∨ q + 44 + 4 ≤ p) ∧ (p < q + 48 + i ∨ q + 48 + 4 ≤ p) ∧ (p < q + 52 + i ∨ q + 52 + 4 ≤ p) → z' p = z p := by
  intro d
  induction d with
  | zero =>
    intro i j z hi hj
    obtain ⟨j, rfl⟩ := Nat.exists_eq_succ_of_ne_zero (show j ≠ 0 by omega)
    obtain rfl : i = 4 := by omega
    refine ⟨z, ?_, fun k k1 k2 => absurd k1 (by omega), fun _ _ => rfl⟩
    rw [T_X4_image_L164]; simp (disch := omega) only [l0, l1, l2, l3, l4, l5, l6, l7, l8, l9, l10, l11, l12, l30, l35, l36, l60, l99, l127, l150, l999, nI_eq, nI_leI, nI_ltI, nI_1, nI_add, pk_mul, obN, nI_clamp, lt', jn, Option.bind_some, inW, inF, inC, inK, fl4, cl4, wi3, T_X3_isFirstOrSecond, badE, fullE, noE, T_X3_refuseBad, T_X3_refuseFull, T_X3_refuseNo, reduceIte, Nat.reduceEqDiff, Nat.reduceLeDiff, Nat.reduceMul, Nat.reduceAdd, Nat.reduceSub, and_true, true_and, Nat.le_refl, q42, q88]
  | succ d ih =>
    intro i j z hi hj
    obtain ⟨j, rfl⟩ := Nat.exists_eq_succ_of_ne_zero (show j ≠ 0 by omega)
    have hn5 : ¬ 4 ≤ i := by omega
    obtain ⟨z', e1, e2, e3⟩ := ih (i + 1) j (upd (upd (upd z (q + 44 + i) (a i)) (q + 48 + i) (b i)) (q + 52 + i) (c i)) (by omega) (by omega)
    refine ⟨z', ?_, ?_, ?_⟩
    · rw [← e1, T_X4_image_L164]
      simp (disch := omega) only [l0, l1, l2, l3, l4, l5, l6, l7, l8, l9, l10, l11, l12, l30, l35, l36, l60, l99, l127, l150, l999, nI_eq, nI_leI, nI_ltI, nI_1, nI_add, pk_mul, obN, nI_clamp, lt', jn, Option.bind_some, inW, inF, inC, inK, fl4, cl4, wi3, T_X3_isFirstOrSecond, badE, fullE, noE, T_X3_refuseBad, T_X3_refuseFull, T_X3_refuseNo, reduceIte, Nat.reduceEqDiff, Nat.reduceLeDiff, Nat.reduceMul, Nat.reduceAdd, Nat.reduceSub, and_true, true_and, hn5, q42, q88, q44, q48, q52]
    · intro k k1 k2
      by_cases e : k = i
      · subst e
        refine ⟨?_, ?_, ?_⟩
        · rw [e3 _ (by omega), pk_un (by omega), pk_un (by omega), pk_us]
        · rw [e3 _ (by omega), pk_un (by omega), pk_us]
        · rw [e3 _ (by omega), pk_us]
      · exact e2 k (by omega) k2
    · intro p hp
      rw [e3 p (by omega), pk_un (by omega), pk_un (by omega), pk_un (by omega)]
theorem put228 {N q : Nat} (hq : q ≤ 200) (a : Nat → Int32) (K : (Nat → Int32) → Option (Int32 × (Nat → Int32) × (Nat → Int32) × (Nat → Int32))) : ∀ (d i j : Nat) (z : Nat → Int32), i + d = 42 → d < j → ∃ z', T_X4_image_L228 N (nI q) a K j (nI i) z = K z' ∧ (∀ k, i ≤ k → k < 42 → z' (q + 56 + k) = a k) ∧ ∀ p, (p < q + 56 + i ∨ q + 56 + 42 ≤ p) → z' p = z p := by
  intro d
  induction d with
  | zero =>
    intro i j z hi hj
    obtain ⟨j, rfl⟩ := Nat.exists_eq_succ_of_ne_zero (show j ≠ 0 by omega)
    obtain rfl : i = 42 := by omega
    refine ⟨z, ?_, fun k k1 k2 => absurd k1 (by omega), fun _ _ => rfl⟩
    rw [T_X4_image_L228]; simp (disch := omega) only [l0, l1, l2, l3, l4, l5, l6, l7, l8, l9, l10, l11, l12, l30, l35, l36, l60, l99, l127, l150, l999, nI_eq, nI_leI, nI_ltI, nI_1, nI_add, pk_mul, obN, nI_clamp, lt', jn, Option.bind_some, inW, inF, inC, inK, fl4, cl4, wi3, T_X3_isFirstOrSecond, badE, fullE, noE, T_X3_refuseBad, T_X3_refuseFull, T_X3_refuseNo, reduceIte, Nat.reduceEqDiff, Nat.reduceLeDiff, Nat.reduceMul, Nat.reduceAdd, Nat.reduceSub, and_true, true_and, Nat.le_refl, q42, q88]
  | succ d ih =>
    intro i j z hi hj
    obtain ⟨j, rfl⟩ := Nat.exists_eq_succ_of_ne_zero (show j ≠ 0 by omega)
    have hn5 : ¬ 42 ≤ i := by omega
    obtain ⟨z', e1, e2, e3⟩ := ih (i + 1) j (upd z (q + 56 + i) (a i)) (by omega) (by omega)
    refine ⟨z', ?_, ?_, ?_⟩
    · rw [← e1, T_X4_image_L228]
      simp (disch := omega) only [l0, l1, l2, l3, l4, l5, l6, l7, l8, l9, l10, l11, l12, l30, l35, l36, l60, l99, l127, l150, l999, nI_eq, nI_leI, nI_ltI, nI_1, nI_add, pk_mul, obN, nI_clamp, lt', jn, Option.bind_some, inW, inF, inC, inK, fl4, cl4, wi3, T_X3_isFirstOrSecond, badE, fullE, noE, T_X3_refuseBad, T_X3_refuseFull, T_X3_refuseNo, reduceIte, Nat.reduceEqDiff, Nat.reduceLeDiff, Nat.reduceMul, Nat.reduceAdd, Nat.reduceSub, and_true, true_and, hn5, q42, q88, q56]
    · intro k k1 k2
      by_cases e : k = i
      · subst e
        skip
        · rw [e3 _ (by omega), pk_us]
      · exact e2 k (by omega) k2
    · intro p hp
      rw [e3 p (by omega), pk_un (by omega)]
theorem put259 {N q : Nat} (hq : q ≤ 200) (ref a kp : Nat → Int32) : ∀ (d i j : Nat) (z : Nat → Int32), i + d = 88 → d < j → ∃ z', T_X4_image_L259 N (nI q) ref a kp j (nI i) z = some (nI 1, ref, z', kp) ∧ (∀ k, i ≤ k → k < 88 → z' (q + 98 + k) = a k) ∧ ∀ p, (p < q + 98 + i ∨ q + 98 + 88 ≤ p) → z' p = z p := by
  intro d
  induction d with
  | zero =>
    intro i j z hi hj
    obtain ⟨j, rfl⟩ := Nat.exists_eq_succ_of_ne_zero (show j ≠ 0 by omega)
    obtain rfl : i = 88 := by omega
    refine ⟨z, ?_, fun k k1 k2 => absurd k1 (by omega), fun _ _ => rfl⟩
    rw [T_X4_image_L259]; simp (disch := omega) only [l0, l1, l2, l3, l4, l5, l6, l7, l8, l9, l10, l11, l12, l30, l35, l36, l60, l99, l127, l150, l999, nI_eq, nI_leI, nI_ltI, nI_1, nI_add, pk_mul, obN, nI_clamp, lt', jn, Option.bind_some, inW, inF, inC, inK, fl4, cl4, wi3, T_X3_isFirstOrSecond, badE, fullE, noE, T_X3_refuseBad, T_X3_refuseFull, T_X3_refuseNo, reduceIte, Nat.reduceEqDiff, Nat.reduceLeDiff, Nat.reduceMul, Nat.reduceAdd, Nat.reduceSub, and_true, true_and, Nat.le_refl, q42, q88]
  | succ d ih =>
    intro i j z hi hj
    obtain ⟨j, rfl⟩ := Nat.exists_eq_succ_of_ne_zero (show j ≠ 0 by omega)
    have hn5 : ¬ 88 ≤ i := by omega
    obtain ⟨z', e1, e2, e3⟩ := ih (i + 1) j (upd z (q + 98 + i) (a i)) (by omega) (by omega)
    refine ⟨z', ?_, ?_, ?_⟩
    · rw [← e1, T_X4_image_L259]
      simp (disch := omega) only [l0, l1, l2, l3, l4, l5, l6, l7, l8, l9, l10, l11, l12, l30, l35, l36, l60, l99, l127, l150, l999, nI_eq, nI_leI, nI_ltI, nI_1, nI_add, pk_mul, obN, nI_clamp, lt', jn, Option.bind_some, inW, inF, inC, inK, fl4, cl4, wi3, T_X3_isFirstOrSecond, badE, fullE, noE, T_X3_refuseBad, T_X3_refuseFull, T_X3_refuseNo, reduceIte, Nat.reduceEqDiff, Nat.reduceLeDiff, Nat.reduceMul, Nat.reduceAdd, Nat.reduceSub, and_true, true_and, hn5, q42, q88, q98]
    · intro k k1 k2
      by_cases e : k = i
      · subst e
        rw [e3 _ (by omega), pk_us]
      · exact e2 k (by omega) k2
    · intro p hp
      rw [e3 p (by omega), pk_un (by omega)]
theorem image_n {N i : Nat} (hN : 1000 ≤ N) (hi : i ≤ 1) (many now fM nM uM : Int32) (ref w g kk cells food fk fm fc noted ahead images kp : Nat → Int32) : ∃ R, T_X4_image N many now fM nM uM ref w g kk cells food fk fm fc noted ahead images kp (nI i) = some (nI 1, ref, R, upd kp i (nI 1)) ∧
    (R (200 * i) = many ∧ R (200 * i + 1) = fM ∧ R (200 * i + 2) = nM ∧ R (200 * i + 3) = uM ∧ R (200 * i + 4) = now) ∧ (∀ k, k < 5 → R (200 * i + 5 + k) = cells k ∧ R (200 * i + 10 + k) = food k) ∧ (∀ k, k < 12 → R (200 * i + 15 + k) = w k ∧ R (200 * i + 27 + k) = g k) ∧ (∀ k, k < 5 → R (200 * i + 39 + k) = kk k) ∧ (∀ k, k < 4 → R (200 * i + 44 + k) = fk k ∧ R (200 * i + 48 + k) = fm k ∧ R (200 * i + 52 + k) = fc k) ∧ (∀ k, k < 42 → R (200 * i + 56 + k) = noted k) ∧ (∀ k, k < 88 → R (200 * i + 98 + k) = ahead k) ∧ ∀ p, p < 200 * i ∨ 200 * i + 200 ≤ p → R p = images p := by
  obtain ⟨q, hq⟩ : ∃ q, q = 200 * i := ⟨_, rfl⟩
  rw [← hq]
  have hq2 : q ≤ 200 := by omega
  have h1 : T_X3_within (nI i) (nI 0) (nI 1) = nI 1 := by
    obtain rfl | rfl : i = 0 ∨ i = 1 := by omega
    · decide
    · decide
  obtain ⟨z1, a1, a2, a3, a4⟩ := lays_n (n1 := 400) (q := q + 4) hN (by omega) (by omega) now cells food (upd (upd (upd (upd images q many) (q + 1) fM) (q + 2) nM) (q + 3) uM)
  obtain ⟨z2, b1, b2, b3⟩ := put86 (N := N) hq2 w g (fun z56 => T_X4_image_L134 N (nI q) kk (fun z79 => T_X4_image_L164 N (nI q) fk fm fc (fun z114 => T_X4_image_L228 N (nI q) noted (fun z137 => T_X4_image_L259 N (nI q) ref ahead (upd kp i (nI 1)) N (nI 0) z137) N (nI 0) z114) N (nI 0) z79) N (nI 0) z56) 12 0 N z1 rfl (by omega)
  obtain ⟨z3, c1, c2, c3⟩ := put134 (N := N) hq2 kk (fun z79 => T_X4_image_L164 N (nI q) fk fm fc (fun z114 => T_X4_image_L228 N (nI q) noted (fun z137 => T_X4_image_L259 N (nI q) ref ahead (upd kp i (nI 1)) N (nI 0) z137) N (nI 0) z114) N (nI 0) z79) 5 0 N z2 rfl (by omega)
  obtain ⟨z4, d1, d2, d3⟩ := put164 (N := N) hq2 fk fm fc (fun z114 => T_X4_image_L228 N (nI q) noted (fun z137 => T_X4_image_L259 N (nI q) ref ahead (upd kp i (nI 1)) N (nI 0) z137) N (nI 0) z114) 4 0 N z3 rfl (by omega)
  obtain ⟨z5, e1, e2, e3⟩ := put228 (N := N) hq2 noted (fun z137 => T_X4_image_L259 N (nI q) ref ahead (upd kp i (nI 1)) N (nI 0) z137) 42 0 N z4 rfl (by omega)
  obtain ⟨z6, g1, g2, g3⟩ := put259 (N := N) hq2 ref ahead (upd kp i (nI 1)) 88 0 N z5 rfl (by omega)
  have lo : ∀ p, p < q + 15 ∨ q + 186 ≤ p → z6 p = z1 p := fun p hp => by
    rw [g3 p (by omega), e3 p (by omega), d3 p (by omega), c3 p (by omega), b3 p (by omega)]
  refine ⟨z6, ?_, ⟨?_, ?_, ?_, ?_, ?_⟩, ?_, ?_, ?_, ?_, ?_, ?_, ?_⟩
  · refine Eq.trans ?_ ((b1.trans (c1.trans (d1.trans (e1.trans g1)))))
    rw [T_X4_image]
    simp (disch := omega) only [l0, l1, l2, l3, l4, l5, l6, l7, l8, l9, l10, l11, l12, l30, l35, l36, l60, l99, l127, l150, l999, nI_eq, nI_leI, nI_ltI, nI_1, nI_add, pk_mul, obN, nI_clamp, lt', jn, Option.bind_some, inW, inF, inC, inK, fl4, cl4, wi3, T_X3_isFirstOrSecond, badE, fullE, noE, T_X3_refuseBad, T_X3_refuseFull, T_X3_refuseNo, reduceIte, Nat.reduceEqDiff, Nat.reduceLeDiff, Nat.reduceMul, Nat.reduceAdd, Nat.reduceSub, and_true, true_and, q200, h1, ← hq, a1]
  · rw [lo _ (by omega), a4 _ (by omega), pk_un (by omega), pk_un (by omega), pk_un (by omega), pk_us]
  · rw [lo _ (by omega), a4 _ (by omega), pk_un (by omega), pk_un (by omega), pk_us]
  · rw [lo _ (by omega), a4 _ (by omega), pk_un (by omega), pk_us]
  · rw [lo _ (by omega), a4 _ (by omega), pk_us]
  · rw [lo _ (by omega), a2]
  · intro k hk
    have := a3 k hk
    rw [lo _ (by omega), lo _ (by omega), show q + 5 + k = q + 4 + 1 + k by omega, show q + 10 + k = q + 4 + 6 + k by omega]
    exact this
  · intro k hk
    have := b2 k (Nat.zero_le k) hk
    rw [g3 _ (by omega), g3 _ (by omega), e3 _ (by omega), e3 _ (by omega), d3 _ (by omega), d3 _ (by omega), c3 _ (by omega), c3 _ (by omega)]
    exact this
  · intro k hk
    rw [g3 _ (by omega), e3 _ (by omega), d3 _ (by omega)]
    exact c2 k (Nat.zero_le k) hk
  · intro k hk
    have := d2 k (Nat.zero_le k) hk
    rw [g3 _ (by omega), g3 _ (by omega), g3 _ (by omega), e3 _ (by omega), e3 _ (by omega), e3 _ (by omega)]
    exact this
  · intro k hk
    rw [g3 _ (by omega)]
    exact e2 k (Nat.zero_le k) hk
  · intro k hk
    exact g2 k (Nat.zero_le k) hk
  · intro p hp
    rw [lo _ (by omega), a4 _ (by omega), pk_un (by omega), pk_un (by omega), pk_un (by omega), pk_un (by omega)]
