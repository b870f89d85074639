/-! the notes: which kinds fit -/
def b2 (b : Bool) : Int32 := if b then nI 1 else nI 0
def ntB (k : Nat) (Q : Nat → Nat) (i : Nat) : Bool := decide (stN k (Q (7 * i + 3)) (Q (7 * i + 4)) = Q (7 * i + 6)) && (decide (Q (7 * i + 6) = 0) || decide (wayN k (Q (7 * i + 1)) (Q (7 * i + 2)) = Q (7 * i + 5)))
def alN (k f : Nat) (Q : Nat → Nat) : Nat → Bool
  | 0 => true
  | i + 1 => alN k f Q i && (!decide (Q (7 * i) = f) || ntB k Q i)
theorem alN_no {k f : Nat} {Q : Nat → Nat} {i : Nat} (h : alN k f Q i = false) : ∀ d, alN k f Q (i + d) = false
  | 0 => h
  | d + 1 => by
    show (alN k f Q (i + d) && _) = false
    rw [alN_no h d, Bool.false_and]
def okQ (Q : Nat → Nat) (n : Nat) : Prop := ∀ k, k < n → Q (7 * k) ≤ 4 ∧ Q (7 * k + 1) ≤ 99 ∧ Q (7 * k + 2) ≤ 3 ∧ Q (7 * k + 3) ≤ 3 ∧ Q (7 * k + 4) ≤ 5 ∧ Q (7 * k + 5) ≤ 3 ∧ Q (7 * k + 6) ≤ 3
theorem noteBy_n {N k n i : Nat} {rows : Nat → Int32} {Q : Nat → Nat} (hn : n ≤ 6) (hk : k ≤ 5) (hi : i < n) (hr : ∀ j, j < 7 * n → rows j = nI (Q j)) (hQ : okQ Q n) : T_X1_noteBy N rows (nI k) (nI (7 * i)) = some (b2 (ntB k Q i)) := by
  obtain ⟨q0, q1, q2, q3, q4, q5, q6⟩ := hQ i hi
  have r1 := hr (7 * i + 1) (by omega)
  have r2 := hr (7 * i + 2) (by omega)
  have r3 := hr (7 * i + 3) (by omega)
  have r4 := hr (7 * i + 4) (by omega)
  have r5 := hr (7 * i + 5) (by omega)
  have r6 := hr (7 * i + 6) (by omega)
  have st := st_all k (by omega) (Q (7 * i + 3)) (by omega) (Q (7 * i + 4)) (by omega)
  have wy := wayOf_n (k := k) (m := Q (7 * i + 1)) (w := Q (7 * i + 2)) hk (by omega) q2
  have wl := wayN_le (k := k) (m := Q (7 * i + 1)) q2
  have s1 := st.1
  have s2 := st.2.2
  unfold ntB
  rw [T_X1_noteBy]
  by_cases h1 : stN k (Q (7 * i + 3)) (Q (7 * i + 4)) = Q (7 * i + 6)
  · by_cases h2 : Q (7 * i + 6) = 0
    · simp (disch := omega) only [l0, l1, l2, l3, l4, l5, l6, l7, l8, l9, l10, l11, l12, l30, l35, l36, l60, l99, l127, l150, l999, nI_eq, nI_leI, nI_ltI, nI_1, nI_add, pk_mul, obN, nI_clamp, lt', jn, Option.bind_some, inW, inF, inC, inK, fl4, cl4, wi3, T_X3_isFirstOrSecond, badE, fullE, noE, T_X3_refuseBad, T_X3_refuseFull, T_X3_refuseNo, reduceIte, Nat.reduceEqDiff, Nat.reduceLeDiff, Nat.reduceMul, Nat.reduceAdd, Nat.reduceSub, and_true, true_and, r1, r2, r3, r4, r5, r6, s1, h1, h2, b2, decide_true, Bool.true_and, Bool.true_or]
    · by_cases h3 : wayN k (Q (7 * i + 1)) (Q (7 * i + 2)) = Q (7 * i + 5)
      · simp (disch := omega) only [l0, l1, l2, l3, l4, l5, l6, l7, l8, l9, l10, l11, l12, l30, l35, l36, l60, l99, l127, l150, l999, nI_eq, nI_leI, nI_ltI, nI_1, nI_add, pk_mul, obN, nI_clamp, lt', jn, Option.bind_some, inW, inF, inC, inK, fl4, cl4, wi3, T_X3_isFirstOrSecond, badE, fullE, noE, T_X3_refuseBad, T_X3_refuseFull, T_X3_refuseNo, reduceIte, Nat.reduceEqDiff, Nat.reduceLeDiff, Nat.reduceMul, Nat.reduceAdd, Nat.reduceSub, and_true, true_and, r1, r2, r3, r4, r5, r6, s1, wy, h1, h2, h3, b2, decide_true, decide_false, Bool.true_and, Bool.false_or]
      · simp (disch := omega) only [l0, l1, l2, l3, l4, l5, l6, l7, l8, l9, l10, l11, l12, l30, l35, l36, l60, l99, l127, l150, l999, nI_eq, nI_leI, nI_ltI, nI_1, nI_add, pk_mul, obN, nI_clamp, lt', jn, Option.bind_some, inW, inF, inC, inK, fl4, cl4, wi3, T_X3_isFirstOrSecond, badE, fullE, noE, T_X3_refuseBad, T_X3_refuseFull, T_X3_refuseNo, reduceIte, Nat.reduceEqDiff, Nat.reduceLeDiff, Nat.reduceMul, Nat.reduceAdd, Nat.reduceSub, and_true, true_and, r1, r2, r3, r4, r5, r6, s1, wy, h1, h2, h3, b2, decide_true, decide_false, Bool.true_and, Bool.false_or, Bool.false_eq_true]
  · simp (disch := omega) only [l0, l1, l2, l3, l4, l5, l6, l7, l8, l9, l10, l11, l12, l30, l35, l36, l60, l99, l127, l150, l999, nI_eq, nI_leI, nI_ltI, nI_1, nI_add, pk_mul, obN, nI_clamp, lt', jn, Option.bind_some, inW, inF, inC, inK, fl4, cl4, wi3, T_X3_isFirstOrSecond, badE, fullE, noE, T_X3_refuseBad, T_X3_refuseFull, T_X3_refuseNo, reduceIte, Nat.reduceEqDiff, Nat.reduceLeDiff, Nat.reduceMul, Nat.reduceAdd, Nat.reduceSub, and_true, true_and, r1, r2, r3, r4, r5, r6, s1, h1, b2, decide_false, Bool.false_and, Bool.false_eq_true]
theorem isNoted_n {N k n i : Nat} {rows : Nat → Int32} {Q : Nat → Nat} (hn : n ≤ 6) (hk : k ≤ 5) (hi : i < n) (hr : ∀ j, j < 7 * n → rows j = nI (Q j)) (hQ : okQ Q n) : T_X4_isNoted N rows (nI k) (nI (7 * i)) = some (b2 (ntB k Q i)) := by
  obtain ⟨q0, q1, q2, q3, q4, q5, q6⟩ := hQ i hi
  have r1 := hr (7 * i + 1) (by omega)
  have r2 := hr (7 * i + 2) (by omega)
  have r3 := hr (7 * i + 3) (by omega)
  have r4 := hr (7 * i + 4) (by omega)
  have r5 := hr (7 * i + 5) (by omega)
  have r6 := hr (7 * i + 6) (by omega)
  have st := st_all k (by omega) (Q (7 * i + 3)) (by omega) (Q (7 * i + 4)) (by omega)
  have wy := wayOf_n (k := k) (m := Q (7 * i + 1)) (w := Q (7 * i + 2)) hk (by omega) q2
  have wl := wayN_le (k := k) (m := Q (7 * i + 1)) q2
  have s1 := st.2.1
  have s2 := st.2.2
  unfold ntB
  rw [T_X4_isNoted, wayBy_e]
  by_cases h1 : stN k (Q (7 * i + 3)) (Q (7 * i + 4)) = Q (7 * i + 6)
  · by_cases h2 : Q (7 * i + 6) = 0
    · simp (disch := omega) only [l0, l1, l2, l3, l4, l5, l6, l7, l8, l9, l10, l11, l12, l30, l35, l36, l60, l99, l127, l150, l999, nI_eq, nI_leI, nI_ltI, nI_1, nI_add, pk_mul, obN, nI_clamp, lt', jn, Option.bind_some, inW, inF, inC, inK, fl4, cl4, wi3, T_X3_isFirstOrSecond, badE, fullE, noE, T_X3_refuseBad, T_X3_refuseFull, T_X3_refuseNo, reduceIte, Nat.reduceEqDiff, Nat.reduceLeDiff, Nat.reduceMul, Nat.reduceAdd, Nat.reduceSub, and_true, true_and, r1, r2, r3, r4, r5, r6, s1, h1, h2, b2, decide_true, Bool.true_and, Bool.true_or]
    · by_cases h3 : wayN k (Q (7 * i + 1)) (Q (7 * i + 2)) = Q (7 * i + 5)
      · simp (disch := omega) only [l0, l1, l2, l3, l4, l5, l6, l7, l8, l9, l10, l11, l12, l30, l35, l36, l60, l99, l127, l150, l999, nI_eq, nI_leI, nI_ltI, nI_1, nI_add, pk_mul, obN, nI_clamp, lt', jn, Option.bind_some, inW, inF, inC, inK, fl4, cl4, wi3, T_X3_isFirstOrSecond, badE, fullE, noE, T_X3_refuseBad, T_X3_refuseFull, T_X3_refuseNo, reduceIte, Nat.reduceEqDiff, Nat.reduceLeDiff, Nat.reduceMul, Nat.reduceAdd, Nat.reduceSub, and_true, true_and, r1, r2, r3, r4, r5, r6, s1, wy, h1, h2, h3, b2, decide_true, decide_false, Bool.true_and, Bool.false_or]
      · simp (disch := omega) only [l0, l1, l2, l3, l4, l5, l6, l7, l8, l9, l10, l11, l12, l30, l35, l36, l60, l99, l127, l150, l999, nI_eq, nI_leI, nI_ltI, nI_1, nI_add, pk_mul, obN, nI_clamp, lt', jn, Option.bind_some, inW, inF, inC, inK, fl4, cl4, wi3, T_X3_isFirstOrSecond, badE, fullE, noE, T_X3_refuseBad, T_X3_refuseFull, T_X3_refuseNo, reduceIte, Nat.reduceEqDiff, Nat.reduceLeDiff, Nat.reduceMul, Nat.reduceAdd, Nat.reduceSub, and_true, true_and, r1, r2, r3, r4, r5, r6, s1, wy, h1, h2, h3, b2, decide_true, decide_false, Bool.true_and, Bool.false_or, Bool.false_eq_true]
  · simp (disch := omega) only [l0, l1, l2, l3, l4, l5, l6, l7, l8, l9, l10, l11, l12, l30, l35, l36, l60, l99, l127, l150, l999, nI_eq, nI_leI, nI_ltI, nI_1, nI_add, pk_mul, obN, nI_clamp, lt', jn, Option.bind_some, inW, inF, inC, inK, fl4, cl4, wi3, T_X3_isFirstOrSecond, badE, fullE, noE, T_X3_refuseBad, T_X3_refuseFull, T_X3_refuseNo, reduceIte, Nat.reduceEqDiff, Nat.reduceLeDiff, Nat.reduceMul, Nat.reduceAdd, Nat.reduceSub, and_true, true_and, r1, r2, r3, r4, r5, r6, s1, h1, b2, decide_false, Bool.false_and, Bool.false_eq_true]
theorem allNotesBy_n {N k f n : Nat} {rows : Nat → Int32} {Q : Nat → Nat} (hN : 1000 ≤ N) (hn : n ≤ 6) (hk : k ≤ 5) (hf : f ≤ 4) (hr : ∀ j, j < 7 * n → rows j = nI (Q j)) (hQ : okQ Q n) : T_X1_allNotesBy N (nI n) rows (nI k) (nI f) = some (b2 (alN k f Q n)) := by
  obtain ⟨r, x1, rfl⟩ := lp (fun j (s : Int32) => T_X1_allNotesBy_L2 N (nI k) (nI f) (nI n) rows j s) (fun i s => s = nI i ∧ alN k f Q i = true) (fun r => r = b2 (alN k f Q n)) n
    (fun i s j hi ⟨s1, s2⟩ => by
      subst s1
      have hn5 : ¬ n ≤ i := by omega
      have q0 := (hQ i hi).1
      have r0 := hr (7 * i) (by omega)
      have nb := noteBy_n (N := N) hn hk hi hr hQ
      by_cases h1 : Q (7 * i) = f
      · cases hb : ntB k Q i with
        | true =>
          refine .inl ⟨nI (i + 1), ⟨rfl, by rw [alN, s2, hb, Bool.or_true, Bool.true_and]⟩, ?_⟩
          rw [hb] at nb
          (try simp only)
          rw [T_X1_allNotesBy_L2]
          simp (disch := omega) only [l0, l1, l2, l3, l4, l5, l6, l7, l8, l9, l10, l11, l12, l30, l35, l36, l60, l99, l127, l150, l999, nI_eq, nI_leI, nI_ltI, nI_1, nI_add, pk_mul, obN, nI_clamp, lt', jn, Option.bind_some, inW, inF, inC, inK, fl4, cl4, wi3, T_X3_isFirstOrSecond, badE, fullE, noE, T_X3_refuseBad, T_X3_refuseFull, T_X3_refuseNo, reduceIte, Nat.reduceEqDiff, Nat.reduceLeDiff, Nat.reduceMul, Nat.reduceAdd, Nat.reduceSub, and_true, true_and, hn5, r0, h1, nb, b2]
        | false =>
          refine .inr ⟨nI 0, ?_, ?_⟩
          · rw [hb] at nb
            (try simp only)
            rw [T_X1_allNotesBy_L2]
            simp (disch := omega) only [l0, l1, l2, l3, l4, l5, l6, l7, l8, l9, l10, l11, l12, l30, l35, l36, l60, l99, l127, l150, l999, nI_eq, nI_leI, nI_ltI, nI_1, nI_add, pk_mul, obN, nI_clamp, lt', jn, Option.bind_some, inW, inF, inC, inK, fl4, cl4, wi3, T_X3_isFirstOrSecond, badE, fullE, noE, T_X3_refuseBad, T_X3_refuseFull, T_X3_refuseNo, reduceIte, Nat.reduceEqDiff, Nat.reduceLeDiff, Nat.reduceMul, Nat.reduceAdd, Nat.reduceSub, and_true, true_and, hn5, r0, h1, nb, b2, Bool.false_eq_true]
          · have h := alN_no (k := k) (f := f) (Q := Q) (i := i + 1) (by rw [alN, hb, h1]; simp) (n - (i + 1))
            rw [show i + 1 + (n - (i + 1)) = n by omega] at h
            rw [h]; rfl
      · refine .inl ⟨nI (i + 1), ⟨rfl, by rw [alN, s2]; simp [h1]⟩, ?_⟩
        (try simp only)
        rw [T_X1_allNotesBy_L2]
        simp (disch := omega) only [l0, l1, l2, l3, l4, l5, l6, l7, l8, l9, l10, l11, l12, l30, l35, l36, l60, l99, l127, l150, l999, nI_eq, nI_leI, nI_ltI, nI_1, nI_add, pk_mul, obN, nI_clamp, lt', jn, Option.bind_some, inW, inF, inC, inK, fl4, cl4, wi3, T_X3_isFirstOrSecond, badE, fullE, noE, T_X3_refuseBad, T_X3_refuseFull, T_X3_refuseNo, reduceIte, Nat.reduceEqDiff, Nat.reduceLeDiff, Nat.reduceMul, Nat.reduceAdd, Nat.reduceSub, and_true, true_and, hn5, r0, h1])
    (fun s j ⟨s1, s2⟩ => by
      subst s1
      exact ⟨nI 1, by (try simp only); rw [T_X1_allNotesBy_L2]; simp (disch := omega) only [l0, l1, l2, l3, l4, l5, l6, l7, l8, l9, l10, l11, l12, l30, l35, l36, l60, l99, l127, l150, l999, nI_eq, nI_leI, nI_ltI, nI_1, nI_add, pk_mul, obN, nI_clamp, lt', jn, Option.bind_some, inW, inF, inC, inK, fl4, cl4, wi3, T_X3_isFirstOrSecond, badE, fullE, noE, T_X3_refuseBad, T_X3_refuseFull, T_X3_refuseNo, reduceIte, Nat.reduceEqDiff, Nat.reduceLeDiff, Nat.reduceMul, Nat.reduceAdd, Nat.reduceSub, and_true, true_and, Nat.le_refl], by rw [s2]; rfl⟩)
    n 0 (nI 0) N (by omega) ⟨rfl, rfl⟩ (by omega)
  exact x1
theorem kindsL15_n {N k f n : Nat} {rows : Nat → Int32} {Q : Nat → Nat} (K : Int32 → Option Int32) (hN : 1000 ≤ N) (hn : n ≤ 6) (hk : k ≤ 5) (hf : f ≤ 4) (hr : ∀ j, j < 7 * n → rows j = nI (Q j)) (hQ : okQ Q n) :
    ∀ (d i j : Nat), i + d = n → d < j → T_X4_kindsOf_L15 N (nI f) (nI k) (nI n) rows K j (b2 (alN k f Q i)) (nI i) = K (b2 (alN k f Q n)) := by
  intro d
  induction d with
  | zero =>
    intro i j hi hj
    obtain ⟨j, rfl⟩ := Nat.exists_eq_succ_of_ne_zero (show j ≠ 0 by omega)
    obtain rfl : i = n := by omega
    rw [T_X4_kindsOf_L15]; simp (disch := omega) only [l0, l1, l2, l3, l4, l5, l6, l7, l8, l9, l10, l11, l12, l30, l35, l36, l60, l99, l127, l150, l999, nI_eq, nI_leI, nI_ltI, nI_1, nI_add, pk_mul, obN, nI_clamp, lt', jn, Option.bind_some, inW, inF, inC, inK, fl4, cl4, wi3, T_X3_isFirstOrSecond, badE, fullE, noE, T_X3_refuseBad, T_X3_refuseFull, T_X3_refuseNo, reduceIte, Nat.reduceEqDiff, Nat.reduceLeDiff, Nat.reduceMul, Nat.reduceAdd, Nat.reduceSub, and_true, true_and, Nat.le_refl]
  | succ d ih =>
    intro i j hi hj
    obtain ⟨j, rfl⟩ := Nat.exists_eq_succ_of_ne_zero (show j ≠ 0 by omega)
    have hn5 : ¬ n ≤ i := by omega
    have q0 := (hQ i (by omega)).1
    have r0 := hr (7 * i) (by omega)
    have nb := isNoted_n (N := N) (i := i) hn hk (by omega) hr hQ
    have ih := ih (i + 1) j (by omega) (by omega)
    rw [← ih, alN, T_X4_kindsOf_L15]
    cases hs : alN k f Q i with
    | false => simp (disch := omega) only [l0, l1, l2, l3, l4, l5, l6, l7, l8, l9, l10, l11, l12, l30, l35, l36, l60, l99, l127, l150, l999, nI_eq, nI_leI, nI_ltI, nI_1, nI_add, pk_mul, obN, nI_clamp, lt', jn, Option.bind_some, inW, inF, inC, inK, fl4, cl4, wi3, T_X3_isFirstOrSecond, badE, fullE, noE, T_X3_refuseBad, T_X3_refuseFull, T_X3_refuseNo, reduceIte, Nat.reduceEqDiff, Nat.reduceLeDiff, Nat.reduceMul, Nat.reduceAdd, Nat.reduceSub, and_true, true_and, hn5, b2, Bool.false_eq_true, Bool.false_and]
    | true =>
      by_cases h1 : Q (7 * i) = f
      · cases hb : ntB k Q i with
        | true => rw [hb] at nb; simp (disch := omega) only [l0, l1, l2, l3, l4, l5, l6, l7, l8, l9, l10, l11, l12, l30, l35, l36, l60, l99, l127, l150, l999, nI_eq, nI_leI, nI_ltI, nI_1, nI_add, pk_mul, obN, nI_clamp, lt', jn, Option.bind_some, inW, inF, inC, inK, fl4, cl4, wi3, T_X3_isFirstOrSecond, badE, fullE, noE, T_X3_refuseBad, T_X3_refuseFull, T_X3_refuseNo, reduceIte, Nat.reduceEqDiff, Nat.reduceLeDiff, Nat.reduceMul, Nat.reduceAdd, Nat.reduceSub, and_true, true_and, hn5, b2, r0, h1, nb, Bool.or_true, Bool.true_and, decide_true, Bool.not_true, Bool.false_or]
        | false => rw [hb] at nb; simp (disch := omega) only [l0, l1, l2, l3, l4, l5, l6, l7, l8, l9, l10, l11, l12, l30, l35, l36, l60, l99, l127, l150, l999, nI_eq, nI_leI, nI_ltI, nI_1, nI_add, pk_mul, obN, nI_clamp, lt', jn, Option.bind_some, inW, inF, inC, inK, fl4, cl4, wi3, T_X3_isFirstOrSecond, badE, fullE, noE, T_X3_refuseBad, T_X3_refuseFull, T_X3_refuseNo, reduceIte, Nat.reduceEqDiff, Nat.reduceLeDiff, Nat.reduceMul, Nat.reduceAdd, Nat.reduceSub, and_true, true_and, hn5, b2, r0, h1, nb, Bool.false_eq_true, Bool.true_and, decide_true, Bool.not_true, Bool.false_or]
      · simp (disch := omega) only [l0, l1, l2, l3, l4, l5, l6, l7, l8, l9, l10, l11, l12, l30, l35, l36, l60, l99, l127, l150, l999, nI_eq, nI_leI, nI_ltI, nI_1, nI_add, pk_mul, obN, nI_clamp, lt', jn, Option.bind_some, inW, inF, inC, inK, fl4, cl4, wi3, T_X3_isFirstOrSecond, badE, fullE, noE, T_X3_refuseBad, T_X3_refuseFull, T_X3_refuseNo, reduceIte, Nat.reduceEqDiff, Nat.reduceLeDiff, Nat.reduceMul, Nat.reduceAdd, Nat.reduceSub, and_true, true_and, hn5, b2, r0, h1, Bool.true_and, decide_false, Bool.not_false, Bool.true_or]
theorem kinds_n {N f n : Nat} {rows noted : Nat → Int32} {Q : Nat → Nat} (hN : 1000 ≤ N) (hn : n ≤ 6) (hf : f ≤ 4) (hr : ∀ j, j < 7 * n → rows j = nI (Q j)) (hm : ∀ j, j < 7 * n → noted j = nI (Q j)) (hQ : okQ Q n) : ∃ v, T_X1_kindsByNotes N (nI n) rows (nI f) = some v ∧ T_X4_kindsOf N (nI n) noted (nI f) = some v := by
  have key : ∀ d i : Nat, ∀ a : Int32, ∀ j j' : Nat, i + d = 6 → d < j → d < j' → ∃ v, T_X1_kindsByNotes_L4 N (nI f) (nI n) rows j a (nI i) = some v ∧ T_X4_kindsOf_L4 N (nI f) (nI n) noted j' a (nI i) = some v := by
    intro d
    induction d with
    | zero =>
      intro i a j j' hi hn hn'
      obtain ⟨j, rfl⟩ := Nat.exists_eq_succ_of_ne_zero (show j ≠ 0 by omega)
      obtain ⟨j', rfl⟩ := Nat.exists_eq_succ_of_ne_zero (show j' ≠ 0 by omega)
      obtain rfl : i = 6 := by omega
      refine ⟨a, ?_, ?_⟩
      · rw [T_X1_kindsByNotes_L4]; simp (disch := omega) only [l0, l1, l2, l3, l4, l5, l6, l7, l8, l9, l10, l11, l12, l30, l35, l36, l60, l99, l127, l150, l999, nI_eq, nI_leI, nI_ltI, nI_1, nI_add, pk_mul, obN, nI_clamp, lt', jn, Option.bind_some, inW, inF, inC, inK, fl4, cl4, wi3, T_X3_isFirstOrSecond, badE, fullE, noE, T_X3_refuseBad, T_X3_refuseFull, T_X3_refuseNo, reduceIte, Nat.reduceEqDiff, Nat.reduceLeDiff, Nat.reduceMul, Nat.reduceAdd, Nat.reduceSub, and_true, true_and, Nat.le_refl]
      · rw [T_X4_kindsOf_L4]; simp (disch := omega) only [l0, l1, l2, l3, l4, l5, l6, l7, l8, l9, l10, l11, l12, l30, l35, l36, l60, l99, l127, l150, l999, nI_eq, nI_leI, nI_ltI, nI_1, nI_add, pk_mul, obN, nI_clamp, lt', jn, Option.bind_some, inW, inF, inC, inK, fl4, cl4, wi3, T_X3_isFirstOrSecond, badE, fullE, noE, T_X3_refuseBad, T_X3_refuseFull, T_X3_refuseNo, reduceIte, Nat.reduceEqDiff, Nat.reduceLeDiff, Nat.reduceMul, Nat.reduceAdd, Nat.reduceSub, and_true, true_and, (by omega : 5 < 6)]
    | succ d ih =>
      intro i a j j' hi hj hj'
      obtain ⟨j, rfl⟩ := Nat.exists_eq_succ_of_ne_zero (show j ≠ 0 by omega)
      obtain ⟨j', rfl⟩ := Nat.exists_eq_succ_of_ne_zero (show j' ≠ 0 by omega)
      have h6 : ¬ 6 ≤ i := by omega
      have h5 : ¬ 5 < i := by omega
      have an := allNotesBy_n (k := i) hN hn (by omega) hf hr hQ
      have L' : ∀ K, T_X4_kindsOf_L15 N (nI f) (nI i) (nI n) noted K N 1 0 = K (b2 (alN i f Q n)) := fun K => kindsL15_n (k := i) K hN hn (by omega) hf hm hQ n 0 N (by omega) (by omega)
      cases hb : alN i f Q n with
      | true =>
        obtain ⟨v, v1, v2⟩ := ih (i + 1) (a ||| (nI 1 <<< (nI i &&& 31))) j j' (by omega) (by omega) (by omega)
        rw [hb] at an
        refine ⟨v, ?_, ?_⟩
        · rw [T_X1_kindsByNotes_L4]; simp (disch := omega) only [l0, l1, l2, l3, l4, l5, l6, l7, l8, l9, l10, l11, l12, l30, l35, l36, l60, l99, l127, l150, l999, nI_eq, nI_leI, nI_ltI, nI_1, nI_add, pk_mul, obN, nI_clamp, lt', jn, Option.bind_some, inW, inF, inC, inK, fl4, cl4, wi3, T_X3_isFirstOrSecond, badE, fullE, noE, T_X3_refuseBad, T_X3_refuseFull, T_X3_refuseNo, reduceIte, Nat.reduceEqDiff, Nat.reduceLeDiff, Nat.reduceMul, Nat.reduceAdd, Nat.reduceSub, and_true, true_and, h6, an, b2]; exact v1
        · rw [T_X4_kindsOf_L4, l5, if_neg (fun h => h5 ((nI_ltI (by omega) (by omega)).mp h))]
          rw [L', hb]
          simp (disch := omega) only [l0, l1, l2, l3, l4, l5, l6, l7, l8, l9, l10, l11, l12, l30, l35, l36, l60, l99, l127, l150, l999, nI_eq, nI_leI, nI_ltI, nI_1, nI_add, pk_mul, obN, nI_clamp, lt', jn, Option.bind_some, inW, inF, inC, inK, fl4, cl4, wi3, T_X3_isFirstOrSecond, badE, fullE, noE, T_X3_refuseBad, T_X3_refuseFull, T_X3_refuseNo, reduceIte, Nat.reduceEqDiff, Nat.reduceLeDiff, Nat.reduceMul, Nat.reduceAdd, Nat.reduceSub, and_true, true_and, b2]; exact v2
      | false =>
        obtain ⟨v, v1, v2⟩ := ih (i + 1) a j j' (by omega) (by omega) (by omega)
        rw [hb] at an
        refine ⟨v, ?_, ?_⟩
        · rw [T_X1_kindsByNotes_L4]; simp (disch := omega) only [l0, l1, l2, l3, l4, l5, l6, l7, l8, l9, l10, l11, l12, l30, l35, l36, l60, l99, l127, l150, l999, nI_eq, nI_leI, nI_ltI, nI_1, nI_add, pk_mul, obN, nI_clamp, lt', jn, Option.bind_some, inW, inF, inC, inK, fl4, cl4, wi3, T_X3_isFirstOrSecond, badE, fullE, noE, T_X3_refuseBad, T_X3_refuseFull, T_X3_refuseNo, reduceIte, Nat.reduceEqDiff, Nat.reduceLeDiff, Nat.reduceMul, Nat.reduceAdd, Nat.reduceSub, and_true, true_and, h6, an, b2, Bool.false_eq_true]; exact v1
        · rw [T_X4_kindsOf_L4, l5, if_neg (fun h => h5 ((nI_ltI (by omega) (by omega)).mp h))]
          rw [L', hb]
          simp (disch := omega) only [l0, l1, l2, l3, l4, l5, l6, l7, l8, l9, l10, l11, l12, l30, l35, l36, l60, l99, l127, l150, l999, nI_eq, nI_leI, nI_ltI, nI_1, nI_add, pk_mul, obN, nI_clamp, lt', jn, Option.bind_some, inW, inF, inC, inK, fl4, cl4, wi3, T_X3_isFirstOrSecond, badE, fullE, noE, T_X3_refuseBad, T_X3_refuseFull, T_X3_refuseNo, reduceIte, Nat.reduceEqDiff, Nat.reduceLeDiff, Nat.reduceMul, Nat.reduceAdd, Nat.reduceSub, and_true, true_and, b2, Bool.false_eq_true]
          rw [show a ||| nI 0 = a from by rw [← l0]; exact Int32.or_zero]; exact v2
  obtain ⟨v, v1, v2⟩ := key 6 0 0 N N rfl (by omega) (by omega)
  exact ⟨v, v1, v2⟩
set_option maxHeartbeats 4000000 in
theorem op_is (N : Nat) (hN : 1000 ≤ N) (x : FIV) (m : MV) (p1 : Int32) (h : REL x m) : ∃ (R : Int32 × Int32) (RM : Int32 × (Nat → Int32)), T_X3_is N (x_bads x) (xn_floes x) (xn_notes x) (xn_noteRows x) p1 = some R ∧ T_X4_is N (m_many m) (m_noteMany m) (m_refused m) (m_noted m) p1 = some RM ∧ R.1 = RM.1 ∧ REL ((xn_month x), (xn_ways x), (xn_strengths x), (xn_floes x), (xn_kinds x), (xn_cells x), (xn_foods x), (xn_founds x), (xn_foundRows x), (xn_notes x), (xn_noteRows x), (xn_undos x), (xn_undoRows x), (xs_month x), (xs_ways x), (xs_strengths x), (xs_floes x), (xs_kinds x), (xs_cells x), (xs_foods x), (xs_founds x), (xs_foundRows x), (xs_notes x), (xs_noteRows x), (xs_undos x), (xs_undoRows x), (xt_bytes x), (xt_length x), (xt_place x), (xt_fault x), (x_odds x), (x_nextOdds x), (x_gains x), (x_above x), (x_below x), R.2, (x_nos x), (x_fulls x), (x_img0 x), (x_img1 x)) (RM.2, (m_many m), (m_now m), (m_findMany m), (m_noteMany m), (m_ways m), (m_strengths m), (m_kinds m), (m_cells m), (m_food m), (m_findKind m), (m_findMonth m), (m_findCell m), (m_noted m), (m_text m), (m_typed m), (m_readAt m), (m_readMonth m), (m_readMany m), (m_readFloe m), (m_readWind m), (m_readNumber m), (m_ahead m), (m_undoMany m), (m_aside m), (m_above m), (m_below m), (m_images m), (m_isKept m), (m_h0 m)) := by
  obtain ⟨⟨S, hok, hc, hm⟩, htx, hab, hrf, hg0, hg1⟩ := h
  have q := hok
  have q1 := hc
  have q2 := hm
  obtain ⟨o0, o1, o2, o3, o4, o5, o6, o7, o8, o9, o10, o11, o12⟩ := q
  obtain ⟨⟨c0, c1, c2, c3, c4⟩, c5, c6, c7, c8, c9, c10, c11, c12⟩ := q1
  obtain ⟨⟨m0, m1, m2, m3, m4⟩, m5, m6, m7, m8, m9, m10, m11, m12⟩ := q2
  rcases wif p1 (S 1 0) (by omega) with h0 | ⟨f, hf, rfl, h1⟩
  · refine opI (by rw [T_X3_is]; simp (disch := omega) only [l0, l1, l2, l3, l4, l5, l6, l7, l8, l9, l10, l11, l12, l30, l35, l36, l60, l99, l127, l150, l999, nI_eq, nI_leI, nI_ltI, nI_1, nI_add, pk_mul, obN, nI_clamp, lt', jn, Option.bind_some, inW, inF, inC, inK, fl4, cl4, wi3, T_X3_isFirstOrSecond, badE, fullE, noE, T_X3_refuseBad, T_X3_refuseFull, T_X3_refuseNo, reduceIte, Nat.reduceEqDiff, Nat.reduceLeDiff, Nat.reduceMul, Nat.reduceAdd, Nat.reduceSub, and_true, true_and, c1, m1, h0]; rfl) (by rw [T_X4_is]; simp (disch := omega) only [l0, l1, l2, l3, l4, l5, l6, l7, l8, l9, l10, l11, l12, l30, l35, l36, l60, l99, l127, l150, l999, nI_eq, nI_leI, nI_ltI, nI_1, nI_add, pk_mul, obN, nI_clamp, lt', jn, Option.bind_some, inW, inF, inC, inK, fl4, cl4, wi3, T_X3_isFirstOrSecond, badE, fullE, noE, T_X3_refuseBad, T_X3_refuseFull, T_X3_refuseNo, reduceIte, Nat.reduceEqDiff, Nat.reduceLeDiff, Nat.reduceMul, Nat.reduceAdd, Nat.reduceSub, and_true, true_and, c1, m1, h0]; rfl) ?_; exact ⟨rfl, ⟨S, hok, hc, hm⟩, htx, hab, rf_bad hrf, hg0, hg1⟩
  obtain ⟨v, v1, v2⟩ := kinds_n (f := f) hN o3 (by omega) c11 m11 o11
  refine opI (a := (v, x_bads x)) (b := (v, m_refused m)) ?_ ?_ ⟨rfl, ⟨S, hok, hc, hm⟩, htx, hab, hrf, hg0, hg1⟩
  · rw [T_X3_is]
    simp (disch := omega) only [l0, l1, l2, l3, l4, l5, l6, l7, l8, l9, l10, l11, l12, l30, l35, l36, l60, l99, l127, l150, l999, nI_eq, nI_leI, nI_ltI, nI_1, nI_add, pk_mul, obN, nI_clamp, lt', jn, Option.bind_some, inW, inF, inC, inK, fl4, cl4, wi3, T_X3_isFirstOrSecond, badE, fullE, noE, T_X3_refuseBad, T_X3_refuseFull, T_X3_refuseNo, reduceIte, Nat.reduceEqDiff, Nat.reduceLeDiff, Nat.reduceMul, Nat.reduceAdd, Nat.reduceSub, and_true, true_and, c1, c3, h1, v1]
  · rw [T_X4_is]
    simp (disch := omega) only [l0, l1, l2, l3, l4, l5, l6, l7, l8, l9, l10, l11, l12, l30, l35, l36, l60, l99, l127, l150, l999, nI_eq, nI_leI, nI_ltI, nI_1, nI_add, pk_mul, obN, nI_clamp, lt', jn, Option.bind_some, inW, inF, inC, inK, fl4, cl4, wi3, T_X3_isFirstOrSecond, badE, fullE, noE, T_X3_refuseBad, T_X3_refuseFull, T_X3_refuseNo, reduceIte, Nat.reduceEqDiff, Nat.reduceLeDiff, Nat.reduceMul, Nat.reduceAdd, Nat.reduceSub, and_true, true_and, m1, m3, h1, v2]
