/-! a text's tokens -/
theorem l32 : (32 : Int32) = nI 32 := rfl
theorem l48 : (48 : Int32) = nI 48 := rfl
theorem l57 : (57 : Int32) = nI 57 := rfl
theorem l59 : (59 : Int32) = nI 59 := rfl
theorem l97 : (97 : Int32) = nI 97 := rfl
theorem l122 : (122 : Int32) = nI 122 := rfl
/-- behind the blanks -/
def skF (B : Nat → Int32) : Nat → Nat → Nat
  | 0, p => p
  | d + 1, p => if B p = nI 32 then skF B d (p + 1) else p
theorem skF_le (B : Nat → Int32) : ∀ d p, p ≤ skF B d p ∧ skF B d p ≤ p + d
  | 0, p => ⟨Nat.le_refl p, Nat.le_refl p⟩
  | d + 1, p => by
    have := skF_le B d (p + 1)
    unfold skF; split <;> omega
def skN (B : Nat → Int32) (n p : Nat) : Nat := skF B (n - p) p
theorem skN_le {B : Nat → Int32} {n p : Nat} (h : p ≤ n) : p ≤ skN B n p ∧ skN B n p ≤ n := by
  have := skF_le B (n - p) p
  unfold skN; omega
theorem skip3_L {N n : Nat} {b B : Nat → Int32} (k : Int32 → Option Int32) (hn : n ≤ 150) (hb : ∀ i, i < n → b i = B i) : ∀ d p j, p + d = n → d < j → T_X2_skipBlanks_L0 N (nI n) b k j (nI p) = k (nI (skF B d p)) := by
  intro d
  induction d with
  | zero =>
    intro p j hp hj
    obtain ⟨j, rfl⟩ := Nat.exists_eq_succ_of_ne_zero (show j ≠ 0 by omega)
    have h : n ≤ p := by omega
    rw [T_X2_skipBlanks_L0, skF]; simp (disch := omega) only [l0, l1, l2, l3, l4, l5, l6, l7, l8, l9, l10, l11, l12, l30, l35, l36, l60, l99, l127, l150, l999, nI_eq, nI_leI, nI_ltI, nI_1, nI_add, pk_mul, obN, nI_clamp, lt', jn, Option.bind_some, inW, inF, inC, inK, fl4, cl4, wi3, T_X3_isFirstOrSecond, badE, fullE, noE, T_X3_refuseBad, T_X3_refuseFull, T_X3_refuseNo, reduceIte, Nat.reduceEqDiff, Nat.reduceLeDiff, Nat.reduceMul, Nat.reduceAdd, Nat.reduceSub, and_true, true_and, h]
  | succ d ih =>
    intro p j hp hj
    obtain ⟨j, rfl⟩ := Nat.exists_eq_succ_of_ne_zero (show j ≠ 0 by omega)
    have h : ¬ n ≤ p := by omega
    have e := hb p (by omega)
    have ih := ih (p + 1) j (by omega) (by omega)
    rw [T_X2_skipBlanks_L0, skF]
    by_cases h1 : B p = nI 32
    · rw [← e] at h1; simp (disch := omega) only [l0, l1, l2, l3, l4, l5, l6, l7, l8, l9, l10, l11, l12, l30, l35, l36, l60, l99, l127, l150, l999, nI_eq, nI_leI, nI_ltI, nI_1, nI_add, pk_mul, obN, nI_clamp, lt', jn, Option.bind_some, inW, inF, inC, inK, fl4, cl4, wi3, T_X3_isFirstOrSecond, badE, fullE, noE, T_X3_refuseBad, T_X3_refuseFull, T_X3_refuseNo, reduceIte, Nat.reduceEqDiff, Nat.reduceLeDiff, Nat.reduceMul, Nat.reduceAdd, Nat.reduceSub, and_true, true_and, h, l32, h1, e]; rw [← e, if_pos h1]; exact ih
    · rw [if_neg h1]; rw [← e] at h1; simp (disch := omega) only [l0, l1, l2, l3, l4, l5, l6, l7, l8, l9, l10, l11, l12, l30, l35, l36, l60, l99, l127, l150, l999, nI_eq, nI_leI, nI_ltI, nI_1, nI_add, pk_mul, obN, nI_clamp, lt', jn, Option.bind_some, inW, inF, inC, inK, fl4, cl4, wi3, T_X3_isFirstOrSecond, badE, fullE, noE, T_X3_refuseBad, T_X3_refuseFull, T_X3_refuseNo, reduceIte, Nat.reduceEqDiff, Nat.reduceLeDiff, Nat.reduceMul, Nat.reduceAdd, Nat.reduceSub, and_true, true_and, h, l32, h1]
theorem skip3_n {N n p : Nat} {b B : Nat → Int32} (hN : 1000 ≤ N) (hn : n ≤ 150) (hb : ∀ i, i < n → b i = B i) (hp : p ≤ n) : T_X2_skipBlanks N (nI n) (nI p) b = some (nI (skN B n p)) := by
  rw [T_X2_skipBlanks, skN]
  by_cases h : n ≤ p
  · rw [show n - p = 0 by omega, skF]; simp (disch := omega) only [l0, l1, l2, l3, l4, l5, l6, l7, l8, l9, l10, l11, l12, l30, l35, l36, l60, l99, l127, l150, l999, nI_eq, nI_leI, nI_ltI, nI_1, nI_add, pk_mul, obN, nI_clamp, lt', jn, Option.bind_some, inW, inF, inC, inK, fl4, cl4, wi3, T_X3_isFirstOrSecond, badE, fullE, noE, T_X3_refuseBad, T_X3_refuseFull, T_X3_refuseNo, reduceIte, Nat.reduceEqDiff, Nat.reduceLeDiff, Nat.reduceMul, Nat.reduceAdd, Nat.reduceSub, and_true, true_and, h]
  · obtain ⟨d, hd⟩ : ∃ d, n - p = d + 1 := ⟨n - p - 1, by omega⟩
    have e := hb p (by omega)
    rw [hd, skF]
    by_cases h1 : B p = nI 32
    · have L := skip3_L (N := N) (fun (z26 : Int32) => (some z26)) hn hb d (p + 1) N (by omega) (by omega)
      rw [if_pos h1]
      rw [← e] at h1
      simp (disch := omega) only [l0, l1, l2, l3, l4, l5, l6, l7, l8, l9, l10, l11, l12, l30, l35, l36, l60, l99, l127, l150, l999, nI_eq, nI_leI, nI_ltI, nI_1, nI_add, pk_mul, obN, nI_clamp, lt', jn, Option.bind_some, inW, inF, inC, inK, fl4, cl4, wi3, T_X3_isFirstOrSecond, badE, fullE, noE, T_X3_refuseBad, T_X3_refuseFull, T_X3_refuseNo, reduceIte, Nat.reduceEqDiff, Nat.reduceLeDiff, Nat.reduceMul, Nat.reduceAdd, Nat.reduceSub, and_true, true_and, h, l32, h1]
      exact L
    · rw [if_neg h1]; rw [← e] at h1; simp (disch := omega) only [l0, l1, l2, l3, l4, l5, l6, l7, l8, l9, l10, l11, l12, l30, l35, l36, l60, l99, l127, l150, l999, nI_eq, nI_leI, nI_ltI, nI_1, nI_add, pk_mul, obN, nI_clamp, lt', jn, Option.bind_some, inW, inF, inC, inK, fl4, cl4, wi3, T_X3_isFirstOrSecond, badE, fullE, noE, T_X3_refuseBad, T_X3_refuseFull, T_X3_refuseNo, reduceIte, Nat.reduceEqDiff, Nat.reduceLeDiff, Nat.reduceMul, Nat.reduceAdd, Nat.reduceSub, and_true, true_and, h, l32, h1]
theorem m32 : ¬ (-nI 1 = nI 32) := by decide
theorem m59 : ¬ (-nI 1 = nI 59) := by decide
theorem here_ge {N n p : Nat} {b : Nat → Int32} (hn : n ≤ 150) (h : n ≤ p) (hp : p ≤ 150) : T_X4_here N (nI n) (nI p) b = some (-nI 1) := by
  rw [T_X4_here]; simp (disch := omega) only [l0, l1, l2, l3, l4, l5, l6, l7, l8, l9, l10, l11, l12, l30, l35, l36, l60, l99, l127, l150, l999, nI_eq, nI_leI, nI_ltI, nI_1, nI_add, pk_mul, obN, nI_clamp, lt', jn, Option.bind_some, inW, inF, inC, inK, fl4, cl4, wi3, T_X3_isFirstOrSecond, badE, fullE, noE, T_X3_refuseBad, T_X3_refuseFull, T_X3_refuseNo, reduceIte, Nat.reduceEqDiff, Nat.reduceLeDiff, Nat.reduceMul, Nat.reduceAdd, Nat.reduceSub, and_true, true_and, h]
theorem here_lt {N n p : Nat} {b : Nat → Int32} (hn : n ≤ 150) (h : p < n) : T_X4_here N (nI n) (nI p) b = some (b p) := by
  have h' : ¬ n ≤ p := by omega
  rw [T_X4_here]; simp (disch := omega) only [l0, l1, l2, l3, l4, l5, l6, l7, l8, l9, l10, l11, l12, l30, l35, l36, l60, l99, l127, l150, l999, nI_eq, nI_leI, nI_ltI, nI_1, nI_add, pk_mul, obN, nI_clamp, lt', jn, Option.bind_some, inW, inF, inC, inK, fl4, cl4, wi3, T_X3_isFirstOrSecond, badE, fullE, noE, T_X3_refuseBad, T_X3_refuseFull, T_X3_refuseNo, reduceIte, Nat.reduceEqDiff, Nat.reduceLeDiff, Nat.reduceMul, Nat.reduceAdd, Nat.reduceSub, and_true, true_and, h']
theorem skip4_L {N n : Nat} {b B : Nat → Int32} (hn : n ≤ 150) (hb : ∀ i, i < n → b i = B i) : ∀ d p j, p + d = n → d < j → T_X4_skip_L0 N (nI n) b j (nI p) = some (nI (skF B d p)) := by
  intro d
  induction d with
  | zero =>
    intro p j hp hj
    obtain ⟨j, rfl⟩ := Nat.exists_eq_succ_of_ne_zero (show j ≠ 0 by omega)
    rw [T_X4_skip_L0, skF, here_ge hn (by omega) (by omega)]; simp (disch := omega) only [l0, l1, l2, l3, l4, l5, l6, l7, l8, l9, l10, l11, l12, l30, l35, l36, l60, l99, l127, l150, l999, nI_eq, nI_leI, nI_ltI, nI_1, nI_add, pk_mul, obN, nI_clamp, lt', jn, Option.bind_some, inW, inF, inC, inK, fl4, cl4, wi3, T_X3_isFirstOrSecond, badE, fullE, noE, T_X3_refuseBad, T_X3_refuseFull, T_X3_refuseNo, reduceIte, Nat.reduceEqDiff, Nat.reduceLeDiff, Nat.reduceMul, Nat.reduceAdd, Nat.reduceSub, and_true, true_and, l32, m32]
  | succ d ih =>
    intro p j hp hj
    obtain ⟨j, rfl⟩ := Nat.exists_eq_succ_of_ne_zero (show j ≠ 0 by omega)
    have ih := ih (p + 1) j (by omega) (by omega)
    rw [T_X4_skip_L0, skF, here_lt hn (by omega), hb p (by omega)]
    by_cases h1 : B p = nI 32
    · rw [if_pos h1]; simp (disch := omega) only [l0, l1, l2, l3, l4, l5, l6, l7, l8, l9, l10, l11, l12, l30, l35, l36, l60, l99, l127, l150, l999, nI_eq, nI_leI, nI_ltI, nI_1, nI_add, pk_mul, obN, nI_clamp, lt', jn, Option.bind_some, inW, inF, inC, inK, fl4, cl4, wi3, T_X3_isFirstOrSecond, badE, fullE, noE, T_X3_refuseBad, T_X3_refuseFull, T_X3_refuseNo, reduceIte, Nat.reduceEqDiff, Nat.reduceLeDiff, Nat.reduceMul, Nat.reduceAdd, Nat.reduceSub, and_true, true_and, l32, h1]; exact ih
    · rw [if_neg h1]; simp (disch := omega) only [l0, l1, l2, l3, l4, l5, l6, l7, l8, l9, l10, l11, l12, l30, l35, l36, l60, l99, l127, l150, l999, nI_eq, nI_leI, nI_ltI, nI_1, nI_add, pk_mul, obN, nI_clamp, lt', jn, Option.bind_some, inW, inF, inC, inK, fl4, cl4, wi3, T_X3_isFirstOrSecond, badE, fullE, noE, T_X3_refuseBad, T_X3_refuseFull, T_X3_refuseNo, reduceIte, Nat.reduceEqDiff, Nat.reduceLeDiff, Nat.reduceMul, Nat.reduceAdd, Nat.reduceSub, and_true, true_and, l32, h1]
theorem skip4_n {N n p : Nat} {b B : Nat → Int32} (hN : 1000 ≤ N) (hn : n ≤ 150) (hb : ∀ i, i < n → b i = B i) (hp : p ≤ n) : T_X4_skip N (nI n) (nI p) b = some (nI (skN B n p)) := by
  rw [T_X4_skip, skN]
  by_cases h : n ≤ p
  · rw [show n - p = 0 by omega, skF, here_ge hn h (by omega)]; simp (disch := omega) only [l0, l1, l2, l3, l4, l5, l6, l7, l8, l9, l10, l11, l12, l30, l35, l36, l60, l99, l127, l150, l999, nI_eq, nI_leI, nI_ltI, nI_1, nI_add, pk_mul, obN, nI_clamp, lt', jn, Option.bind_some, inW, inF, inC, inK, fl4, cl4, wi3, T_X3_isFirstOrSecond, badE, fullE, noE, T_X3_refuseBad, T_X3_refuseFull, T_X3_refuseNo, reduceIte, Nat.reduceEqDiff, Nat.reduceLeDiff, Nat.reduceMul, Nat.reduceAdd, Nat.reduceSub, and_true, true_and, l32, m32]
  · obtain ⟨d, hd⟩ : ∃ d, n - p = d + 1 := ⟨n - p - 1, by omega⟩
    rw [hd, skF, here_lt hn (by omega), hb p (by omega)]
    by_cases h1 : B p = nI 32
    · have L := skip4_L (N := N) hn hb d (p + 1) N (by omega) (by omega)
      rw [if_pos h1]; simp (disch := omega) only [l0, l1, l2, l3, l4, l5, l6, l7, l8, l9, l10, l11, l12, l30, l35, l36, l60, l99, l127, l150, l999, nI_eq, nI_leI, nI_ltI, nI_1, nI_add, pk_mul, obN, nI_clamp, lt', jn, Option.bind_some, inW, inF, inC, inK, fl4, cl4, wi3, T_X3_isFirstOrSecond, badE, fullE, noE, T_X3_refuseBad, T_X3_refuseFull, T_X3_refuseNo, reduceIte, Nat.reduceEqDiff, Nat.reduceLeDiff, Nat.reduceMul, Nat.reduceAdd, Nat.reduceSub, and_true, true_and, l32, h1]; exact L
    · rw [if_neg h1]; simp (disch := omega) only [l0, l1, l2, l3, l4, l5, l6, l7, l8, l9, l10, l11, l12, l30, l35, l36, l60, l99, l127, l150, l999, nI_eq, nI_leI, nI_ltI, nI_1, nI_add, pk_mul, obN, nI_clamp, lt', jn, Option.bind_some, inW, inF, inC, inK, fl4, cl4, wi3, T_X3_isFirstOrSecond, badE, fullE, noE, T_X3_refuseBad, T_X3_refuseFull, T_X3_refuseNo, reduceIte, Nat.reduceEqDiff, Nat.reduceLeDiff, Nat.reduceMul, Nat.reduceAdd, Nat.reduceSub, and_true, true_and, l32, h1]
/-- a run of bytes of a range -/
def rnF (B : Nat → Int32) (lo hi p : Nat) : Nat → Nat → Nat
  | 0, i => i
  | d + 1, i => if B (p + i) < nI lo then i else if nI hi < B (p + i) then i else rnF B lo hi p d (i + 1)
theorem rnF_le (B : Nat → Int32) (lo hi p : Nat) : ∀ d i, i ≤ rnF B lo hi p d i ∧ rnF B lo hi p d i ≤ i + d
  | 0, i => ⟨Nat.le_refl i, Nat.le_refl i⟩
  | d + 1, i => by
    have := rnF_le B lo hi p d (i + 1)
    unfold rnF; split
    · omega
    · split <;> omega
theorem rnF_in (B : Nat → Int32) (lo hi p : Nat) : ∀ d i j, i ≤ j → j < rnF B lo hi p d i → ¬ B (p + j) < nI lo ∧ ¬ nI hi < B (p + j)
  | 0, i, j, h1, h2 => absurd h2 (by show ¬ j < i; omega)
  | d + 1, i, j, h1, h2 => by
    unfold rnF at h2
    by_cases a : B (p + i) < nI lo
    · rw [if_pos a] at h2; omega
    · rw [if_neg a] at h2
      by_cases c : nI hi < B (p + i)
      · rw [if_pos c] at h2; omega
      · rw [if_neg c] at h2
        by_cases e : j = i
        · subst e; exact ⟨a, c⟩
        · exact rnF_in B lo hi p d (i + 1) j (by omega) h2
def rnN (B : Nat → Int32) (n lo hi p : Nat) : Nat := rnF B lo hi p (n - p) 0
theorem rnN_le {B : Nat → Int32} {n lo hi p : Nat} (h : p ≤ n) : p + rnN B n lo hi p ≤ n := by
  have := rnF_le B lo hi p (n - p) 0
  unfold rnN; omega
theorem run3_n {N n p lo hi : Nat} {b B : Nat → Int32} (hN : 1000 ≤ N) (hn : n ≤ 150) (hb : ∀ i, i < n → b i = B i) (hp : p ≤ n) : T_X2_runOf N (nI n) (nI p) b (nI lo) (nI hi) = some (nI (rnN B n lo hi p)) := by
  have key : ∀ d i j, p + i + d = n → d < j → T_X2_runOf_L2 N (nI lo) (nI hi) (nI n) (nI p) b (fun (x21 : Int32) => (some x21)) j (nI i) = some (nI (rnF B lo hi p d i)) := by
    intro d
    induction d with
    | zero =>
      intro i j hi' hj
      obtain ⟨j, rfl⟩ := Nat.exists_eq_succ_of_ne_zero (show j ≠ 0 by omega)
      have h : n ≤ p + i := by omega
      rw [T_X2_runOf_L2, rnF]; simp (disch := omega) only [l0, l1, l2, l3, l4, l5, l6, l7, l8, l9, l10, l11, l12, l30, l35, l36, l60, l99, l127, l150, l999, nI_eq, nI_leI, nI_ltI, nI_1, nI_add, pk_mul, obN, nI_clamp, lt', jn, Option.bind_some, inW, inF, inC, inK, fl4, cl4, wi3, T_X3_isFirstOrSecond, badE, fullE, noE, T_X3_refuseBad, T_X3_refuseFull, T_X3_refuseNo, reduceIte, Nat.reduceEqDiff, Nat.reduceLeDiff, Nat.reduceMul, Nat.reduceAdd, Nat.reduceSub, and_true, true_and, h]
    | succ d ih =>
      intro i j hi' hj
      obtain ⟨j, rfl⟩ := Nat.exists_eq_succ_of_ne_zero (show j ≠ 0 by omega)
      have h : ¬ n ≤ p + i := by omega
      have e := hb (p + i) (by omega)
      have ih := ih (i + 1) j (by omega) (by omega)
      rw [T_X2_runOf_L2, rnF]
      by_cases h1 : B (p + i) < nI lo
      · rw [if_pos h1]; rw [← e] at h1; simp (disch := omega) only [l0, l1, l2, l3, l4, l5, l6, l7, l8, l9, l10, l11, l12, l30, l35, l36, l60, l99, l127, l150, l999, nI_eq, nI_leI, nI_ltI, nI_1, nI_add, pk_mul, obN, nI_clamp, lt', jn, Option.bind_some, inW, inF, inC, inK, fl4, cl4, wi3, T_X3_isFirstOrSecond, badE, fullE, noE, T_X3_refuseBad, T_X3_refuseFull, T_X3_refuseNo, reduceIte, Nat.reduceEqDiff, Nat.reduceLeDiff, Nat.reduceMul, Nat.reduceAdd, Nat.reduceSub, and_true, true_and, h, h1]
      · rw [if_neg h1]; rw [← e] at h1
        by_cases h2 : nI hi < B (p + i)
        · rw [if_pos h2]; rw [← e] at h2; simp (disch := omega) only [l0, l1, l2, l3, l4, l5, l6, l7, l8, l9, l10, l11, l12, l30, l35, l36, l60, l99, l127, l150, l999, nI_eq, nI_leI, nI_ltI, nI_1, nI_add, pk_mul, obN, nI_clamp, lt', jn, Option.bind_some, inW, inF, inC, inK, fl4, cl4, wi3, T_X3_isFirstOrSecond, badE, fullE, noE, T_X3_refuseBad, T_X3_refuseFull, T_X3_refuseNo, reduceIte, Nat.reduceEqDiff, Nat.reduceLeDiff, Nat.reduceMul, Nat.reduceAdd, Nat.reduceSub, and_true, true_and, h, h1, h2]
        · rw [if_neg h2]; rw [← e] at h2; simp (disch := omega) only [l0, l1, l2, l3, l4, l5, l6, l7, l8, l9, l10, l11, l12, l30, l35, l36, l60, l99, l127, l150, l999, nI_eq, nI_leI, nI_ltI, nI_1, nI_add, pk_mul, obN, nI_clamp, lt', jn, Option.bind_some, inW, inF, inC, inK, fl4, cl4, wi3, T_X3_isFirstOrSecond, badE, fullE, noE, T_X3_refuseBad, T_X3_refuseFull, T_X3_refuseNo, reduceIte, Nat.reduceEqDiff, Nat.reduceLeDiff, Nat.reduceMul, Nat.reduceAdd, Nat.reduceSub, and_true, true_and, h, h1, h2]; exact ih
  have := key (n - p) 0 N (by omega) (by omega)
  rw [T_X2_runOf, rnN]
  exact this
theorem lettE (c : Int32) : T_X4_isLetter c = if c < nI 97 then nI 0 else if nI 122 < c then nI 0 else nI 1 := rfl
theorem figE (c : Int32) : T_X4_isFigure c = if c < nI 48 then nI 0 else if nI 57 < c then nI 0 else nI 1 := rfl
theorem size4_n {N n p : Nat} {b B : Nat → Int32} (hN : 1000 ≤ N) (hn : n ≤ 150) (hb : ∀ i, i < n → b i = B i) (hp : p ≤ n) : T_X4_wordSize N (nI n) (nI p) b = some (nI (rnN B n 97 122 p)) := by
  have key : ∀ d i j, p + i + d = n → d < j → T_X4_wordSize_L2 N (nI n) (nI p) b (fun (x17 : Int32) => (some x17)) j (nI i) = some (nI (rnF B 97 122 p d i)) := by
    intro d
    induction d with
    | zero =>
      intro i j hi' hj
      obtain ⟨j, rfl⟩ := Nat.exists_eq_succ_of_ne_zero (show j ≠ 0 by omega)
      have h : n ≤ p + i := by omega
      rw [T_X4_wordSize_L2, rnF]; simp (disch := omega) only [l0, l1, l2, l3, l4, l5, l6, l7, l8, l9, l10, l11, l12, l30, l35, l36, l60, l99, l127, l150, l999, nI_eq, nI_leI, nI_ltI, nI_1, nI_add, pk_mul, obN, nI_clamp, lt', jn, Option.bind_some, inW, inF, inC, inK, fl4, cl4, wi3, T_X3_isFirstOrSecond, badE, fullE, noE, T_X3_refuseBad, T_X3_refuseFull, T_X3_refuseNo, reduceIte, Nat.reduceEqDiff, Nat.reduceLeDiff, Nat.reduceMul, Nat.reduceAdd, Nat.reduceSub, and_true, true_and, h]
    | succ d ih =>
      intro i j hi' hj
      obtain ⟨j, rfl⟩ := Nat.exists_eq_succ_of_ne_zero (show j ≠ 0 by omega)
      have h : ¬ n ≤ p + i := by omega
      have e := hb (p + i) (by omega)
      have ih := ih (i + 1) j (by omega) (by omega)
      rw [T_X4_wordSize_L2, rnF]
      by_cases h1 : B (p + i) < nI 97
      · rw [if_pos h1]; rw [← e] at h1; simp (disch := omega) only [l0, l1, l2, l3, l4, l5, l6, l7, l8, l9, l10, l11, l12, l30, l35, l36, l60, l99, l127, l150, l999, nI_eq, nI_leI, nI_ltI, nI_1, nI_add, pk_mul, obN, nI_clamp, lt', jn, Option.bind_some, inW, inF, inC, inK, fl4, cl4, wi3, T_X3_isFirstOrSecond, badE, fullE, noE, T_X3_refuseBad, T_X3_refuseFull, T_X3_refuseNo, reduceIte, Nat.reduceEqDiff, Nat.reduceLeDiff, Nat.reduceMul, Nat.reduceAdd, Nat.reduceSub, and_true, true_and, h, h1, lettE]
      · rw [if_neg h1]; rw [← e] at h1
        by_cases h2 : nI 122 < B (p + i)
        · rw [if_pos h2]; rw [← e] at h2; simp (disch := omega) only [l0, l1, l2, l3, l4, l5, l6, l7, l8, l9, l10, l11, l12, l30, l35, l36, l60, l99, l127, l150, l999, nI_eq, nI_leI, nI_ltI, nI_1, nI_add, pk_mul, obN, nI_clamp, lt', jn, Option.bind_some, inW, inF, inC, inK, fl4, cl4, wi3, T_X3_isFirstOrSecond, badE, fullE, noE, T_X3_refuseBad, T_X3_refuseFull, T_X3_refuseNo, reduceIte, Nat.reduceEqDiff, Nat.reduceLeDiff, Nat.reduceMul, Nat.reduceAdd, Nat.reduceSub, and_true, true_and, h, h1, h2, lettE]
        · rw [if_neg h2]; rw [← e] at h2; simp (disch := omega) only [l0, l1, l2, l3, l4, l5, l6, l7, l8, l9, l10, l11, l12, l30, l35, l36, l60, l99, l127, l150, l999, nI_eq, nI_leI, nI_ltI, nI_1, nI_add, pk_mul, obN, nI_clamp, lt', jn, Option.bind_some, inW, inF, inC, inK, fl4, cl4, wi3, T_X3_isFirstOrSecond, badE, fullE, noE, T_X3_refuseBad, T_X3_refuseFull, T_X3_refuseNo, reduceIte, Nat.reduceEqDiff, Nat.reduceLeDiff, Nat.reduceMul, Nat.reduceAdd, Nat.reduceSub, and_true, true_and, h, h1, h2, lettE]; exact ih
  have := key (n - p) 0 N (by omega) (by omega)
  rw [T_X4_wordSize, rnN]
  exact this
/-- a number's value, of its first two figures -/
def vlI (B : Nat → Int32) (q : Nat) : Nat → Int32
  | 0 => nI 0
  | 1 => nI 10 * nI 0 + B q - nI 48
  | _ => nI 10 * (nI 10 * nI 0 + B q - nI 48) + B (q + 1) - nI 48
theorem fig_nI {c : Int32} (h1 : ¬ c < nI 48) (h2 : ¬ nI 57 < c) : ∃ j, 48 ≤ j ∧ j ≤ 57 ∧ c = nI j := by
  have h : ¬ c < 0 := fun h => h1 (Int32.lt_of_lt_of_le h (by decide))
  obtain ⟨j, hj, rfl⟩ := nI_of h
  rw [nI_ltI hj (by omega)] at h1
  rw [nI_ltI (by omega) hj] at h2
  exact ⟨j, by omega, by omega, rfl⟩
theorem vl_n {B : Nat → Int32} {n q r : Nat} (hr : r = rnN B n 48 57 q) (h12 : r = 1 ∨ r = 2) : ∃ v, v ≤ 99 ∧ vlI B q r = nI v := by
  have h0 := rnF_in B 48 57 q (n - q) 0
  have e : rnF B 48 57 q (n - q) 0 = r := hr.symm
  rw [e] at h0
  obtain ⟨j, j1, j2, j3⟩ := fig_nI (h0 0 (by omega) (by omega)).1 (h0 0 (by omega) (by omega)).2
  rw [Nat.add_zero] at j3
  rcases h12 with rfl | rfl
  · refine ⟨j - 48, by omega, ?_⟩
    show nI 10 * nI 0 + B q - nI 48 = _
    rw [j3, pk_mul, nI_add, pk_sub (by omega)]; congr 1; omega
  · obtain ⟨i, i1, i2, i3⟩ := fig_nI (h0 1 (by omega) (by omega)).1 (h0 1 (by omega) (by omega)).2
    refine ⟨10 * (j - 48) + (i - 48), by omega, ?_⟩
    show nI 10 * (nI 10 * nI 0 + B q - nI 48) + B (q + 1) - nI 48 = _
    rw [j3, i3, pk_mul, nI_add, pk_sub (by omega), pk_mul, nI_add, pk_sub (by omega)]; congr 1; omega
def vlN (B : Nat → Int32) (q r : Nat) : Nat := (vlI B q r).toNatClampNeg
theorem vlN_e {B : Nat → Int32} {n q r : Nat} (hr : r = rnN B n 48 57 q) (h12 : r = 1 ∨ r = 2) : vlI B q r = nI (vlN B q r) ∧ vlN B q r ≤ 99 := by
  obtain ⟨v, h1, h2⟩ := vl_n hr h12
  unfold vlN
  rw [h2, nI_clamp (by omega)]
  exact ⟨rfl, h1⟩
theorem numberOf_n {N n q r : Nat} {b B : Nat → Int32} (hN : 1000 ≤ N) (hn : n ≤ 150) (hb : ∀ i, i < n → b i = B i) (hq : q + r ≤ n) (h12 : r = 1 ∨ r = 2) : T_X2_numberOf N (nI q) b (nI r) = some (vlI B q r) := by
  have key : ∀ d i j, i + d = r → d < j → T_X2_numberOf_L4 N (nI r) (nI q) b j (vlI B q i) (nI i) = some (vlI B q r) := by
    intro d
    induction d with
    | zero =>
      intro i j hi hj
      obtain ⟨j, rfl⟩ := Nat.exists_eq_succ_of_ne_zero (show j ≠ 0 by omega)
      obtain rfl : i = r := by omega
      rw [T_X2_numberOf_L4]; simp (disch := omega) only [l0, l1, l2, l3, l4, l5, l6, l7, l8, l9, l10, l11, l12, l30, l35, l36, l60, l99, l127, l150, l999, nI_eq, nI_leI, nI_ltI, nI_1, nI_add, pk_mul, obN, nI_clamp, lt', jn, Option.bind_some, inW, inF, inC, inK, fl4, cl4, wi3, T_X3_isFirstOrSecond, badE, fullE, noE, T_X3_refuseBad, T_X3_refuseFull, T_X3_refuseNo, reduceIte, Nat.reduceEqDiff, Nat.reduceLeDiff, Nat.reduceMul, Nat.reduceAdd, Nat.reduceSub, and_true, true_and, Nat.le_refl]
    | succ d ih =>
      intro i j hi hj
      obtain ⟨j, rfl⟩ := Nat.exists_eq_succ_of_ne_zero (show j ≠ 0 by omega)
      have h : ¬ r ≤ i := by omega
      have e := hb (q + i) (by omega)
      have ih := ih (i + 1) j (by omega) (by omega)
      rw [T_X2_numberOf_L4]
      simp (disch := omega) only [l0, l1, l2, l3, l4, l5, l6, l7, l8, l9, l10, l11, l12, l30, l35, l36, l60, l99, l127, l150, l999, nI_eq, nI_leI, nI_ltI, nI_1, nI_add, pk_mul, obN, nI_clamp, lt', jn, Option.bind_some, inW, inF, inC, inK, fl4, cl4, wi3, T_X3_isFirstOrSecond, badE, fullE, noE, T_X3_refuseBad, T_X3_refuseFull, T_X3_refuseNo, reduceIte, Nat.reduceEqDiff, Nat.reduceLeDiff, Nat.reduceMul, Nat.reduceAdd, Nat.reduceSub, and_true, true_and, h, e, l48]
      refine Eq.trans ?_ ih
      rcases (show i = 0 ∨ i = 1 by omega) with rfl | rfl
      · rfl
      · rfl
  exact key r 0 N (by omega) (by omega)
theorem number4_L {N n q : Nat} {b B : Nat → Int32} (k : Int32 → Int32 → Option (Int32 × Int32 × Int32)) (hn : n ≤ 150) (hb : ∀ i, i < n → b i = B i) : ∀ d i j, q + i + d = n → d < j → T_X4_number_L9 N (nI n) (nI q) b k j (nI i) (vlI B q i) = k (nI (rnF B 48 57 q d i)) (vlI B q (rnF B 48 57 q d i)) := by
  intro d
  induction d with
  | zero =>
    intro i j hi hj
    obtain ⟨j, rfl⟩ := Nat.exists_eq_succ_of_ne_zero (show j ≠ 0 by omega)
    have h : n ≤ q + i := by omega
    rw [T_X4_number_L9, rnF]; simp (disch := omega) only [l0, l1, l2, l3, l4, l5, l6, l7, l8, l9, l10, l11, l12, l30, l35, l36, l60, l99, l127, l150, l999, nI_eq, nI_leI, nI_ltI, nI_1, nI_add, pk_mul, obN, nI_clamp, lt', jn, Option.bind_some, inW, inF, inC, inK, fl4, cl4, wi3, T_X3_isFirstOrSecond, badE, fullE, noE, T_X3_refuseBad, T_X3_refuseFull, T_X3_refuseNo, reduceIte, Nat.reduceEqDiff, Nat.reduceLeDiff, Nat.reduceMul, Nat.reduceAdd, Nat.reduceSub, and_true, true_and, h]
  | succ d ih =>
    intro i j hi hj
    obtain ⟨j, rfl⟩ := Nat.exists_eq_succ_of_ne_zero (show j ≠ 0 by omega)
    have h : ¬ n ≤ q + i := by omega
    have e := hb (q + i) (by omega)
    have ih := ih (i + 1) j (by omega) (by omega)
    rw [T_X4_number_L9, rnF]
    by_cases h1 : B (q + i) < nI 48
    · rw [if_pos h1]; simp (disch := omega) only [l0, l1, l2, l3, l4, l5, l6, l7, l8, l9, l10, l11, l12, l30, l35, l36, l60, l99, l127, l150, l999, nI_eq, nI_leI, nI_ltI, nI_1, nI_add, pk_mul, obN, nI_clamp, lt', jn, Option.bind_some, inW, inF, inC, inK, fl4, cl4, wi3, T_X3_isFirstOrSecond, badE, fullE, noE, T_X3_refuseBad, T_X3_refuseFull, T_X3_refuseNo, reduceIte, Nat.reduceEqDiff, Nat.reduceLeDiff, Nat.reduceMul, Nat.reduceAdd, Nat.reduceSub, and_true, true_and, h, e, h1, figE]
    · rw [if_neg h1]
      by_cases h2 : nI 57 < B (q + i)
      · rw [if_pos h2]; simp (disch := omega) only [l0, l1, l2, l3, l4, l5, l6, l7, l8, l9, l10, l11, l12, l30, l35, l36, l60, l99, l127, l150, l999, nI_eq, nI_leI, nI_ltI, nI_1, nI_add, pk_mul, obN, nI_clamp, lt', jn, Option.bind_some, inW, inF, inC, inK, fl4, cl4, wi3, T_X3_isFirstOrSecond, badE, fullE, noE, T_X3_refuseBad, T_X3_refuseFull, T_X3_refuseNo, reduceIte, Nat.reduceEqDiff, Nat.reduceLeDiff, Nat.reduceMul, Nat.reduceAdd, Nat.reduceSub, and_true, true_and, h, e, h1, h2, figE]
      · rw [if_neg h2]
        by_cases h3 : 2 ≤ i
        · have v2 : vlI B q (i + 1) = vlI B q i := by
            obtain ⟨t, rfl⟩ : ∃ t, i = t + 2 := ⟨i - 2, by omega⟩
            rfl
          rw [v2] at ih
          simp (disch := omega) only [l0, l1, l2, l3, l4, l5, l6, l7, l8, l9, l10, l11, l12, l30, l35, l36, l60, l99, l127, l150, l999, nI_eq, nI_leI, nI_ltI, nI_1, nI_add, pk_mul, obN, nI_clamp, lt', jn, Option.bind_some, inW, inF, inC, inK, fl4, cl4, wi3, T_X3_isFirstOrSecond, badE, fullE, noE, T_X3_refuseBad, T_X3_refuseFull, T_X3_refuseNo, reduceIte, Nat.reduceEqDiff, Nat.reduceLeDiff, Nat.reduceMul, Nat.reduceAdd, Nat.reduceSub, and_true, true_and, h, e, h1, h2, h3, figE]; exact ih
        · simp (disch := omega) only [l0, l1, l2, l3, l4, l5, l6, l7, l8, l9, l10, l11, l12, l30, l35, l36, l60, l99, l127, l150, l999, nI_eq, nI_leI, nI_ltI, nI_1, nI_add, pk_mul, obN, nI_clamp, lt', jn, Option.bind_some, inW, inF, inC, inK, fl4, cl4, wi3, T_X3_isFirstOrSecond, badE, fullE, noE, T_X3_refuseBad, T_X3_refuseFull, T_X3_refuseNo, reduceIte, Nat.reduceEqDiff, Nat.reduceLeDiff, Nat.reduceMul, Nat.reduceAdd, Nat.reduceSub, and_true, true_and, h, e, h1, h2, h3, figE, l48]
          refine Eq.trans ?_ ih
          rcases (show i = 0 ∨ i = 1 by omega) with rfl | rfl
          · rfl
          · rfl
