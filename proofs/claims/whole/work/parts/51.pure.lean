/-! a text's numbers, ends, words -/
def nmN (B : Nat → Int32) (n p mx : Nat) : Nat ⊕ (Nat × Nat) :=
  if (rnN B n 48 57 (skN B n p) = 1 ∨ rnN B n 48 57 (skN B n p) = 2) ∧ vlN B (skN B n p) (rnN B n 48 57 (skN B n p)) ≤ mx then .inr (vlN B (skN B n p) (rnN B n 48 57 (skN B n p)), skN B n p + rnN B n 48 57 (skN B n p)) else .inl (skN B n p)
theorem nmL {B : Nat → Int32} {n p mx q : Nat} (h : nmN B n p mx = .inl q) (hp : p ≤ n) : p ≤ q ∧ q ≤ n := by
  unfold nmN at h
  have := skN_le (B := B) hp
  split at h
  · cases h
  · cases h; exact this
theorem nmR {B : Nat → Int32} {n p mx v p' : Nat} (h : nmN B n p mx = .inr (v, p')) (hp : p ≤ n) : v ≤ mx ∧ p < p' ∧ p' ≤ n := by
  unfold nmN at h
  have a := skN_le (B := B) hp
  have b := rnN_le (B := B) (lo := 48) (hi := 57) a.2
  split at h
  · rename_i c
    cases h
    exact ⟨c.2, by omega, b⟩
  · cases h
def pf : Option Nat → Int32
  | none => -nI 1
  | some f => nI f
def tkN (B : Nat → Int32) (n : Nat) (fo : Option Nat) (p mx : Nat) : Nat × Nat × Option Nat := match fo with
  | some f => (0, skN B n p, some f)
  | none => match nmN B n p mx with
    | .inl q => (0, q, some q)
    | .inr w => (w.1, w.2, none)
def okP (n : Nat) : Option Nat → Prop
  | none => True
  | some f => f ≤ n
theorem tk_ok {B : Nat → Int32} {n : Nat} {fo : Option Nat} {p mx : Nat} (hp : p ≤ n) (hf : okP n fo) : (tkN B n fo p mx).1 ≤ mx ∧ (tkN B n fo p mx).2.1 ≤ n ∧ okP n (tkN B n fo p mx).2.2 := by
  cases fo with
  | some f => exact ⟨Nat.zero_le _, (skN_le hp).2, hf⟩
  | none =>
    unfold tkN
    cases h : nmN B n p mx with
    | inl q => have := nmL h hp; exact ⟨Nat.zero_le _, this.2, this.2⟩
    | inr w => have := nmR (v := w.1) (p' := w.2) h hp; exact ⟨this.1, this.2.2, trivial⟩
theorem takeNumber_n {N n p mx : Nat} {fo : Option Nat} {b B : Nat → Int32} (hN : 1000 ≤ N) (hn : n ≤ 150) (hb : ∀ i, i < n → b i = B i) (hp : p ≤ n) (hm : mx ≤ 99) (hf : okP n fo) : T_X2_takeNumber N (nI n) (nI p) (pf fo) b (nI mx) = some (nI (tkN B n fo p mx).1, nI (tkN B n fo p mx).2.1, pf (tkN B n fo p mx).2.2) := by
  have s := skip3_n hN hn hb hp
  have a := skN_le (B := B) hp
  have r1 := run3_n (lo := 48) (hi := 57) hN hn hb a.2
  have r2 := rnN_le (B := B) (lo := 48) (hi := 57) a.2
  have x1 : ¬ mx + 1 ≤ mx := by omega
  rw [T_X2_takeNumber, s]
  simp only [Option.bind_some, l48, l57]
  rw [r1]
  unfold tkN nmN
  generalize hr : rnN B n 48 57 (skN B n p) = r at *
  generalize hq : skN B n p = q at *
  by_cases h12 : r = 1 ∨ r = 2
  · obtain ⟨v1, v2⟩ := vlN_e hr.symm h12
    have nu := numberOf_n (N := N) hN hn hb r2 h12
    rw [v1] at nu
    generalize vlN B q r = v at *
    cases fo with
    | some f =>
      have hf : f ≤ n := hf
      have y : ¬ nI f = -nI 1 := ne1 (by omega)
      rcases h12 with rfl | rfl
      · simp (disch := omega) only [l0, l1, l2, l3, l4, l5, l6, l7, l8, l9, l10, l11, l12, l30, l35, l36, l60, l99, l127, l150, l999, nI_eq, nI_leI, nI_ltI, nI_1, nI_add, pk_mul, obN, nI_clamp, lt', jn, Option.bind_some, inW, inF, inC, inK, fl4, cl4, wi3, T_X3_isFirstOrSecond, badE, fullE, noE, T_X3_refuseBad, T_X3_refuseFull, T_X3_refuseNo, reduceIte, Nat.reduceEqDiff, Nat.reduceLeDiff, Nat.reduceMul, Nat.reduceAdd, Nat.reduceSub, and_true, true_and, nu, pf, y, T_X2_fail]
      · simp (disch := omega) only [l0, l1, l2, l3, l4, l5, l6, l7, l8, l9, l10, l11, l12, l30, l35, l36, l60, l99, l127, l150, l999, nI_eq, nI_leI, nI_ltI, nI_1, nI_add, pk_mul, obN, nI_clamp, lt', jn, Option.bind_some, inW, inF, inC, inK, fl4, cl4, wi3, T_X3_isFirstOrSecond, badE, fullE, noE, T_X3_refuseBad, T_X3_refuseFull, T_X3_refuseNo, reduceIte, Nat.reduceEqDiff, Nat.reduceLeDiff, Nat.reduceMul, Nat.reduceAdd, Nat.reduceSub, and_true, true_and, nu, pf, y, T_X2_fail]
    | none =>
      by_cases h3 : v ≤ mx
      · rcases h12 with rfl | rfl
        · simp (disch := omega) only [l0, l1, l2, l3, l4, l5, l6, l7, l8, l9, l10, l11, l12, l30, l35, l36, l60, l99, l127, l150, l999, nI_eq, nI_leI, nI_ltI, nI_1, nI_add, pk_mul, obN, nI_clamp, lt', jn, Option.bind_some, inW, inF, inC, inK, fl4, cl4, wi3, T_X3_isFirstOrSecond, badE, fullE, noE, T_X3_refuseBad, T_X3_refuseFull, T_X3_refuseNo, reduceIte, Nat.reduceEqDiff, Nat.reduceLeDiff, Nat.reduceMul, Nat.reduceAdd, Nat.reduceSub, and_true, true_and, nu, pf, h3, T_X2_fail, true_or, or_true]
        · simp (disch := omega) only [l0, l1, l2, l3, l4, l5, l6, l7, l8, l9, l10, l11, l12, l30, l35, l36, l60, l99, l127, l150, l999, nI_eq, nI_leI, nI_ltI, nI_1, nI_add, pk_mul, obN, nI_clamp, lt', jn, Option.bind_some, inW, inF, inC, inK, fl4, cl4, wi3, T_X3_isFirstOrSecond, badE, fullE, noE, T_X3_refuseBad, T_X3_refuseFull, T_X3_refuseNo, reduceIte, Nat.reduceEqDiff, Nat.reduceLeDiff, Nat.reduceMul, Nat.reduceAdd, Nat.reduceSub, and_true, true_and, nu, pf, h3, T_X2_fail, true_or, or_true]
      · rcases h12 with rfl | rfl
        · simp (disch := omega) only [l0, l1, l2, l3, l4, l5, l6, l7, l8, l9, l10, l11, l12, l30, l35, l36, l60, l99, l127, l150, l999, nI_eq, nI_leI, nI_ltI, nI_1, nI_add, pk_mul, obN, nI_clamp, lt', jn, Option.bind_some, inW, inF, inC, inK, fl4, cl4, wi3, T_X3_isFirstOrSecond, badE, fullE, noE, T_X3_refuseBad, T_X3_refuseFull, T_X3_refuseNo, reduceIte, Nat.reduceEqDiff, Nat.reduceLeDiff, Nat.reduceMul, Nat.reduceAdd, Nat.reduceSub, and_true, true_and, nu, pf, h3, T_X2_fail, true_or, or_true, and_false]
        · simp (disch := omega) only [l0, l1, l2, l3, l4, l5, l6, l7, l8, l9, l10, l11, l12, l30, l35, l36, l60, l99, l127, l150, l999, nI_eq, nI_leI, nI_ltI, nI_1, nI_add, pk_mul, obN, nI_clamp, lt', jn, Option.bind_some, inW, inF, inC, inK, fl4, cl4, wi3, T_X3_isFirstOrSecond, badE, fullE, noE, T_X3_refuseBad, T_X3_refuseFull, T_X3_refuseNo, reduceIte, Nat.reduceEqDiff, Nat.reduceLeDiff, Nat.reduceMul, Nat.reduceAdd, Nat.reduceSub, and_true, true_and, nu, pf, h3, T_X2_fail, true_or, or_true, and_false]
  · have h1 : ¬ r = 1 := fun h => h12 (.inl h)
    have h2 : ¬ r = 2 := fun h => h12 (.inr h)
    cases fo with
    | some f =>
      have hf : f ≤ n := hf
      have y : ¬ nI f = -nI 1 := ne1 (by omega)
      simp (disch := omega) only [l0, l1, l2, l3, l4, l5, l6, l7, l8, l9, l10, l11, l12, l30, l35, l36, l60, l99, l127, l150, l999, nI_eq, nI_leI, nI_ltI, nI_1, nI_add, pk_mul, obN, nI_clamp, lt', jn, Option.bind_some, inW, inF, inC, inK, fl4, cl4, wi3, T_X3_isFirstOrSecond, badE, fullE, noE, T_X3_refuseBad, T_X3_refuseFull, T_X3_refuseNo, reduceIte, Nat.reduceEqDiff, Nat.reduceLeDiff, Nat.reduceMul, Nat.reduceAdd, Nat.reduceSub, and_true, true_and, pf, y, T_X2_fail, h1, h2]
    | none => simp (disch := omega) only [l0, l1, l2, l3, l4, l5, l6, l7, l8, l9, l10, l11, l12, l30, l35, l36, l60, l99, l127, l150, l999, nI_eq, nI_leI, nI_ltI, nI_1, nI_add, pk_mul, obN, nI_clamp, lt', jn, Option.bind_some, inW, inF, inC, inK, fl4, cl4, wi3, T_X3_isFirstOrSecond, badE, fullE, noE, T_X3_refuseBad, T_X3_refuseFull, T_X3_refuseNo, reduceIte, Nat.reduceEqDiff, Nat.reduceLeDiff, Nat.reduceMul, Nat.reduceAdd, Nat.reduceSub, and_true, true_and, pf, T_X2_fail, h1, h2, x1, or_false, false_and]
theorem number4_n {N n p mx : Nat} {rn : Int32} {b B : Nat → Int32} (hN : 1000 ≤ N) (hn : n ≤ 150) (hb : ∀ i, i < n → b i = B i) (hp : p ≤ n) (hm : mx ≤ 99) : T_X4_number N (nI n) (nI p) rn b (nI 0) (nI mx) = some (match nmN B n p mx with | .inl q => (nI 0, nI q, rn) | .inr w => (nI 1, nI w.2, nI w.1)) := by
  have s := skip4_n hN hn hb hp
  have a := skN_le (B := B) hp
  have r2 := rnN_le (B := B) (lo := 48) (hi := 57) a.2
  rw [T_X4_number, s, Option.bind_some]
  refine Eq.trans (number4_L _ hn hb (n - skN B n p) 0 N (by omega) (by omega)) ?_
  rw [show rnF B 48 57 (skN B n p) (n - skN B n p) 0 = rnN B n 48 57 (skN B n p) from rfl]
  unfold nmN
  generalize hr : rnN B n 48 57 (skN B n p) = r at *
  generalize hq : skN B n p = q at *
  by_cases h12 : r = 1 ∨ r = 2
  · obtain ⟨v1, v2⟩ := vlN_e hr.symm h12
    have y1 : ¬ r < 1 := by omega
    have y2 : ¬ 2 < r := by omega
    have w1 : T_X3_within (nI r) (nI 1) (nI 2) = nI 1 := by rw [wiE]; simp (disch := omega) only [l0, l1, l2, l3, l4, l5, l6, l7, l8, l9, l10, l11, l12, l30, l35, l36, l60, l99, l127, l150, l999, nI_eq, nI_leI, nI_ltI, nI_1, nI_add, pk_mul, obN, nI_clamp, lt', jn, Option.bind_some, inW, inF, inC, inK, fl4, cl4, wi3, T_X3_isFirstOrSecond, badE, fullE, noE, T_X3_refuseBad, T_X3_refuseFull, T_X3_refuseNo, reduceIte, Nat.reduceEqDiff, Nat.reduceLeDiff, Nat.reduceMul, Nat.reduceAdd, Nat.reduceSub, and_true, true_and, y1, y2]
    rw [v1]
    generalize vlN B q r = v at *
    have nz' : ¬ v < 0 := Nat.not_lt_zero v
    by_cases h3 : v ≤ mx
    · have h4 : ¬ mx < v := by omega
      have w2 : T_X3_within (nI v) (nI 0) (nI mx) = nI 1 := by rw [wiE]; simp (disch := omega) only [l0, l1, l2, l3, l4, l5, l6, l7, l8, l9, l10, l11, l12, l30, l35, l36, l60, l99, l127, l150, l999, nI_eq, nI_leI, nI_ltI, nI_1, nI_add, pk_mul, obN, nI_clamp, lt', jn, Option.bind_some, inW, inF, inC, inK, fl4, cl4, wi3, T_X3_isFirstOrSecond, badE, fullE, noE, T_X3_refuseBad, T_X3_refuseFull, T_X3_refuseNo, reduceIte, Nat.reduceEqDiff, Nat.reduceLeDiff, Nat.reduceMul, Nat.reduceAdd, Nat.reduceSub, and_true, true_and, nz', h4]
      rw [if_pos ⟨h12, h3⟩]
      simp (disch := omega) only [l0, l1, l2, l3, l4, l5, l6, l7, l8, l9, l10, l11, l12, l30, l35, l36, l60, l99, l127, l150, l999, nI_eq, nI_leI, nI_ltI, nI_1, nI_add, pk_mul, obN, nI_clamp, lt', jn, Option.bind_some, inW, inF, inC, inK, fl4, cl4, wi3, T_X3_isFirstOrSecond, badE, fullE, noE, T_X3_refuseBad, T_X3_refuseFull, T_X3_refuseNo, reduceIte, Nat.reduceEqDiff, Nat.reduceLeDiff, Nat.reduceMul, Nat.reduceAdd, Nat.reduceSub, and_true, true_and, w1, w2]
    · have h4 : mx < v := by omega
      have w2 : T_X3_within (nI v) (nI 0) (nI mx) = nI 0 := by rw [wiE]; simp (disch := omega) only [l0, l1, l2, l3, l4, l5, l6, l7, l8, l9, l10, l11, l12, l30, l35, l36, l60, l99, l127, l150, l999, nI_eq, nI_leI, nI_ltI, nI_1, nI_add, pk_mul, obN, nI_clamp, lt', jn, Option.bind_some, inW, inF, inC, inK, fl4, cl4, wi3, T_X3_isFirstOrSecond, badE, fullE, noE, T_X3_refuseBad, T_X3_refuseFull, T_X3_refuseNo, reduceIte, Nat.reduceEqDiff, Nat.reduceLeDiff, Nat.reduceMul, Nat.reduceAdd, Nat.reduceSub, and_true, true_and, nz', h4]
      rw [if_neg (fun h => h3 h.2)]
      simp (disch := omega) only [l0, l1, l2, l3, l4, l5, l6, l7, l8, l9, l10, l11, l12, l30, l35, l36, l60, l99, l127, l150, l999, nI_eq, nI_leI, nI_ltI, nI_1, nI_add, pk_mul, obN, nI_clamp, lt', jn, Option.bind_some, inW, inF, inC, inK, fl4, cl4, wi3, T_X3_isFirstOrSecond, badE, fullE, noE, T_X3_refuseBad, T_X3_refuseFull, T_X3_refuseNo, reduceIte, Nat.reduceEqDiff, Nat.reduceLeDiff, Nat.reduceMul, Nat.reduceAdd, Nat.reduceSub, and_true, true_and, w1, w2]
  · have w1 : T_X3_within (nI r) (nI 1) (nI 2) = nI 0 := by
      rw [wiE]
      rcases (show r < 1 ∨ 2 < r by omega) with h | h
      · simp (disch := omega) only [l0, l1, l2, l3, l4, l5, l6, l7, l8, l9, l10, l11, l12, l30, l35, l36, l60, l99, l127, l150, l999, nI_eq, nI_leI, nI_ltI, nI_1, nI_add, pk_mul, obN, nI_clamp, lt', jn, Option.bind_some, inW, inF, inC, inK, fl4, cl4, wi3, T_X3_isFirstOrSecond, badE, fullE, noE, T_X3_refuseBad, T_X3_refuseFull, T_X3_refuseNo, reduceIte, Nat.reduceEqDiff, Nat.reduceLeDiff, Nat.reduceMul, Nat.reduceAdd, Nat.reduceSub, and_true, true_and, h]
      · have y1 : ¬ r < 1 := by omega
        simp (disch := omega) only [l0, l1, l2, l3, l4, l5, l6, l7, l8, l9, l10, l11, l12, l30, l35, l36, l60, l99, l127, l150, l999, nI_eq, nI_leI, nI_ltI, nI_1, nI_add, pk_mul, obN, nI_clamp, lt', jn, Option.bind_some, inW, inF, inC, inK, fl4, cl4, wi3, T_X3_isFirstOrSecond, badE, fullE, noE, T_X3_refuseBad, T_X3_refuseFull, T_X3_refuseNo, reduceIte, Nat.reduceEqDiff, Nat.reduceLeDiff, Nat.reduceMul, Nat.reduceAdd, Nat.reduceSub, and_true, true_and, h, y1]
    rw [if_neg (fun h => h12 h.1)]
    simp (disch := omega) only [l0, l1, l2, l3, l4, l5, l6, l7, l8, l9, l10, l11, l12, l30, l35, l36, l60, l99, l127, l150, l999, nI_eq, nI_leI, nI_ltI, nI_1, nI_add, pk_mul, obN, nI_clamp, lt', jn, Option.bind_some, inW, inF, inC, inK, fl4, cl4, wi3, T_X3_isFirstOrSecond, badE, fullE, noE, T_X3_refuseBad, T_X3_refuseFull, T_X3_refuseNo, reduceIte, Nat.reduceEqDiff, Nat.reduceLeDiff, Nat.reduceMul, Nat.reduceAdd, Nat.reduceSub, and_true, true_and, w1]
def enN (B : Nat → Int32) (n p : Nat) : Nat ⊕ Nat := if skN B n p < n ∧ B (skN B n p) = nI 59 then .inr (skN B n p + 1) else .inl (skN B n p)
theorem en_l {B : Nat → Int32} {n p q : Nat} (h : enN B n p = .inl q) (hp : p ≤ n) : p ≤ q ∧ q ≤ n := by
  unfold enN at h
  have := skN_le (B := B) hp
  split at h
  · cases h
  · cases h; exact this
theorem en_r {B : Nat → Int32} {n p q : Nat} (h : enN B n p = .inr q) (hp : p ≤ n) : p < q ∧ q ≤ n := by
  unfold enN at h
  have := skN_le (B := B) hp
  split at h
  · cases h; omega
  · cases h
def teN (B : Nat → Int32) (n : Nat) (fo : Option Nat) (p : Nat) : Nat × Option Nat := match fo with
  | some f => (skN B n p, some f)
  | none => match enN B n p with
    | .inl q => (q, some q)
    | .inr q => (q, none)
theorem te_ok {B : Nat → Int32} {n : Nat} {fo : Option Nat} {p : Nat} (hp : p ≤ n) (hf : okP n fo) : (teN B n fo p).1 ≤ n ∧ okP n (teN B n fo p).2 := by
  cases fo with
  | some f => exact ⟨(skN_le hp).2, hf⟩
  | none =>
    unfold teN
    cases h : enN B n p with
    | inl q => have := en_l h hp; exact ⟨this.2, this.2⟩
    | inr q => have := en_r h hp; exact ⟨this.2, trivial⟩
theorem takeEnd_n {N n p : Nat} {fo : Option Nat} {b B : Nat → Int32} (hN : 1000 ≤ N) (hn : n ≤ 150) (hb : ∀ i, i < n → b i = B i) (hp : p ≤ n) (hf : okP n fo) : T_X2_takeEnd N (nI n) (nI p) (pf fo) b = some (nI (teN B n fo p).1, pf (teN B n fo p).2) := by
  have s := skip3_n hN hn hb hp
  have a := skN_le (B := B) hp
  rw [T_X2_takeEnd, s]
  unfold teN enN
  generalize skN B n p = q at *
  cases fo with
  | some f =>
    have hf : f ≤ n := hf
    have y : ¬ nI f = -nI 1 := ne1 (by omega)
    simp (disch := omega) only [l0, l1, l2, l3, l4, l5, l6, l7, l8, l9, l10, l11, l12, l30, l35, l36, l60, l99, l127, l150, l999, nI_eq, nI_leI, nI_ltI, nI_1, nI_add, pk_mul, obN, nI_clamp, lt', jn, Option.bind_some, inW, inF, inC, inK, fl4, cl4, wi3, T_X3_isFirstOrSecond, badE, fullE, noE, T_X3_refuseBad, T_X3_refuseFull, T_X3_refuseNo, reduceIte, Nat.reduceEqDiff, Nat.reduceLeDiff, Nat.reduceMul, Nat.reduceAdd, Nat.reduceSub, and_true, true_and, pf, y, T_X2_fail]
  | none =>
    by_cases h : n ≤ q
    · have h' : ¬ q < n := by omega
      simp (disch := omega) only [l0, l1, l2, l3, l4, l5, l6, l7, l8, l9, l10, l11, l12, l30, l35, l36, l60, l99, l127, l150, l999, nI_eq, nI_leI, nI_ltI, nI_1, nI_add, pk_mul, obN, nI_clamp, lt', jn, Option.bind_some, inW, inF, inC, inK, fl4, cl4, wi3, T_X3_isFirstOrSecond, badE, fullE, noE, T_X3_refuseBad, T_X3_refuseFull, T_X3_refuseNo, reduceIte, Nat.reduceEqDiff, Nat.reduceLeDiff, Nat.reduceMul, Nat.reduceAdd, Nat.reduceSub, and_true, true_and, pf, h, h', T_X2_fail, false_and]
    · have h' : q < n := by omega
      have e := hb q h'
      by_cases h1 : B q = nI 59
      · simp (disch := omega) only [l0, l1, l2, l3, l4, l5, l6, l7, l8, l9, l10, l11, l12, l30, l35, l36, l60, l99, l127, l150, l999, nI_eq, nI_leI, nI_ltI, nI_1, nI_add, pk_mul, obN, nI_clamp, lt', jn, Option.bind_some, inW, inF, inC, inK, fl4, cl4, wi3, T_X3_isFirstOrSecond, badE, fullE, noE, T_X3_refuseBad, T_X3_refuseFull, T_X3_refuseNo, reduceIte, Nat.reduceEqDiff, Nat.reduceLeDiff, Nat.reduceMul, Nat.reduceAdd, Nat.reduceSub, and_true, true_and, pf, h, h', e, h1, l59, T_X2_fail]
      · simp (disch := omega) only [l0, l1, l2, l3, l4, l5, l6, l7, l8, l9, l10, l11, l12, l30, l35, l36, l60, l99, l127, l150, l999, nI_eq, nI_leI, nI_ltI, nI_1, nI_add, pk_mul, obN, nI_clamp, lt', jn, Option.bind_some, inW, inF, inC, inK, fl4, cl4, wi3, T_X3_isFirstOrSecond, badE, fullE, noE, T_X3_refuseBad, T_X3_refuseFull, T_X3_refuseNo, reduceIte, Nat.reduceEqDiff, Nat.reduceLeDiff, Nat.reduceMul, Nat.reduceAdd, Nat.reduceSub, and_true, true_and, pf, h, h', e, h1, l59, T_X2_fail]
theorem ends4_n {N n p : Nat} {b B : Nat → Int32} (hN : 1000 ≤ N) (hn : n ≤ 150) (hb : ∀ i, i < n → b i = B i) (hp : p ≤ n) : T_X4_ends N (nI n) (nI p) b = some (match enN B n p with | .inl q => (nI 0, nI q) | .inr q => (nI 1, nI q)) := by
  have s := skip4_n hN hn hb hp
  have a := skN_le (B := B) hp
  rw [T_X4_ends, s]
  unfold enN
  generalize skN B n p = q at *
  by_cases h : n ≤ q
  · have h' : ¬ q < n := by omega
    have e := here_ge (N := N) (b := b) hn h (show q ≤ 150 by omega)
    rw [if_neg (fun c => h' c.1)]
    simp (disch := omega) only [l0, l1, l2, l3, l4, l5, l6, l7, l8, l9, l10, l11, l12, l30, l35, l36, l60, l99, l127, l150, l999, nI_eq, nI_leI, nI_ltI, nI_1, nI_add, pk_mul, obN, nI_clamp, lt', jn, Option.bind_some, inW, inF, inC, inK, fl4, cl4, wi3, T_X3_isFirstOrSecond, badE, fullE, noE, T_X3_refuseBad, T_X3_refuseFull, T_X3_refuseNo, reduceIte, Nat.reduceEqDiff, Nat.reduceLeDiff, Nat.reduceMul, Nat.reduceAdd, Nat.reduceSub, and_true, true_and, e, l59, m59]
  · have h' : q < n := by omega
    have e := here_lt (N := N) (b := b) hn h'
    rw [hb q h'] at e
    by_cases h1 : B q = nI 59
    · rw [if_pos ⟨h', h1⟩]; simp (disch := omega) only [l0, l1, l2, l3, l4, l5, l6, l7, l8, l9, l10, l11, l12, l30, l35, l36, l60, l99, l127, l150, l999, nI_eq, nI_leI, nI_ltI, nI_1, nI_add, pk_mul, obN, nI_clamp, lt', jn, Option.bind_some, inW, inF, inC, inK, fl4, cl4, wi3, T_X3_isFirstOrSecond, badE, fullE, noE, T_X3_refuseBad, T_X3_refuseFull, T_X3_refuseNo, reduceIte, Nat.reduceEqDiff, Nat.reduceLeDiff, Nat.reduceMul, Nat.reduceAdd, Nat.reduceSub, and_true, true_and, e, l59, h1]
    · rw [if_neg (fun c => h1 c.2)]; simp (disch := omega) only [l0, l1, l2, l3, l4, l5, l6, l7, l8, l9, l10, l11, l12, l30, l35, l36, l60, l99, l127, l150, l999, nI_eq, nI_leI, nI_ltI, nI_1, nI_add, pk_mul, obN, nI_clamp, lt', jn, Option.bind_some, inW, inF, inC, inK, fl4, cl4, wi3, T_X3_isFirstOrSecond, badE, fullE, noE, T_X3_refuseBad, T_X3_refuseFull, T_X3_refuseNo, reduceIte, Nat.reduceEqDiff, Nat.reduceLeDiff, Nat.reduceMul, Nat.reduceAdd, Nat.reduceSub, and_true, true_and, e, l59, h1]
def lenS (i : Nat) : Nat := strL.getD i 0
def mtF (B : Nat → Int32) (i p : Nat) : Nat → Nat → Bool
  | 0, _ => true
  | d + 1, k => decide (B (p + k) = chS i (nI k)) && mtF B i p d (k + 1)
def wdB (B : Nat → Int32) (n i p : Nat) : Bool := decide (rnN B n 97 122 p = lenS i) && mtF B i p (lenS i) 0
theorem takeWord_n {N n p i : Nat} {b B : Nat → Int32} (hN : 1000 ≤ N) (hn : n ≤ 150) (hb : ∀ i, i < n → b i = B i) (hp : p ≤ n) (hi : i < 3) : T_X2_takeWord N (nI n) (nI p) b i = some (if wdB B n i p then (nI 1, nI (p + lenS i)) else (nI 0, nI p)) := by
  have r1 := run3_n (lo := 97) (hi := 122) hN hn hb hp
  have r2 := rnN_le (B := B) (lo := 97) (hi := 122) hp
  have ll : lenS i ≤ 4 := by
    rcases (show i = 0 ∨ i = 1 ∨ i = 2 by omega) with rfl | rfl | rfl <;> decide
  rw [T_X2_takeWord]
  simp only [lt']
  rw [show Int32.ofNat (strL.getD i 0) = nI (lenS i) from rfl, l97, l122, r1, wdB]
  simp only [Option.bind_some]
  by_cases h : rnN B n 97 122 p = lenS i
  · have key : ∀ (kk : Option (Int32 × Int32)) d k j, k + d = lenS i → d < j → T_X2_takeWord_L21 N (nI (lenS i)) (nI p) b i kk j (nI k) = if mtF B i p d k then kk else some (nI 0, nI p) := by
      intro kk d
      induction d with
      | zero =>
        intro k j hk hj
        obtain ⟨j, rfl⟩ := Nat.exists_eq_succ_of_ne_zero (show j ≠ 0 by omega)
        have h1 : lenS i ≤ k := by omega
        rw [T_X2_takeWord_L21, mtF]; simp (disch := omega) only [l0, l1, l2, l3, l4, l5, l6, l7, l8, l9, l10, l11, l12, l30, l35, l36, l60, l99, l127, l150, l999, nI_eq, nI_leI, nI_ltI, nI_1, nI_add, pk_mul, obN, nI_clamp, lt', jn, Option.bind_some, inW, inF, inC, inK, fl4, cl4, wi3, T_X3_isFirstOrSecond, badE, fullE, noE, T_X3_refuseBad, T_X3_refuseFull, T_X3_refuseNo, reduceIte, Nat.reduceEqDiff, Nat.reduceLeDiff, Nat.reduceMul, Nat.reduceAdd, Nat.reduceSub, and_true, true_and, h1]
      | succ d ih =>
        intro k j hk hj
        obtain ⟨j, rfl⟩ := Nat.exists_eq_succ_of_ne_zero (show j ≠ 0 by omega)
        have h1 : ¬ lenS i ≤ k := by omega
        have e := hb (p + k) (by omega)
        have ih := ih (k + 1) j (by omega) (by omega)
        have ls : strL.getD i 0 = lenS i := rfl
        rw [T_X2_takeWord_L21, mtF]
        by_cases h2 : B (p + k) = chS i (nI k)
        · simp (disch := omega) only [l0, l1, l2, l3, l4, l5, l6, l7, l8, l9, l10, l11, l12, l30, l35, l36, l60, l99, l127, l150, l999, nI_eq, nI_leI, nI_ltI, nI_1, nI_add, pk_mul, obN, nI_clamp, lt', jn, Option.bind_some, inW, inF, inC, inK, fl4, cl4, wi3, T_X3_isFirstOrSecond, badE, fullE, noE, T_X3_refuseBad, T_X3_refuseFull, T_X3_refuseNo, reduceIte, Nat.reduceEqDiff, Nat.reduceLeDiff, Nat.reduceMul, Nat.reduceAdd, Nat.reduceSub, and_true, true_and, h1, e, h2, ls, decide_true, Bool.true_and]; exact ih
        · simp (disch := omega) only [l0, l1, l2, l3, l4, l5, l6, l7, l8, l9, l10, l11, l12, l30, l35, l36, l60, l99, l127, l150, l999, nI_eq, nI_leI, nI_ltI, nI_1, nI_add, pk_mul, obN, nI_clamp, lt', jn, Option.bind_some, inW, inF, inC, inK, fl4, cl4, wi3, T_X3_isFirstOrSecond, badE, fullE, noE, T_X3_refuseBad, T_X3_refuseFull, T_X3_refuseNo, reduceIte, Nat.reduceEqDiff, Nat.reduceLeDiff, Nat.reduceMul, Nat.reduceAdd, Nat.reduceSub, and_true, true_and, h1, e, h2, ls, decide_false, Bool.false_and, Bool.false_eq_true]
    have k0 := key (some (nI 1, nI p + nI (lenS i))) (lenS i) 0 N (by omega) (by omega)
    rw [h, if_pos rfl, decide_eq_true rfl, Bool.true_and]
    refine Eq.trans k0 ?_
    rw [nI_add]
    split <;> rfl
  · have hl : lenS i < 2 ^ 31 := by omega
    rw [if_neg (by rw [nI_eq (by omega) hl]; exact h), decide_eq_false h, Bool.false_and]
    rfl
theorem ifand {α : Type} {P Q : Prop} [Decidable P] [Decidable Q] (a b : α) : (if P ∧ Q then a else b) = if P then if Q then a else b else b := by
  by_cases P <;> by_cases Q <;> simp [*]
theorem letter_n {N n p k : Nat} {b B : Nat → Int32} (hn : n ≤ 150) (hb : ∀ i, i < n → b i = B i) (h : p + k < n) : T_X4_letter N (nI p) b (nI k) = some (B (p + k)) := by
  rw [T_X4_letter, nI_add, obN (by omega) (by omega), nI_clamp (by omega), hb _ h]
theorem ch0 : chS 0 (nI 0) = nI 115 ∧ chS 0 (nI 1) = nI 101 ∧ chS 0 (nI 2) = nI 97 := by decide
theorem ch1 : chS 1 (nI 0) = nI 119 ∧ chS 1 (nI 1) = nI 105 ∧ chS 1 (nI 2) = nI 110 ∧ chS 1 (nI 3) = nI 100 := by decide
theorem ch2 : chS 2 (nI 0) = nI 102 ∧ chS 2 (nI 1) = nI 108 ∧ chS 2 (nI 2) = nI 111 ∧ chS 2 (nI 3) = nI 101 := by decide
theorem wdE0 (B : Nat → Int32) (n p : Nat) : (wdB B n 0 p = true) = (rnN B n 97 122 p = 3 ∧ B (p + 0) = 115 ∧ B (p + 1) = 101 ∧ B (p + 2) = 97) := by
  unfold wdB
  rw [show lenS 0 = 3 from rfl]
  simp only [mtF, ch0, Bool.and_eq_true, decide_eq_true_eq, and_true, Nat.zero_add, Nat.reduceAdd, show nI 115 = 115 from rfl, show nI 101 = 101 from rfl, show nI 97 = 97 from rfl]
theorem wdE1 (B : Nat → Int32) (n p : Nat) : (wdB B n 1 p = true) = (rnN B n 97 122 p = 4 ∧ B (p + 0) = 119 ∧ B (p + 1) = 105 ∧ B (p + 2) = 110 ∧ B (p + 3) = 100) := by
  unfold wdB
  rw [show lenS 1 = 4 from rfl]
  simp only [mtF, ch1, Bool.and_eq_true, decide_eq_true_eq, and_true, Nat.zero_add, Nat.reduceAdd, show nI 119 = 119 from rfl, show nI 105 = 105 from rfl, show nI 110 = 110 from rfl, show nI 100 = 100 from rfl]
theorem wdE2 (B : Nat → Int32) (n p : Nat) : (wdB B n 2 p = true) = (rnN B n 97 122 p = 4 ∧ B (p + 0) = 102 ∧ B (p + 1) = 108 ∧ B (p + 2) = 111 ∧ B (p + 3) = 101) := by
  unfold wdB
  rw [show lenS 2 = 4 from rfl]
  simp only [mtF, ch2, Bool.and_eq_true, decide_eq_true_eq, and_true, Nat.zero_add, Nat.reduceAdd, show nI 102 = 102 from rfl, show nI 108 = 108 from rfl, show nI 111 = 111 from rfl, show nI 101 = 101 from rfl]
theorem nest3 {m0 m1 m2 : Option Int32} {b0 b1 b2 : Int32} (c0 c1 c2 : Int32) (X Y : Option Int32) (h0 : m0 = some b0) (h1 : m1 = some b1) (h2 : m2 = some b2) : (Option.bind m0 fun u => (if u = c0 then (Option.bind m1 fun v => (if v = c1 then (Option.bind m2 fun w => (if w = c2 then X else Y)) else Y)) else Y)) = if b0 = c0 ∧ b1 = c1 ∧ b2 = c2 then X else Y := by
  subst h0 h1 h2
  simp only [Option.bind_some, ifand]
theorem nest4 {m0 m1 m2 m3 : Option Int32} {b0 b1 b2 b3 : Int32} (c0 c1 c2 c3 : Int32) (X Y : Option Int32) (h0 : m0 = some b0) (h1 : m1 = some b1) (h2 : m2 = some b2) (h3 : m3 = some b3) : (Option.bind m0 fun u => (if u = c0 then (Option.bind m1 fun v => (if v = c1 then (Option.bind m2 fun w => (if w = c2 then (Option.bind m3 fun z => (if z = c3 then X else Y)) else Y)) else Y)) else Y)) = if b0 = c0 ∧ b1 = c1 ∧ b2 = c2 ∧ b3 = c3 then X else Y := by
  subst h0 h1 h2 h3
  simp only [Option.bind_some, ifand]
theorem wordHere_n {N n p : Nat} {b B : Nat → Int32} (hN : 1000 ≤ N) (hn : n ≤ 150) (hb : ∀ i, i < n → b i = B i) (hp : p ≤ n) : T_X4_wordHere N (nI n) (nI p) b = if wdB B n 0 p then some (nI 0) else if wdB B n 1 p then some (nI 1) else if wdB B n 2 p then some (nI 2) else some (-nI 1) := by
  have s := size4_n hN hn hb hp
  have r2 := rnN_le (B := B) (lo := 97) (hi := 122) hp
  have lw : ∀ k, k < rnN B n 97 122 p → T_X4_letter N (nI p) b (nI k) = some (B (p + k)) := fun k hk => letter_n hn hb (by omega)
  simp only [wdE0, wdE1, wdE2]
  rw [T_X4_wordHere, s]
  generalize rnN B n 97 122 p = r at *
  by_cases h3 : r = 3
  · subst h3
    have F : ∀ y, _ = _ := fun y => nest3 115 101 97 (some 0) y (lw 0 (by omega)) (lw 1 (by omega)) (lw 2 (by omega))
    have e3 : (nI 3 = 3) = True := eq_true rfl
    have e4 : (nI 3 = 4) = False := eq_false (by decide)
    have e5 : ((3 : Nat) = 4) = False := eq_false (by decide)
    simp only [Option.bind_some, jn, e3, e4, e5, if_true, if_false, true_and, false_and]
    exact F _
  · by_cases h4 : r = 4
    · subst h4
      have a0 := lw 0 (by omega)
      have a1 := lw 1 (by omega)
      have a2 := lw 2 (by omega)
      have a3 := lw 3 (by omega)
      have F : ∀ y, _ = _ := fun y => nest4 102 108 111 101 (some 2) y a0 a1 a2 a3
      have G : ∀ y, _ = _ := fun y => nest4 119 105 110 100 (some 1) y a0 a1 a2 a3
      have e3 : (nI 4 = 3) = False := eq_false (by decide)
      have e4 : (nI 4 = 4) = True := eq_true rfl
      have e5 : ((4 : Nat) = 3) = False := eq_false (by decide)
      simp only [Option.bind_some, jn, e3, e4, e5, if_true, if_false, true_and, false_and]
      refine (G _).trans ?_
      split
      · rfl
      · exact F _
    · have e3 : (nI r = 3) = False := eq_false (fun h => h3 (by rwa [l3, nI_eq (by omega) (by omega)] at h))
      have e4 : (nI r = 4) = False := eq_false (fun h => h4 (by rwa [l4, nI_eq (by omega) (by omega)] at h))
      simp only [Option.bind_some, jn, e3, e4, h3, h4, if_false, false_and]
      rfl
