theorem gcN {α : Type} {a b c n0 n1 : Nat} {k : Option α} (h0 : a + c ≤ n0) (h1 : b + c ≤ n1) (h2 : n0 < 2 ^ 30) (h3 : n1 < 2 ^ 30) : gc (nI a) (nI b) (nI c) n0 n1 k = k :=
  gc_in ⟨nI_pos (by omega), nI_pos (by omega), nI_pos (by omega), by rw [nI_clamp (by omega), nI_clamp (by omega)]; exact h0, by rw [nI_clamp (by omega), nI_clamp (by omega)]; exact h1⟩
/-- a month, cells and foods laid at a place -/
def laid (R base : Nat → Int32) (mo : Int32) (cells foods : Nat → Int32) (q : Nat) : Prop :=
  R q = mo ∧ (∀ f, f < 5 → R (q + 1 + f) = cells f ∧ R (q + 6 + f) = foods f) ∧ ∀ j, j < q ∨ q + 11 ≤ j → R j = base j
theorem lays_n {N n1 q : Nat} (hN : 1000 ≤ N) (hq : q + 11 ≤ n1) (hn : n1 < 2 ^ 30) (mo : Int32) (cells foods base : Nat → Int32) : ∃ R, T_X4_lays N n1 mo cells foods base (nI q) = some R ∧ laid R base mo cells foods q := by
  rw [T_X4_lays, obN (by omega) (by omega), nI_clamp (by omega)]
  obtain ⟨R, h1, h2, h3⟩ := lp (fun n (s : Int32 × (Nat → Int32)) => T_X4_lays_L9 N (nI q) cells foods n1 n s.1 s.2)
    (fun i s => s.1 = nI i ∧ (∀ f, f < i → s.2 (q + 1 + f) = cells f ∧ s.2 (q + 6 + f) = foods f) ∧ ∀ j, j < q + 1 ∨ q + 11 ≤ j → s.2 j = upd base q mo j)
    (fun R => (∀ f, f < 5 → R (q + 1 + f) = cells f ∧ R (q + 6 + f) = foods f) ∧ ∀ j, j < q + 1 ∨ q + 11 ≤ j → R j = upd base q mo j) 5
    (fun i s n hi ⟨h1, h2, h3⟩ => by
      obtain ⟨s1, s2⟩ := s
      simp only at h1 h2 h3
      subst h1
      refine .inl ⟨(nI (i + 1), upd (upd s2 (q + 1 + i) (cells i)) (q + 6 + i) (foods i)), ⟨rfl, ?_, ?_⟩, ?_⟩
      · intro f hf
        simp only
        by_cases e : f = i
        · subst e
          rw [pk_un (by omega), pk_us, pk_us]; exact ⟨rfl, rfl⟩
        · rw [pk_un (by omega), pk_un (by omega), pk_un (by omega), pk_un (by omega)]; exact h2 f (by omega)
      · intro j hj
        simp only
        rw [pk_un (by omega), pk_un (by omega)]; exact h3 j hj
      · have hn5 : ¬ 5 ≤ i := by omega
        simp only
        rw [T_X4_lays_L9]
        simp (disch := omega) only [l0, l1, l2, l3, l4, l5, l6, l7, l8, l9, l10, l11, l12, l30, l35, l36, l60, l99, l127, l150, l999, nI_eq, nI_leI, nI_ltI, nI_1, nI_add, pk_mul, obN, nI_clamp, lt', jn, Option.bind_some, inW, inF, inC, inK, fl4, cl4, wi3, T_X3_isFirstOrSecond, badE, fullE, noE, T_X3_refuseBad, T_X3_refuseFull, T_X3_refuseNo, reduceIte, Nat.reduceEqDiff, Nat.reduceLeDiff, Nat.reduceMul, Nat.reduceAdd, Nat.reduceSub, and_true, true_and, hn5])
    (fun s n ⟨h1, h2, h3⟩ => ⟨s.2, by (try simp only); rw [T_X4_lays_L9, h1]; simp (disch := omega) only [l0, l1, l2, l3, l4, l5, l6, l7, l8, l9, l10, l11, l12, l30, l35, l36, l60, l99, l127, l150, l999, nI_eq, nI_leI, nI_ltI, nI_1, nI_add, pk_mul, obN, nI_clamp, lt', jn, Option.bind_some, inW, inF, inC, inK, fl4, cl4, wi3, T_X3_isFirstOrSecond, badE, fullE, noE, T_X3_refuseBad, T_X3_refuseFull, T_X3_refuseNo, reduceIte, Nat.reduceEqDiff, Nat.reduceLeDiff, Nat.reduceMul, Nat.reduceAdd, Nat.reduceSub, and_true, true_and, Nat.le_refl], h2, h3⟩)
    5 0 (0, upd base q mo) N rfl ⟨rfl, fun f hf => absurd hf (Nat.not_lt_zero f), fun j _ => rfl⟩ (by omega)
  refine ⟨R, h1, ?_, h2, ?_⟩
  · rw [h3 q (by omega), pk_us]
  · intro j hj
    rw [h3 j (by omega), pk_un (by omega)]
theorem takes_n {N n1 q : Nat} (hN : 1000 ≤ N) (hq : q + 11 ≤ n1) (hn : n1 < 2 ^ 30) (mo : Int32) (cells foods src : Nat → Int32) : ∃ c f, T_X4_takes N n1 mo cells foods src (nI q) = some (src q, c, f) ∧ ∀ i, i < 5 → c i = src (q + 1 + i) ∧ f i = src (q + 6 + i) := by
  rw [T_X4_takes, obN (by omega) (by omega), nI_clamp (by omega)]
  obtain ⟨R, h1, c, f, rfl, h2⟩ := lp (fun n (s : Int32 × (Nat → Int32) × (Nat → Int32)) => T_X4_takes_L9 N (nI q) (src q) src n1 n s.1 s.2.1 s.2.2)
    (fun i s => s.1 = nI i ∧ ∀ j, j < i → s.2.1 j = src (q + 1 + j) ∧ s.2.2 j = src (q + 6 + j))
    (fun R => ∃ c f, R = (src q, c, f) ∧ ∀ j, j < 5 → c j = src (q + 1 + j) ∧ f j = src (q + 6 + j)) 5
    (fun i s n hi ⟨h1, h2⟩ => by
      obtain ⟨s1, s2, s3⟩ := s
      simp only at h1 h2
      subst h1
      refine .inl ⟨(nI (i + 1), upd s2 i (src (q + 1 + i)), upd s3 i (src (q + 6 + i))), ⟨rfl, ?_⟩, ?_⟩
      · intro j hj
        simp only
        by_cases e : j = i
        · subst e; rw [pk_us, pk_us]; exact ⟨rfl, rfl⟩
        · rw [pk_un e, pk_un e]; exact h2 j (by omega)
      · have hn5 : ¬ 5 ≤ i := by omega
        simp only
        rw [T_X4_takes_L9]
        simp (disch := omega) only [l0, l1, l2, l3, l4, l5, l6, l7, l8, l9, l10, l11, l12, l30, l35, l36, l60, l99, l127, l150, l999, nI_eq, nI_leI, nI_ltI, nI_1, nI_add, pk_mul, obN, nI_clamp, lt', jn, Option.bind_some, inW, inF, inC, inK, fl4, cl4, wi3, T_X3_isFirstOrSecond, badE, fullE, noE, T_X3_refuseBad, T_X3_refuseFull, T_X3_refuseNo, reduceIte, Nat.reduceEqDiff, Nat.reduceLeDiff, Nat.reduceMul, Nat.reduceAdd, Nat.reduceSub, and_true, true_and, hn5])
    (fun s n ⟨h1, h2⟩ => ⟨_, by (try simp only); rw [T_X4_takes_L9, h1]; simp (disch := omega) only [l0, l1, l2, l3, l4, l5, l6, l7, l8, l9, l10, l11, l12, l30, l35, l36, l60, l99, l127, l150, l999, nI_eq, nI_leI, nI_ltI, nI_1, nI_add, pk_mul, obN, nI_clamp, lt', jn, Option.bind_some, inW, inF, inC, inK, fl4, cl4, wi3, T_X3_isFirstOrSecond, badE, fullE, noE, T_X3_refuseBad, T_X3_refuseFull, T_X3_refuseNo, reduceIte, Nat.reduceEqDiff, Nat.reduceLeDiff, Nat.reduceMul, Nat.reduceAdd, Nat.reduceSub, and_true, true_and, Nat.le_refl] <;> rfl, s.2.1, s.2.2, rfl, h2⟩)
    5 0 (0, cells, foods) N rfl ⟨rfl, fun f hf => absurd hf (Nat.not_lt_zero f)⟩ (by omega)
  exact ⟨c, f, h1, h2⟩
/-- the rows of what can be undone, one shifted off where they are full -/
def shR (u : Nat) (g : Nat → Int32) : Nat → Int32 := fun i => if u = 8 then g (i + 11) else g i
def kept (u : Nat) : Nat := if u = 8 then 7 else u
theorem cp_laid {v : Nat} (hv : v ≤ 7) (mo : Int32) (cells foods base : Nat → Int32) : laid (va_cpy foods (va_cpy cells (upd base (11 * v) mo) 0 (11 * v + 1) 5) 0 (11 * v + 1 + 5) 5) base mo cells foods (11 * v) := by
  refine ⟨?_, ?_, ?_⟩
  · rw [pk_cpy_out (by omega), pk_cpy_out (by omega), pk_us]
  · intro f hf
    constructor
    · rw [pk_cpy_out (by omega), pk_cpy_in (by omega) (by omega)]
      rw [show 0 + (11 * v + 1 + f - (11 * v + 1)) = f by omega]
    · rw [pk_cpy_in (by omega) (by omega)]
      rw [show 0 + (11 * v + 6 + f - (11 * v + 1 + 5)) = f by omega]
  · intro j hj
    rw [pk_cpy_out (by omega), pk_cpy_out (by omega), pk_un (by omega)]
theorem keep_n {N u : Nat} (hu : u ≤ 8) (mo : Int32) (cells foods rows : Nat → Int32) : ∃ R, T_X1_keepToUndo N mo (nI u) cells foods rows = some (nI (kept u + 1), R) ∧ R (11 * kept u) = mo ∧ (∀ f, f < 5 → R (11 * kept u + 1 + f) = cells f ∧ R (11 * kept u + 6 + f) = foods f) ∧ ∀ j, j < 11 * kept u → R j = shR u rows j := by
  have l77 : (77 : Int32) = nI 77 := rfl
  by_cases h8 : u = 8
  · subst h8
    have hl := cp_laid (v := 7) (by omega) mo cells foods (va_cpy rows rows 11 0 77)
    refine ⟨_, by rw [T_X1_keepToUndo]; simp (disch := omega) only [l0, l1, l2, l3, l4, l5, l6, l7, l8, l9, l10, l11, l12, l30, l35, l36, l60, l99, l127, l150, l999, nI_eq, nI_leI, nI_ltI, nI_1, nI_add, pk_mul, obN, nI_clamp, lt', jn, Option.bind_some, inW, inF, inC, inK, fl4, cl4, wi3, T_X3_isFirstOrSecond, badE, fullE, noE, T_X3_refuseBad, T_X3_refuseFull, T_X3_refuseNo, reduceIte, Nat.reduceEqDiff, Nat.reduceLeDiff, Nat.reduceMul, Nat.reduceAdd, Nat.reduceSub, and_true, true_and, l77, gcN, pk_sub] <;> rfl, hl.1, hl.2.1, ?_⟩
    intro j hj
    have hj : j < 77 := hj
    refine (hl.2.2 j (by omega)).trans ?_
    rw [pk_cpy_in (by omega) (by omega), shR, if_pos rfl, show 11 + (j - 0) = j + 11 by omega]
  · have hk : kept u = u := if_neg h8
    rw [hk]
    have hl := cp_laid (v := u) (by omega) mo cells foods rows
    refine ⟨_, by rw [T_X1_keepToUndo]; simp (disch := omega) only [l0, l1, l2, l3, l4, l5, l6, l7, l8, l9, l10, l11, l12, l30, l35, l36, l60, l99, l127, l150, l999, nI_eq, nI_leI, nI_ltI, nI_1, nI_add, pk_mul, obN, nI_clamp, lt', jn, Option.bind_some, inW, inF, inC, inK, fl4, cl4, wi3, T_X3_isFirstOrSecond, badE, fullE, noE, T_X3_refuseBad, T_X3_refuseFull, T_X3_refuseNo, reduceIte, Nat.reduceEqDiff, Nat.reduceLeDiff, Nat.reduceMul, Nat.reduceAdd, Nat.reduceSub, and_true, true_and, h8, gcN] <;> rfl, hl.1, hl.2.1, ?_⟩
    intro j hj
    refine (hl.2.2 j (by omega)).trans ?_
    rw [shR, if_neg h8]
theorem notes_n {N u : Nat} (hN : 1000 ≤ N) (hu : u ≤ 8) (mo : Int32) (cells foods rows : Nat → Int32) : ∃ R, T_X4_notes N mo (nI u) cells foods rows = some (nI (kept u + 1), R) ∧ R (11 * kept u) = mo ∧ (∀ f, f < 5 → R (11 * kept u + 1 + f) = cells f ∧ R (11 * kept u + 6 + f) = foods f) ∧ ∀ j, j < 11 * kept u → R j = shR u rows j := by
  have l77 : (77 : Int32) = nI 77 := rfl
  by_cases h8 : u = 8
  · subst h8
    have key := lp (fun n (s : Int32 × (Nat → Int32)) => T_X4_notes_L11 N (fun z36 => Option.bind (T_X4_lays N 88 mo cells foods z36 (nI 77)) fun u9 => some (nI 8, u9)) n s.1 s.2)
      (fun i s => s.1 = nI i ∧ (∀ j, j < i → s.2 j = rows (j + 11)) ∧ ∀ j, i ≤ j → s.2 j = rows j)
      (fun r => ∃ R, r = (nI 8, R) ∧ R 77 = mo ∧ (∀ f, f < 5 → R (77 + 1 + f) = cells f ∧ R (77 + 6 + f) = foods f) ∧ ∀ j, j < 77 → R j = rows (j + 11)) 77
      (fun i s n hi ⟨h1, h2, h3⟩ => by
        obtain ⟨s1, s2⟩ := s
        simp only at h1 h2 h3
        subst h1
        refine .inl ⟨(nI (i + 1), upd s2 i (s2 (i + 11))), ⟨rfl, ?_, ?_⟩, ?_⟩
        · intro j hj
          simp only
          by_cases e : j = i
          · subst e; rw [pk_us]; exact h3 _ (by omega)
          · rw [pk_un e]; exact h2 j (by omega)
        · intro j hj
          simp only
          rw [pk_un (by omega)]; exact h3 j (by omega)
        · have hn5 : ¬ 77 ≤ i := by omega
          simp only
          rw [T_X4_notes_L11]
          simp (disch := omega) only [l0, l1, l2, l3, l4, l5, l6, l7, l8, l9, l10, l11, l12, l30, l35, l36, l60, l99, l127, l150, l999, nI_eq, nI_leI, nI_ltI, nI_1, nI_add, pk_mul, obN, nI_clamp, lt', jn, Option.bind_some, inW, inF, inC, inK, fl4, cl4, wi3, T_X3_isFirstOrSecond, badE, fullE, noE, T_X3_refuseBad, T_X3_refuseFull, T_X3_refuseNo, reduceIte, Nat.reduceEqDiff, Nat.reduceLeDiff, Nat.reduceMul, Nat.reduceAdd, Nat.reduceSub, and_true, true_and, hn5, l77])
      (fun s n ⟨h1, h2, h3⟩ => by
        obtain ⟨R, e, g1, g2, g3⟩ := lays_n (n1 := 88) (q := 77) hN (by omega) (by omega) mo cells foods s.2
        refine ⟨_, by (try simp only); rw [T_X4_notes_L11, h1]; simp (disch := omega) only [l0, l1, l2, l3, l4, l5, l6, l7, l8, l9, l10, l11, l12, l30, l35, l36, l60, l99, l127, l150, l999, nI_eq, nI_leI, nI_ltI, nI_1, nI_add, pk_mul, obN, nI_clamp, lt', jn, Option.bind_some, inW, inF, inC, inK, fl4, cl4, wi3, T_X3_isFirstOrSecond, badE, fullE, noE, T_X3_refuseBad, T_X3_refuseFull, T_X3_refuseNo, reduceIte, Nat.reduceEqDiff, Nat.reduceLeDiff, Nat.reduceMul, Nat.reduceAdd, Nat.reduceSub, and_true, true_and, Nat.le_refl, l77, e] <;> rfl, R, rfl, g1, g2, ?_⟩
        intro j hj
        rw [g3 j (by omega), h2 j hj])
      77 0 (0, rows) N rfl ⟨rfl, fun f hf => absurd hf (Nat.not_lt_zero f), fun j _ => rfl⟩ (by omega)
    obtain ⟨r, h1, R, rfl, h2, h3, h4⟩ := key
    refine ⟨R, ?_, h2, h3, fun j hj => (h4 j hj).trans (by rw [shR, if_pos rfl])⟩
    rw [T_X4_notes]
    refine Eq.trans ?_ h1
    simp (disch := omega) only [l0, l1, l2, l3, l4, l5, l6, l7, l8, l9, l10, l11, l12, l30, l35, l36, l60, l99, l127, l150, l999, nI_eq, nI_leI, nI_ltI, nI_1, nI_add, pk_mul, obN, nI_clamp, lt', jn, Option.bind_some, inW, inF, inC, inK, fl4, cl4, wi3, T_X3_isFirstOrSecond, badE, fullE, noE, T_X3_refuseBad, T_X3_refuseFull, T_X3_refuseNo, reduceIte, Nat.reduceEqDiff, Nat.reduceLeDiff, Nat.reduceMul, Nat.reduceAdd, Nat.reduceSub, and_true, true_and, pk_sub]
  · have hk : kept u = u := if_neg h8
    rw [hk]
    obtain ⟨R, e, g1, g2, g3⟩ := lays_n (n1 := 88) (q := 11 * u) hN (by omega) (by omega) mo cells foods rows
    refine ⟨R, by rw [T_X4_notes]; simp (disch := omega) only [l0, l1, l2, l3, l4, l5, l6, l7, l8, l9, l10, l11, l12, l30, l35, l36, l60, l99, l127, l150, l999, nI_eq, nI_leI, nI_ltI, nI_1, nI_add, pk_mul, obN, nI_clamp, lt', jn, Option.bind_some, inW, inF, inC, inK, fl4, cl4, wi3, T_X3_isFirstOrSecond, badE, fullE, noE, T_X3_refuseBad, T_X3_refuseFull, T_X3_refuseNo, reduceIte, Nat.reduceEqDiff, Nat.reduceLeDiff, Nat.reduceMul, Nat.reduceAdd, Nat.reduceSub, and_true, true_and, h8, e], g1, g2, ?_⟩
    intro j hj
    rw [g3 j (by omega), shR, if_neg h8]
