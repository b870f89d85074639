/-! numbers: literals, tests, loops -/
theorem l0 : (0 : Int32) = nI 0 := rfl
theorem l1 : (1 : Int32) = nI 1 := rfl
theorem l2 : (2 : Int32) = nI 2 := rfl
theorem l3 : (3 : Int32) = nI 3 := rfl
theorem l4 : (4 : Int32) = nI 4 := rfl
theorem l5 : (5 : Int32) = nI 5 := rfl
theorem l6 : (6 : Int32) = nI 6 := rfl
theorem l7 : (7 : Int32) = nI 7 := rfl
theorem l8 : (8 : Int32) = nI 8 := rfl
theorem l9 : (9 : Int32) = nI 9 := rfl
theorem l10 : (10 : Int32) = nI 10 := rfl
theorem l11 : (11 : Int32) = nI 11 := rfl
theorem l12 : (12 : Int32) = nI 12 := rfl
theorem l30 : (30 : Int32) = nI 30 := rfl
theorem l35 : (35 : Int32) = nI 35 := rfl
theorem l36 : (36 : Int32) = nI 36 := rfl
theorem l60 : (60 : Int32) = nI 60 := rfl
theorem l99 : (99 : Int32) = nI 99 := rfl
theorem l127 : (127 : Int32) = nI 127 := rfl
theorem l150 : (150 : Int32) = nI 150 := rfl
theorem l999 : (999 : Int32) = nI 999 := rfl
/-- a test of a range: out of it, or a number in it -/
theorem wiE (p a b : Int32) : T_X3_within p a b = if p < a then nI 0 else if b < p then nI 0 else nI 1 := rfl
theorem wi (p : Int32) (b : Nat) (hb : b < 2 ^ 31) : T_X3_within p (nI 0) (nI b) = nI 0 ∨ ∃ j, j ≤ b ∧ p = nI j ∧ T_X3_within p (nI 0) (nI b) = nI 1 := by
  rw [wiE]
  by_cases h : p < nI 0
  · left; rw [if_pos h]
  · obtain ⟨j, hj, rfl⟩ := nI_of h
    by_cases hb' : nI b < nI j
    · left; rw [if_neg h, if_pos hb']
    · right
      refine ⟨j, ?_, rfl, by rw [if_neg h, if_neg hb']⟩
      rw [nI_ltI hb hj] at hb'; omega
theorem wi1 (p : Int32) (b : Nat) (hb : b < 2 ^ 31) : T_X3_within p (nI 1) (nI b) = nI 0 ∨ ∃ j, 1 ≤ j ∧ j ≤ b ∧ p = nI j ∧ T_X3_within p (nI 1) (nI b) = nI 1 := by
  rw [wiE]
  by_cases h1 : p < nI 1
  · left; rw [if_pos h1]
  · have h : ¬ p < 0 := fun h => h1 (Int32.lt_of_lt_of_le h (by decide))
    obtain ⟨j, hj, rfl⟩ := nI_of h
    by_cases hb' : nI b < nI j
    · left; rw [if_neg h1, if_pos hb']
    · right
      refine ⟨j, ?_, ?_, rfl, by rw [if_neg h1, if_neg hb']⟩
      · rw [nI_ltI hj (by omega)] at h1; omega
      · rw [nI_ltI hb hj] at hb'; omega
/-- a floe's number: none, or one of those there are -/
theorem wif (p : Int32) (b : Nat) (hb : b < 2 ^ 30) : T_X3_within p (nI 0) (nI b - nI 1) = nI 0 ∨ ∃ j, j < b ∧ p = nI j ∧ T_X3_within p (nI 0) (nI b - nI 1) = nI 1 := by
  rcases b with _ | b
  · left
    rw [wiE]
    by_cases h : p < nI 0
    · rw [if_pos h]
    · have : nI 0 - nI 1 < p := Int32.lt_of_lt_of_le (by decide) (Int32.not_lt.mp h)
      rw [if_neg h, if_pos this]
  · rw [show nI (b + 1) - nI 1 = nI b from nI_pred b]
    rcases wi p b (by omega) with h | ⟨j, h1, h2, h3⟩
    · exact .inl h
    · exact .inr ⟨j, by omega, h2, h3⟩
/-- a loop: a step at a time, or an end ahead of it -/
theorem lp {σ ρ : Type} (f : Nat → σ → Option ρ) (I : Nat → σ → Prop) (Q : ρ → Prop) (e : Nat)
    (hs : ∀ i s n, i < e → I i s → (∃ s', I (i + 1) s' ∧ f (n + 1) s = f n s') ∨ (∃ r, f (n + 1) s = some r ∧ Q r))
    (hx : ∀ s n, I e s → ∃ r, f (n + 1) s = some r ∧ Q r) :
    ∀ (d i : Nat) (s : σ) (n : Nat), i + d = e → I i s → d < n → ∃ r, f n s = some r ∧ Q r := by
  intro d
  induction d with
  | zero =>
    intro i s n hd hi hn
    obtain ⟨n, rfl⟩ := Nat.exists_eq_succ_of_ne_zero (show n ≠ 0 by omega)
    obtain rfl : i = e := by omega
    exact hx s n hi
  | succ d ih =>
    intro i s n hd hi hn
    obtain ⟨n, rfl⟩ := Nat.exists_eq_succ_of_ne_zero (show n ≠ 0 by omega)
    rcases hs i s n (by omega) hi with ⟨s', h1, h2⟩ | h
    · obtain ⟨r, h3, h4⟩ := ih (i + 1) s' n (by omega) h1 (by omega)
      exact ⟨r, by rw [h2]; exact h3, h4⟩
    · exact h
theorem obN {α : Type} {i n : Nat} {k : Option α} (h : i < n) (hn : n < 2 ^ 31) : ob (nI i) n k = k := ob_in (nI_in h hn)
theorem fill_i (N : Nat) (hN : 1000 ≤ N) (f : Nat → Int32) (v : Int32) : ∃ g, T_J7_fill_53178 N 12 f v = some g ∧ ∀ i, i < 12 → g i = v := by
  have := lp (fun n (s : Int32 × (Nat → Int32)) => T_J7_fill_53178_L5 N v (nI 12) 12 n s.1 s.2) (fun i s => s.1 = nI i ∧ ∀ j, j < i → s.2 j = v) (fun r => ∀ i, i < 12 → r i = v) 12
    (fun i s n hi ⟨h1, h2⟩ => by
      obtain ⟨s1, s2⟩ := s
      simp only at h1 h2
      subst h1
      refine .inl ⟨(nI i + 1, upd s2 (nI i).toNatClampNeg v), ⟨nI_1 i, ?_⟩, ?_⟩
      · intro j hj
        rw [nI_clamp (by omega)]
        by_cases e : j = i
        · subst e; exact pk_us
        · simp only; rw [pk_un e]; exact h2 j (by omega)
      · rw [T_J7_fill_53178_L5, if_neg (by rw [nI_leI (by omega) (by omega)]; omega), obN (by omega) (by omega)]; rfl)
    (fun s n ⟨h1, h2⟩ => ⟨s.2, by rw [T_J7_fill_53178_L5, h1, if_pos (by rw [nI_leI (by omega) (by omega)]; omega)], h2⟩)
    12 0 (0, f) N rfl ⟨rfl, fun j hj => absurd hj (Nat.not_lt_zero j)⟩ (by omega)
  exact this
theorem begin_i (N : Nat) (hN : 1000 ≤ N) (a b c d e : Int32) (w s : Nat → Int32) (v : Int32) : ∃ g : (Nat → Int32) × (Nat → Int32), T_X4_begin N a b c d e w s v = some (0, v, 0, 0, 0, g.1, g.2) ∧ ∀ i, i < 12 → g.1 i = 0 ∧ g.2 i = 1 := by
  obtain ⟨r, h1, g, rfl, h2⟩ := lp (fun n (s : Int32 × (Nat → Int32) × (Nat → Int32)) => T_X4_begin_L27 N 0 v 0 0 0 n s.1 s.2.1 s.2.2) (fun i s => s.1 = nI i ∧ ∀ j, j < i → s.2.1 j = 0 ∧ s.2.2 j = 1) (fun r => ∃ g : (Nat → Int32) × (Nat → Int32), r = (0, v, 0, 0, 0, g.1, g.2) ∧ ∀ i, i < 12 → g.1 i = 0 ∧ g.2 i = 1) 12
    (fun i s n hi ⟨h1, h2⟩ => by
      obtain ⟨s1, s2, s3⟩ := s
      simp only at h1 h2
      subst h1
      refine .inl ⟨(nI i + 1, upd s2 (nI i).toNatClampNeg 0, upd s3 (nI i).toNatClampNeg 1), ⟨nI_1 i, ?_⟩, ?_⟩
      · intro j hj
        rw [nI_clamp (by omega)]
        by_cases e : j = i
        · subst e; exact ⟨pk_us, pk_us⟩
        · simp only; rw [pk_un e, pk_un e]; exact h2 j (by omega)
      · simp only; rw [T_X4_begin_L27, l12, if_neg (by rw [nI_leI (by omega) (by omega)]; omega), obN (by omega) (by omega), obN (by omega) (by omega)]; rfl)
    (fun s n ⟨h1, h2⟩ => ⟨_, by simp only; rw [T_X4_begin_L27, h1, l12, if_pos (by rw [nI_leI (by omega) (by omega)]; omega)], (s.2.1, s.2.2), rfl, h2⟩)
    12 0 (0, w, s) N rfl ⟨rfl, fun j hj => absurd hj (Nat.not_lt_zero j)⟩ (by omega)
  exact ⟨g, h1, h2⟩
