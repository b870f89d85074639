theorem l0 : (0 : Int32) = nI 0 := rfl
theorem l1 : (1 : Int32) = nI 1 := rfl
theorem l2 : (2 : Int32) = nI 2 := rfl
theorem l3 : (3 : Int32) = nI 3 := rfl
theorem l4 : (4 : Int32) = nI 4 := rfl
theorem l5 : (5 : Int32) = nI 5 := rfl
theorem l6 : (6 : Int32) = nI 6 := rfl
theorem l7 : (7 : Int32) = nI 7 := rfl
theorem l8 : (8 : Int32) = nI 8 := rfl
theorem l9 : (9 : Int32) = nI 9 := rfl
theorem l10 : (10 : Int32) = nI 10 := rfl
theorem l11 : (11 : Int32) = nI 11 := rfl
theorem l12 : (12 : Int32) = nI 12 := rfl
theorem l30 : (30 : Int32) = nI 30 := rfl
theorem l35 : (35 : Int32) = nI 35 := rfl
theorem l36 : (36 : Int32) = nI 36 := rfl
theorem l60 : (60 : Int32) = nI 60 := rfl
theorem l99 : (99 : Int32) = nI 99 := rfl
theorem l127 : (127 : Int32) = nI 127 := rfl
theorem l150 : (150 : Int32) = nI 150 := rfl
theorem l999 : (999 : Int32) = nI 999 := rfl
/-- a test of a range: out of it, or a number in it -/
theorem wiE (p a b : Int32) : T_X3_within p a b = if p < a then nI 0 else if b < p then nI 0 else nI 1 := rfl
theorem wi (p : Int32) (b : Nat) (hb : b < 2 ^ 31) : T_X3_within p (nI 0) (nI b) = nI 0 ∨ ∃ j, j ≤ b ∧ p = nI j ∧ T_X3_within p (nI 0) (nI b) = nI 1 := by
  rw [wiE]
  by_cases h : p < nI 0
  · left; rw [if_pos h]
  · obtain ⟨j, hj, rfl⟩ := nI_of h
    by_cases hb' : nI b < nI j
    · left; rw [if_neg h, if_pos hb']
    · right
      refine ⟨j, ?_, rfl, by rw [if_neg h, if_neg hb']⟩
      rw [nI_ltI hb hj] at hb'; omega
theorem wi1 (p : Int32) (b : Nat) (hb : b < 2 ^ 31) : T_X3_within p (nI 1) (nI b) = nI 0 ∨ ∃ j, 1 ≤ j ∧ j ≤ b ∧ p = nI j ∧ T_X3_within p (nI 1) (nI b) = nI 1 := by
  rw [wiE]
  by_cases h1 : p < nI 1
  · left; rw [if_pos h1]
  · have h : ¬ p < 0 := fun h => h1 (Int32.lt_of_lt_of_le h (by decide))
    obtain ⟨j, hj, rfl⟩ := nI_of h
    by_cases hb' : nI b < nI j
    · left; rw [if_neg h1, if_pos hb']
    · right
      refine ⟨j, ?_, ?_, rfl, by rw [if_neg h1, if_neg hb']⟩
      · rw [nI_ltI hj (by omega)] at h1; omega
      · rw [nI_ltI hb hj] at hb'; omega
/-- a floe's number: none, or one of those there are -/
theorem wif (p : Int32) (b : Nat) (hb : b < 2 ^ 30) : T_X3_within p (nI 0) (nI b - nI 1) = nI 0 ∨ ∃ j, j < b ∧ p = nI j ∧ T_X3_within p (nI 0) (nI b - nI 1) = nI 1 := by
  rcases b with _ | b
  · left
    rw [wiE]
    by_cases h : p < nI 0
    · rw [if_pos h]
    · have : nI 0 - nI 1 < p := Int32.lt_of_lt_of_le (by decide) (Int32.not_lt.mp h)
      rw [if_neg h, if_pos this]
  · rw [show nI (b + 1) - nI 1 = nI b from nI_pred b]
    rcases wi p b (by omega) with h | ⟨j, h1, h2, h3⟩
    · exact .inl h
    · exact .inr ⟨j, by omega, h2, h3⟩
/-- a loop: a step at a time, or an end ahead of it -/
theorem lp {σ ρ : Type} (f : Nat → σ → Option ρ) (I : Nat → σ → Prop) (Q : ρ → Prop) (e : Nat)
    (hs : ∀ i s n, i < e → I i s → (∃ s', I (i + 1) s' ∧ f (n + 1) s = f n s') ∨ (∃ r, f (n + 1) s = some r ∧ Q r))
    (hx : ∀ s n, I e s → ∃ r, f (n + 1) s = some r ∧ Q r) :
    ∀ (d i : Nat) (s : σ) (n : Nat), i + d = e → I i s → d < n → ∃ r, f n s = some r ∧ Q r := by
  intro d
  induction d with
  | zero =>
    intro i s n hd hi hn
    obtain ⟨n, rfl⟩ := Nat.exists_eq_succ_of_ne_zero (show n ≠ 0 by omega)
    obtain rfl : i = e := by omega
    exact hx s n hi
  | succ d ih =>
    intro i s n hd hi hn
    obtain ⟨n, rfl⟩ := Nat.exists_eq_succ_of_ne_zero (show n ≠ 0 by omega)
    rcases hs i s n (by omega) hi with ⟨s', h1, h2⟩ | h
    · obtain ⟨r, h3, h4⟩ := ih (i + 1) s' n (by omega) h1 (by omega)
      exact ⟨r, by rw [h2]; exact h3, h4⟩
    · exact h
theorem obN {α : Type} {i n : Nat} {k : Option α} (h : i < n) (hn : n < 2 ^ 31) : ob (nI i) n k = k := ob_in (nI_in h hn)
theorem fill_i (N : Nat) (hN : 1000 ≤ N) (f : Nat → Int32) (v : Int32) : ∃ g, T_J7_fill_53178 N 12 f v = some g ∧ ∀ i, i < 12 → g i = v := by
  have := lp (fun n (s : Int32 × (Nat → Int32)) => T_J7_fill_53178_L5 N v (nI 12) 12 n s.1 s.2) (fun i s => s.1 = nI i ∧ ∀ j, j < i → s.2 j = v) (fun r => ∀ i, i < 12 → r i = v) 12
    (fun i s n hi ⟨h1, h2⟩ => by
      obtain ⟨s1, s2⟩ := s
      simp only at h1 h2
      subst h1
      refine .inl ⟨(nI i + 1, upd s2 (nI i).toNatClampNeg v), ⟨nI_1 i, ?_⟩, ?_⟩
      · intro j hj
        rw [nI_clamp (by omega)]
        by_cases e : j = i
        · subst e; exact pk_us
        · simp only; rw [pk_un e]; exact h2 j (by omega)
      · rw [T_J7_fill_53178_L5, if_neg (by rw [nI_leI (by omega) (by omega)]; omega), obN (by omega) (by omega)]; rfl)
    (fun s n ⟨h1, h2⟩ => ⟨s.2, by rw [T_J7_fill_53178_L5, h1, if_pos (by rw [nI_leI (by omega) (by omega)]; omega)], h2⟩)
    12 0 (0, f) N rfl ⟨rfl, fun j hj => absurd hj (Nat.not_lt_zero j)⟩ (by omega)
  exact this
theorem inF : T_X3_isFloe = fun a b => T_X3_within b (nI 0) (a - nI 1) := rfl
theorem inC : T_X3_isCell = fun a => T_X3_within a (nI 0) (nI 35) := rfl
theorem inK : T_X3_isKind = fun a => T_X3_within a (nI 0) (nI 5) := rfl
theorem wi3 (a b : Int32) : T_X3_isWind a b = if T_X3_within a (nI 0) (nI 3) = nI 0 then nI 0 else if T_X3_within b (nI 0) (nI 3) = nI 0 then nI 0 else nI 1 := rfl
/-- a sea of numbers, from its rows -/
def mkS (a b c d e : Nat) (w s k l f r n u : Nat → Nat) : SeaN := fun q => match q with
  | 0 => fun _ => a | 1 => fun _ => b | 2 => fun _ => c | 3 => fun _ => d | 4 => fun _ => e
  | 5 => w | 6 => s | 7 => k | 8 => l | 9 => f | 10 => r | 11 => n | _ => u
/-- a row of numbers with one anew -/
def upn (f : Nat → Nat) (k v : Nat) : Nat → Nat := fun j => if j = k then v else f j
theorem upn_s {f : Nat → Nat} {k v : Nat} : upn f k v k = v := if_pos rfl
theorem upn_n {f : Nat → Nat} {k v j : Nat} (h : j ≠ k) : upn f k v j = f j := if_neg h
theorem upn_p {f : Nat → Nat} {k v n b : Nat} (h : ∀ i, i < n → f i ≤ b) (hv : v ≤ b) (i : Nat) (hi : i < n) : upn f k v i ≤ b := by
  by_cases e : i = k
  · subst e; rw [upn_s]; exact hv
  · rw [upn_n e]; exact h i hi
theorem upn_u {g : Nat → Int32} {f : Nat → Nat} {k v n : Nat} (h : ∀ i, i < n → g i = nI (f i)) (i : Nat) (hi : i < n) : upd g k (nI v) i = nI (upn f k v i) := by
  by_cases e : i = k
  · subst e; rw [upn_s, pk_us]
  · rw [upn_n e, pk_un e]; exact h i hi
/-- one more at the end -/
theorem upn_p1 {f : Nat → Nat} {v n b : Nat} (h : ∀ i, i < n → f i ≤ b) (hv : v ≤ b) (i : Nat) (hi : i < n + 1) : upn f n v i ≤ b := by
  by_cases e : i = n
  · subst e; rw [upn_s]; exact hv
  · rw [upn_n e]; exact h i (by omega)
theorem upn_u1 {g : Nat → Int32} {f : Nat → Nat} {v n : Nat} (h : ∀ i, i < n → g i = nI (f i)) (i : Nat) (hi : i < n + 1) : upd g n (nI v) i = nI (upn f n v i) := by
  by_cases e : i = n
  · subst e; rw [upn_s, pk_us]
  · rw [upn_n e, pk_un e]; exact h i (by omega)
theorem wi_ne {p : Int32} {b : Nat} (hb : b < 2 ^ 31) (h : T_X3_within p (nI 0) (nI b) = nI 0) (j : Nat) (hj : j ≤ b) : ¬ p = nI j := by
  intro e
  subst e
  rw [wiE, if_neg (by rw [nI_ltI (by omega) (by omega)]; omega), if_neg (by rw [nI_ltI (by omega) (by omega)]; omega)] at h
  exact absurd h (by decide)
theorem upn_at {g : Nat → Int32} {f : Nat → Nat} {k v i : Nat} (h : i ≠ k → g i = nI (f i)) : upd g k (nI v) i = nI (upn f k v i) := by
  by_cases e : i = k
  · subst e; rw [upn_s, pk_us]
  · rw [upn_n e, pk_un e]; exact h e
def up7 (f : Nat → Nat) (n a0 a1 a2 a3 a4 a5 a6 : Nat) : Nat → Nat := upn (upn (upn (upn (upn (upn (upn f (7 * n) a0) (7 * n + 1) a1) (7 * n + 2) a2) (7 * n + 3) a3) (7 * n + 4) a4) (7 * n + 5) a5) (7 * n + 6) a6
theorem up7_u {g : Nat → Int32} {f : Nat → Nat} {n a0 a1 a2 a3 a4 a5 a6 : Nat} (h : ∀ i, i < 7 * n → g i = nI (f i)) (i : Nat) (hi : i < 7 * (n + 1)) : upd (upd (upd (upd (upd (upd (upd g (7 * n) (nI a0)) (7 * n + 1) (nI a1)) (7 * n + 2) (nI a2)) (7 * n + 3) (nI a3)) (7 * n + 4) (nI a4)) (7 * n + 5) (nI a5)) (7 * n + 6) (nI a6) i = nI (up7 f n a0 a1 a2 a3 a4 a5 a6 i) :=
  upn_at fun e6 => upn_at fun e5 => upn_at fun e4 => upn_at fun e3 => upn_at fun e2 => upn_at fun e1 => upn_at fun e0 => h i (by omega)
theorem up7_p {f : Nat → Nat} {n a0 a1 a2 a3 a4 a5 a6 : Nat} (ha : a0 ≤ 4 ∧ a1 ≤ 99 ∧ a2 ≤ 3 ∧ a3 ≤ 3 ∧ a4 ≤ 5 ∧ a5 ≤ 3 ∧ a6 ≤ 3) (h : ∀ k, k < n → f (7 * k) ≤ 4 ∧ f (7 * k + 1) ≤ 99 ∧ f (7 * k + 2) ≤ 3 ∧ f (7 * k + 3) ≤ 3 ∧ f (7 * k + 4) ≤ 5 ∧ f (7 * k + 5) ≤ 3 ∧ f (7 * k + 6) ≤ 3) (k : Nat) (hk : k < n + 1) :
    up7 f n a0 a1 a2 a3 a4 a5 a6 (7 * k) ≤ 4 ∧ up7 f n a0 a1 a2 a3 a4 a5 a6 (7 * k + 1) ≤ 99 ∧ up7 f n a0 a1 a2 a3 a4 a5 a6 (7 * k + 2) ≤ 3 ∧ up7 f n a0 a1 a2 a3 a4 a5 a6 (7 * k + 3) ≤ 3 ∧ up7 f n a0 a1 a2 a3 a4 a5 a6 (7 * k + 4) ≤ 5 ∧ up7 f n a0 a1 a2 a3 a4 a5 a6 (7 * k + 5) ≤ 3 ∧ up7 f n a0 a1 a2 a3 a4 a5 a6 (7 * k + 6) ≤ 3 := by
  unfold up7
  by_cases e : k = n
  · subst e
    simp (disch := omega) only [upn_n, upn_s]
    exact ha
  · simp (disch := omega) only [upn_n]
    exact h k (by omega)
def wayN (k m w : Nat) : Nat :=
  if k = 2 then (if m % 2 = 1 then (w + 1) % 4 else w)
  else if k = 4 then (if m % 3 = 0 then ((if m % 2 = 1 then (w + 1) % 4 else w) + 2) % 4 else (if m % 2 = 1 then (w + 1) % 4 else w))
  else w
theorem wayN_le {k m w : Nat} (hw : w ≤ 3) : wayN k m w ≤ 3 := by
  unfold wayN
  repeat' split
  all_goals omega
theorem wayOf_n {k m w : Nat} (hk : k ≤ 5) (hm : m < 2 ^ 31) (hw : w ≤ 3) : T_X0_wayOf (nI k) (nI m) (nI w) = nI (wayN k m w) := by
  unfold wayN
  by_cases h2 : m % 2 = 1 <;> by_cases h3 : m % 3 = 0 <;> by_cases k2 : k = 2 <;> by_cases k4 : k = 4 <;>
    simp (disch := omega) only [T_X0_wayOf, l0, l1, l2, l3, l4, jn, pk_rem, nI_eq, nI_add, h2, h3, k2, k4, reduceIte, Nat.reduceEqDiff]
def stN (k s c : Nat) : Nat :=
  if k = 1 then (if s = 0 then 0 else if s = 3 then 2 else 1)
  else if k = 3 then (if c ≤ 1 ∧ s < 2 then 0 else if s = 0 then 0 else 1)
  else if k = 5 then (if 3 ≤ c then (if s = 3 then 1 else 0) else if s = 0 then 0 else if s = 3 then 2 else 1)
  else if s = 0 then 0 else 1
theorem st_all : ∀ k, k < 6 → ∀ s, s < 4 → ∀ c, c < 6 → T_X0_cellsOf (nI k) (nI s) (nI c) = nI (stN k s c) ∧ True ∧ stN k s c ≤ 2 := by decide +kernel
def goN (c w : Nat) : Nat :=
  if w = 0 then (if c % 6 = 5 then c else c + 1) else if w = 1 then (if 30 ≤ c then c else c + 6) else if w = 2 then (if c % 6 = 0 then c else c - 1) else if c < 6 then c else c - 6
def cbN (c w t : Nat) : Nat := if t = 0 then c else if t = 1 then goN c w else goN (goN c w) w
def cbI (p1 x5 w : Int32) : Int32 :=
  if w = 0 then ((6 * (p1 / 6)) + (if ((p1 - p1 / 6 * 6) + x5) < 5 then ((p1 - p1 / 6 * 6) + x5) else 5)) else (if w = 1 then ((6 * (if ((p1 / 6) + x5) < 5 then ((p1 / 6) + x5) else 5)) + (p1 - p1 / 6 * 6)) else (if w = 2 then ((6 * (p1 / 6)) + (if 0 < ((p1 - p1 / 6 * 6) - x5) then ((p1 - p1 / 6 * 6) - x5) else 0)) else ((6 * (if 0 < ((p1 / 6) - x5) then ((p1 / 6) - x5) else 0)) + (p1 - p1 / 6 * 6))))
theorem cb_all : ∀ c, c < 36 → ∀ w, w < 4 → ∀ t, t < 3 → cbI (nI c) (nI t) (nI w) = nI (cbN c w t) ∧ cbN c w t ≤ 35 := by decide +kernel
/-- the cell a month on: kind, cell, month, the month's way and strength -/
def nxN (k c m w s : Nat) : Nat := cbN c (wayN k m w) (stN k s (c % 6))
theorem nxN_le {k c m w s : Nat} (hk : k ≤ 5) (hc : c ≤ 35) (hw : w ≤ 3) (hs : s ≤ 3) : nxN k c m w s ≤ 35 := by
  have h1 := wayN_le (k := k) (m := m) hw
  have h2 := (st_all k (by omega) s (by omega) (c % 6) (by omega)).2.2
  exact (cb_all c (by omega) (wayN k m w) (by omega) (stN k s (c % 6)) (by omega)).2
theorem cellBy_e (p0 p1 p2 p3 p4 : Int32) : T_X0_cellBy p0 p1 p2 p3 p4 = cbI p1 (T_X0_cellsOf p0 p4 (p1 - p1 / 6 * 6)) (T_X0_wayOf p0 p2 p3) := by simp only [T_X0_cellBy, lt', cbI]
theorem cellBy_n {k c m w s : Nat} (hk : k ≤ 5) (hc : c ≤ 35) (hm : m < 2 ^ 31) (hw : w ≤ 3) (hs : s ≤ 3) : T_X0_cellBy (nI k) (nI c) (nI m) (nI w) (nI s) = nI (nxN k c m w s) := by
  have h1 := wayN_le (k := k) (m := m) hw
  have h2 := st_all k (by omega) s (by omega) (c % 6) (by omega)
  have h3 := (cb_all c (by omega) (wayN k m w) (by omega) (stN k s (c % 6)) (by omega)).1
  rw [cellBy_e, wayOf_n hk hm hw, l6, pk_rem (by omega) (by omega) (by omega), h2.1, h3, nxN]
/-- the winds of a sea: ways W, strengths G -/
def itN (W G : Nat → Nat) (k c m : Nat) : Nat := nxN k c m (W (m % 12)) (G (m % 12))
theorem itN_le {W G : Nat → Nat} {k c m : Nat} (hW : ∀ i, i < 12 → W i ≤ 3) (hG : ∀ i, i < 12 → G i ≤ 3) (hk : k ≤ 5) (hc : c ≤ 35) : itN W G k c m ≤ 35 := nxN_le hk hc (hW _ (by omega)) (hG _ (by omega))
theorem nextCell_n {N : Nat} {W G : Nat → Nat} {w g : Nat → Int32} {k c m : Nat} (ew : ∀ i, i < 12 → w i = nI (W i)) (eg : ∀ i, i < 12 → g i = nI (G i)) (hW : ∀ i, i < 12 → W i ≤ 3) (hG : ∀ i, i < 12 → G i ≤ 3) (hk : k ≤ 5) (hc : c ≤ 35) (hm : m < 2 ^ 31) : T_X1_nextCell N w g (nI k) (nI c) (nI m) = some (nI (itN W G k c m)) := by
  have h12 : m % 12 < 12 := Nat.mod_lt _ (by omega)
  rw [T_X1_nextCell, l12, pk_rem (by omega) (by omega) (by omega)]
  simp only [lt']
  rw [obN h12 (by omega), obN h12 (by omega), nI_clamp (by omega), ew _ h12, eg _ h12, cellBy_n hk hc hm (hW _ h12) (hG _ h12)]
  rfl
/-- the cell behind some months -/
def runN (W G : Nat → Nat) (k c m : Nat) : Nat → Nat
  | 0 => c
  | j + 1 => itN W G k (runN W G k c m j) (m + j)
theorem runN_le {W G : Nat → Nat} {k c m : Nat} (hW : ∀ i, i < 12 → W i ≤ 3) (hG : ∀ i, i < 12 → G i ≤ 3) (hk : k ≤ 5) (hc : c ≤ 35) : ∀ j, runN W G k c m j ≤ 35
  | 0 => hc
  | j + 1 => itN_le hW hG hk (runN_le hW hG hk hc j)
theorem gcN {α : Type} {a b c n0 n1 : Nat} {k : Option α} (h0 : a + c ≤ n0) (h1 : b + c ≤ n1) (h2 : n0 < 2 ^ 30) (h3 : n1 < 2 ^ 30) : gc (nI a) (nI b) (nI c) n0 n1 k = k :=
  gc_in ⟨nI_pos (by omega), nI_pos (by omega), nI_pos (by omega), by rw [nI_clamp (by omega), nI_clamp (by omega)]; exact h0, by rw [nI_clamp (by omega), nI_clamp (by omega)]; exact h1⟩
/-- a month, cells and foods laid at a place -/
def laid (R base : Nat → Int32) (mo : Int32) (cells foods : Nat → Int32) (q : Nat) : Prop :=
  R q = mo ∧ (∀ f, f < 5 → R (q + 1 + f) = cells f ∧ R (q + 6 + f) = foods f) ∧ ∀ j, j < q ∨ q + 11 ≤ j → R j = base j
/-- the rows of what can be undone, one shifted off where they are full -/
def shR (u : Nat) (g : Nat → Int32) : Nat → Int32 := fun i => if u = 8 then g (i + 11) else g i
def kept (u : Nat) : Nat := if u = 8 then 7 else u
theorem cp_laid {v : Nat} (hv : v ≤ 7) (mo : Int32) (cells foods base : Nat → Int32) : laid (va_cpy foods (va_cpy cells (upd base (11 * v) mo) 0 (11 * v + 1) 5) 0 (11 * v + 1 + 5) 5) base mo cells foods (11 * v) := by
  refine ⟨?_, ?_, ?_⟩
  · rw [pk_cpy_out (by omega), pk_cpy_out (by omega), pk_us]
  · intro f hf
    constructor
    · rw [pk_cpy_out (by omega), pk_cpy_in (by omega) (by omega)]
      rw [show 0 + (11 * v + 1 + f - (11 * v + 1)) = f by omega]
    · rw [pk_cpy_in (by omega) (by omega)]
      rw [show 0 + (11 * v + 6 + f - (11 * v + 1 + 5)) = f by omega]
  · intro j hj
    rw [pk_cpy_out (by omega), pk_cpy_out (by omega), pk_un (by omega)]
theorem keep_n {N u : Nat} (hu : u ≤ 8) (mo : Int32) (cells foods rows : Nat → Int32) : ∃ R, T_X1_keepToUndo N mo (nI u) cells foods rows = some (nI (kept u + 1), R) ∧ R (11 * kept u) = mo ∧ (∀ f, f < 5 → R (11 * kept u + 1 + f) = cells f ∧ R (11 * kept u + 6 + f) = foods f) ∧ ∀ j, j < 11 * kept u → R j = shR u rows j := by
  have l77 : (77 : Int32) = nI 77 := rfl
  by_cases h8 : u = 8
  · subst h8
    have hl := cp_laid (v := 7) (by omega) mo cells foods (va_cpy rows rows 11 0 77)
    refine ⟨_, by rw [T_X1_keepToUndo]; simp (disch := omega) only [l0, l1, l2, l3, l4, l5, l6, l7, l8, l9, l10, l11, l12, l30, l35, l36, l60, l99, l127, l150, l999, nI_eq, nI_leI, nI_ltI, nI_1, nI_add, pk_mul, obN, nI_clamp, lt', jn, Option.bind_some, inF, inC, inK, wi3, T_X3_isFirstOrSecond, T_X3_refuseBad, T_X3_refuseFull, T_X3_refuseNo, reduceIte, Nat.reduceEqDiff, Nat.reduceLeDiff, Nat.reduceMul, Nat.reduceAdd, Nat.reduceSub, and_true, true_and, l77, gcN, pk_sub] <;> rfl, hl.1, hl.2.1, ?_⟩
    intro j hj
    have hj : j < 77 := hj
    refine (hl.2.2 j (by omega)).trans ?_
    rw [pk_cpy_in (by omega) (by omega), shR, if_pos rfl, show 11 + (j - 0) = j + 11 by omega]
  · have hk : kept u = u := if_neg h8
    rw [hk]
    have hl := cp_laid (v := u) (by omega) mo cells foods rows
    refine ⟨_, by rw [T_X1_keepToUndo]; simp (disch := omega) only [l0, l1, l2, l3, l4, l5, l6, l7, l8, l9, l10, l11, l12, l30, l35, l36, l60, l99, l127, l150, l999, nI_eq, nI_leI, nI_ltI, nI_1, nI_add, pk_mul, obN, nI_clamp, lt', jn, Option.bind_some, inF, inC, inK, wi3, T_X3_isFirstOrSecond, T_X3_refuseBad, T_X3_refuseFull, T_X3_refuseNo, reduceIte, Nat.reduceEqDiff, Nat.reduceLeDiff, Nat.reduceMul, Nat.reduceAdd, Nat.reduceSub, and_true, true_and, h8, gcN] <;> rfl, hl.1, hl.2.1, ?_⟩
    intro j hj
    refine (hl.2.2 j (by omega)).trans ?_
    rw [shR, if_neg h8]
/-- the numbers of what can be undone after one more is kept -/
def kuN (u mo : Nat) (cells foods rows : Nat → Nat) : Nat → Nat := fun i =>
  if i < 11 * kept u then (if u = 8 then rows (i + 11) else rows i)
  else if i = 11 * kept u then mo
  else if i < 11 * kept u + 6 then cells (i - (11 * kept u + 1)) else foods (i - (11 * kept u + 6))
theorem kept_le {u : Nat} (h : u ≤ 8) : kept u ≤ 7 ∧ kept u ≤ u ∧ (u = 8 → kept u = 7) ∧ (u ≠ 8 → kept u = u) := by
  unfold kept
  split <;> omega
theorem ku_rows {R rows cells foods : Nat → Int32} {C F Q : Nat → Nat} {u mo n : Nat} (hu : u ≤ 8) (hn : n ≤ 5)
    (h1 : R (11 * kept u) = nI mo) (h2 : ∀ f, f < 5 → R (11 * kept u + 1 + f) = cells f ∧ R (11 * kept u + 6 + f) = foods f) (h3 : ∀ j, j < 11 * kept u → R j = shR u rows j)
    (hc : ∀ f, f < n → cells f = nI (C f)) (hf : ∀ f, f < n → foods f = nI (F f))
    (hr : ∀ v, v < u → rows (11 * v) = nI (Q (11 * v)) ∧ ∀ f, f < n → rows (11 * v + 1 + f) = nI (Q (11 * v + 1 + f)) ∧ rows (11 * v + 6 + f) = nI (Q (11 * v + 6 + f)))
    (v : Nat) (hv : v < kept u + 1) : R (11 * v) = nI (kuN u mo C F Q (11 * v)) ∧ ∀ f, f < n → R (11 * v + 1 + f) = nI (kuN u mo C F Q (11 * v + 1 + f)) ∧ R (11 * v + 6 + f) = nI (kuN u mo C F Q (11 * v + 6 + f)) := by
  obtain ⟨k1, k2, k3, k4⟩ := kept_le hu
  by_cases e : v = kept u
  · subst e
    constructor
    · rw [h1, kuN, if_neg (by omega), if_pos rfl]
    · intro f hf'
      rw [(h2 f (by omega)).1, (h2 f (by omega)).2, hc f hf', hf f hf']
      constructor
      · rw [kuN, if_neg (by omega), if_neg (by omega), if_pos (by omega), show 11 * kept u + 1 + f - (11 * kept u + 1) = f by omega]
      · rw [kuN, if_neg (by omega), if_neg (by omega), if_neg (by omega), show 11 * kept u + 6 + f - (11 * kept u + 6) = f by omega]
  · by_cases h8 : u = 8
    · subst h8
      have hr' := hr (v + 1) (by omega)
      constructor
      · rw [h3 _ (by omega), shR, if_pos rfl, kuN, if_pos (by omega), if_pos rfl]
        exact hr'.1
      · intro f hf'
        have q := hr'.2 f hf'
        rw [h3 _ (by omega), h3 _ (by omega), shR, shR, if_pos rfl, if_pos rfl, kuN, kuN, if_pos (by omega), if_pos rfl, if_pos (by omega), if_pos rfl]
        rw [show 11 * v + 1 + f + 11 = 11 * (v + 1) + 1 + f by omega, show 11 * v + 6 + f + 11 = 11 * (v + 1) + 6 + f by omega]
        exact q
    · have hr' := hr v (by omega)
      constructor
      · rw [h3 _ (by omega), shR, if_neg h8, kuN, if_pos (by omega), if_neg h8]
        exact hr'.1
      · intro f hf'
        have q := hr'.2 f hf'
        rw [h3 _ (by omega), h3 _ (by omega), shR, shR, if_neg h8, if_neg h8, kuN, kuN, if_pos (by omega), if_neg h8, if_pos (by omega), if_neg h8]
        exact q
theorem ku_ok {C F Q : Nat → Nat} {u mo n : Nat} (hu : u ≤ 8) (hn : n ≤ 5) (hm : mo ≤ 999) (hc : ∀ f, f < n → C f ≤ 35) (hf : ∀ f, f < n → F f ≤ 99)
    (hr : ∀ v, v < u → Q (11 * v) ≤ 999 ∧ ∀ f, f < n → Q (11 * v + 1 + f) ≤ 35 ∧ Q (11 * v + 6 + f) ≤ 99)
    (v : Nat) (hv : v < kept u + 1) : kuN u mo C F Q (11 * v) ≤ 999 ∧ ∀ f, f < n → kuN u mo C F Q (11 * v + 1 + f) ≤ 35 ∧ kuN u mo C F Q (11 * v + 6 + f) ≤ 99 := by
  obtain ⟨k1, k2, k3, k4⟩ := kept_le hu
  by_cases e : v = kept u
  · subst e
    constructor
    · rw [kuN, if_neg (by omega), if_pos rfl]; exact hm
    · intro f hf'
      constructor
      · rw [kuN, if_neg (by omega), if_neg (by omega), if_pos (by omega), show 11 * kept u + 1 + f - (11 * kept u + 1) = f by omega]; exact hc f hf'
      · rw [kuN, if_neg (by omega), if_neg (by omega), if_neg (by omega), show 11 * kept u + 6 + f - (11 * kept u + 6) = f by omega]; exact hf f hf'
  · by_cases h8 : u = 8
    · subst h8
      have hr' := hr (v + 1) (by omega)
      constructor
      · rw [kuN, if_pos (by omega), if_pos rfl]
        exact hr'.1
      · intro f hf'
        have q := hr'.2 f hf'
        rw [kuN, kuN, if_pos (by omega), if_pos rfl, if_pos (by omega), if_pos rfl]
        rw [show 11 * v + 1 + f + 11 = 11 * (v + 1) + 1 + f by omega, show 11 * v + 6 + f + 11 = 11 * (v + 1) + 6 + f by omega]
        exact q
    · have hr' := hr v (by omega)
      constructor
      · rw [kuN, if_pos (by omega), if_neg h8]
        exact hr'.1
      · intro f hf'
        have q := hr'.2 f hf'
        rw [kuN, kuN, if_pos (by omega), if_neg h8, if_pos (by omega), if_neg h8]
        exact q
/-- how many of some floes are out -/
def outN (C : Nat → Nat) : Nat → Nat
  | 0 => 0
  | n + 1 => outN C n + if C n % 6 = 5 then 1 else 0
theorem outN_le (C : Nat → Nat) : ∀ n, outN C n ≤ n
  | 0 => Nat.le_refl 0
  | n + 1 => by
    have := outN_le C n
    rw [outN]
    split <;> omega
theorem isOut_n {c : Nat} (hc : c < 2 ^ 31) : T_X3_isOut (nI c) = nI (if c % 6 = 5 then 1 else 0) := by
  by_cases h : c % 6 = 5 <;> simp (disch := omega) only [T_X3_isOut, l0, l1, l5, l6, pk_rem, nI_eq, h, reduceIte, Nat.reduceEqDiff]
theorem floesOut_n {N n : Nat} (hN : 1000 ≤ N) (hn : n ≤ 5) {cells : Nat → Int32} {C : Nat → Nat} (hc : ∀ f, f < n → cells f = nI (C f)) (hC : ∀ f, f < n → C f ≤ 35) : T_X1_floesOut N (nI n) cells = some (nI (outN C n)) := by
  obtain ⟨r, h1, rfl⟩ := lp (fun k (s : Int32 × Int32) => T_X1_floesOut_L4 N (nI n) cells k s.1 s.2) (fun i s => s.2 = nI i ∧ s.1 = nI (outN C i)) (fun r => r = nI (outN C n)) n
    (fun i s k hi ⟨h1, h2⟩ => by
      obtain ⟨s1, s2⟩ := s
      simp only at h1 h2
      subst h1 h2
      refine .inl ⟨(nI (outN C (i + 1)), nI (i + 1)), ⟨rfl, rfl⟩, ?_⟩
      have hn5 : ¬ n ≤ i := by omega
      have e1 := hc i hi
      have e2 := isOut_n (c := C i) (by have := hC i hi; omega)
      have e3 := outN_le C i
      simp only
      rw [T_X1_floesOut_L4, outN]
      by_cases h : C i % 6 = 5
      · simp (disch := omega) only [l0, l1, l2, l3, l4, l5, l6, l7, l8, l9, l10, l11, l12, l30, l35, l36, l60, l99, l127, l150, l999, nI_eq, nI_leI, nI_ltI, nI_1, nI_add, pk_mul, obN, nI_clamp, lt', jn, Option.bind_some, inF, inC, inK, wi3, T_X3_isFirstOrSecond, T_X3_refuseBad, T_X3_refuseFull, T_X3_refuseNo, reduceIte, Nat.reduceEqDiff, Nat.reduceLeDiff, Nat.reduceMul, Nat.reduceAdd, Nat.reduceSub, and_true, true_and, hn5, e1, e2, h]
      · simp (disch := omega) only [l0, l1, l2, l3, l4, l5, l6, l7, l8, l9, l10, l11, l12, l30, l35, l36, l60, l99, l127, l150, l999, nI_eq, nI_leI, nI_ltI, nI_1, nI_add, pk_mul, obN, nI_clamp, lt', jn, Option.bind_some, inF, inC, inK, wi3, T_X3_isFirstOrSecond, T_X3_refuseBad, T_X3_refuseFull, T_X3_refuseNo, reduceIte, Nat.reduceEqDiff, Nat.reduceLeDiff, Nat.reduceMul, Nat.reduceAdd, Nat.reduceSub, and_true, true_and, hn5, e1, e2, h, Nat.add_zero])
    (fun s k ⟨h1, h2⟩ => ⟨_, by (try simp only); rw [T_X1_floesOut_L4, h1, h2]; simp (disch := omega) only [l0, l1, l2, l3, l4, l5, l6, l7, l8, l9, l10, l11, l12, l30, l35, l36, l60, l99, l127, l150, l999, nI_eq, nI_leI, nI_ltI, nI_1, nI_add, pk_mul, obN, nI_clamp, lt', jn, Option.bind_some, inF, inC, inK, wi3, T_X3_isFirstOrSecond, T_X3_refuseBad, T_X3_refuseFull, T_X3_refuseNo, reduceIte, Nat.reduceEqDiff, Nat.reduceLeDiff, Nat.reduceMul, Nat.reduceAdd, Nat.reduceSub, and_true, true_and, Nat.le_refl] <;> rfl, rfl⟩)
    n 0 (0, 0) N (by omega) ⟨rfl, rfl⟩ (by omega)
  exact h1
