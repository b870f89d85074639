/-! the drift, in numbers -/
def wayN (k m w : Nat) : Nat :=
  if k = 2 then (if m % 2 = 1 then (w + 1) % 4 else w)
  else if k = 4 then (if m % 3 = 0 then ((if m % 2 = 1 then (w + 1) % 4 else w) + 2) % 4 else (if m % 2 = 1 then (w + 1) % 4 else w))
  else w
theorem wayN_le {k m w : Nat} (hw : w ≤ 3) : wayN k m w ≤ 3 := by
  unfold wayN
  repeat' split
  all_goals omega
theorem wayOf_n {k m w : Nat} (hk : k ≤ 5) (hm : m < 2 ^ 31) (hw : w ≤ 3) : T_X0_wayOf (nI k) (nI m) (nI w) = nI (wayN k m w) := by
  unfold wayN
  by_cases h2 : m % 2 = 1 <;> by_cases h3 : m % 3 = 0 <;> by_cases k2 : k = 2 <;> by_cases k4 : k = 4 <;>
    simp (disch := omega) only [T_X0_wayOf, l0, l1, l2, l3, l4, jn, pk_rem, nI_eq, nI_add, h2, h3, k2, k4, reduceIte, Nat.reduceEqDiff]
theorem wayBy_e : T_X4_wayBy = T_X0_wayOf := rfl
def stN (k s c : Nat) : Nat :=
  if k = 1 then (if s = 0 then 0 else if s = 3 then 2 else 1)
  else if k = 3 then (if c ≤ 1 ∧ s < 2 then 0 else if s = 0 then 0 else 1)
  else if k = 5 then (if 3 ≤ c then (if s = 3 then 1 else 0) else if s = 0 then 0 else if s = 3 then 2 else 1)
  else if s = 0 then 0 else 1
theorem st_all : ∀ k, k < 6 → ∀ s, s < 4 → ∀ c, c < 6 → T_X0_cellsOf (nI k) (nI s) (nI c) = nI (stN k s c) ∧ T_X4_stepsBy (nI k) (nI s) (nI c) = nI (stN k s c) ∧ stN k s c ≤ 2 := by decide +kernel
def goN (c w : Nat) : Nat :=
  if w = 0 then (if c % 6 = 5 then c else c + 1) else if w = 1 then (if 30 ≤ c then c else c + 6) else if w = 2 then (if c % 6 = 0 then c else c - 1) else if c < 6 then c else c - 6
theorem go_all : ∀ c, c < 36 → ∀ w, w < 4 → T_X4_stepTo (nI c) (nI w) = nI (goN c w) ∧ goN c w ≤ 35 := by decide +kernel
def cbN (c w t : Nat) : Nat := if t = 0 then c else if t = 1 then goN c w else goN (goN c w) w
def cbI (p1 x5 w : Int32) : Int32 :=
  if w = 0 then ((6 * (p1 / 6)) + (if ((p1 - p1 / 6 * 6) + x5) < 5 then ((p1 - p1 / 6 * 6) + x5) else 5)) else (if w = 1 then ((6 * (if ((p1 / 6) + x5) < 5 then ((p1 / 6) + x5) else 5)) + (p1 - p1 / 6 * 6)) else (if w = 2 then ((6 * (p1 / 6)) + (if 0 < ((p1 - p1 / 6 * 6) - x5) then ((p1 - p1 / 6 * 6) - x5) else 0)) else ((6 * (if 0 < ((p1 / 6) - x5) then ((p1 / 6) - x5) else 0)) + (p1 - p1 / 6 * 6))))
theorem cb_all : ∀ c, c < 36 → ∀ w, w < 4 → ∀ t, t < 3 → cbI (nI c) (nI t) (nI w) = nI (cbN c w t) ∧ cbN c w t ≤ 35 := by decide +kernel
/-- the cell a month on: kind, cell, month, the month's way and strength -/
def nxN (k c m w s : Nat) : Nat := cbN c (wayN k m w) (stN k s (c % 6))
theorem nxN_le {k c m w s : Nat} (hk : k ≤ 5) (hc : c ≤ 35) (hw : w ≤ 3) (hs : s ≤ 3) : nxN k c m w s ≤ 35 := by
  have h1 := wayN_le (k := k) (m := m) hw
  have h2 := (st_all k (by omega) s (by omega) (c % 6) (by omega)).2.2
  exact (cb_all c (by omega) (wayN k m w) (by omega) (stN k s (c % 6)) (by omega)).2
theorem cellBy_e (p0 p1 p2 p3 p4 : Int32) : T_X0_cellBy p0 p1 p2 p3 p4 = cbI p1 (T_X0_cellsOf p0 p4 (p1 - p1 / 6 * 6)) (T_X0_wayOf p0 p2 p3) := by simp only [T_X0_cellBy, lt', cbI]
theorem cellBy_n {k c m w s : Nat} (hk : k ≤ 5) (hc : c ≤ 35) (hm : m < 2 ^ 31) (hw : w ≤ 3) (hs : s ≤ 3) : T_X0_cellBy (nI k) (nI c) (nI m) (nI w) (nI s) = nI (nxN k c m w s) := by
  have h1 := wayN_le (k := k) (m := m) hw
  have h2 := st_all k (by omega) s (by omega) (c % 6) (by omega)
  have h3 := (cb_all c (by omega) (wayN k m w) (by omega) (stN k s (c % 6)) (by omega)).1
  rw [cellBy_e, wayOf_n hk hm hw, l6, pk_rem (by omega) (by omega) (by omega), h2.1, h3, nxN]
theorem drifts_n {N k c m w s : Nat} (hN : 1000 ≤ N) (hk : k ≤ 5) (hc : c ≤ 35) (hm : m < 2 ^ 31) (hw : w ≤ 3) (hs : s ≤ 3) : T_X4_drifts N (nI k) (nI c) (nI m) (nI w) (nI s) = some (nI (nxN k c m w s)) := by
  have h1 := wayN_le (k := k) (m := m) hw
  have h2 := st_all k (by omega) s (by omega) (c % 6) (by omega)
  have g1 := go_all c (by omega) (wayN k m w) (by omega)
  have g2 := go_all (goN c (wayN k m w)) (by omega) (wayN k m w) (by omega)
  obtain ⟨n, rfl⟩ : ∃ n, N = n + 3 := ⟨N - 3, by omega⟩
  rw [T_X4_drifts, wayBy_e, wayOf_n hk hm hw, l6, pk_rem (by omega) (by omega) (by omega), h2.2.1]
  simp only [lt']
  unfold nxN cbN
  have h5 := h2.2.2
  have hL0 : ∀ q x, T_X4_drifts_L23 (n + 3) (nI (wayN k m w)) (q + 1) (nI 0) x = some x := fun q x => by rw [T_X4_drifts_L23, if_pos (by decide)]
  have hL1 : ∀ q x, T_X4_drifts_L23 (n + 3) (nI (wayN k m w)) (q + 1) (nI 1) x = T_X4_drifts_L23 (n + 3) (nI (wayN k m w)) q (nI 0) (T_X4_stepTo x (nI (wayN k m w))) := fun q x => by rw [T_X4_drifts_L23, if_neg (by decide)]; simp only [lt']; rw [show nI 1 + (-1) = nI 0 from by decide]
  have hL2 : ∀ q x, T_X4_drifts_L23 (n + 3) (nI (wayN k m w)) (q + 1) (nI 2) x = T_X4_drifts_L23 (n + 3) (nI (wayN k m w)) q (nI 1) (T_X4_stepTo x (nI (wayN k m w))) := fun q x => by rw [T_X4_drifts_L23, if_neg (by decide)]; simp only [lt']; rw [show nI 2 + (-1) = nI 1 from by decide]
  generalize stN k s (c % 6) = t at h5
  obtain rfl | rfl | rfl : t = 0 ∨ t = 1 ∨ t = 2 := by omega
  · rw [hL0, if_pos rfl]
  · rw [hL1, hL0, g1.1, if_neg (by decide), if_pos rfl]
  · rw [hL2, hL1, hL0, g1.1, g2.1, if_neg (by decide), if_neg (by decide)]
/-- the winds of a sea: ways W, strengths G -/
def itN (W G : Nat → Nat) (k c m : Nat) : Nat := nxN k c m (W (m % 12)) (G (m % 12))
theorem itN_le {W G : Nat → Nat} {k c m : Nat} (hW : ∀ i, i < 12 → W i ≤ 3) (hG : ∀ i, i < 12 → G i ≤ 3) (hk : k ≤ 5) (hc : c ≤ 35) : itN W G k c m ≤ 35 := nxN_le hk hc (hW _ (by omega)) (hG _ (by omega))
theorem nextCell_n {N : Nat} {W G : Nat → Nat} {w g : Nat → Int32} {k c m : Nat} (ew : ∀ i, i < 12 → w i = nI (W i)) (eg : ∀ i, i < 12 → g i = nI (G i)) (hW : ∀ i, i < 12 → W i ≤ 3) (hG : ∀ i, i < 12 → G i ≤ 3) (hk : k ≤ 5) (hc : c ≤ 35) (hm : m < 2 ^ 31) : T_X1_nextCell N w g (nI k) (nI c) (nI m) = some (nI (itN W G k c m)) := by
  have h12 : m % 12 < 12 := Nat.mod_lt _ (by omega)
  rw [T_X1_nextCell, l12, pk_rem (by omega) (by omega) (by omega)]
  simp only [lt']
  rw [obN h12 (by omega), obN h12 (by omega), nI_clamp (by omega), ew _ h12, eg _ h12, cellBy_n hk hc hm (hW _ h12) (hG _ h12)]
  rfl
theorem driftsIn_n {N : Nat} (hN : 1000 ≤ N) {W G : Nat → Nat} {w g : Nat → Int32} {k c m : Nat} (ew : ∀ i, i < 12 → w i = nI (W i)) (eg : ∀ i, i < 12 → g i = nI (G i)) (hW : ∀ i, i < 12 → W i ≤ 3) (hG : ∀ i, i < 12 → G i ≤ 3) (hk : k ≤ 5) (hc : c ≤ 35) (hm : m < 2 ^ 31) : T_X4_driftsIn N w g (nI k) (nI c) (nI m) = some (nI (itN W G k c m)) := by
  have h12 : m % 12 < 12 := Nat.mod_lt _ (by omega)
  rw [T_X4_driftsIn, l12, pk_rem (by omega) (by omega) (by omega), obN h12 (by omega), obN h12 (by omega), nI_clamp (by omega), ew _ h12, eg _ h12, drifts_n hN hk hc hm (hW _ h12) (hG _ h12)]
  rfl
/-- the cell behind some months -/
def runN (W G : Nat → Nat) (k c m : Nat) : Nat → Nat
  | 0 => c
  | j + 1 => itN W G k (runN W G k c m j) (m + j)
theorem runN_le {W G : Nat → Nat} {k c m : Nat} (hW : ∀ i, i < 12 → W i ≤ 3) (hG : ∀ i, i < 12 → G i ≤ 3) (hk : k ≤ 5) (hc : c ≤ 35) : ∀ j, runN W G k c m j ≤ 35
  | 0 => hc
  | j + 1 => itN_le hW hG hk (runN_le hW hG hk hc j)
