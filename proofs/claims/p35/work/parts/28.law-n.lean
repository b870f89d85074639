/-! the law's own numbers -/
theorem low_n (v : Int32) {n : Nat} (h0 : 0 < n) (hn : n < 2 ^ 31) : ∃ j, j < n ∧ T_L_low 1000 v (nI n) = some (nI j) := by
  obtain ⟨q, hq, e⟩ := pk_andE v (m := 2147483647) 31 (by decide)
  refine ⟨q % n, Nat.mod_lt _ h0, ?_⟩
  rw [T_L_low, e, nz_ne (fun h => by rw [l0, nI_eq hn (by omega)] at h; omega), pk_rem hq h0 hn]
theorem lway_n {k m w : Nat} (hk : k ≤ 5) (hm : m < 2 ^ 30) (hw : w ≤ 3) : T_L_way (nI k) (nI m) (nI w) = nI (wayN k m w) := by
  unfold wayN
  rcases (show m % 2 = 0 ∨ m % 2 = 1 by omega) with h2 | h2 <;> by_cases h3 : m % 3 = 0 <;> by_cases k2 : k = 2 <;> by_cases k4 : k = 4 <;>
    simp (disch := omega) only [T_L_way, l0, l1, l2, l3, l4, jn, pk_rem, nI_eq, nI_add, h2, h3, k2, k4, reduceIte, Nat.reduceEqDiff, Nat.add_zero] <;>
    first
      | omega
      | rfl
      | (refine congrArg nI ?_; omega)
theorem lmany_all : ∀ k, k < 6 → ∀ s, s < 4 → ∀ c, c < 6 → T_L_many (nI k) (nI s) (nI c) = nI (stN k s c) := by decide +kernel
theorem lfar_all : ∀ a, a < 36 → ∀ b, b < 36 → T_L_far (nI a) (nI b) = nI (farN a b) := by decide +kernel
def ldI (p1 x5 x7 : Int32) : Int32 := (lt' (p1 / 6) fun x1 => (lt' (p1 - p1 / 6 * 6) fun x3 => (jn (fun (x9 : Int32) => (lt' (x1 + x9) fun x14 => (jn (fun (x16 : Int32) => (lt' (x3 + x16) fun x21 => (jn (fun (x23 : Int32) => (jn (fun (x28 : Int32) => ((6 * x23) + x28)) fun j29 => (if x21 ≤ 5 then (if 0 ≤ x21 then (j29 x21) else (j29 0)) else (j29 5)))) fun j24 => (if x14 ≤ 5 then (if 0 ≤ x14 then (j24 x14) else (j24 0)) else (j24 5))))) fun j17 => (if x5 = 0 then (j17 x7) else (if x5 = 2 then (j17 (0 - x7)) else (j17 0)))))) fun j10 => (if x5 = 1 then (j10 x7) else (if x5 = 3 then (j10 (0 - x7)) else (j10 0))))))
theorem ldrifts_e (p0 p1 p2 p3 p4 : Int32) : T_L_drifts p0 p1 p2 p3 p4 = ldI p1 (T_L_way p0 p2 p3) (T_L_many p0 p4 (p1 - p1 / 6 * 6)) := by
  unfold T_L_drifts ldI
  simp only [lt']
theorem ld_all : ∀ c, c < 36 → ∀ w, w < 4 → ∀ t, t < 3 → ldI (nI c) (nI w) (nI t) = nI (cbN c w t) := by decide +kernel
theorem st_le {k s c : Nat} (hk : k ≤ 5) (hs : s ≤ 3) (hc : c ≤ 5) : stN k s c ≤ 2 := (st_all k (by omega) s (by omega) c (by omega)).2.2
theorem ldrifts_n {k c m w s : Nat} (hk : k ≤ 5) (hc : c ≤ 35) (hm : m < 2 ^ 30) (hw : w ≤ 3) (hs : s ≤ 3) : T_L_drifts (nI k) (nI c) (nI m) (nI w) (nI s) = nI (nxN k c m w s) := by
  have h1 := wayN_le (k := k) (m := m) hw
  have h2 := st_le (c := c % 6) hk hs (by omega)
  rw [ldrifts_e, lway_n hk hm hw, l6, pk_rem (by omega) (by omega) (by omega), lmany_all k (by omega) s (by omega) (c % 6) (by omega), ld_all c (by omega) _ (by omega) _ (by omega), nxN]
theorem ldrift_n {k c m : Nat} {Wi Gi : Nat → Nat} {dv : Nat → Int32} (hd : ∀ i, i < 12 → dv (17 + i) = nI (Wi i + 4 * Gi i)) (hW : ∀ i, i < 12 → Wi i ≤ 3) (hG : ∀ i, i < 12 → Gi i ≤ 3) (hk : k ≤ 5) (hc : c ≤ 35) (hm : m < 2 ^ 30) : T_L_drift 1000 29 dv (nI k) (nI c) (nI m) = some (nI (itN Wi Gi k c m)) := by
  have h12 : m % 12 < 12 := Nat.mod_lt _ (by omega)
  have w := hW _ h12
  have g := hG _ h12
  rw [T_L_drift, l12, show (17 : Int32) = nI 17 from rfl, pk_rem (by omega) (by omega) (by omega), nI_add, obN (by omega) (by omega), nI_clamp (by omega), hd _ h12, l4]
  simp only [lt']
  rw [pk_rem (by omega) (by omega) (by omega), pk_div (by omega) (by omega) (by omega), show (Wi (m % 12) + 4 * Gi (m % 12)) % 4 = Wi (m % 12) by omega, show (Wi (m % 12) + 4 * Gi (m % 12)) / 4 = Gi (m % 12) by omega, ldrifts_n hk hc hm w g, itN]
/-- a month's drift is two cells at most -/
theorem cb_far : ∀ c, c < 36 → ∀ w, w < 4 → ∀ t, t < 3 → farN c (cbN c w t) ≤ 2 ∧ cbN c w t % 6 ≤ c % 6 + 2 := by decide +kernel
theorem it_far {Wi Gi : Nat → Nat} {k c m : Nat} (hW : ∀ i, i < 12 → Wi i ≤ 3) (hG : ∀ i, i < 12 → Gi i ≤ 3) (hk : k ≤ 5) (hc : c ≤ 35) : farN c (itN Wi Gi k c m) ≤ 2 ∧ itN Wi Gi k c m % 6 ≤ c % 6 + 2 := by
  have h12 : m % 12 < 12 := Nat.mod_lt _ (by omega)
  have h1 := wayN_le (k := k) (m := m) (hW _ h12)
  have h2 := st_le (c := c % 6) hk (hG _ h12) (by omega)
  exact cb_far c (by omega) _ (by omega) _ (by omega)
theorem run_col {Wi Gi : Nat → Nat} {k c mo : Nat} (hW : ∀ i, i < 12 → Wi i ≤ 3) (hG : ∀ i, i < 12 → Gi i ≤ 3) (hk : k ≤ 5) (hc : c ≤ 35) : ∀ j, runN Wi Gi k c mo j % 6 ≤ c % 6 + 2 * j
  | 0 => Nat.le_refl _
  | j + 1 => by
    have h := run_col (mo := mo) hW hG hk hc j
    have h2 := (it_far (m := mo + j) hW hG hk (runN_le (m := mo) hW hG hk hc j)).2
    rw [runN]; omega
theorem far14 : ∀ c, c < 36 → farN 14 c ≤ 6 ∧ farN c 14 ≤ 6 := by decide +kernel
theorem far_0 (c : Nat) : farN c c = 0 := by unfold farN adN; omega
theorem pole_t {A : Nat → Nat} {P : Nat} (hA : ∀ i, A i ≤ 35) (hP : P ≤ 3) : ∃ t, P ≤ t ∧ t ≤ 30 ∧ farN 14 (A t) ≤ 2 * (t - P) ∧ ∀ i, P ≤ i → i < t → ¬ farN 14 (A i) ≤ 2 * (i - P) := by
  obtain ⟨t, ⟨g1, g2, g3⟩, g4⟩ := pk_least (fun k => P ≤ k ∧ k ≤ 30 ∧ farN 14 (A k) ≤ 2 * (k - P)) ⟨P + 3, by omega, by omega, by have := (far14 (A (P + 3)) (by have := hA (P + 3); omega)).1; omega⟩
  exact ⟨t, g1, g2, g3, fun i i1 i2 i3 => g4 i i2 ⟨i1, by omega, i3⟩⟩
/-- out, and when -/
theorem out_t (A : Nat → Nat) : (∃ j, j ≤ 60 ∧ A j % 6 = 5 ∧ ∀ i, i < j → ¬ A i % 6 = 5) ∨ ∀ i, i ≤ 60 → ¬ A i % 6 = 5 := by
  by_cases h : ∃ k, k ≤ 60 ∧ A k % 6 = 5
  · obtain ⟨t, ⟨g1, g2⟩, g4⟩ := pk_least (fun k => k ≤ 60 ∧ A k % 6 = 5) h
    exact .inl ⟨t, g1, g2, fun i i1 i2 => g4 i i1 ⟨by omega, i2⟩⟩
  · exact .inr fun i i1 i2 => h ⟨i, i1, i2⟩
/-- the nearest: as near as told, none nearer, none so near ahead of it -/
theorem nr_at {A B : Nat → Nat} : ∀ i, (nrN A B i).2 = farN (A (nrN A B i).1) (B (nrN A B i).1) ∧ (nrN A B i).1 ≤ i ∧ (∀ k, k ≤ i → (nrN A B i).2 ≤ farN (A k) (B k)) ∧ ∀ k, k < (nrN A B i).1 → (nrN A B i).2 < farN (A k) (B k)
  | 0 => ⟨rfl, Nat.le_refl _, fun k hk => by obtain rfl : k = 0 := by omega
                                             exact Nat.le_refl _, fun k hk => absurd hk (Nat.not_lt_zero k)⟩
  | i + 1 => by
    obtain ⟨h1, h2, h3, h4⟩ := nr_at (A := A) (B := B) i
    rw [nrN]
    by_cases h : farN (A (i + 1)) (B (i + 1)) < (nrN A B i).2
    · rw [if_pos h]
      refine ⟨rfl, Nat.le_refl _, fun k hk => ?_, fun k hk => ?_⟩
      · by_cases e : k = i + 1
        · subst e; exact Nat.le_refl _
        · have := h3 k (by omega); show farN (A (i + 1)) (B (i + 1)) ≤ _; omega
      · have hk' : k < i + 1 := hk
        have := h3 k (by omega); show farN (A (i + 1)) (B (i + 1)) < _; omega
    · rw [if_neg h]
      refine ⟨h1, by omega, fun k hk => ?_, h4⟩
      by_cases e : k = i + 1
      · subst e; omega
      · exact h3 k (by omega)
theorem nr_c {A B : Nat → Nat} : ∀ i, nrN A B i = nrN B A i
  | 0 => by rw [nrN, nrN, farN_c]
  | i + 1 => by rw [nrN, nrN, nr_c i, farN_c]
/-- those who leave: the k-th pairs rise, there are so many -/
theorem tl_at {r : Nat → Bool} {k : Nat} (hk : k < 2 ^ 30) : ∀ n, n < 2 ^ 30 → (cntP r n ≤ k → tlP r (nI k) n = -nI 5) ∧ (k < cntP r n → ∃ q, q < n ∧ r q = true ∧ cntP r q = k ∧ tlP r (nI k) n = nI q)
  | 0, _ => ⟨fun _ => rfl, fun h => absurd h (Nat.not_lt_zero k)⟩
  | n + 1, hn => by
    obtain ⟨h1, h2⟩ := tl_at (r := r) hk n (by omega)
    have hc := cntP_le r n
    rw [cntP, tlP]
    cases hr : r n with
    | false =>
      simp only [Bool.false_eq_true, if_false]
      exact ⟨h1, fun h => by obtain ⟨q, q1, q2, q3, q4⟩ := h2 h; exact ⟨q, by omega, q2, q3, q4⟩⟩
    | true =>
      simp only [if_true]
      by_cases e : cntP r n = k
      · rw [if_pos (by rw [e])]
        exact ⟨fun h => absurd h (by omega), fun _ => ⟨n, by omega, hr, e, rfl⟩⟩
      · rw [if_neg (by rw [nI_eq (by omega) (by omega)]; exact e)]
        refine ⟨fun h => h1 (by omega), fun h => ?_⟩
        obtain ⟨q, q1, q2, q3, q4⟩ := h2 (by omega)
        exact ⟨q, by omega, q2, q3, q4⟩
theorem tl_rise {r : Nat → Bool} {k n : Nat} (hn : n < 2 ^ 30) (h : k + 1 < cntP r n) : tlP r (nI k) n < tlP r (nI (k + 1)) n := by
  have hc := cntP_le r n
  obtain ⟨q, q1, q2, q3, q4⟩ := (tl_at (r := r) (k := k) (by omega) n hn).2 (by omega)
  obtain ⟨q', p1, p2, p3, p4⟩ := (tl_at (r := r) (k := k + 1) (by omega) n hn).2 h
  rw [q4, p4, nI_ltI (by omega) (by omega)]
  rcases Nat.lt_or_ge q q' with g | g
  · exact g
  · have := cntP_mono r q' (q - q')
    rw [show q' + (q - q') = q by omega] at this
    omega
/-- found: the one that is, and two that are not -/
theorem fr_1 {Wi Gi Q : Nat → Nat} {k m e c : Nat} (h0 : Q 0 = k) (h1 : Q 1 = m) (h2 : Q 2 = e) : frN Wi Gi Q c 1 = decide (runN Wi Gi k c 0 m = e) := by
  subst h0 h1 h2
  simp only [frN, Nat.mul_zero, Nat.zero_add, Bool.true_and]
theorem fr_2 {Wi Gi Q : Nat → Nat} {k m e e' c : Nat} (h0 : Q 0 = k) (h1 : Q 1 = m) (h2 : Q 2 = e) (h3 : Q 3 = k) (h4 : Q 4 = m) (h5 : Q 5 = e') (he : ¬ e = e') : frN Wi Gi Q c 2 = false := by
  rw [frN, fr_1 h0 h1 h2]
  have : Q (3 * 1) = k ∧ Q (3 * 1 + 1) = m ∧ Q (3 * 1 + 2) = e' := ⟨h3, h4, h5⟩
  rw [this.1, this.2.1, this.2.2]
  by_cases h : runN Wi Gi k c 0 m = e
  · have : ¬ runN Wi Gi k c 0 m = e' := fun h' => he (h.symm.trans h')
    simp [this]
  · simp [h]
theorem cD_pos {F : Nat → Bool} {c : Nat} (hc : c < 36) (h : F c = true) : 0 < cD F 36 := by
  rw [cA_cD]
  rcases Nat.eq_zero_or_pos (cA F 36) with e | e
  · have := cA_0.mp e c hc
    rw [h] at this; cases this
  · exact e
theorem cD_zero {F : Nat → Bool} (h : ∀ c, c < 36 → F c = false) : cD F 36 = 0 := by
  rw [cA_cD]; exact cA_0.mpr h
theorem le_exists (F : Nat → Bool) {c : Nat} (hc : c < 36) (h : F c = true) : ∃ d, d ≤ c ∧ leN F 0 36 (nI d) := by
  obtain ⟨t, ⟨g1, g2⟩, g4⟩ := pk_least (fun k => k < 36 ∧ F k = true) ⟨c, hc, h⟩
  refine ⟨t, ?_, .inl ⟨t, Nat.zero_le _, g1, g2, fun d _ d2 => ?_, rfl⟩⟩
  · rcases Nat.lt_or_ge c t with q | q
    · exact absurd ⟨hc, h⟩ (g4 c q)
    · exact q
  · cases hF : F d with
    | false => rfl
    | true => exact absurd ⟨by omega, hF⟩ (g4 d d2)
/-- how a floe went fits its kind -/
theorem al_one {k f : Nat} {NR : Nat → Nat} {q w s c z : Nat} (hz : z = stN k s c) : alN k f (up7 NR 0 f q w s c (wayN k q w) z) 1 = true := by
  subst hz
  simp [alN, ntB, up7, upn]
