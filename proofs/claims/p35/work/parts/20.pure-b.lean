/-- a month goes by: month, cells, foods -/
def mvN (W G K : Nat → Nat) (s : Nat × (Nat → Nat) × (Nat → Nat)) : Nat × (Nat → Nat) × (Nat → Nat) :=
  if s.1 < 999 then (s.1 + 1, fun f => itN W G (K f) (s.2.1 f) s.1, fun f => s.2.2 f - 1) else s
def mvs (W G K : Nat → Nat) (s : Nat × (Nat → Nat) × (Nat → Nat)) : Nat → Nat × (Nat → Nat) × (Nat → Nat)
  | 0 => s
  | i + 1 => mvN W G K (mvs W G K s i)
def okM (n : Nat) (s : Nat × (Nat → Nat) × (Nat → Nat)) : Prop := s.1 ≤ 999 ∧ (∀ f, f < n → s.2.1 f ≤ 35) ∧ ∀ f, f < n → s.2.2 f ≤ 99
theorem mvN_ok {W G K : Nat → Nat} {n : Nat} (hW : ∀ i, i < 12 → W i ≤ 3) (hG : ∀ i, i < 12 → G i ≤ 3) (hK : ∀ f, f < n → K f ≤ 5) {s : Nat × (Nat → Nat) × (Nat → Nat)} (h : okM n s) : okM n (mvN W G K s) := by
  obtain ⟨h1, h2, h3⟩ := h
  by_cases hm : s.1 < 999
  · rw [mvN, if_pos hm]
    exact ⟨by show s.1 + 1 ≤ 999; omega, fun f hf => itN_le hW hG (hK f hf) (h2 f hf), fun f hf => by have := h3 f hf; show s.2.2 f - 1 ≤ 99; omega⟩
  · rw [mvN, if_neg hm]; exact ⟨h1, h2, h3⟩
theorem mvs_ok {W G K : Nat → Nat} {n : Nat} (hW : ∀ i, i < 12 → W i ≤ 3) (hG : ∀ i, i < 12 → G i ≤ 3) (hK : ∀ f, f < n → K f ≤ 5) {s : Nat × (Nat → Nat) × (Nat → Nat)} (h : okM n s) : ∀ i, okM n (mvs W G K s i)
  | 0 => h
  | i + 1 => mvN_ok hW hG hK (mvs_ok hW hG hK h i)
def eqM (n : Nat) (s : Nat × (Nat → Nat) × (Nat → Nat)) (mo : Int32) (c f : Nat → Int32) : Prop := mo = nI s.1 ∧ (∀ i, i < n → c i = nI (s.2.1 i)) ∧ ∀ i, i < n → f i = nI (s.2.2 i)
theorem dec_n {q : Nat} (h : q < 2 ^ 30) : (if nI 0 < nI q - nI 1 then nI q - nI 1 else nI 0) = nI (q - 1) := by
  rcases q with _ | q
  · rfl
  · rw [show nI (q + 1) - nI 1 = nI q from nI_pred q]
    by_cases e : 0 < q
    · rw [if_pos ((nI_ltI (by omega) (by omega)).mpr e)]; rfl
    · rw [if_neg (fun h => e ((nI_ltI (by omega) (by omega)).mp h))]
      obtain rfl : q = 0 := by omega
      rfl
theorem passMonth_n {N n : Nat} {W G K : Nat → Nat} (hN : 1000 ≤ N) (hn : n ≤ 5) {w g k cells foods : Nat → Int32} {s : Nat × (Nat → Nat) × (Nat → Nat)} {mo : Int32}
    (ew : ∀ i, i < 12 → w i = nI (W i)) (eg : ∀ i, i < 12 → g i = nI (G i)) (hW : ∀ i, i < 12 → W i ≤ 3) (hG : ∀ i, i < 12 → G i ≤ 3) (ek : ∀ f, f < n → k f = nI (K f)) (hK : ∀ f, f < n → K f ≤ 5)
    (hs : okM n s) (he : eqM n s mo cells foods) : ∃ mo' c f, T_X1_passMonth N mo (nI n) w g k cells foods = some (mo', c, f) ∧ eqM n (mvN W G K s) mo' c f := by
  obtain ⟨h1, h2, h3⟩ := hs
  obtain ⟨rfl, g2, g3⟩ := he
  by_cases hm : s.1 < 999
  · rw [T_X1_passMonth, mvN, if_pos hm]
    obtain ⟨r, e1, c, f, rfl, e2, e3⟩ := lp (fun j (q : Int32 × (Nat → Int32) × (Nat → Int32)) => T_X1_passMonth_L13 N (nI s.1) (nI n) w g k (fun z33 z34 => some (nI s.1 + 1, z33, z34)) j q.1 q.2.1 q.2.2)
      (fun i q => q.1 = nI i ∧ (∀ f, f < n → q.2.1 f = if f < i then nI (itN W G (K f) (s.2.1 f) s.1) else nI (s.2.1 f)) ∧ ∀ f, f < n → q.2.2 f = if f < i then nI (s.2.2 f - 1) else nI (s.2.2 f))
      (fun r => ∃ c f, r = (nI s.1 + 1, c, f) ∧ (∀ i, i < n → c i = nI (itN W G (K i) (s.2.1 i) s.1)) ∧ ∀ i, i < n → f i = nI (s.2.2 i - 1)) n
      (fun i q j hi ⟨a1, a2, a3⟩ => by
        obtain ⟨q1, q2, q3⟩ := q
        simp only at a1 a2 a3
        subst a1
        have b2 := a2 i hi
        have b3 := a3 i hi
        rw [if_neg (Nat.lt_irrefl i)] at b2 b3
        have hn5 : ¬ n ≤ i := by omega
        have hi5 : i < 5 := by omega
        have c2 := h2 i hi
        have c3 := h3 i hi
        refine .inl ⟨(nI (i + 1), upd q2 i (nI (itN W G (K i) (s.2.1 i) s.1)), upd q3 i (nI (s.2.2 i - 1))), ⟨rfl, ?_, ?_⟩, ?_⟩
        · intro f hf
          simp only
          by_cases e : f = i
          · subst e; rw [pk_us, if_pos (by omega)]
          · rw [pk_un e, a2 f hf]
            by_cases e' : f < i
            · rw [if_pos e', if_pos (by omega)]
            · rw [if_neg e', if_neg (by omega)]
        · intro f hf
          simp only
          by_cases e : f = i
          · subst e; rw [pk_us, if_pos (by omega)]
          · rw [pk_un e, a3 f hf]
            by_cases e' : f < i
            · rw [if_pos e', if_pos (by omega)]
            · rw [if_neg e', if_neg (by omega)]
        · have nx := nextCell_n (N := N) (m := s.1) ew eg hW hG (hK i hi) c2 (by omega)
          have ek' := ek i hi
          have dn := dec_n (q := s.2.2 i) (by omega)
          (try simp only)
          rw [T_X1_passMonth_L13]
          simp (disch := omega) only [l0, l1, l2, l3, l4, l5, l6, l7, l8, l9, l10, l11, l12, l30, l35, l36, l60, l99, l127, l150, l999, nI_eq, nI_leI, nI_ltI, nI_1, nI_add, pk_mul, obN, nI_clamp, lt', jn, Option.bind_some, inF, inC, inK, wi3, T_X3_isFirstOrSecond, T_X3_refuseBad, T_X3_refuseFull, T_X3_refuseNo, reduceIte, Nat.reduceEqDiff, Nat.reduceLeDiff, Nat.reduceMul, Nat.reduceAdd, Nat.reduceSub, and_true, true_and, hn5, b2, b3, ek', nx, dn])
      (fun q j ⟨a1, a2, a3⟩ => ⟨_, by (try simp only); rw [T_X1_passMonth_L13, a1]; simp (disch := omega) only [l0, l1, l2, l3, l4, l5, l6, l7, l8, l9, l10, l11, l12, l30, l35, l36, l60, l99, l127, l150, l999, nI_eq, nI_leI, nI_ltI, nI_1, nI_add, pk_mul, obN, nI_clamp, lt', jn, Option.bind_some, inF, inC, inK, wi3, T_X3_isFirstOrSecond, T_X3_refuseBad, T_X3_refuseFull, T_X3_refuseNo, reduceIte, Nat.reduceEqDiff, Nat.reduceLeDiff, Nat.reduceMul, Nat.reduceAdd, Nat.reduceSub, and_true, true_and, Nat.le_refl] <;> rfl, q.2.1, q.2.2, rfl, fun i hi => (a2 i hi).trans (if_pos hi), fun i hi => (a3 i hi).trans (if_pos hi)⟩)
      n 0 (0, cells, foods) N (by omega) ⟨rfl, fun f hf => (g2 f hf).trans (if_neg (Nat.not_lt_zero f)).symm, fun f hf => (g3 f hf).trans (if_neg (Nat.not_lt_zero f)).symm⟩ (by omega)
    rw [l999, if_pos ((nI_ltI (by omega) (by omega)).mpr hm)]
    exact ⟨_, c, f, e1, nI_1 _, e2, e3⟩
  · rw [T_X1_passMonth, mvN, if_neg hm, l999, if_neg (fun h => hm ((nI_ltI (by omega) (by omega)).mp h))]
    exact ⟨_, _, _, rfl, rfl, g2, g3⟩
theorem drifted_n {N k c mo j : Nat} {W G : Nat → Nat} {w g : Nat → Int32} (hN : 1000 ≤ N) (ew : ∀ i, i < 12 → w i = nI (W i)) (eg : ∀ i, i < 12 → g i = nI (G i)) (hW : ∀ i, i < 12 → W i ≤ 3) (hG : ∀ i, i < 12 → G i ≤ 3) (hk : k ≤ 5) (hc : c ≤ 35) (hm : mo ≤ 2000) (hj : j ≤ 200) : T_X1_drifted N w g (nI k) (nI c) (nI mo) (nI j) = some (nI (runN W G k c mo j)) := by
  obtain ⟨r, h1, rfl⟩ := lp (fun n (s : Int32 × Int32) => T_X1_drifted_L6 N (nI k) (nI mo) (nI j) w g n s.1 s.2) (fun i s => s.2 = nI i ∧ s.1 = nI (runN W G k c mo i)) (fun r => r = nI (runN W G k c mo j)) j
    (fun i s n hi ⟨h1, h2⟩ => by
      obtain ⟨s1, s2⟩ := s
      simp only at h1 h2
      subst h1 h2
      refine .inl ⟨(nI (runN W G k c mo (i + 1)), nI (i + 1)), ⟨rfl, rfl⟩, ?_⟩
      have hn5 : ¬ j ≤ i := by omega
      have nx := nextCell_n (N := N) (m := mo + i) ew eg hW hG hk (runN_le (m := mo) hW hG hk hc i) (by omega)
      (try simp only)
      rw [T_X1_drifted_L6, runN]
      simp (disch := omega) only [l0, l1, l2, l3, l4, l5, l6, l7, l8, l9, l10, l11, l12, l30, l35, l36, l60, l99, l127, l150, l999, nI_eq, nI_leI, nI_ltI, nI_1, nI_add, pk_mul, obN, nI_clamp, lt', jn, Option.bind_some, inF, inC, inK, wi3, T_X3_isFirstOrSecond, T_X3_refuseBad, T_X3_refuseFull, T_X3_refuseNo, reduceIte, Nat.reduceEqDiff, Nat.reduceLeDiff, Nat.reduceMul, Nat.reduceAdd, Nat.reduceSub, and_true, true_and, hn5, nx])
    (fun s n ⟨h1, h2⟩ => ⟨_, by (try simp only); rw [T_X1_drifted_L6, h1, h2]; simp (disch := omega) only [l0, l1, l2, l3, l4, l5, l6, l7, l8, l9, l10, l11, l12, l30, l35, l36, l60, l99, l127, l150, l999, nI_eq, nI_leI, nI_ltI, nI_1, nI_add, pk_mul, obN, nI_clamp, lt', jn, Option.bind_some, inF, inC, inK, wi3, T_X3_isFirstOrSecond, T_X3_refuseBad, T_X3_refuseFull, T_X3_refuseNo, reduceIte, Nat.reduceEqDiff, Nat.reduceLeDiff, Nat.reduceMul, Nat.reduceAdd, Nat.reduceSub, and_true, true_and, Nat.le_refl] <;> rfl, rfl⟩)
    j 0 (nI c, 0) N (by omega) ⟨rfl, rfl⟩ (by omega)
  exact h1
/-- out first after j months, or not in so many -/
def foN (W G : Nat → Nat) (k c mo e : Nat) (r : Option Int32) : Prop :=
  (∃ j, j ≤ e ∧ runN W G k c mo j % 6 = 5 ∧ (∀ i, i < j → ¬ runN W G k c mo i % 6 = 5) ∧ r = some (nI j)) ∨ ((∀ i, i ≤ e → ¬ runN W G k c mo i % 6 = 5) ∧ r = some (-1))
theorem firstOut_n {N k c mo : Nat} {W G : Nat → Nat} {w g : Nat → Int32} (hN : 1000 ≤ N) (ew : ∀ i, i < 12 → w i = nI (W i)) (eg : ∀ i, i < 12 → g i = nI (G i)) (hW : ∀ i, i < 12 → W i ≤ 3) (hG : ∀ i, i < 12 → G i ≤ 3) (hk : k ≤ 5) (hc : c ≤ 35) (hm : mo ≤ 2000) : foN W G k c mo 60 (T_X1_firstOut N (nI mo) w g (nI k) (nI c)) := by
  obtain ⟨r, h1, h2⟩ := lp (fun n (s : Int32 × Int32) => T_X1_firstOut_L5 N (nI k) (nI mo) w g n s.1 s.2) (fun i s => s.2 = nI i ∧ s.1 = nI (runN W G k c mo i) ∧ ∀ j, j < i → ¬ runN W G k c mo j % 6 = 5) (fun r => foN W G k c mo 60 (some r)) 61
    (fun i s n hi ⟨h1, h2, h3⟩ => by
      obtain ⟨s1, s2⟩ := s
      simp only at h1 h2
      subst h1 h2
      have hn5 : ¬ 60 < i := by omega
      have hr := runN_le (m := mo) hW hG hk hc i
      have nx := nextCell_n (N := N) (m := mo + i) ew eg hW hG hk hr (by omega)
      have io := isOut_n (c := runN W G k c mo i) (by omega)
      by_cases ho : runN W G k c mo i % 6 = 5
      · refine .inr ⟨nI i, ?_, .inl ⟨i, by omega, ho, h3, rfl⟩⟩
        rw [if_pos ho] at io
        (try simp only)
        rw [T_X1_firstOut_L5]
        simp (disch := omega) only [l0, l1, l2, l3, l4, l5, l6, l7, l8, l9, l10, l11, l12, l30, l35, l36, l60, l99, l127, l150, l999, nI_eq, nI_leI, nI_ltI, nI_1, nI_add, pk_mul, obN, nI_clamp, lt', jn, Option.bind_some, inF, inC, inK, wi3, T_X3_isFirstOrSecond, T_X3_refuseBad, T_X3_refuseFull, T_X3_refuseNo, reduceIte, Nat.reduceEqDiff, Nat.reduceLeDiff, Nat.reduceMul, Nat.reduceAdd, Nat.reduceSub, and_true, true_and, hn5, io]
      · refine .inl ⟨(nI (runN W G k c mo (i + 1)), nI (i + 1)), ⟨rfl, rfl, fun j hj => by
          by_cases e : j = i
          · subst e; exact ho
          · exact h3 j (by omega)⟩, ?_⟩
        rw [if_neg ho] at io
        (try simp only)
        rw [T_X1_firstOut_L5, runN]
        simp (disch := omega) only [l0, l1, l2, l3, l4, l5, l6, l7, l8, l9, l10, l11, l12, l30, l35, l36, l60, l99, l127, l150, l999, nI_eq, nI_leI, nI_ltI, nI_1, nI_add, pk_mul, obN, nI_clamp, lt', jn, Option.bind_some, inF, inC, inK, wi3, T_X3_isFirstOrSecond, T_X3_refuseBad, T_X3_refuseFull, T_X3_refuseNo, reduceIte, Nat.reduceEqDiff, Nat.reduceLeDiff, Nat.reduceMul, Nat.reduceAdd, Nat.reduceSub, and_true, true_and, hn5, nx, io])
    (fun s n ⟨h1, h2, h3⟩ => ⟨-1, by (try simp only); rw [T_X1_firstOut_L5, h1, h2, l60, if_pos (by decide)], .inr ⟨fun i hi => h3 i (by omega), rfl⟩⟩)
    61 0 (nI c, 0) N (by omega) ⟨rfl, rfl, fun j hj => absurd hj (Nat.not_lt_zero j)⟩ (by omega)
  rw [T_X1_firstOut]
  rw [show T_X1_firstOut_L5 N (nI k) (nI mo) w g N (nI c) 0 = some r from h1]
  exact h2
theorem ne1 {j : Nat} (h : j < 2 ^ 31) : ¬ nI j = -nI 1 := fun e => nI_pos h (by rw [e]; decide)
theorem subP {j q : Nat} (hj : j < 2 ^ 30) (hq : q < 2 ^ 30) : (if nI 0 < nI j - nI q then nI j - nI q else nI 0) = nI (j - q) := by
  by_cases h : q ≤ j
  · rw [pk_sub h]
    by_cases e : 0 < j - q
    · rw [if_pos ((nI_ltI (by omega) (by omega)).mpr e)]
    · rw [if_neg (fun h => e ((nI_ltI (by omega) (by omega)).mp h)), show j - q = 0 by omega]
  · have hn := pk_sneg (a := j) (b := q) hq (by omega)
    rw [if_neg (fun (h : nI 0 < nI j - nI q) => Int32.lt_asymm h hn), show j - q = 0 by omega]
theorem sh6 : ∀ i, i < 6 → ∃ v, v < 64 ∧ nI 1 <<< (nI i &&& 31) = nI v := by decide +kernel
def adN (a b : Nat) : Nat := (a - b) + (b - a)
def farN (a b : Nat) : Nat := adN (a / 6) (b / 6) + adN (a % 6) (b % 6)
theorem abI : ∀ a, a < 6 → ∀ b, b < 6 → (if nI 0 ≤ nI a - nI b then nI a - nI b else nI 0 - (nI a - nI b)) = nI (adN a b) ∧ (if nI 0 ≤ nI a - nI b then nI a - nI b else -(nI a - nI b)) = nI (adN a b) ∧ adN a b ≤ 5 := by decide +kernel
theorem far_n {a b : Nat} (ha : a ≤ 35) (hb : b ≤ 35) : T_X3_far (nI a) (nI b) = nI (farN a b) ∧ farN a b ≤ 10 := by
  have h1 := abI (a / 6) (by omega) (b / 6) (by omega)
  have h2 := abI (a % 6) (by omega) (b % 6) (by omega)
  refine ⟨?_, by unfold farN; omega⟩
  rw [T_X3_far, l0, l6, pk_rem (by omega) (by omega) (by omega), pk_rem (by omega) (by omega) (by omega), pk_div (by omega) (by omega) (by omega), pk_div (by omega) (by omega) (by omega), h1.1, h2.1, nI_add]
  rfl
/-- the nearest that two come: behind how many months, how near -/
def nrN (A B : Nat → Nat) : Nat → Nat × Nat
  | 0 => (0, farN (A 0) (B 0))
  | i + 1 => if farN (A (i + 1)) (B (i + 1)) < (nrN A B i).2 then (i + 1, farN (A (i + 1)) (B (i + 1))) else nrN A B i
theorem nrN_le {A B : Nat → Nat} (hA : ∀ i, A i ≤ 35) (hB : ∀ i, B i ≤ 35) : ∀ i, (nrN A B i).2 ≤ 10 ∧ (nrN A B i).1 ≤ i
  | 0 => ⟨(far_n (hA 0) (hB 0)).2, Nat.le_refl 0⟩
  | i + 1 => by
    have h := nrN_le hA hB i
    have h2 := (far_n (hA (i + 1)) (hB (i + 1))).2
    unfold nrN
    split
    · exact ⟨h2, Nat.le_refl _⟩
    · exact ⟨h.1, by omega⟩
theorem dogMonths_n {d : Nat} (h : d ≤ 10) : T_X3_dogMonths (nI d) = nI ((d + 1) / 2) := by
  rw [T_X3_dogMonths, l1, l2, nI_add, pk_sub (by omega), pk_div (by omega) (by omega) (by omega), show d + 2 - 1 = d + 1 by omega]
def b2 (b : Bool) : Int32 := if b then nI 1 else nI 0
def ntB (k : Nat) (Q : Nat → Nat) (i : Nat) : Bool := decide (stN k (Q (7 * i + 3)) (Q (7 * i + 4)) = Q (7 * i + 6)) && (decide (Q (7 * i + 6) = 0) || decide (wayN k (Q (7 * i + 1)) (Q (7 * i + 2)) = Q (7 * i + 5)))
def alN (k f : Nat) (Q : Nat → Nat) : Nat → Bool
  | 0 => true
  | i + 1 => alN k f Q i && (!decide (Q (7 * i) = f) || ntB k Q i)
theorem alN_no {k f : Nat} {Q : Nat → Nat} {i : Nat} (h : alN k f Q i = false) : ∀ d, alN k f Q (i + d) = false
  | 0 => h
  | d + 1 => by
    show (alN k f Q (i + d) && _) = false
    rw [alN_no h d, Bool.false_and]
def okQ (Q : Nat → Nat) (n : Nat) : Prop := ∀ k, k < n → Q (7 * k) ≤ 4 ∧ Q (7 * k + 1) ≤ 99 ∧ Q (7 * k + 2) ≤ 3 ∧ Q (7 * k + 3) ≤ 3 ∧ Q (7 * k + 4) ≤ 5 ∧ Q (7 * k + 5) ≤ 3 ∧ Q (7 * k + 6) ≤ 3
theorem noteBy_n {N k n i : Nat} {rows : Nat → Int32} {Q : Nat → Nat} (hn : n ≤ 6) (hk : k ≤ 5) (hi : i < n) (hr : ∀ j, j < 7 * n → rows j = nI (Q j)) (hQ : okQ Q n) : T_X1_noteBy N rows (nI k) (nI (7 * i)) = some (b2 (ntB k Q i)) := by
  obtain ⟨q0, q1, q2, q3, q4, q5, q6⟩ := hQ i hi
  have r1 := hr (7 * i + 1) (by omega)
  have r2 := hr (7 * i + 2) (by omega)
  have r3 := hr (7 * i + 3) (by omega)
  have r4 := hr (7 * i + 4) (by omega)
  have r5 := hr (7 * i + 5) (by omega)
  have r6 := hr (7 * i + 6) (by omega)
  have st := st_all k (by omega) (Q (7 * i + 3)) (by omega) (Q (7 * i + 4)) (by omega)
  have wy := wayOf_n (k := k) (m := Q (7 * i + 1)) (w := Q (7 * i + 2)) hk (by omega) q2
  have wl := wayN_le (k := k) (m := Q (7 * i + 1)) q2
  have s1 := st.1
  have s2 := st.2.2
  unfold ntB
  rw [T_X1_noteBy]
  by_cases h1 : stN k (Q (7 * i + 3)) (Q (7 * i + 4)) = Q (7 * i + 6)
  · by_cases h2 : Q (7 * i + 6) = 0
    · simp (disch := omega) only [l0, l1, l2, l3, l4, l5, l6, l7, l8, l9, l10, l11, l12, l30, l35, l36, l60, l99, l127, l150, l999, nI_eq, nI_leI, nI_ltI, nI_1, nI_add, pk_mul, obN, nI_clamp, lt', jn, Option.bind_some, inF, inC, inK, wi3, T_X3_isFirstOrSecond, T_X3_refuseBad, T_X3_refuseFull, T_X3_refuseNo, reduceIte, Nat.reduceEqDiff, Nat.reduceLeDiff, Nat.reduceMul, Nat.reduceAdd, Nat.reduceSub, and_true, true_and, r1, r2, r3, r4, r5, r6, s1, h1, h2, b2, decide_true, Bool.true_and, Bool.true_or]
    · by_cases h3 : wayN k (Q (7 * i + 1)) (Q (7 * i + 2)) = Q (7 * i + 5)
      · simp (disch := omega) only [l0, l1, l2, l3, l4, l5, l6, l7, l8, l9, l10, l11, l12, l30, l35, l36, l60, l99, l127, l150, l999, nI_eq, nI_leI, nI_ltI, nI_1, nI_add, pk_mul, obN, nI_clamp, lt', jn, Option.bind_some, inF, inC, inK, wi3, T_X3_isFirstOrSecond, T_X3_refuseBad, T_X3_refuseFull, T_X3_refuseNo, reduceIte, Nat.reduceEqDiff, Nat.reduceLeDiff, Nat.reduceMul, Nat.reduceAdd, Nat.reduceSub, and_true, true_and, r1, r2, r3, r4, r5, r6, s1, wy, h1, h2, h3, b2, decide_true, decide_false, Bool.true_and, Bool.false_or]
      · simp (disch := omega) only [l0, l1, l2, l3, l4, l5, l6, l7, l8, l9, l10, l11, l12, l30, l35, l36, l60, l99, l127, l150, l999, nI_eq, nI_leI, nI_ltI, nI_1, nI_add, pk_mul, obN, nI_clamp, lt', jn, Option.bind_some, inF, inC, inK, wi3, T_X3_isFirstOrSecond, T_X3_refuseBad, T_X3_refuseFull, T_X3_refuseNo, reduceIte, Nat.reduceEqDiff, Nat.reduceLeDiff, Nat.reduceMul, Nat.reduceAdd, Nat.reduceSub, and_true, true_and, r1, r2, r3, r4, r5, r6, s1, wy, h1, h2, h3, b2, decide_true, decide_false, Bool.true_and, Bool.false_or, Bool.false_eq_true]
  · simp (disch := omega) only [l0, l1, l2, l3, l4, l5, l6, l7, l8, l9, l10, l11, l12, l30, l35, l36, l60, l99, l127, l150, l999, nI_eq, nI_leI, nI_ltI, nI_1, nI_add, pk_mul, obN, nI_clamp, lt', jn, Option.bind_some, inF, inC, inK, wi3, T_X3_isFirstOrSecond, T_X3_refuseBad, T_X3_refuseFull, T_X3_refuseNo, reduceIte, Nat.reduceEqDiff, Nat.reduceLeDiff, Nat.reduceMul, Nat.reduceAdd, Nat.reduceSub, and_true, true_and, r1, r2, r3, r4, r5, r6, s1, h1, b2, decide_false, Bool.false_and, Bool.false_eq_true]
theorem allNotesBy_n {N k f n : Nat} {rows : Nat → Int32} {Q : Nat → Nat} (hN : 1000 ≤ N) (hn : n ≤ 6) (hk : k ≤ 5) (hf : f ≤ 4) (hr : ∀ j, j < 7 * n → rows j = nI (Q j)) (hQ : okQ Q n) : T_X1_allNotesBy N (nI n) rows (nI k) (nI f) = some (b2 (alN k f Q n)) := by
  obtain ⟨r, x1, rfl⟩ := lp (fun j (s : Int32) => T_X1_allNotesBy_L2 N (nI k) (nI f) (nI n) rows j s) (fun i s => s = nI i ∧ alN k f Q i = true) (fun r => r = b2 (alN k f Q n)) n
    (fun i s j hi ⟨s1, s2⟩ => by
      subst s1
      have hn5 : ¬ n ≤ i := by omega
      have q0 := (hQ i hi).1
      have r0 := hr (7 * i) (by omega)
      have nb := noteBy_n (N := N) hn hk hi hr hQ
      by_cases h1 : Q (7 * i) = f
      · cases hb : ntB k Q i with
        | true =>
          refine .inl ⟨nI (i + 1), ⟨rfl, by rw [alN, s2, hb, Bool.or_true, Bool.true_and]⟩, ?_⟩
          rw [hb] at nb
          (try simp only)
          rw [T_X1_allNotesBy_L2]
          simp (disch := omega) only [l0, l1, l2, l3, l4, l5, l6, l7, l8, l9, l10, l11, l12, l30, l35, l36, l60, l99, l127, l150, l999, nI_eq, nI_leI, nI_ltI, nI_1, nI_add, pk_mul, obN, nI_clamp, lt', jn, Option.bind_some, inF, inC, inK, wi3, T_X3_isFirstOrSecond, T_X3_refuseBad, T_X3_refuseFull, T_X3_refuseNo, reduceIte, Nat.reduceEqDiff, Nat.reduceLeDiff, Nat.reduceMul, Nat.reduceAdd, Nat.reduceSub, and_true, true_and, hn5, r0, h1, nb, b2]
        | false =>
          refine .inr ⟨nI 0, ?_, ?_⟩
          · rw [hb] at nb
            (try simp only)
            rw [T_X1_allNotesBy_L2]
            simp (disch := omega) only [l0, l1, l2, l3, l4, l5, l6, l7, l8, l9, l10, l11, l12, l30, l35, l36, l60, l99, l127, l150, l999, nI_eq, nI_leI, nI_ltI, nI_1, nI_add, pk_mul, obN, nI_clamp, lt', jn, Option.bind_some, inF, inC, inK, wi3, T_X3_isFirstOrSecond, T_X3_refuseBad, T_X3_refuseFull, T_X3_refuseNo, reduceIte, Nat.reduceEqDiff, Nat.reduceLeDiff, Nat.reduceMul, Nat.reduceAdd, Nat.reduceSub, and_true, true_and, hn5, r0, h1, nb, b2, Bool.false_eq_true]
          · have h := alN_no (k := k) (f := f) (Q := Q) (i := i + 1) (by rw [alN, hb, h1]; simp) (n - (i + 1))
            rw [show i + 1 + (n - (i + 1)) = n by omega] at h
            rw [h]; rfl
      · refine .inl ⟨nI (i + 1), ⟨rfl, by rw [alN, s2]; simp [h1]⟩, ?_⟩
        (try simp only)
        rw [T_X1_allNotesBy_L2]
        simp (disch := omega) only [l0, l1, l2, l3, l4, l5, l6, l7, l8, l9, l10, l11, l12, l30, l35, l36, l60, l99, l127, l150, l999, nI_eq, nI_leI, nI_ltI, nI_1, nI_add, pk_mul, obN, nI_clamp, lt', jn, Option.bind_some, inF, inC, inK, wi3, T_X3_isFirstOrSecond, T_X3_refuseBad, T_X3_refuseFull, T_X3_refuseNo, reduceIte, Nat.reduceEqDiff, Nat.reduceLeDiff, Nat.reduceMul, Nat.reduceAdd, Nat.reduceSub, and_true, true_and, hn5, r0, h1])
    (fun s j ⟨s1, s2⟩ => by
      subst s1
      exact ⟨nI 1, by (try simp only); rw [T_X1_allNotesBy_L2]; simp (disch := omega) only [l0, l1, l2, l3, l4, l5, l6, l7, l8, l9, l10, l11, l12, l30, l35, l36, l60, l99, l127, l150, l999, nI_eq, nI_leI, nI_ltI, nI_1, nI_add, pk_mul, obN, nI_clamp, lt', jn, Option.bind_some, inF, inC, inK, wi3, T_X3_isFirstOrSecond, T_X3_refuseBad, T_X3_refuseFull, T_X3_refuseNo, reduceIte, Nat.reduceEqDiff, Nat.reduceLeDiff, Nat.reduceMul, Nat.reduceAdd, Nat.reduceSub, and_true, true_and, Nat.le_refl], by rw [s2]; rfl⟩)
    n 0 (nI 0) N (by omega) ⟨rfl, rfl⟩ (by omega)
  exact x1
def frN (W G Q : Nat → Nat) (c : Nat) : Nat → Bool
  | 0 => true
  | i + 1 => frN W G Q c i && decide (runN W G (Q (3 * i)) c 0 (Q (3 * i + 1)) = Q (3 * i + 2))
theorem frN_no {W G Q : Nat → Nat} {c i : Nat} (h : frN W G Q c i = false) : ∀ d, frN W G Q c (i + d) = false
  | 0 => h
  | d + 1 => by
    show (frN W G Q c (i + d) && _) = false
    rw [frN_no h d, Bool.false_and]
def okF (Q : Nat → Nat) (n : Nat) : Prop := ∀ k, k < n → Q (3 * k) ≤ 5 ∧ Q (3 * k + 1) ≤ 60 ∧ Q (3 * k + 2) ≤ 35
theorem allFound_n {N n c : Nat} {W G Q : Nat → Nat} {w g rows : Nat → Int32} (hN : 1000 ≤ N) (hn : n ≤ 4) (ew : ∀ i, i < 12 → w i = nI (W i)) (eg : ∀ i, i < 12 → g i = nI (G i)) (hW : ∀ i, i < 12 → W i ≤ 3) (hG : ∀ i, i < 12 → G i ≤ 3) (hc : c ≤ 35) (hr : ∀ k, k < 3 * n → rows k = nI (Q k)) (hQ : okF Q n) : T_X1_allFoundFrom N (nI n) w g rows (nI c) = some (b2 (frN W G Q c n)) := by
  obtain ⟨r, x1, rfl⟩ := lp (fun j (s : Int32) => T_X1_allFoundFrom_L2 N (nI c) (nI n) w g rows j s) (fun i s => s = nI i ∧ frN W G Q c i = true) (fun r => r = b2 (frN W G Q c n)) n
    (fun i s j hi ⟨s1, s2⟩ => by
      subst s1
      have hn5 : ¬ n ≤ i := by omega
      obtain ⟨q0, q1, q2⟩ := hQ i hi
      have r0 := hr (3 * i) (by omega)
      have r1 := hr (3 * i + 1) (by omega)
      have r2 := hr (3 * i + 2) (by omega)
      have d := drifted_n (mo := 0) (j := Q (3 * i + 1)) hN ew eg hW hG q0 hc (by omega) (by omega)
      have dl := runN_le (m := 0) hW hG q0 hc (Q (3 * i + 1))
      by_cases h : runN W G (Q (3 * i)) c 0 (Q (3 * i + 1)) = Q (3 * i + 2)
      · refine .inl ⟨nI (i + 1), ⟨rfl, by rw [frN, s2, h]; simp⟩, ?_⟩
        (try simp only)
        rw [T_X1_allFoundFrom_L2]
        simp (disch := omega) only [l0, l1, l2, l3, l4, l5, l6, l7, l8, l9, l10, l11, l12, l30, l35, l36, l60, l99, l127, l150, l999, nI_eq, nI_leI, nI_ltI, nI_1, nI_add, pk_mul, obN, nI_clamp, lt', jn, Option.bind_some, inF, inC, inK, wi3, T_X3_isFirstOrSecond, T_X3_refuseBad, T_X3_refuseFull, T_X3_refuseNo, reduceIte, Nat.reduceEqDiff, Nat.reduceLeDiff, Nat.reduceMul, Nat.reduceAdd, Nat.reduceSub, and_true, true_and, hn5, r0, r1, r2, d, h]
      · refine .inr ⟨nI 0, ?_, ?_⟩
        · (try simp only)
          rw [T_X1_allFoundFrom_L2]
          simp (disch := omega) only [l0, l1, l2, l3, l4, l5, l6, l7, l8, l9, l10, l11, l12, l30, l35, l36, l60, l99, l127, l150, l999, nI_eq, nI_leI, nI_ltI, nI_1, nI_add, pk_mul, obN, nI_clamp, lt', jn, Option.bind_some, inF, inC, inK, wi3, T_X3_isFirstOrSecond, T_X3_refuseBad, T_X3_refuseFull, T_X3_refuseNo, reduceIte, Nat.reduceEqDiff, Nat.reduceLeDiff, Nat.reduceMul, Nat.reduceAdd, Nat.reduceSub, and_true, true_and, hn5, r0, r1, r2, d, h]
        · have h' := frN_no (W := W) (G := G) (Q := Q) (c := c) (i := i + 1) (by rw [frN]; simp [h]) (n - (i + 1))
          rw [show i + 1 + (n - (i + 1)) = n by omega] at h'
          rw [h']; rfl)
    (fun s j ⟨s1, s2⟩ => by
      subst s1
      exact ⟨nI 1, by (try simp only); rw [T_X1_allFoundFrom_L2]; simp (disch := omega) only [l0, l1, l2, l3, l4, l5, l6, l7, l8, l9, l10, l11, l12, l30, l35, l36, l60, l99, l127, l150, l999, nI_eq, nI_leI, nI_ltI, nI_1, nI_add, pk_mul, obN, nI_clamp, lt', jn, Option.bind_some, inF, inC, inK, wi3, T_X3_isFirstOrSecond, T_X3_refuseBad, T_X3_refuseFull, T_X3_refuseNo, reduceIte, Nat.reduceEqDiff, Nat.reduceLeDiff, Nat.reduceMul, Nat.reduceAdd, Nat.reduceSub, and_true, true_and, Nat.le_refl], by rw [s2]; rfl⟩)
    n 0 (nI 0) N (by omega) ⟨rfl, rfl⟩ (by omega)
  exact x1
def cA (F : Nat → Bool) : Nat → Nat
  | 0 => 0
  | k + 1 => cA F k + (F k).toNat
def cD (F : Nat → Bool) : Nat → Nat
  | 0 => 0
  | k + 1 => cD F k + (F (35 - k)).toNat
theorem cA_cD (F : Nat → Bool) : cD F 36 = cA F 36 := by
  simp only [cA, cD, Nat.reduceSub, Nat.sub_zero, Nat.sub_self]
  omega
theorem cA_le (F : Nat → Bool) : ∀ k, cA F k ≤ k
  | 0 => Nat.le_refl 0
  | k + 1 => by
    have := cA_le F k
    have h := Bool.toNat_le (F k)
    rw [cA]; omega
theorem cD_le (F : Nat → Bool) : ∀ k, cD F k ≤ k
  | 0 => Nat.le_refl 0
  | k + 1 => by
    have := cD_le F k
    have h := Bool.toNat_le (F (35 - k))
    rw [cD]; omega
/-- the least of those from i to below k, or none -/
def leN (F : Nat → Bool) (i k : Nat) (v : Int32) : Prop := (∃ c, i ≤ c ∧ c < k ∧ F c = true ∧ (∀ d, i ≤ d → d < c → F d = false) ∧ v = nI c) ∨ ((∀ d, i ≤ d → d < k → F d = false) ∧ v = -1)
theorem cA_0 {F : Nat → Bool} : ∀ {k : Nat}, cA F k = 0 ↔ ∀ d, d < k → F d = false := by
  intro k
  induction k with
  | zero => exact ⟨fun _ d h => absurd h (Nat.not_lt_zero d), fun _ => rfl⟩
  | succ k ih =>
    rw [cA]
    constructor
    · intro h d hd
      by_cases e : d = k
      · subst e
        cases hF : F d with
        | false => rfl
        | true => rw [hF] at h; simp at h
      · exact ih.mp (by omega) d (by omega)
    · intro h
      rw [ih.mpr fun d hd => h d (by omega), h k (by omega)]
      rfl
def f1 (a : Nat → Int32) (h : Int64) : Nat → Int64
  | 0 => h
  | i + 1 => 31 * f1 a h i + (a i).toInt64
theorem opI1 {β : Type} {Q : β → Prop} {T : β → Prop} {b : β} (hb : Q b) (h : T b) : ∃ RM, Q RM ∧ T RM := ⟨b, hb, h⟩
theorem q42 : (42 : Int32) = nI 42 := rfl
theorem q88 : (88 : Int32) = nI 88 := rfl
theorem cp0 {f g : Nat → Int32} {n j : Nat} (h : j < n) : va_cpy f g 0 0 n j = f j := by
  rw [pk_cpy_in (by omega) (by omega), Nat.sub_zero, Nat.zero_add]
theorem cS_cpy {S : SeaN} (hok : okS S) {mo fl fo no un : Int32} {w s k c f r n u w' s' k' c' f' r' n' u' : Nat → Int32} (h : cS S mo fl fo no un w s k c f r n u) : cS S mo fl fo no un (va_cpy w w' 0 0 12) (va_cpy s s' 0 0 12) (va_cpy k k' 0 0 5) (va_cpy c c' 0 0 5) (va_cpy f f' 0 0 5) (va_cpy r r' 0 0 12) (va_cpy n n' 0 0 42) (va_cpy u u' 0 0 88) := by
  obtain ⟨o0, o1, o2, o3, o4, -⟩ := hok
  obtain ⟨c0, c5, c6, c7, c8, c9, c10, c11, c12⟩ := h
  refine ⟨c0, fun i hi => (cp0 hi).trans (c5 i hi), fun i hi => (cp0 hi).trans (c6 i hi), fun i hi => (cp0 (by omega)).trans (c7 i hi), fun i hi => (cp0 (by omega)).trans (c8 i hi), fun i hi => (cp0 (by omega)).trans (c9 i hi), fun i hi => (cp0 (by omega)).trans (c10 i hi), fun i hi => (cp0 (by omega)).trans (c11 i hi), fun v hv => ⟨(cp0 (by omega)).trans (c12 v hv).1, fun g hg => ⟨(cp0 (by omega)).trans ((c12 v hv).2 g hg).1, (cp0 (by omega)).trans ((c12 v hv).2 g hg).2⟩⟩⟩
theorem adN_c (a b : Nat) : adN a b = adN b a := by unfold adN; omega
theorem farN_c (a b : Nat) : farN a b = farN b a := by unfold farN; rw [adN_c, adN_c (a % 6)]
theorem foodBehind_n {N f i F : Nat} {foods : Nat → Int32} (hf : f < 5) (e : foods f = nI F) (hF : F ≤ 99) (hi : i ≤ 60) : T_X1_foodBehind N foods (nI f) (nI i) = some (nI (F - i)) := by
  have h := subP (j := F) (q := i) (by omega) (by omega)
  rw [T_X1_foodBehind, obN hf (by omega), nI_clamp (by omega), e]
  exact congrArg some h
/-- what one gets who goes over after i months, the other after j -/
def gtI (A B : Nat → Nat) (F i j : Nat) : Int32 := nI (F - i) - nI (farN (A i) (B i)) - (if i = j then nI 5 else nI 0)
theorem weigh_n {N a b : Nat} {S : SeaN} {mo : Int32} {w s kk cells food gains : Nat → Int32} (hN : 1000 ≤ N) (hok : okS S) (ha : a < S 1 0) (hb : b < S 1 0) (m0 : mo = nI (S 0 0)) (m5 : ∀ i, i < 12 → w i = nI (S 5 i)) (m6 : ∀ i, i < 12 → s i = nI (S 6 i)) (m7 : ∀ f, f < S 1 0 → kk f = nI (S 7 f)) (m8 : ∀ f, f < S 1 0 → cells f = nI (S 8 f)) (m9 : ∀ f, f < S 1 0 → food f = nI (S 9 f)) :
    ∃ G, T_X3_weighLeaving N mo w s kk cells food gains (nI a) (nI b) = some G ∧ ∀ t, t < 6 → G t = nI (S 9 b - t) - nI (farN (runN (S 5) (S 6) (S 7 a) (S 8 a) (S 0 0) t) (runN (S 5) (S 6) (S 7 b) (S 8 b) (S 0 0) t)) ∧ G (6 + t) = nI (S 9 a - t) - nI (farN (runN (S 5) (S 6) (S 7 a) (S 8 a) (S 0 0) t) (runN (S 5) (S 6) (S 7 b) (S 8 b) (S 0 0) t)) := by
  obtain ⟨o0, o1, o2, o3, o4, o5, o6, o7, o8, o9, -⟩ := hok
  have ha5 : a < 5 := by omega
  have hb5 : b < 5 := by omega
  have cb : ∀ f, f < S 1 0 → ∀ t, t ≤ 200 → T_X1_cellBehind N mo w s kk cells (nI f) (nI t) = some (nI (runN (S 5) (S 6) (S 7 f) (S 8 f) (S 0 0) t)) := by
    intro f hf t ht
    have hf5 : f < 5 := by omega
    rw [T_X1_cellBehind, nI_clamp (by omega), m7 f hf, m8 f hf, m0, drifted_n hN m5 m6 o5 o6 (o7 f hf) (o8 f hf) (by omega) ht, obN hf5 (by omega), obN hf5 (by omega)]
    rfl
  obtain ⟨r, x1, x2⟩ := lp (fun n (q : Int32 × (Nat → Int32)) => T_X3_weighLeaving_L2 N (nI a) (nI b) mo w s kk cells food n q.1 q.2)
    (fun i q => q.1 = nI i ∧ ∀ t, t < i → q.2 t = nI (S 9 b - t) - nI (farN (runN (S 5) (S 6) (S 7 a) (S 8 a) (S 0 0) t) (runN (S 5) (S 6) (S 7 b) (S 8 b) (S 0 0) t)) ∧ q.2 (6 + t) = nI (S 9 a - t) - nI (farN (runN (S 5) (S 6) (S 7 a) (S 8 a) (S 0 0) t) (runN (S 5) (S 6) (S 7 b) (S 8 b) (S 0 0) t)))
    (fun G => ∀ t, t < 6 → G t = nI (S 9 b - t) - nI (farN (runN (S 5) (S 6) (S 7 a) (S 8 a) (S 0 0) t) (runN (S 5) (S 6) (S 7 b) (S 8 b) (S 0 0) t)) ∧ G (6 + t) = nI (S 9 a - t) - nI (farN (runN (S 5) (S 6) (S 7 a) (S 8 a) (S 0 0) t) (runN (S 5) (S 6) (S 7 b) (S 8 b) (S 0 0) t))) 6
    (fun i q n hi ⟨a1, a2⟩ => by
      obtain ⟨q1, q2⟩ := q
      simp only at a1 a2
      subst a1
      have hn5 : ¬ 6 ≤ i := by omega
      have ca := cb a ha i (by omega)
      have cb' := cb b hb i (by omega)
      have ff := (far_n (runN_le (m := S 0 0) o5 o6 (o7 a ha) (o8 a ha) i) (runN_le (m := S 0 0) o5 o6 (o7 b hb) (o8 b hb) i)).1
      have fa := foodBehind_n (N := N) ha5 (m9 a ha) (o9 a ha) (show i ≤ 60 by omega)
      have fb := foodBehind_n (N := N) hb5 (m9 b hb) (o9 b hb) (show i ≤ 60 by omega)
      refine .inl ⟨(nI (i + 1), upd (upd q2 i (nI (S 9 b - i) - nI (farN (runN (S 5) (S 6) (S 7 a) (S 8 a) (S 0 0) i) (runN (S 5) (S 6) (S 7 b) (S 8 b) (S 0 0) i)))) (6 + i) (nI (S 9 a - i) - nI (farN (runN (S 5) (S 6) (S 7 a) (S 8 a) (S 0 0) i) (runN (S 5) (S 6) (S 7 b) (S 8 b) (S 0 0) i)))), ⟨rfl, ?_⟩, ?_⟩
      · intro t ht
        simp only
        by_cases e : t = i
        · subst e
          rw [pk_un (by omega), pk_us, pk_us]; exact ⟨rfl, rfl⟩
        · rw [pk_un (by omega), pk_un (by omega), pk_un (by omega), pk_un (by omega)]; exact a2 t (by omega)
      · (try simp only)
        rw [T_X3_weighLeaving_L2]
        simp (disch := omega) only [l0, l1, l2, l3, l4, l5, l6, l7, l8, l9, l10, l11, l12, l30, l35, l36, l60, l99, l127, l150, l999, nI_eq, nI_leI, nI_ltI, nI_1, nI_add, pk_mul, obN, nI_clamp, lt', jn, Option.bind_some, inF, inC, inK, wi3, T_X3_isFirstOrSecond, T_X3_refuseBad, T_X3_refuseFull, T_X3_refuseNo, reduceIte, Nat.reduceEqDiff, Nat.reduceLeDiff, Nat.reduceMul, Nat.reduceAdd, Nat.reduceSub, and_true, true_and, hn5, ca, cb', ff, fa, fb])
    (fun q n ⟨a1, a2⟩ => ⟨q.2, by (try simp only); rw [T_X3_weighLeaving_L2, a1]; simp (disch := omega) only [l0, l1, l2, l3, l4, l5, l6, l7, l8, l9, l10, l11, l12, l30, l35, l36, l60, l99, l127, l150, l999, nI_eq, nI_leI, nI_ltI, nI_1, nI_add, pk_mul, obN, nI_clamp, lt', jn, Option.bind_some, inF, inC, inK, wi3, T_X3_isFirstOrSecond, T_X3_refuseBad, T_X3_refuseFull, T_X3_refuseNo, reduceIte, Nat.reduceEqDiff, Nat.reduceLeDiff, Nat.reduceMul, Nat.reduceAdd, Nat.reduceSub, and_true, true_and, Nat.le_refl], a2⟩)
    6 0 (0, gains) N rfl ⟨rfl, fun t ht => absurd ht (Nat.not_lt_zero t)⟩ (by omega)
  exact ⟨r, x1, x2⟩
theorem gain_n {N t u first : Nat} {G : Nat → Int32} (h : first + t < 12) (ht : t < 6) (hu : u < 6) : T_X3_gain N G (nI first) (nI t) (nI u) = some (G (first + t) - (if t = u then nI 5 else nI 0)) := by
  rw [T_X3_gain]
  by_cases e : t = u
  · subst e; simp (disch := omega) only [l0, l1, l2, l3, l4, l5, l6, l7, l8, l9, l10, l11, l12, l30, l35, l36, l60, l99, l127, l150, l999, nI_eq, nI_leI, nI_ltI, nI_1, nI_add, pk_mul, obN, nI_clamp, lt', jn, Option.bind_some, inF, inC, inK, wi3, T_X3_isFirstOrSecond, T_X3_refuseBad, T_X3_refuseFull, T_X3_refuseNo, reduceIte, Nat.reduceEqDiff, Nat.reduceLeDiff, Nat.reduceMul, Nat.reduceAdd, Nat.reduceSub, and_true, true_and]
  · simp (disch := omega) only [l0, l1, l2, l3, l4, l5, l6, l7, l8, l9, l10, l11, l12, l30, l35, l36, l60, l99, l127, l150, l999, nI_eq, nI_leI, nI_ltI, nI_1, nI_add, pk_mul, obN, nI_clamp, lt', jn, Option.bind_some, inF, inC, inK, wi3, T_X3_isFirstOrSecond, T_X3_refuseBad, T_X3_refuseFull, T_X3_refuseNo, reduceIte, Nat.reduceEqDiff, Nat.reduceLeDiff, Nat.reduceMul, Nat.reduceAdd, Nat.reduceSub, and_true, true_and, e]
/-- neither gets more by another month -/
def rsN (g1 g2 : Nat → Nat → Int32) (i j : Nat) : Nat → Bool
  | 0 => true
  | k + 1 => rsN g1 g2 i j k && (!decide (g1 i j < g1 k j) && !decide (g2 j i < g2 k i))
theorem rsN_no {g1 g2 : Nat → Nat → Int32} {i j k : Nat} (h : rsN g1 g2 i j k = false) : ∀ d, rsN g1 g2 i j (k + d) = false
  | 0 => h
  | d + 1 => by
    show (rsN g1 g2 i j (k + d) && _) = false
    rw [rsN_no h d, Bool.false_and]
theorem rests3_n {N i j : Nat} {G : Nat → Int32} {g1 g2 : Nat → Nat → Int32} (hN : 1000 ≤ N) (hi : i < 6) (hj : j < 6) (h1 : ∀ t, t < 6 → ∀ u, u < 6 → G t - (if t = u then nI 5 else nI 0) = g1 t u) (h2 : ∀ t, t < 6 → ∀ u, u < 6 → G (6 + t) - (if t = u then nI 5 else nI 0) = g2 t u) : T_X3_rests N G (nI i) (nI j) = some (b2 (rsN g1 g2 i j 6)) := by
  have e1 : ∀ t, t < 6 → ∀ u, u < 6 → T_X3_gain N G (nI 0) (nI t) (nI u) = some (g1 t u) := fun t ht u hu => by rw [gain_n (by omega) ht hu, Nat.zero_add, h1 t ht u hu]
  have e2 : ∀ t, t < 6 → ∀ u, u < 6 → T_X3_gain N G (nI 6) (nI t) (nI u) = some (g2 t u) := fun t ht u hu => by rw [gain_n (by omega) ht hu, h2 t ht u hu]
  obtain ⟨r, x1, rfl⟩ := lp (fun n (s : Int32) => T_X3_rests_L2 N (nI i) (nI j) G (some 0) n s) (fun k s => s = nI k ∧ rsN g1 g2 i j k = true) (fun r => r = b2 (rsN g1 g2 i j 6)) 6
    (fun k s n hk ⟨s1, s2⟩ => by
      subst s1
      have hn5 : ¬ 6 ≤ k := by omega
      have a1 := e1 k hk j hj
      have a2 := e1 i hi j hj
      have a3 := e2 k hk i hi
      have a4 := e2 j hj i hi
      have no : rsN g1 g2 i j (k + 1) = false → b2 (rsN g1 g2 i j 6) = nI 0 := fun h => by
        have h' := rsN_no h (6 - (k + 1))
        rw [show k + 1 + (6 - (k + 1)) = 6 by omega] at h'
        rw [h']; rfl
      by_cases c1 : g1 i j < g1 k j
      · refine .inr ⟨nI 0, ?_, (no (by rw [rsN]; simp [c1])).symm⟩
        (try simp only)
        rw [T_X3_rests_L2]
        simp (disch := omega) only [l0, l1, l2, l3, l4, l5, l6, l7, l8, l9, l10, l11, l12, l30, l35, l36, l60, l99, l127, l150, l999, nI_eq, nI_leI, nI_ltI, nI_1, nI_add, pk_mul, obN, nI_clamp, lt', jn, Option.bind_some, inF, inC, inK, wi3, T_X3_isFirstOrSecond, T_X3_refuseBad, T_X3_refuseFull, T_X3_refuseNo, reduceIte, Nat.reduceEqDiff, Nat.reduceLeDiff, Nat.reduceMul, Nat.reduceAdd, Nat.reduceSub, and_true, true_and, hn5, a1, a2, c1]
      · by_cases c2 : g2 j i < g2 k i
        · have c3 : ¬ g2 k i ≤ g2 j i := Int32.not_le.mpr c2
          refine .inr ⟨nI 0, ?_, (no (by rw [rsN]; simp [c2])).symm⟩
          (try simp only)
          rw [T_X3_rests_L2]
          simp (disch := omega) only [l0, l1, l2, l3, l4, l5, l6, l7, l8, l9, l10, l11, l12, l30, l35, l36, l60, l99, l127, l150, l999, nI_eq, nI_leI, nI_ltI, nI_1, nI_add, pk_mul, obN, nI_clamp, lt', jn, Option.bind_some, inF, inC, inK, wi3, T_X3_isFirstOrSecond, T_X3_refuseBad, T_X3_refuseFull, T_X3_refuseNo, reduceIte, Nat.reduceEqDiff, Nat.reduceLeDiff, Nat.reduceMul, Nat.reduceAdd, Nat.reduceSub, and_true, true_and, hn5, a1, a2, a3, a4, c1, c3]
        · have c3 : g2 k i ≤ g2 j i := Int32.not_lt.mp c2
          refine .inl ⟨nI (k + 1), ⟨rfl, by rw [rsN, s2]; simp [c1, c2]⟩, ?_⟩
          (try simp only)
          rw [T_X3_rests_L2]
          simp (disch := omega) only [l0, l1, l2, l3, l4, l5, l6, l7, l8, l9, l10, l11, l12, l30, l35, l36, l60, l99, l127, l150, l999, nI_eq, nI_leI, nI_ltI, nI_1, nI_add, pk_mul, obN, nI_clamp, lt', jn, Option.bind_some, inF, inC, inK, wi3, T_X3_isFirstOrSecond, T_X3_refuseBad, T_X3_refuseFull, T_X3_refuseNo, reduceIte, Nat.reduceEqDiff, Nat.reduceLeDiff, Nat.reduceMul, Nat.reduceAdd, Nat.reduceSub, and_true, true_and, hn5, a1, a2, a3, a4, c1, c3])
    (fun s n ⟨s1, s2⟩ => by
      subst s1
      exact ⟨nI 1, by (try simp only); rw [T_X3_rests_L2]; simp (disch := omega) only [l0, l1, l2, l3, l4, l5, l6, l7, l8, l9, l10, l11, l12, l30, l35, l36, l60, l99, l127, l150, l999, nI_eq, nI_leI, nI_ltI, nI_1, nI_add, pk_mul, obN, nI_clamp, lt', jn, Option.bind_some, inF, inC, inK, wi3, T_X3_isFirstOrSecond, T_X3_refuseBad, T_X3_refuseFull, T_X3_refuseNo, reduceIte, Nat.reduceEqDiff, Nat.reduceLeDiff, Nat.reduceMul, Nat.reduceAdd, Nat.reduceSub, and_true, true_and, Nat.le_refl], by rw [s2]; rfl⟩)
    6 0 (nI 0) N rfl ⟨rfl, rfl⟩ (by omega)
  exact x1
/-- how many pairs rest ahead of this one -/
def cntP (r : Nat → Bool) : Nat → Nat
  | 0 => 0
  | q + 1 => if r q then cntP r q + 1 else cntP r q
theorem cntP_le (r : Nat → Bool) : ∀ q, cntP r q ≤ q
  | 0 => Nat.le_refl 0
  | q + 1 => by
    have := cntP_le r q
    unfold cntP; split <;> omega
theorem cntP_mono (r : Nat → Bool) (q : Nat) : ∀ d, cntP r q ≤ cntP r (q + d)
  | 0 => Nat.le_refl _
  | d + 1 => by
    have h := cntP_mono r q d
    show cntP r q ≤ (if r (q + d) then cntP r (q + d) + 1 else cntP r (q + d))
    split <;> omega
/-- the pair that is told -/
def tlP (r : Nat → Bool) (p : Int32) : Nat → Int32
  | 0 => -nI 5
  | q + 1 => if r q then (if nI (cntP r q) = p then nI q else tlP r p q) else tlP r p q
theorem tlP_stay {r : Nat → Bool} {p : Int32} {q : Nat} (h : nI (cntP r q) = p) (hr : r q = true) : ∀ d, q + d < 2 ^ 30 → tlP r p (q + 1 + d) = nI q
  | 0, _ => by show (if r q then _ else _) = _; rw [if_pos hr, if_pos h]
  | d + 1, hd => by
    have ih := tlP_stay h hr d (by omega)
    have hc : cntP r (q + 1) = cntP r q + 1 := by rw [cntP, if_pos hr]
    have hm := cntP_mono r (q + 1) d
    have hl := cntP_le r (q + 1 + d)
    have hl' := cntP_le r q
    show (if r (q + 1 + d) then (if nI (cntP r (q + 1 + d)) = p then nI (q + 1 + d) else tlP r p (q + 1 + d)) else tlP r p (q + 1 + d)) = _
    have hne : ¬ nI (cntP r (q + 1 + d)) = p := fun e => by rw [← h, nI_eq (by omega) (by omega)] at e; omega
    by_cases hq : r (q + 1 + d) = true
    · rw [if_pos hq, if_neg hne, ih]
    · rw [if_neg hq, ih]
theorem leave3_n {N : Nat} {p3 bads : Int32} {G : Nat → Int32} {r : Nat → Bool} (hr : ∀ q, q < 36 → T_X3_rests N G (nI (q / 6)) (nI (q % 6)) = some (b2 (r q))) :
    ∀ (d q n : Nat), q + d = 36 → d < n → tlP r p3 q = -nI 5 → T_X3_leave_L39 N p3 bads G (fun (x51 : Int32) => (if p3 = (-nI 1) then (some (x51, bads, G)) else (some ((-nI 5), bads, G)))) n (nI (cntP r q)) (nI q) = some (if p3 = -nI 1 then nI (cntP r 36) else tlP r p3 36, bads, G) := by
  intro d
  induction d with
  | zero =>
    intro q n hq hn ht
    obtain ⟨n, rfl⟩ := Nat.exists_eq_succ_of_ne_zero (show n ≠ 0 by omega)
    obtain rfl : q = 36 := by omega
    rw [T_X3_leave_L39, ht]
    by_cases h1 : p3 = -nI 1
    · rw [if_pos h1, if_pos h1]; simp (disch := omega) only [l0, l1, l2, l3, l4, l5, l6, l7, l8, l9, l10, l11, l12, l30, l35, l36, l60, l99, l127, l150, l999, nI_eq, nI_leI, nI_ltI, nI_1, nI_add, pk_mul, obN, nI_clamp, lt', jn, Option.bind_some, inF, inC, inK, wi3, T_X3_isFirstOrSecond, T_X3_refuseBad, T_X3_refuseFull, T_X3_refuseNo, reduceIte, Nat.reduceEqDiff, Nat.reduceLeDiff, Nat.reduceMul, Nat.reduceAdd, Nat.reduceSub, and_true, true_and, Nat.le_refl]
    · rw [if_neg h1, if_neg h1]; simp (disch := omega) only [l0, l1, l2, l3, l4, l5, l6, l7, l8, l9, l10, l11, l12, l30, l35, l36, l60, l99, l127, l150, l999, nI_eq, nI_leI, nI_ltI, nI_1, nI_add, pk_mul, obN, nI_clamp, lt', jn, Option.bind_some, inF, inC, inK, wi3, T_X3_isFirstOrSecond, T_X3_refuseBad, T_X3_refuseFull, T_X3_refuseNo, reduceIte, Nat.reduceEqDiff, Nat.reduceLeDiff, Nat.reduceMul, Nat.reduceAdd, Nat.reduceSub, and_true, true_and, Nat.le_refl]
  | succ d ih =>
    intro q n hq hn ht
    obtain ⟨n, rfl⟩ := Nat.exists_eq_succ_of_ne_zero (show n ≠ 0 by omega)
    have hn5 : ¬ 36 ≤ q := by omega
    have hl := cntP_le r q
    have e1 := pk_div (a := q) (d := 6) (by omega) (by omega) (by omega)
    have e2 := pk_rem (a := q) (d := 6) (by omega) (by omega) (by omega)
    rw [e1, pk_mul] at e2
    have h := hr q (by omega)
    have ih := ih (q + 1) n (by omega) (by omega)
    rw [T_X3_leave_L39]
    cases hb : r q with
    | false =>
      rw [hb] at h
      rw [tlP, cntP, if_neg (by rw [hb]; decide), if_neg (by rw [hb]; decide)] at ih
      rw [← ih ht]
      simp (disch := omega) only [l0, l1, l2, l3, l4, l5, l6, l7, l8, l9, l10, l11, l12, l30, l35, l36, l60, l99, l127, l150, l999, nI_eq, nI_leI, nI_ltI, nI_1, nI_add, pk_mul, obN, nI_clamp, lt', jn, Option.bind_some, inF, inC, inK, wi3, T_X3_isFirstOrSecond, T_X3_refuseBad, T_X3_refuseFull, T_X3_refuseNo, reduceIte, Nat.reduceEqDiff, Nat.reduceLeDiff, Nat.reduceMul, Nat.reduceAdd, Nat.reduceSub, and_true, true_and, hn5, e1, e2, h, b2, Bool.false_eq_true]
    | true =>
      rw [hb] at h
      by_cases h1 : nI (cntP r q) = p3
      · have hs := tlP_stay h1 hb (35 - q) (by omega)
        rw [show q + 1 + (35 - q) = 36 by omega] at hs
        have hp : ¬ p3 = -nI 1 := by rw [← h1]; exact ne1 (by omega)
        rw [hs]
        simp (disch := omega) only [l0, l1, l2, l3, l4, l5, l6, l7, l8, l9, l10, l11, l12, l30, l35, l36, l60, l99, l127, l150, l999, nI_eq, nI_leI, nI_ltI, nI_1, nI_add, pk_mul, obN, nI_clamp, lt', jn, Option.bind_some, inF, inC, inK, wi3, T_X3_isFirstOrSecond, T_X3_refuseBad, T_X3_refuseFull, T_X3_refuseNo, reduceIte, Nat.reduceEqDiff, Nat.reduceLeDiff, Nat.reduceMul, Nat.reduceAdd, Nat.reduceSub, and_true, true_and, hn5, e1, e2, h, b2, h1, hp]
      · rw [tlP, cntP, if_pos hb, if_pos hb, if_neg h1] at ih
        rw [← ih ht]
        simp (disch := omega) only [l0, l1, l2, l3, l4, l5, l6, l7, l8, l9, l10, l11, l12, l30, l35, l36, l60, l99, l127, l150, l999, nI_eq, nI_leI, nI_ltI, nI_1, nI_add, pk_mul, obN, nI_clamp, lt', jn, Option.bind_some, inF, inC, inK, wi3, T_X3_isFirstOrSecond, T_X3_refuseBad, T_X3_refuseFull, T_X3_refuseNo, reduceIte, Nat.reduceEqDiff, Nat.reduceLeDiff, Nat.reduceMul, Nat.reduceAdd, Nat.reduceSub, and_true, true_and, hn5, e1, e2, h, b2, h1]
