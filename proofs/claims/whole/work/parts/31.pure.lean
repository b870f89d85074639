def adN (a b : Nat) : Nat := (a - b) + (b - a)
def farN (a b : Nat) : Nat := adN (a / 6) (b / 6) + adN (a % 6) (b % 6)
theorem abI : ∀ a, a < 6 → ∀ b, b < 6 → (if nI 0 ≤ nI a - nI b then nI a - nI b else nI 0 - (nI a - nI b)) = nI (adN a b) ∧ (if nI 0 ≤ nI a - nI b then nI a - nI b else -(nI a - nI b)) = nI (adN a b) ∧ adN a b ≤ 5 := by decide +kernel
theorem far_n {a b : Nat} (ha : a ≤ 35) (hb : b ≤ 35) : T_X3_far (nI a) (nI b) = nI (farN a b) ∧ farN a b ≤ 10 := by
  have h1 := abI (a / 6) (by omega) (b / 6) (by omega)
  have h2 := abI (a % 6) (by omega) (b % 6) (by omega)
  refine ⟨?_, by unfold farN; omega⟩
  rw [T_X3_far, l0, l6, pk_rem (by omega) (by omega) (by omega), pk_rem (by omega) (by omega) (by omega), pk_div (by omega) (by omega) (by omega), pk_div (by omega) (by omega) (by omega), h1.1, h2.1, nI_add]
  rfl
theorem far4_n {a b : Nat} (ha : a ≤ 35) (hb : b ≤ 35) : T_X4_far (nI a) (nI b) = nI (farN a b) := by
  have h1 := abI (a / 6) (by omega) (b / 6) (by omega)
  have h2 := abI (a % 6) (by omega) (b % 6) (by omega)
  have e : ∀ x y : Int32, (if nI 0 ≤ x then (if nI 0 ≤ y then x + y else x + -y) else (if nI 0 ≤ y then -x + y else -x + -y)) = (if nI 0 ≤ x then x else -x) + (if nI 0 ≤ y then y else -y) := by
    intro x y
    by_cases hx : nI 0 ≤ x <;> by_cases hy : nI 0 ≤ y <;> simp only [hx, hy, if_true, if_false]
  rw [T_X4_far, l0, l6, pk_rem (by omega) (by omega) (by omega), pk_rem (by omega) (by omega) (by omega), pk_div (by omega) (by omega) (by omega), pk_div (by omega) (by omega) (by omega)]
  simp only [lt', jn]
  rw [e, h1.2.1, h2.2.1, nI_add]
  rfl
/-- the nearest that two come: behind how many months, how near -/
def nrN (A B : Nat → Nat) : Nat → Nat × Nat
  | 0 => (0, farN (A 0) (B 0))
  | i + 1 => if farN (A (i + 1)) (B (i + 1)) < (nrN A B i).2 then (i + 1, farN (A (i + 1)) (B (i + 1))) else nrN A B i
theorem nrN_le {A B : Nat → Nat} (hA : ∀ i, A i ≤ 35) (hB : ∀ i, B i ≤ 35) : ∀ i, (nrN A B i).2 ≤ 10 ∧ (nrN A B i).1 ≤ i
  | 0 => ⟨(far_n (hA 0) (hB 0)).2, Nat.le_refl 0⟩
  | i + 1 => by
    have h := nrN_le hA hB i
    have h2 := (far_n (hA (i + 1)) (hB (i + 1))).2
    unfold nrN
    split
    · exact ⟨h2, Nat.le_refl _⟩
    · exact ⟨h.1, by omega⟩
set_option maxHeartbeats 4000000 in
theorem op_nearest (N : Nat) (hN : 1000 ≤ N) (x : FIV) (m : MV) (p1 p2 p3 : Int32) (h : REL x m) : ∃ (R : Int32 × Int32) (RM : Int32 × (Nat → Int32)), T_X3_nearest N (x_bads x) (xn_month x) (xn_floes x) (xn_ways x) (xn_strengths x) (xn_kinds x) (xn_cells x) p1 p2 p3 = some R ∧ T_X4_nearest N (m_many m) (m_now m) (m_refused m) (m_ways m) (m_strengths m) (m_kinds m) (m_cells m) p1 p2 p3 = some RM ∧ R.1 = RM.1 ∧ REL ((xn_month x), (xn_ways x), (xn_strengths x), (xn_floes x), (xn_kinds x), (xn_cells x), (xn_foods x), (xn_founds x), (xn_foundRows x), (xn_notes x), (xn_noteRows x), (xn_undos x), (xn_undoRows x), (xs_month x), (xs_ways x), (xs_strengths x), (xs_floes x), (xs_kinds x), (xs_cells x), (xs_foods x), (xs_founds x), (xs_foundRows x), (xs_notes x), (xs_noteRows x), (xs_undos x), (xs_undoRows x), (xt_bytes x), (xt_length x), (xt_place x), (xt_fault x), (x_odds x), (x_nextOdds x), (x_gains x), (x_above x), (x_below x), R.2, (x_nos x), (x_fulls x), (x_img0 x), (x_img1 x)) (RM.2, (m_many m), (m_now m), (m_findMany m), (m_noteMany m), (m_ways m), (m_strengths m), (m_kinds m), (m_cells m), (m_food m), (m_findKind m), (m_findMonth m), (m_findCell m), (m_noted m), (m_text m), (m_typed m), (m_readAt m), (m_readMonth m), (m_readMany m), (m_readFloe m), (m_readWind m), (m_readNumber m), (m_ahead m), (m_undoMany m), (m_aside m), (m_above m), (m_below m), (m_images m), (m_isKept m), (m_h0 m)) := by
  obtain ⟨⟨S, hok, hc, hm⟩, htx, hab, hrf, hg0, hg1⟩ := h
  have q := hok
  have q1 := hc
  have q2 := hm
  obtain ⟨o0, o1, o2, o3, o4, o5, o6, o7, o8, o9, o10, o11, o12⟩ := q
  obtain ⟨⟨c0, c1, c2, c3, c4⟩, c5, c6, c7, c8, c9, c10, c11, c12⟩ := q1
  obtain ⟨⟨m0, m1, m2, m3, m4⟩, m5, m6, m7, m8, m9, m10, m11, m12⟩ := q2
  have un : ∀ a b, T_X3_areUnlikeFloes a p1 b = if T_X3_within p1 (nI 0) (a - nI 1) = nI 0 then nI 0 else if T_X3_within b (nI 0) (a - nI 1) = nI 0 then nI 0 else if p1 = b then nI 0 else nI 1 := fun a b => rfl
  rcases wif p1 (S 1 0) (by omega) with h0 | ⟨f, hf, rfl, h1⟩
  · refine opI (by rw [T_X3_nearest]; simp (disch := omega) only [l0, l1, l2, l3, l4, l5, l6, l7, l8, l9, l10, l11, l12, l30, l35, l36, l60, l99, l127, l150, l999, nI_eq, nI_leI, nI_ltI, nI_1, nI_add, pk_mul, obN, nI_clamp, lt', jn, Option.bind_some, inW, inF, inC, inK, fl4, cl4, wi3, T_X3_isFirstOrSecond, badE, fullE, noE, T_X3_refuseBad, T_X3_refuseFull, T_X3_refuseNo, reduceIte, Nat.reduceEqDiff, Nat.reduceLeDiff, Nat.reduceMul, Nat.reduceAdd, Nat.reduceSub, and_true, true_and, c1, m1, un, h0]; rfl) (by rw [T_X4_nearest]; simp (disch := omega) only [l0, l1, l2, l3, l4, l5, l6, l7, l8, l9, l10, l11, l12, l30, l35, l36, l60, l99, l127, l150, l999, nI_eq, nI_leI, nI_ltI, nI_1, nI_add, pk_mul, obN, nI_clamp, lt', jn, Option.bind_some, inW, inF, inC, inK, fl4, cl4, wi3, T_X3_isFirstOrSecond, badE, fullE, noE, T_X3_refuseBad, T_X3_refuseFull, T_X3_refuseNo, reduceIte, Nat.reduceEqDiff, Nat.reduceLeDiff, Nat.reduceMul, Nat.reduceAdd, Nat.reduceSub, and_true, true_and, c1, m1, un, h0]; rfl) ?_; exact ⟨rfl, ⟨S, hok, hc, hm⟩, htx, hab, rf_bad hrf, hg0, hg1⟩
  rcases wif p2 (S 1 0) (by omega) with h0 | ⟨g, hg, rfl, h2⟩
  · refine opI (by rw [T_X3_nearest]; simp (disch := omega) only [l0, l1, l2, l3, l4, l5, l6, l7, l8, l9, l10, l11, l12, l30, l35, l36, l60, l99, l127, l150, l999, nI_eq, nI_leI, nI_ltI, nI_1, nI_add, pk_mul, obN, nI_clamp, lt', jn, Option.bind_some, inW, inF, inC, inK, fl4, cl4, wi3, T_X3_isFirstOrSecond, badE, fullE, noE, T_X3_refuseBad, T_X3_refuseFull, T_X3_refuseNo, reduceIte, Nat.reduceEqDiff, Nat.reduceLeDiff, Nat.reduceMul, Nat.reduceAdd, Nat.reduceSub, and_true, true_and, c1, m1, un, h0, h1]; rfl) (by rw [T_X4_nearest]; simp (disch := omega) only [l0, l1, l2, l3, l4, l5, l6, l7, l8, l9, l10, l11, l12, l30, l35, l36, l60, l99, l127, l150, l999, nI_eq, nI_leI, nI_ltI, nI_1, nI_add, pk_mul, obN, nI_clamp, lt', jn, Option.bind_some, inW, inF, inC, inK, fl4, cl4, wi3, T_X3_isFirstOrSecond, badE, fullE, noE, T_X3_refuseBad, T_X3_refuseFull, T_X3_refuseNo, reduceIte, Nat.reduceEqDiff, Nat.reduceLeDiff, Nat.reduceMul, Nat.reduceAdd, Nat.reduceSub, and_true, true_and, c1, m1, un, h0, h1]; rfl) ?_; exact ⟨rfl, ⟨S, hok, hc, hm⟩, htx, hab, rf_bad hrf, hg0, hg1⟩
  by_cases hfg : f = g
  · subst hfg
    refine opI (by rw [T_X3_nearest]; simp (disch := omega) only [l0, l1, l2, l3, l4, l5, l6, l7, l8, l9, l10, l11, l12, l30, l35, l36, l60, l99, l127, l150, l999, nI_eq, nI_leI, nI_ltI, nI_1, nI_add, pk_mul, obN, nI_clamp, lt', jn, Option.bind_some, inW, inF, inC, inK, fl4, cl4, wi3, T_X3_isFirstOrSecond, badE, fullE, noE, T_X3_refuseBad, T_X3_refuseFull, T_X3_refuseNo, reduceIte, Nat.reduceEqDiff, Nat.reduceLeDiff, Nat.reduceMul, Nat.reduceAdd, Nat.reduceSub, and_true, true_and, c1, m1, un, h1, h2]; rfl) (by rw [T_X4_nearest]; simp (disch := omega) only [l0, l1, l2, l3, l4, l5, l6, l7, l8, l9, l10, l11, l12, l30, l35, l36, l60, l99, l127, l150, l999, nI_eq, nI_leI, nI_ltI, nI_1, nI_add, pk_mul, obN, nI_clamp, lt', jn, Option.bind_some, inW, inF, inC, inK, fl4, cl4, wi3, T_X3_isFirstOrSecond, badE, fullE, noE, T_X3_refuseBad, T_X3_refuseFull, T_X3_refuseNo, reduceIte, Nat.reduceEqDiff, Nat.reduceLeDiff, Nat.reduceMul, Nat.reduceAdd, Nat.reduceSub, and_true, true_and, c1, m1, un, h1, h2]; rfl) ?_; exact ⟨rfl, ⟨S, hok, hc, hm⟩, htx, hab, rf_bad hrf, hg0, hg1⟩
  rcases wi p3 1 (by omega) with h0 | ⟨j, hj, rfl, h3⟩
  · refine opI (by rw [T_X3_nearest]; simp (disch := omega) only [l0, l1, l2, l3, l4, l5, l6, l7, l8, l9, l10, l11, l12, l30, l35, l36, l60, l99, l127, l150, l999, nI_eq, nI_leI, nI_ltI, nI_1, nI_add, pk_mul, obN, nI_clamp, lt', jn, Option.bind_some, inW, inF, inC, inK, fl4, cl4, wi3, T_X3_isFirstOrSecond, badE, fullE, noE, T_X3_refuseBad, T_X3_refuseFull, T_X3_refuseNo, reduceIte, Nat.reduceEqDiff, Nat.reduceLeDiff, Nat.reduceMul, Nat.reduceAdd, Nat.reduceSub, and_true, true_and, c1, m1, un, h0, h1, h2, hfg]; rfl) (by rw [T_X4_nearest]; simp (disch := omega) only [l0, l1, l2, l3, l4, l5, l6, l7, l8, l9, l10, l11, l12, l30, l35, l36, l60, l99, l127, l150, l999, nI_eq, nI_leI, nI_ltI, nI_1, nI_add, pk_mul, obN, nI_clamp, lt', jn, Option.bind_some, inW, inF, inC, inK, fl4, cl4, wi3, T_X3_isFirstOrSecond, badE, fullE, noE, T_X3_refuseBad, T_X3_refuseFull, T_X3_refuseNo, reduceIte, Nat.reduceEqDiff, Nat.reduceLeDiff, Nat.reduceMul, Nat.reduceAdd, Nat.reduceSub, and_true, true_and, c1, m1, un, h0, h1, h2, hfg]; rfl) ?_; exact ⟨rfl, ⟨S, hok, hc, hm⟩, htx, hab, rf_bad hrf, hg0, hg1⟩
  have hf5 : f < 5 := by omega
  have hg5 : g < 5 := by omega
  have a7 := c7 f hf
  have a8 := c8 f hf
  have b7 := m7 f hf
  have b8 := m8 f hf
  have a7' := c7 g hg
  have a8' := c8 g hg
  have b7' := m7 g hg
  have b8' := m8 g hg
  have hA := runN_le (m := S 0 0) o5 o6 (o7 f hf) (o8 f hf)
  have hB := runN_le (m := S 0 0) o5 o6 (o7 g hg) (o8 g hg)
  generalize hAe : runN (S 5) (S 6) (S 7 f) (S 8 f) (S 0 0) = A at hA
  generalize hBe : runN (S 5) (S 6) (S 7 g) (S 8 g) (S 0 0) = B at hB
  have sA : ∀ i, A (i + 1) = itN (S 5) (S 6) (S 7 f) (A i) (S 0 0 + i) := fun i => by rw [← hAe]; rfl
  have sB : ∀ i, B (i + 1) = itN (S 5) (S 6) (S 7 g) (B i) (S 0 0 + i) := fun i => by rw [← hBe]; rfl
  have zA : A 0 = S 8 f := by rw [← hAe]; rfl
  have zB : B 0 = S 8 g := by rw [← hBe]; rfl
  have hnr := nrN_le hA hB
  have f0 := far_n (hA 0) (hB 0)
  have f0' := far4_n (hA 0) (hB 0)
  obtain ⟨r, x1, rfl⟩ := lp (fun n (s : Int32 × Int32 × Int32 × Int32 × Int32) => T_X3_nearest_L58 N (nI f) (nI g) (xn_month x) (xn_ways x) (xn_strengths x) (xn_kinds x) (fun x67 x68 => if nI j = 0 then some (x67, x_bads x) else some (x68, x_bads x)) n s.1 s.2.1 s.2.2.1 s.2.2.2.1 s.2.2.2.2)
    (fun i s => s = (nI (A i), nI (B i), nI (nrN A B i).1, nI (nrN A B i).2, nI (i + 1)))
    (fun r => r = (if j = 0 then nI (nrN A B 60).1 else nI (nrN A B 60).2, x_bads x)) 60
    (fun i s n hi hs => by
      subst hs
      refine .inl ⟨_, rfl, ?_⟩
      have hn5 : ¬ 60 < i + 1 := by omega
      have e7 : nI (S 0 0 + (i + 1)) - nI 1 = nI (S 0 0 + i) := nI_pred _
      have n1 := nextCell_n (N := N) (m := S 0 0 + i) c5 c6 o5 o6 (o7 f hf) (hA i) (by omega)
      have n2 := nextCell_n (N := N) (m := S 0 0 + i) c5 c6 o5 o6 (o7 g hg) (hB i) (by omega)
      rw [← sA] at n1
      rw [← sB] at n2
      have ff := far_n (hA (i + 1)) (hB (i + 1))
      have hl := hnr i
      have fe := ff.1
      have fl := ff.2
      (try simp only)
      rw [T_X3_nearest_L58, nrN]
      by_cases h : farN (A (i + 1)) (B (i + 1)) < (nrN A B i).2
      · have h' : ¬ (nrN A B i).2 ≤ farN (A (i + 1)) (B (i + 1)) := by omega
        simp (disch := omega) only [l0, l1, l2, l3, l4, l5, l6, l7, l8, l9, l10, l11, l12, l30, l35, l36, l60, l99, l127, l150, l999, nI_eq, nI_leI, nI_ltI, nI_1, nI_add, pk_mul, obN, nI_clamp, lt', jn, Option.bind_some, inW, inF, inC, inK, fl4, cl4, wi3, T_X3_isFirstOrSecond, badE, fullE, noE, T_X3_refuseBad, T_X3_refuseFull, T_X3_refuseNo, reduceIte, Nat.reduceEqDiff, Nat.reduceLeDiff, Nat.reduceMul, Nat.reduceAdd, Nat.reduceSub, and_true, true_and, hn5, c0, a7, a7', e7, n1, n2, fe, h, h']
      · have h' : (nrN A B i).2 ≤ farN (A (i + 1)) (B (i + 1)) := by omega
        simp (disch := omega) only [l0, l1, l2, l3, l4, l5, l6, l7, l8, l9, l10, l11, l12, l30, l35, l36, l60, l99, l127, l150, l999, nI_eq, nI_leI, nI_ltI, nI_1, nI_add, pk_mul, obN, nI_clamp, lt', jn, Option.bind_some, inW, inF, inC, inK, fl4, cl4, wi3, T_X3_isFirstOrSecond, badE, fullE, noE, T_X3_refuseBad, T_X3_refuseFull, T_X3_refuseNo, reduceIte, Nat.reduceEqDiff, Nat.reduceLeDiff, Nat.reduceMul, Nat.reduceAdd, Nat.reduceSub, and_true, true_and, hn5, c0, a7, a7', e7, n1, n2, fe, h, h'])
    (fun s n hs => by
      subst hs
      obtain rfl | rfl : j = 0 ∨ j = 1 := by omega
      · exact ⟨_, by (try simp only); rw [T_X3_nearest_L58]; simp (disch := omega) only [l0, l1, l2, l3, l4, l5, l6, l7, l8, l9, l10, l11, l12, l30, l35, l36, l60, l99, l127, l150, l999, nI_eq, nI_leI, nI_ltI, nI_1, nI_add, pk_mul, obN, nI_clamp, lt', jn, Option.bind_some, inW, inF, inC, inK, fl4, cl4, wi3, T_X3_isFirstOrSecond, badE, fullE, noE, T_X3_refuseBad, T_X3_refuseFull, T_X3_refuseNo, reduceIte, Nat.reduceEqDiff, Nat.reduceLeDiff, Nat.reduceMul, Nat.reduceAdd, Nat.reduceSub, and_true, true_and, (by omega : 60 < 60 + 1)] <;> rfl, rfl⟩
      · exact ⟨_, by (try simp only); rw [T_X3_nearest_L58]; simp (disch := omega) only [l0, l1, l2, l3, l4, l5, l6, l7, l8, l9, l10, l11, l12, l30, l35, l36, l60, l99, l127, l150, l999, nI_eq, nI_leI, nI_ltI, nI_1, nI_add, pk_mul, obN, nI_clamp, lt', jn, Option.bind_some, inW, inF, inC, inK, fl4, cl4, wi3, T_X3_isFirstOrSecond, badE, fullE, noE, T_X3_refuseBad, T_X3_refuseFull, T_X3_refuseNo, reduceIte, Nat.reduceEqDiff, Nat.reduceLeDiff, Nat.reduceMul, Nat.reduceAdd, Nat.reduceSub, and_true, true_and, (by omega : 60 < 60 + 1)] <;> rfl, rfl⟩)
    60 0 (nI (A 0), nI (B 0), nI (nrN A B 0).1, nI (nrN A B 0).2, nI (0 + 1)) N rfl rfl (by omega)
  obtain ⟨r, x2, rfl⟩ := lp (fun n (s : Int32 × Int32 × Int32 × Int32 × Int32) => T_X4_nearest_L66 N (nI f) (nI g) (m_now m) (m_ways m) (m_strengths m) (m_kinds m) (fun x67 x68 => if nI j = 0 then some (x67, m_refused m) else some (x68, m_refused m)) n s.1 s.2.1 s.2.2.1 s.2.2.2.1 s.2.2.2.2)
    (fun i s => s = (nI (A i), nI (B i), nI (nrN A B i).1, nI (nrN A B i).2, nI (i + 1)))
    (fun r => r = (if j = 0 then nI (nrN A B 60).1 else nI (nrN A B 60).2, m_refused m)) 60
    (fun i s n hi hs => by
      subst hs
      refine .inl ⟨_, rfl, ?_⟩
      have hn5 : ¬ 60 < i + 1 := by omega
      have e7 : nI (S 0 0 + (i + 1)) - nI 1 = nI (S 0 0 + i) := nI_pred _
      have n1 := driftsIn_n (m := S 0 0 + i) hN m5 m6 o5 o6 (o7 f hf) (hA i) (by omega)
      have n2 := driftsIn_n (m := S 0 0 + i) hN m5 m6 o5 o6 (o7 g hg) (hB i) (by omega)
      rw [← sA] at n1
      rw [← sB] at n2
      have fe := far4_n (hA (i + 1)) (hB (i + 1))
      have fl := (far_n (hA (i + 1)) (hB (i + 1))).2
      have hl := hnr i
      (try simp only)
      rw [T_X4_nearest_L66, nrN]
      by_cases h : farN (A (i + 1)) (B (i + 1)) < (nrN A B i).2
      · have h' : ¬ (nrN A B i).2 ≤ farN (A (i + 1)) (B (i + 1)) := by omega
        have h'' : farN (A (i + 1)) (B (i + 1)) ≤ (nrN A B i).2 := by omega
        simp (disch := omega) only [l0, l1, l2, l3, l4, l5, l6, l7, l8, l9, l10, l11, l12, l30, l35, l36, l60, l99, l127, l150, l999, nI_eq, nI_leI, nI_ltI, nI_1, nI_add, pk_mul, obN, nI_clamp, lt', jn, Option.bind_some, inW, inF, inC, inK, fl4, cl4, wi3, T_X3_isFirstOrSecond, badE, fullE, noE, T_X3_refuseBad, T_X3_refuseFull, T_X3_refuseNo, reduceIte, Nat.reduceEqDiff, Nat.reduceLeDiff, Nat.reduceMul, Nat.reduceAdd, Nat.reduceSub, and_true, true_and, hn5, m0, b7, b7', e7, n1, n2, fe, h, h', h'', T_X4_lesser]
      · have h' : (nrN A B i).2 ≤ farN (A (i + 1)) (B (i + 1)) := by omega
        by_cases h3 : farN (A (i + 1)) (B (i + 1)) ≤ (nrN A B i).2
        · have h4 : farN (A (i + 1)) (B (i + 1)) = (nrN A B i).2 := by omega
          simp (disch := omega) only [l0, l1, l2, l3, l4, l5, l6, l7, l8, l9, l10, l11, l12, l30, l35, l36, l60, l99, l127, l150, l999, nI_eq, nI_leI, nI_ltI, nI_1, nI_add, pk_mul, obN, nI_clamp, lt', jn, Option.bind_some, inW, inF, inC, inK, fl4, cl4, wi3, T_X3_isFirstOrSecond, badE, fullE, noE, T_X3_refuseBad, T_X3_refuseFull, T_X3_refuseNo, reduceIte, Nat.reduceEqDiff, Nat.reduceLeDiff, Nat.reduceMul, Nat.reduceAdd, Nat.reduceSub, and_true, true_and, hn5, m0, b7, b7', e7, n1, n2, fe, h4, Nat.lt_irrefl, Nat.le_refl, T_X4_lesser]
        · simp (disch := omega) only [l0, l1, l2, l3, l4, l5, l6, l7, l8, l9, l10, l11, l12, l30, l35, l36, l60, l99, l127, l150, l999, nI_eq, nI_leI, nI_ltI, nI_1, nI_add, pk_mul, obN, nI_clamp, lt', jn, Option.bind_some, inW, inF, inC, inK, fl4, cl4, wi3, T_X3_isFirstOrSecond, badE, fullE, noE, T_X3_refuseBad, T_X3_refuseFull, T_X3_refuseNo, reduceIte, Nat.reduceEqDiff, Nat.reduceLeDiff, Nat.reduceMul, Nat.reduceAdd, Nat.reduceSub, and_true, true_and, hn5, m0, b7, b7', e7, n1, n2, fe, h, h', h3, T_X4_lesser])
    (fun s n hs => by
      subst hs
      obtain rfl | rfl : j = 0 ∨ j = 1 := by omega
      · exact ⟨_, by (try simp only); rw [T_X4_nearest_L66]; simp (disch := omega) only [l0, l1, l2, l3, l4, l5, l6, l7, l8, l9, l10, l11, l12, l30, l35, l36, l60, l99, l127, l150, l999, nI_eq, nI_leI, nI_ltI, nI_1, nI_add, pk_mul, obN, nI_clamp, lt', jn, Option.bind_some, inW, inF, inC, inK, fl4, cl4, wi3, T_X3_isFirstOrSecond, badE, fullE, noE, T_X3_refuseBad, T_X3_refuseFull, T_X3_refuseNo, reduceIte, Nat.reduceEqDiff, Nat.reduceLeDiff, Nat.reduceMul, Nat.reduceAdd, Nat.reduceSub, and_true, true_and, (by omega : 60 < 60 + 1)] <;> rfl, rfl⟩
      · exact ⟨_, by (try simp only); rw [T_X4_nearest_L66]; simp (disch := omega) only [l0, l1, l2, l3, l4, l5, l6, l7, l8, l9, l10, l11, l12, l30, l35, l36, l60, l99, l127, l150, l999, nI_eq, nI_leI, nI_ltI, nI_1, nI_add, pk_mul, obN, nI_clamp, lt', jn, Option.bind_some, inW, inF, inC, inK, fl4, cl4, wi3, T_X3_isFirstOrSecond, badE, fullE, noE, T_X3_refuseBad, T_X3_refuseFull, T_X3_refuseNo, reduceIte, Nat.reduceEqDiff, Nat.reduceLeDiff, Nat.reduceMul, Nat.reduceAdd, Nat.reduceSub, and_true, true_and, (by omega : 60 < 60 + 1)] <;> rfl, rfl⟩)
    60 0 (nI (A 0), nI (B 0), nI (nrN A B 0).1, nI (nrN A B 0).2, nI (0 + 1)) N rfl rfl (by omega)
  rw [zA, zB] at f0 f0'
  refine opI (a := (if j = 0 then nI (nrN A B 60).1 else nI (nrN A B 60).2, x_bads x)) (b := (if j = 0 then nI (nrN A B 60).1 else nI (nrN A B 60).2, m_refused m)) ?_ ?_ ⟨rfl, ⟨S, hok, hc, hm⟩, htx, hab, hrf, hg0, hg1⟩
  · refine Eq.trans ?_ x1
    rw [T_X3_nearest]
    have fe := f0.1
    simp (disch := omega) only [l0, l1, l2, l3, l4, l5, l6, l7, l8, l9, l10, l11, l12, l30, l35, l36, l60, l99, l127, l150, l999, nI_eq, nI_leI, nI_ltI, nI_1, nI_add, pk_mul, obN, nI_clamp, lt', jn, Option.bind_some, inW, inF, inC, inK, fl4, cl4, wi3, T_X3_isFirstOrSecond, badE, fullE, noE, T_X3_refuseBad, T_X3_refuseFull, T_X3_refuseNo, reduceIte, Nat.reduceEqDiff, Nat.reduceLeDiff, Nat.reduceMul, Nat.reduceAdd, Nat.reduceSub, and_true, true_and, c1, un, h1, h2, h3, hfg, a8, a8', zA, zB, fe, nrN]
  · refine Eq.trans ?_ x2
    rw [T_X4_nearest]
    simp (disch := omega) only [l0, l1, l2, l3, l4, l5, l6, l7, l8, l9, l10, l11, l12, l30, l35, l36, l60, l99, l127, l150, l999, nI_eq, nI_leI, nI_ltI, nI_1, nI_add, pk_mul, obN, nI_clamp, lt', jn, Option.bind_some, inW, inF, inC, inK, fl4, cl4, wi3, T_X3_isFirstOrSecond, badE, fullE, noE, T_X3_refuseBad, T_X3_refuseFull, T_X3_refuseNo, reduceIte, Nat.reduceEqDiff, Nat.reduceLeDiff, Nat.reduceMul, Nat.reduceAdd, Nat.reduceSub, and_true, true_and, m1, h1, h2, h3, hfg, b8, b8', zA, zB, f0', nrN]
