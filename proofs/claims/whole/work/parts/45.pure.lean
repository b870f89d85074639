/-! who leaves when: the 36 pairs -/
theorem tenE (N : Nat) (g : Nat → Int32) : T_X4_ten N g = some (-10, upd g 0 (g 0 + 1)) := rfl
/-- how many pairs rest ahead of this one -/
def cntP (r : Nat → Bool) : Nat → Nat
  | 0 => 0
  | q + 1 => if r q then cntP r q + 1 else cntP r q
theorem cntP_le (r : Nat → Bool) : ∀ q, cntP r q ≤ q
  | 0 => Nat.le_refl 0
  | q + 1 => by
    have := cntP_le r q
    unfold cntP; split <;> omega
theorem cntP_mono (r : Nat → Bool) (q : Nat) : ∀ d, cntP r q ≤ cntP r (q + d)
  | 0 => Nat.le_refl _
  | d + 1 => by
    have h := cntP_mono r q d
    show cntP r q ≤ (if r (q + d) then cntP r (q + d) + 1 else cntP r (q + d))
    split <;> omega
/-- the pair that is told -/
def tlP (r : Nat → Bool) (p : Int32) : Nat → Int32
  | 0 => -nI 5
  | q + 1 => if r q then (if nI (cntP r q) = p then nI q else tlP r p q) else tlP r p q
theorem tlP_stay {r : Nat → Bool} {p : Int32} {q : Nat} (h : nI (cntP r q) = p) (hr : r q = true) : ∀ d, q + d < 2 ^ 30 → tlP r p (q + 1 + d) = nI q
  | 0, _ => by show (if r q then _ else _) = _; rw [if_pos hr, if_pos h]
  | d + 1, hd => by
    have ih := tlP_stay h hr d (by omega)
    have hc : cntP r (q + 1) = cntP r q + 1 := by rw [cntP, if_pos hr]
    have hm := cntP_mono r (q + 1) d
    have hl := cntP_le r (q + 1 + d)
    have hl' := cntP_le r q
    show (if r (q + 1 + d) then (if nI (cntP r (q + 1 + d)) = p then nI (q + 1 + d) else tlP r p (q + 1 + d)) else tlP r p (q + 1 + d)) = _
    have hne : ¬ nI (cntP r (q + 1 + d)) = p := fun e => by rw [← h, nI_eq (by omega) (by omega)] at e; omega
    by_cases hq : r (q + 1 + d) = true
    · rw [if_pos hq, if_neg hne, ih]
    · rw [if_neg hq, ih]
theorem leave3_n {N : Nat} {p3 bads : Int32} {G : Nat → Int32} {r : Nat → Bool} (hr : ∀ q, q < 36 → T_X3_rests N G (nI (q / 6)) (nI (q % 6)) = some (b2 (r q))) :
    ∀ (d q n : Nat), q + d = 36 → d < n → tlP r p3 q = -nI 5 → T_X3_leave_L39 N p3 bads G (fun (x51 : Int32) => (if p3 = (-nI 1) then (some (x51, bads, G)) else (some ((-nI 5), bads, G)))) n (nI (cntP r q)) (nI q) = some (if p3 = -nI 1 then nI (cntP r 36) else tlP r p3 36, bads, G) := by
  intro d
  induction d with
  | zero =>
    intro q n hq hn ht
    obtain ⟨n, rfl⟩ := Nat.exists_eq_succ_of_ne_zero (show n ≠ 0 by omega)
    obtain rfl : q = 36 := by omega
    rw [T_X3_leave_L39, ht]
    by_cases h1 : p3 = -nI 1
    · rw [if_pos h1, if_pos h1]; simp (disch := omega) only [l0, l1, l2, l3, l4, l5, l6, l7, l8, l9, l10, l11, l12, l30, l35, l36, l60, l99, l127, l150, l999, nI_eq, nI_leI, nI_ltI, nI_1, nI_add, pk_mul, obN, nI_clamp, lt', jn, Option.bind_some, inW, inF, inC, inK, fl4, cl4, wi3, T_X3_isFirstOrSecond, badE, fullE, noE, T_X3_refuseBad, T_X3_refuseFull, T_X3_refuseNo, reduceIte, Nat.reduceEqDiff, Nat.reduceLeDiff, Nat.reduceMul, Nat.reduceAdd, Nat.reduceSub, and_true, true_and, Nat.le_refl]
    · rw [if_neg h1, if_neg h1]; simp (disch := omega) only [l0, l1, l2, l3, l4, l5, l6, l7, l8, l9, l10, l11, l12, l30, l35, l36, l60, l99, l127, l150, l999, nI_eq, nI_leI, nI_ltI, nI_1, nI_add, pk_mul, obN, nI_clamp, lt', jn, Option.bind_some, inW, inF, inC, inK, fl4, cl4, wi3, T_X3_isFirstOrSecond, badE, fullE, noE, T_X3_refuseBad, T_X3_refuseFull, T_X3_refuseNo, reduceIte, Nat.reduceEqDiff, Nat.reduceLeDiff, Nat.reduceMul, Nat.reduceAdd, Nat.reduceSub, and_true, true_and, Nat.le_refl]
  | succ d ih =>
    intro q n hq hn ht
    obtain ⟨n, rfl⟩ := Nat.exists_eq_succ_of_ne_zero (show n ≠ 0 by omega)
    have hn5 : ¬ 36 ≤ q := by omega
    have hl := cntP_le r q
    have e1 := pk_div (a := q) (d := 6) (by omega) (by omega) (by omega)
    have e2 := pk_rem (a := q) (d := 6) (by omega) (by omega) (by omega)
    rw [e1, pk_mul] at e2
    have h := hr q (by omega)
    have ih := ih (q + 1) n (by omega) (by omega)
    rw [T_X3_leave_L39]
    cases hb : r q with
    | false =>
      rw [hb] at h
      rw [tlP, cntP, if_neg (by rw [hb]; decide), if_neg (by rw [hb]; decide)] at ih
      rw [← ih ht]
      simp (disch := omega) only [l0, l1, l2, l3, l4, l5, l6, l7, l8, l9, l10, l11, l12, l30, l35, l36, l60, l99, l127, l150, l999, nI_eq, nI_leI, nI_ltI, nI_1, nI_add, pk_mul, obN, nI_clamp, lt', jn, Option.bind_some, inW, inF, inC, inK, fl4, cl4, wi3, T_X3_isFirstOrSecond, badE, fullE, noE, T_X3_refuseBad, T_X3_refuseFull, T_X3_refuseNo, reduceIte, Nat.reduceEqDiff, Nat.reduceLeDiff, Nat.reduceMul, Nat.reduceAdd, Nat.reduceSub, and_true, true_and, hn5, e1, e2, h, b2, Bool.false_eq_true]
    | true =>
      rw [hb] at h
      by_cases h1 : nI (cntP r q) = p3
      · have hs := tlP_stay h1 hb (35 - q) (by omega)
        rw [show q + 1 + (35 - q) = 36 by omega] at hs
        have hp : ¬ p3 = -nI 1 := by rw [← h1]; exact ne1 (by omega)
        rw [hs]
        simp (disch := omega) only [l0, l1, l2, l3, l4, l5, l6, l7, l8, l9, l10, l11, l12, l30, l35, l36, l60, l99, l127, l150, l999, nI_eq, nI_leI, nI_ltI, nI_1, nI_add, pk_mul, obN, nI_clamp, lt', jn, Option.bind_some, inW, inF, inC, inK, fl4, cl4, wi3, T_X3_isFirstOrSecond, badE, fullE, noE, T_X3_refuseBad, T_X3_refuseFull, T_X3_refuseNo, reduceIte, Nat.reduceEqDiff, Nat.reduceLeDiff, Nat.reduceMul, Nat.reduceAdd, Nat.reduceSub, and_true, true_and, hn5, e1, e2, h, b2, h1, hp]
      · rw [tlP, cntP, if_pos hb, if_pos hb, if_neg h1] at ih
        rw [← ih ht]
        simp (disch := omega) only [l0, l1, l2, l3, l4, l5, l6, l7, l8, l9, l10, l11, l12, l30, l35, l36, l60, l99, l127, l150, l999, nI_eq, nI_leI, nI_ltI, nI_1, nI_add, pk_mul, obN, nI_clamp, lt', jn, Option.bind_some, inW, inF, inC, inK, fl4, cl4, wi3, T_X3_isFirstOrSecond, badE, fullE, noE, T_X3_refuseBad, T_X3_refuseFull, T_X3_refuseNo, reduceIte, Nat.reduceEqDiff, Nat.reduceLeDiff, Nat.reduceMul, Nat.reduceAdd, Nat.reduceSub, and_true, true_and, hn5, e1, e2, h, b2, h1]
theorem leave51_n {N i : Nat} {p1 p2 p3 now : Int32} {w s kk cells food : Nat → Int32} {r : Nat → Bool} (K : Int32 → Int32 → Option (Int32 × (Nat → Int32))) (hi : i < 6) (hr : ∀ q, q < 36 → T_X4_rests N now w s kk cells food p1 (nI (q / 6)) p2 (nI (q % 6)) = some (b2 (r q))) :
    ∀ (d j n : Nat), j + d = 6 → d < n → T_X4_leave_L51 N p1 p2 p3 (nI i) now w s kk cells food K n (nI (cntP r (6 * i + j))) (tlP r p3 (6 * i + j)) (nI j) = K (nI (cntP r (6 * (i + 1)))) (tlP r p3 (6 * (i + 1))) := by
  intro d
  induction d with
  | zero =>
    intro j n hj hn
    obtain ⟨n, rfl⟩ := Nat.exists_eq_succ_of_ne_zero (show n ≠ 0 by omega)
    obtain rfl : j = 6 := by omega
    rw [T_X4_leave_L51]; simp (disch := omega) only [l0, l1, l2, l3, l4, l5, l6, l7, l8, l9, l10, l11, l12, l30, l35, l36, l60, l99, l127, l150, l999, nI_eq, nI_leI, nI_ltI, nI_1, nI_add, pk_mul, obN, nI_clamp, lt', jn, Option.bind_some, inW, inF, inC, inK, fl4, cl4, wi3, T_X3_isFirstOrSecond, badE, fullE, noE, T_X3_refuseBad, T_X3_refuseFull, T_X3_refuseNo, reduceIte, Nat.reduceEqDiff, Nat.reduceLeDiff, Nat.reduceMul, Nat.reduceAdd, Nat.reduceSub, and_true, true_and, Nat.le_refl, Nat.mul_add]
  | succ d ih =>
    intro j n hj hn
    obtain ⟨n, rfl⟩ := Nat.exists_eq_succ_of_ne_zero (show n ≠ 0 by omega)
    have hn5 : ¬ 6 ≤ j := by omega
    have hl := cntP_le r (6 * i + j)
    have h := hr (6 * i + j) (by omega)
    rw [show (6 * i + j) / 6 = i by omega, show (6 * i + j) % 6 = j by omega] at h
    have ih := ih (j + 1) n (by omega) (by omega)
    rw [show 6 * i + (j + 1) = 6 * i + j + 1 by omega] at ih
    rw [← ih, tlP, cntP, T_X4_leave_L51]
    cases hb : r (6 * i + j) with
    | false => rw [hb] at h; simp (disch := omega) only [l0, l1, l2, l3, l4, l5, l6, l7, l8, l9, l10, l11, l12, l30, l35, l36, l60, l99, l127, l150, l999, nI_eq, nI_leI, nI_ltI, nI_1, nI_add, pk_mul, obN, nI_clamp, lt', jn, Option.bind_some, inW, inF, inC, inK, fl4, cl4, wi3, T_X3_isFirstOrSecond, badE, fullE, noE, T_X3_refuseBad, T_X3_refuseFull, T_X3_refuseNo, reduceIte, Nat.reduceEqDiff, Nat.reduceLeDiff, Nat.reduceMul, Nat.reduceAdd, Nat.reduceSub, and_true, true_and, hn5, h, b2, Bool.false_eq_true]
    | true =>
      rw [hb] at h
      by_cases h1 : nI (cntP r (6 * i + j)) = p3
      · simp (disch := omega) only [l0, l1, l2, l3, l4, l5, l6, l7, l8, l9, l10, l11, l12, l30, l35, l36, l60, l99, l127, l150, l999, nI_eq, nI_leI, nI_ltI, nI_1, nI_add, pk_mul, obN, nI_clamp, lt', jn, Option.bind_some, inW, inF, inC, inK, fl4, cl4, wi3, T_X3_isFirstOrSecond, badE, fullE, noE, T_X3_refuseBad, T_X3_refuseFull, T_X3_refuseNo, reduceIte, Nat.reduceEqDiff, Nat.reduceLeDiff, Nat.reduceMul, Nat.reduceAdd, Nat.reduceSub, and_true, true_and, hn5, h, b2, h1]
        rw [← h1, nI_add]
      · simp (disch := omega) only [l0, l1, l2, l3, l4, l5, l6, l7, l8, l9, l10, l11, l12, l30, l35, l36, l60, l99, l127, l150, l999, nI_eq, nI_leI, nI_ltI, nI_1, nI_add, pk_mul, obN, nI_clamp, lt', jn, Option.bind_some, inW, inF, inC, inK, fl4, cl4, wi3, T_X3_isFirstOrSecond, badE, fullE, noE, T_X3_refuseBad, T_X3_refuseFull, T_X3_refuseNo, reduceIte, Nat.reduceEqDiff, Nat.reduceLeDiff, Nat.reduceMul, Nat.reduceAdd, Nat.reduceSub, and_true, true_and, hn5, h, b2, h1]
theorem leave4_n {N : Nat} {p1 p2 p3 now : Int32} {w s kk cells food : Nat → Int32} {r : Nat → Bool} (K : Int32 → Int32 → Option (Int32 × (Nat → Int32))) (hN : 1000 ≤ N) (hr : ∀ q, q < 36 → T_X4_rests N now w s kk cells food p1 (nI (q / 6)) p2 (nI (q % 6)) = some (b2 (r q))) :
    ∀ (d i n : Nat), i + d = 6 → d < n → T_X4_leave_L41 N p1 p2 p3 now w s kk cells food K n (nI (cntP r (6 * i))) (tlP r p3 (6 * i)) (nI i) = K (nI (cntP r 36)) (tlP r p3 36) := by
  intro d
  induction d with
  | zero =>
    intro i n hi hn
    obtain ⟨n, rfl⟩ := Nat.exists_eq_succ_of_ne_zero (show n ≠ 0 by omega)
    obtain rfl : i = 6 := by omega
    rw [T_X4_leave_L41]; simp (disch := omega) only [l0, l1, l2, l3, l4, l5, l6, l7, l8, l9, l10, l11, l12, l30, l35, l36, l60, l99, l127, l150, l999, nI_eq, nI_leI, nI_ltI, nI_1, nI_add, pk_mul, obN, nI_clamp, lt', jn, Option.bind_some, inW, inF, inC, inK, fl4, cl4, wi3, T_X3_isFirstOrSecond, badE, fullE, noE, T_X3_refuseBad, T_X3_refuseFull, T_X3_refuseNo, reduceIte, Nat.reduceEqDiff, Nat.reduceLeDiff, Nat.reduceMul, Nat.reduceAdd, Nat.reduceSub, and_true, true_and, Nat.le_refl]
  | succ d ih =>
    intro i n hi hn
    obtain ⟨n, rfl⟩ := Nat.exists_eq_succ_of_ne_zero (show n ≠ 0 by omega)
    have hn5 : ¬ 6 ≤ i := by omega
    have ih := ih (i + 1) n (by omega) (by omega)
    rw [T_X4_leave_L41, if_neg (by rw [l6, nI_leI (by omega) (by omega)]; omega)]
    refine (leave51_n _ (by omega) hr 6 0 N rfl (by omega)).trans ?_
    rw [← ih]; simp (disch := omega) only [l0, l1, l2, l3, l4, l5, l6, l7, l8, l9, l10, l11, l12, l30, l35, l36, l60, l99, l127, l150, l999, nI_eq, nI_leI, nI_ltI, nI_1, nI_add, pk_mul, obN, nI_clamp, lt', jn, Option.bind_some, inW, inF, inC, inK, fl4, cl4, wi3, T_X3_isFirstOrSecond, badE, fullE, noE, T_X3_refuseBad, T_X3_refuseFull, T_X3_refuseNo, reduceIte, Nat.reduceEqDiff, Nat.reduceLeDiff, Nat.reduceMul, Nat.reduceAdd, Nat.reduceSub, and_true, true_and]
set_option maxHeartbeats 4000000 in
theorem op_leave (N : Nat) (hN : 1000 ≤ N) (x : FIV) (m : MV) (p1 p2 p3 : Int32) (h : REL x m) : ∃ (R : Int32 × Int32 × (Nat → Int32)) (RM : Int32 × (Nat → Int32)), T_X3_leave N (x_bads x) (xn_month x) (xn_floes x) (xn_ways x) (xn_strengths x) (xn_kinds x) (xn_cells x) (xn_foods x) (x_gains x) p1 p2 p3 = some R ∧ T_X4_leave N (m_many m) (m_now m) (m_refused m) (m_ways m) (m_strengths m) (m_kinds m) (m_cells m) (m_food m) p1 p2 p3 = some RM ∧ R.1 = RM.1 ∧ REL ((xn_month x), (xn_ways x), (xn_strengths x), (xn_floes x), (xn_kinds x), (xn_cells x), (xn_foods x), (xn_founds x), (xn_foundRows x), (xn_notes x), (xn_noteRows x), (xn_undos x), (xn_undoRows x), (xs_month x), (xs_ways x), (xs_strengths x), (xs_floes x), (xs_kinds x), (xs_cells x), (xs_foods x), (xs_founds x), (xs_foundRows x), (xs_notes x), (xs_noteRows x), (xs_undos x), (xs_undoRows x), (xt_bytes x), (xt_length x), (xt_place x), (xt_fault x), (x_odds x), (x_nextOdds x), R.2.2, (x_above x), (x_below x), R.2.1, (x_nos x), (x_fulls x), (x_img0 x), (x_img1 x)) (RM.2, (m_many m), (m_now m), (m_findMany m), (m_noteMany m), (m_ways m), (m_strengths m), (m_kinds m), (m_cells m), (m_food m), (m_findKind m), (m_findMonth m), (m_findCell m), (m_noted m), (m_text m), (m_typed m), (m_readAt m), (m_readMonth m), (m_readMany m), (m_readFloe m), (m_readWind m), (m_readNumber m), (m_ahead m), (m_undoMany m), (m_aside m), (m_above m), (m_below m), (m_images m), (m_isKept m), (m_h0 m)) := by
  obtain ⟨⟨S, hok, hc, hm⟩, htx, hab, hrf, hg0, hg1⟩ := h
  have q := hok
  have q1 := hc
  have q2 := hm
  obtain ⟨o0, o1, o2, o3, o4, o5, o6, o7, o8, o9, o10, o11, o12⟩ := q
  obtain ⟨⟨c0, c1, c2, c3, c4⟩, c5, c6, c7, c8, c9, c10, c11, c12⟩ := q1
  obtain ⟨⟨m0, m1, m2, m3, m4⟩, m5, m6, m7, m8, m9, m10, m11, m12⟩ := q2
  have un : ∀ a b, T_X3_areUnlikeFloes a p1 b = if T_X3_within p1 (nI 0) (a - nI 1) = nI 0 then nI 0 else if T_X3_within b (nI 0) (a - nI 1) = nI 0 then nI 0 else if p1 = b then nI 0 else nI 1 := fun a b => rfl
  rcases wif p1 (S 1 0) (by omega) with h0 | ⟨f, hf, rfl, h1⟩
  · refine opI (by rw [T_X3_leave]; simp (disch := omega) only [l0, l1, l2, l3, l4, l5, l6, l7, l8, l9, l10, l11, l12, l30, l35, l36, l60, l99, l127, l150, l999, nI_eq, nI_leI, nI_ltI, nI_1, nI_add, pk_mul, obN, nI_clamp, lt', jn, Option.bind_some, inW, inF, inC, inK, fl4, cl4, wi3, T_X3_isFirstOrSecond, badE, fullE, noE, T_X3_refuseBad, T_X3_refuseFull, T_X3_refuseNo, reduceIte, Nat.reduceEqDiff, Nat.reduceLeDiff, Nat.reduceMul, Nat.reduceAdd, Nat.reduceSub, and_true, true_and, c1, m1, un, h0, tenE]; rfl) (by rw [T_X4_leave]; simp (disch := omega) only [l0, l1, l2, l3, l4, l5, l6, l7, l8, l9, l10, l11, l12, l30, l35, l36, l60, l99, l127, l150, l999, nI_eq, nI_leI, nI_ltI, nI_1, nI_add, pk_mul, obN, nI_clamp, lt', jn, Option.bind_some, inW, inF, inC, inK, fl4, cl4, wi3, T_X3_isFirstOrSecond, badE, fullE, noE, T_X3_refuseBad, T_X3_refuseFull, T_X3_refuseNo, reduceIte, Nat.reduceEqDiff, Nat.reduceLeDiff, Nat.reduceMul, Nat.reduceAdd, Nat.reduceSub, and_true, true_and, c1, m1, un, h0, tenE]; rfl) ?_; exact ⟨rfl, ⟨S, hok, hc, hm⟩, htx, hab, rf_bad hrf, hg0, hg1⟩
  rcases wif p2 (S 1 0) (by omega) with h0 | ⟨g, hg, rfl, h2⟩
  · refine opI (by rw [T_X3_leave]; simp (disch := omega) only [l0, l1, l2, l3, l4, l5, l6, l7, l8, l9, l10, l11, l12, l30, l35, l36, l60, l99, l127, l150, l999, nI_eq, nI_leI, nI_ltI, nI_1, nI_add, pk_mul, obN, nI_clamp, lt', jn, Option.bind_some, inW, inF, inC, inK, fl4, cl4, wi3, T_X3_isFirstOrSecond, badE, fullE, noE, T_X3_refuseBad, T_X3_refuseFull, T_X3_refuseNo, reduceIte, Nat.reduceEqDiff, Nat.reduceLeDiff, Nat.reduceMul, Nat.reduceAdd, Nat.reduceSub, and_true, true_and, c1, m1, un, h0, h1, tenE]; rfl) (by rw [T_X4_leave]; simp (disch := omega) only [l0, l1, l2, l3, l4, l5, l6, l7, l8, l9, l10, l11, l12, l30, l35, l36, l60, l99, l127, l150, l999, nI_eq, nI_leI, nI_ltI, nI_1, nI_add, pk_mul, obN, nI_clamp, lt', jn, Option.bind_some, inW, inF, inC, inK, fl4, cl4, wi3, T_X3_isFirstOrSecond, badE, fullE, noE, T_X3_refuseBad, T_X3_refuseFull, T_X3_refuseNo, reduceIte, Nat.reduceEqDiff, Nat.reduceLeDiff, Nat.reduceMul, Nat.reduceAdd, Nat.reduceSub, and_true, true_and, c1, m1, un, h0, h1, tenE]; rfl) ?_; exact ⟨rfl, ⟨S, hok, hc, hm⟩, htx, hab, rf_bad hrf, hg0, hg1⟩
  by_cases hfg : f = g
  · subst hfg
    refine opI (by rw [T_X3_leave]; simp (disch := omega) only [l0, l1, l2, l3, l4, l5, l6, l7, l8, l9, l10, l11, l12, l30, l35, l36, l60, l99, l127, l150, l999, nI_eq, nI_leI, nI_ltI, nI_1, nI_add, pk_mul, obN, nI_clamp, lt', jn, Option.bind_some, inW, inF, inC, inK, fl4, cl4, wi3, T_X3_isFirstOrSecond, badE, fullE, noE, T_X3_refuseBad, T_X3_refuseFull, T_X3_refuseNo, reduceIte, Nat.reduceEqDiff, Nat.reduceLeDiff, Nat.reduceMul, Nat.reduceAdd, Nat.reduceSub, and_true, true_and, c1, m1, un, h1, h2, tenE]; rfl) (by rw [T_X4_leave]; simp (disch := omega) only [l0, l1, l2, l3, l4, l5, l6, l7, l8, l9, l10, l11, l12, l30, l35, l36, l60, l99, l127, l150, l999, nI_eq, nI_leI, nI_ltI, nI_1, nI_add, pk_mul, obN, nI_clamp, lt', jn, Option.bind_some, inW, inF, inC, inK, fl4, cl4, wi3, T_X3_isFirstOrSecond, badE, fullE, noE, T_X3_refuseBad, T_X3_refuseFull, T_X3_refuseNo, reduceIte, Nat.reduceEqDiff, Nat.reduceLeDiff, Nat.reduceMul, Nat.reduceAdd, Nat.reduceSub, and_true, true_and, c1, m1, un, h1, h2, tenE]; rfl) ?_; exact ⟨rfl, ⟨S, hok, hc, hm⟩, htx, hab, rf_bad hrf, hg0, hg1⟩
  by_cases h3 : -nI 1 ≤ p3
  · obtain ⟨G, x1, x2⟩ := weigh_n (gains := x_gains x) hN hok hf hg c0 c5 c6 c7 c8 c9
    have r3 : ∀ i, i < 6 → ∀ j, j < 6 → T_X3_rests N G (nI i) (nI j) = some (b2 (rsN (gtI (runN (S 5) (S 6) (S 7 f) (S 8 f) (S 0 0)) (runN (S 5) (S 6) (S 7 g) (S 8 g) (S 0 0)) (S 9 g)) (gtI (runN (S 5) (S 6) (S 7 g) (S 8 g) (S 0 0)) (runN (S 5) (S 6) (S 7 f) (S 8 f) (S 0 0)) (S 9 f)) i j 6)) :=
      fun i hi j hj => rests3_n hN hi hj (fun t ht u hu => by rw [(x2 t ht).1]; rfl) (fun t ht u hu => by rw [(x2 t ht).2, farN_c]; rfl)
    have r4 : ∀ i, i < 6 → ∀ j, j < 6 → T_X4_rests N (m_now m) (m_ways m) (m_strengths m) (m_kinds m) (m_cells m) (m_food m) (nI f) (nI i) (nI g) (nI j) = some (b2 (rsN (gtI (runN (S 5) (S 6) (S 7 f) (S 8 f) (S 0 0)) (runN (S 5) (S 6) (S 7 g) (S 8 g) (S 0 0)) (S 9 g)) (gtI (runN (S 5) (S 6) (S 7 g) (S 8 g) (S 0 0)) (runN (S 5) (S 6) (S 7 f) (S 8 f) (S 0 0)) (S 9 f)) i j 6)) :=
      fun i hi j hj => rests4_n hN hi hj (fun t ht u hu => gets_n hN hok hf hg (by omega) (by omega) m0 m5 m6 m7 m8 m9) (fun t ht u hu => gets_n hN hok hg hf (by omega) (by omega) m0 m5 m6 m7 m8 m9)
    generalize gtI (runN (S 5) (S 6) (S 7 f) (S 8 f) (S 0 0)) (runN (S 5) (S 6) (S 7 g) (S 8 g) (S 0 0)) (S 9 g) = ga at r3 r4
    generalize gtI (runN (S 5) (S 6) (S 7 g) (S 8 g) (S 0 0)) (runN (S 5) (S 6) (S 7 f) (S 8 f) (S 0 0)) (S 9 f) = gb at r3 r4
    have l3 := leave3_n (N := N) (p3 := p3) (bads := x_bads x) (G := G) (r := fun q => rsN ga gb (q / 6) (q % 6) 6) (fun q hq => r3 (q / 6) (by omega) (q % 6) (by omega)) 36 0 N rfl (by omega) rfl
    have l4 := leave4_n (N := N) (p3 := p3) (r := fun q => rsN ga gb (q / 6) (q % 6) 6) (fun (x84 : Int32) (x85 : Int32) => (if p3 = -nI 1 then (some (x84, m_refused m)) else (some (x85, m_refused m)))) hN (fun q hq => r4 (q / 6) (by omega) (q % 6) (by omega)) 6 0 N rfl (by omega)
    refine opI (a := (if p3 = -nI 1 then nI (cntP (fun q => rsN ga gb (q / 6) (q % 6) 6) 36) else tlP (fun q => rsN ga gb (q / 6) (q % 6) 6) p3 36, x_bads x, G)) (b := (if p3 = -nI 1 then nI (cntP (fun q => rsN ga gb (q / 6) (q % 6) 6) 36) else tlP (fun q => rsN ga gb (q / 6) (q % 6) 6) p3 36, m_refused m)) ?_ ?_ ?_
    · rw [T_X3_leave]; simp (disch := omega) only [l0, l1, l2, l3, l4, l5, l6, l7, l8, l9, l10, l11, l12, l30, l35, l36, l60, l99, l127, l150, l999, nI_eq, nI_leI, nI_ltI, nI_1, nI_add, pk_mul, obN, nI_clamp, lt', jn, Option.bind_some, inW, inF, inC, inK, fl4, cl4, wi3, T_X3_isFirstOrSecond, badE, fullE, noE, T_X3_refuseBad, T_X3_refuseFull, T_X3_refuseNo, reduceIte, Nat.reduceEqDiff, Nat.reduceLeDiff, Nat.reduceMul, Nat.reduceAdd, Nat.reduceSub, and_true, true_and, c1, un, h1, h2, h3, hfg, x1]; exact l3
    · rw [T_X4_leave]; simp (disch := omega) only [l0, l1, l2, l3, l4, l5, l6, l7, l8, l9, l10, l11, l12, l30, l35, l36, l60, l99, l127, l150, l999, nI_eq, nI_leI, nI_ltI, nI_1, nI_add, pk_mul, obN, nI_clamp, lt', jn, Option.bind_some, inW, inF, inC, inK, fl4, cl4, wi3, T_X3_isFirstOrSecond, badE, fullE, noE, T_X3_refuseBad, T_X3_refuseFull, T_X3_refuseNo, reduceIte, Nat.reduceEqDiff, Nat.reduceLeDiff, Nat.reduceMul, Nat.reduceAdd, Nat.reduceSub, and_true, true_and, m1, h1, h2, h3, hfg]
      refine Eq.trans l4 ?_
      split <;> rfl
    · exact ⟨rfl, ⟨S, hok, hc, hm⟩, htx, hab, hrf, hg0, hg1⟩
  · refine opI (by rw [T_X3_leave]; simp (disch := omega) only [l0, l1, l2, l3, l4, l5, l6, l7, l8, l9, l10, l11, l12, l30, l35, l36, l60, l99, l127, l150, l999, nI_eq, nI_leI, nI_ltI, nI_1, nI_add, pk_mul, obN, nI_clamp, lt', jn, Option.bind_some, inW, inF, inC, inK, fl4, cl4, wi3, T_X3_isFirstOrSecond, badE, fullE, noE, T_X3_refuseBad, T_X3_refuseFull, T_X3_refuseNo, reduceIte, Nat.reduceEqDiff, Nat.reduceLeDiff, Nat.reduceMul, Nat.reduceAdd, Nat.reduceSub, and_true, true_and, c1, m1, un, h1, h2, h3, hfg, tenE]; rfl) (by rw [T_X4_leave]; simp (disch := omega) only [l0, l1, l2, l3, l4, l5, l6, l7, l8, l9, l10, l11, l12, l30, l35, l36, l60, l99, l127, l150, l999, nI_eq, nI_leI, nI_ltI, nI_1, nI_add, pk_mul, obN, nI_clamp, lt', jn, Option.bind_some, inW, inF, inC, inK, fl4, cl4, wi3, T_X3_isFirstOrSecond, badE, fullE, noE, T_X3_refuseBad, T_X3_refuseFull, T_X3_refuseNo, reduceIte, Nat.reduceEqDiff, Nat.reduceLeDiff, Nat.reduceMul, Nat.reduceAdd, Nat.reduceSub, and_true, true_and, c1, m1, un, h1, h2, h3, hfg, tenE]; rfl) ?_; exact ⟨rfl, ⟨S, hok, hc, hm⟩, htx, hab, rf_bad hrf, hg0, hg1⟩
