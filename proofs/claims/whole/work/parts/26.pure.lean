/-- the numbers of what can be undone after one more is kept -/
def kuN (u mo : Nat) (cells foods rows : Nat → Nat) : Nat → Nat := fun i =>
  if i < 11 * kept u then (if u = 8 then rows (i + 11) else rows i)
  else if i = 11 * kept u then mo
  else if i < 11 * kept u + 6 then cells (i - (11 * kept u + 1)) else foods (i - (11 * kept u + 6))
theorem kept_le {u : Nat} (h : u ≤ 8) : kept u ≤ 7 ∧ kept u ≤ u ∧ (u = 8 → kept u = 7) ∧ (u ≠ 8 → kept u = u) := by
  unfold kept
  split <;> omega
theorem ku_rows {R rows cells foods : Nat → Int32} {C F Q : Nat → Nat} {u mo n : Nat} (hu : u ≤ 8) (hn : n ≤ 5)
    (h1 : R (11 * kept u) = nI mo) (h2 : ∀ f, f < 5 → R (11 * kept u + 1 + f) = cells f ∧ R (11 * kept u + 6 + f) = foods f) (h3 : ∀ j, j < 11 * kept u → R j = shR u rows j)
    (hc : ∀ f, f < n → cells f = nI (C f)) (hf : ∀ f, f < n → foods f = nI (F f))
    (hr : ∀ v, v < u → rows (11 * v) = nI (Q (11 * v)) ∧ ∀ f, f < n → rows (11 * v + 1 + f) = nI (Q (11 * v + 1 + f)) ∧ rows (11 * v + 6 + f) = nI (Q (11 * v + 6 + f)))
    (v : Nat) (hv : v < kept u + 1) : R (11 * v) = nI (kuN u mo C F Q (11 * v)) ∧ ∀ f, f < n → R (11 * v + 1 + f) = nI (kuN u mo C F Q (11 * v + 1 + f)) ∧ R (11 * v + 6 + f) = nI (kuN u mo C F Q (11 * v + 6 + f)) := by
  obtain ⟨k1, k2, k3, k4⟩ := kept_le hu
  by_cases e : v = kept u
  · subst e
    constructor
    · rw [h1, kuN, if_neg (by omega), if_pos rfl]
    · intro f hf'
      rw [(h2 f (by omega)).1, (h2 f (by omega)).2, hc f hf', hf f hf']
      constructor
      · rw [kuN, if_neg (by omega), if_neg (by omega), if_pos (by omega), show 11 * kept u + 1 + f - (11 * kept u + 1) = f by omega]
      · rw [kuN, if_neg (by omega), if_neg (by omega), if_neg (by omega), show 11 * kept u + 6 + f - (11 * kept u + 6) = f by omega]
  · by_cases h8 : u = 8
    · subst h8
      have hr' := hr (v + 1) (by omega)
      constructor
      · rw [h3 _ (by omega), shR, if_pos rfl, kuN, if_pos (by omega), if_pos rfl]
        exact hr'.1
      · intro f hf'
        have q := hr'.2 f hf'
        rw [h3 _ (by omega), h3 _ (by omega), shR, shR, if_pos rfl, if_pos rfl, kuN, kuN, if_pos (by omega), if_pos rfl, if_pos (by omega), if_pos rfl]
        rw [show 11 * v + 1 + f + 11 = 11 * (v + 1) + 1 + f by omega, show 11 * v + 6 + f + 11 = 11 * (v + 1) + 6 + f by omega]
        exact q
    · have hr' := hr v (by omega)
      constructor
      · rw [h3 _ (by omega), shR, if_neg h8, kuN, if_pos (by omega), if_neg h8]
        exact hr'.1
      · intro f hf'
        have q := hr'.2 f hf'
        rw [h3 _ (by omega), h3 _ (by omega), shR, shR, if_neg h8, if_neg h8, kuN, kuN, if_pos (by omega), if_neg h8, if_pos (by omega), if_neg h8]
        exact q
theorem ku_ok {C F Q : Nat → Nat} {u mo n : Nat} (hu : u ≤ 8) (hn : n ≤ 5) (hm : mo ≤ 999) (hc : ∀ f, f < n → C f ≤ 35) (hf : ∀ f, f < n → F f ≤ 99)
    (hr : ∀ v, v < u → Q (11 * v) ≤ 999 ∧ ∀ f, f < n → Q (11 * v + 1 + f) ≤ 35 ∧ Q (11 * v + 6 + f) ≤ 99)
    (v : Nat) (hv : v < kept u + 1) : kuN u mo C F Q (11 * v) ≤ 999 ∧ ∀ f, f < n → kuN u mo C F Q (11 * v + 1 + f) ≤ 35 ∧ kuN u mo C F Q (11 * v + 6 + f) ≤ 99 := by
  obtain ⟨k1, k2, k3, k4⟩ := kept_le hu
  by_cases e : v = kept u
  · subst e
    constructor
    · rw [kuN, if_neg (by omega), if_pos rfl]; exact hm
    · intro f hf'
      constructor
      · rw [kuN, if_neg (by omega), if_neg (by omega), if_pos (by omega), show 11 * kept u + 1 + f - (11 * kept u + 1) = f by omega]; exact hc f hf'
      · rw [kuN, if_neg (by omega), if_neg (by omega), if_neg (by omega), show 11 * kept u + 6 + f - (11 * kept u + 6) = f by omega]; exact hf f hf'
  · by_cases h8 : u = 8
    · subst h8
      have hr' := hr (v + 1) (by omega)
      constructor
      · rw [kuN, if_pos (by omega), if_pos rfl]
        exact hr'.1
      · intro f hf'
        have q := hr'.2 f hf'
        rw [kuN, kuN, if_pos (by omega), if_pos rfl, if_pos (by omega), if_pos rfl]
        rw [show 11 * v + 1 + f + 11 = 11 * (v + 1) + 1 + f by omega, show 11 * v + 6 + f + 11 = 11 * (v + 1) + 6 + f by omega]
        exact q
    · have hr' := hr v (by omega)
      constructor
      · rw [kuN, if_pos (by omega), if_neg h8]
        exact hr'.1
      · intro f hf'
        have q := hr'.2 f hf'
        rw [kuN, kuN, if_pos (by omega), if_neg h8, if_pos (by omega), if_neg h8]
        exact q
set_option maxHeartbeats 4000000 in
theorem op_feed (N : Nat) (hN : 1000 ≤ N) (x : FIV) (m : MV) (p1 p2 : Int32) (h : REL x m) : ∃ (R : Int32 × Int32 × Int32 × (Nat → Int32) × (Nat → Int32)) (RM : Int32 × Int32 × (Nat → Int32) × (Nat → Int32) × (Nat → Int32)), T_X3_feed N (x_bads x) (xn_month x) (xn_floes x) (xn_undos x) (xn_cells x) (xn_foods x) (xn_undoRows x) p1 p2 = some R ∧ T_X4_feed N (m_many m) (m_now m) (m_undoMany m) (m_refused m) (m_cells m) (m_food m) (m_ahead m) p1 p2 = some RM ∧ R.1 = RM.1 ∧ REL ((xn_month x), (xn_ways x), (xn_strengths x), (xn_floes x), (xn_kinds x), (xn_cells x), R.2.2.2.1, (xn_founds x), (xn_foundRows x), (xn_notes x), (xn_noteRows x), R.2.2.1, R.2.2.2.2, (xs_month x), (xs_ways x), (xs_strengths x), (xs_floes x), (xs_kinds x), (xs_cells x), (xs_foods x), (xs_founds x), (xs_foundRows x), (xs_notes x), (xs_noteRows x), (xs_undos x), (xs_undoRows x), (xt_bytes x), (xt_length x), (xt_place x), (xt_fault x), (x_odds x), (x_nextOdds x), (x_gains x), (x_above x), (x_below x), R.2.1, (x_nos x), (x_fulls x), (x_img0 x), (x_img1 x)) (RM.2.2.1, (m_many m), (m_now m), (m_findMany m), (m_noteMany m), (m_ways m), (m_strengths m), (m_kinds m), (m_cells m), RM.2.2.2.1, (m_findKind m), (m_findMonth m), (m_findCell m), (m_noted m), (m_text m), (m_typed m), (m_readAt m), (m_readMonth m), (m_readMany m), (m_readFloe m), (m_readWind m), (m_readNumber m), RM.2.2.2.2, RM.2.1, (m_aside m), (m_above m), (m_below m), (m_images m), (m_isKept m), (m_h0 m)) := by
  obtain ⟨⟨S, hok, hc, hm⟩, htx, hab, hrf, hg0, hg1⟩ := h
  obtain ⟨o0, o1, o2, o3, o4, o5, o6, o7, o8, o9, o10, o11, o12⟩ := hok; obtain ⟨⟨c0, c1, c2, c3, c4⟩, c5, c6, c7, c8, c9, c10, c11, c12⟩ := hc; obtain ⟨⟨m0, m1, m2, m3, m4⟩, m5, m6, m7, m8, m9, m10, m11, m12⟩ := hm
  have hok : okS S := ⟨o0, o1, o2, o3, o4, o5, o6, o7, o8, o9, o10, o11, o12⟩
  have hc : cS S (xn_month x) (xn_floes x) (xn_founds x) (xn_notes x) (xn_undos x) (xn_ways x) (xn_strengths x) (xn_kinds x) (xn_cells x) (xn_foods x) (xn_foundRows x) (xn_noteRows x) (xn_undoRows x) := ⟨⟨c0, c1, c2, c3, c4⟩, c5, c6, c7, c8, c9, c10, c11, c12⟩
  have hm : mS S (m_now m) (m_many m) (m_findMany m) (m_noteMany m) (m_undoMany m) (m_ways m) (m_strengths m) (m_kinds m) (m_cells m) (m_food m) (m_findKind m) (m_findMonth m) (m_findCell m) (m_noted m) (m_ahead m) := ⟨⟨m0, m1, m2, m3, m4⟩, m5, m6, m7, m8, m9, m10, m11, m12⟩
  rcases wif p1 (S 1 0) (by omega) with h0 | ⟨f, hf, rfl, h1⟩
  · refine opI (by rw [T_X3_feed]; simp (disch := omega) only [l0, l1, l2, l3, l4, l5, l6, l7, l8, l9, l10, l11, l12, l30, l35, l36, l60, l99, l127, l150, l999, nI_eq, nI_leI, nI_ltI, nI_1, nI_add, pk_mul, obN, nI_clamp, lt', jn, Option.bind_some, inW, inF, inC, inK, fl4, cl4, wi3, T_X3_isFirstOrSecond, badE, fullE, noE, T_X3_refuseBad, T_X3_refuseFull, T_X3_refuseNo, reduceIte, Nat.reduceEqDiff, Nat.reduceLeDiff, Nat.reduceMul, Nat.reduceAdd, Nat.reduceSub, and_true, true_and, c1, m1, h0]; rfl) (by rw [T_X4_feed]; simp (disch := omega) only [l0, l1, l2, l3, l4, l5, l6, l7, l8, l9, l10, l11, l12, l30, l35, l36, l60, l99, l127, l150, l999, nI_eq, nI_leI, nI_ltI, nI_1, nI_add, pk_mul, obN, nI_clamp, lt', jn, Option.bind_some, inW, inF, inC, inK, fl4, cl4, wi3, T_X3_isFirstOrSecond, badE, fullE, noE, T_X3_refuseBad, T_X3_refuseFull, T_X3_refuseNo, reduceIte, Nat.reduceEqDiff, Nat.reduceLeDiff, Nat.reduceMul, Nat.reduceAdd, Nat.reduceSub, and_true, true_and, c1, m1, h0]; rfl) ?_; exact ⟨rfl, ⟨S, hok, hc, hm⟩, htx, hab, rf_bad hrf, hg0, hg1⟩
  rcases wi1 p2 60 (by omega) with h0 | ⟨q, hq1, hq, rfl, h2⟩
  · refine opI (by rw [T_X3_feed]; simp (disch := omega) only [l0, l1, l2, l3, l4, l5, l6, l7, l8, l9, l10, l11, l12, l30, l35, l36, l60, l99, l127, l150, l999, nI_eq, nI_leI, nI_ltI, nI_1, nI_add, pk_mul, obN, nI_clamp, lt', jn, Option.bind_some, inW, inF, inC, inK, fl4, cl4, wi3, T_X3_isFirstOrSecond, badE, fullE, noE, T_X3_refuseBad, T_X3_refuseFull, T_X3_refuseNo, reduceIte, Nat.reduceEqDiff, Nat.reduceLeDiff, Nat.reduceMul, Nat.reduceAdd, Nat.reduceSub, and_true, true_and, c1, m1, h0, h1]; rfl) (by rw [T_X4_feed]; simp (disch := omega) only [l0, l1, l2, l3, l4, l5, l6, l7, l8, l9, l10, l11, l12, l30, l35, l36, l60, l99, l127, l150, l999, nI_eq, nI_leI, nI_ltI, nI_1, nI_add, pk_mul, obN, nI_clamp, lt', jn, Option.bind_some, inW, inF, inC, inK, fl4, cl4, wi3, T_X3_isFirstOrSecond, badE, fullE, noE, T_X3_refuseBad, T_X3_refuseFull, T_X3_refuseNo, reduceIte, Nat.reduceEqDiff, Nat.reduceLeDiff, Nat.reduceMul, Nat.reduceAdd, Nat.reduceSub, and_true, true_and, c1, m1, h0, h1]; rfl) ?_; exact ⟨rfl, ⟨S, hok, hc, hm⟩, htx, hab, rf_bad hrf, hg0, hg1⟩
  obtain ⟨R, e1, r1, r2, r3⟩ := keep_n (N := N) o4 (xn_month x) (xn_cells x) (xn_foods x) (xn_undoRows x)
  obtain ⟨RM, e2, s1, s2, s3⟩ := notes_n hN o4 (m_now m) (m_cells m) (m_food m) (m_ahead m)
  have d0 := c9 f hf
  have d1 := m9 f hf
  have b9 := o9 f hf
  have v1 : (if nI (S 9 f + q) < nI 99 then nI (S 9 f + q) else nI 99) = nI (min 99 (S 9 f + q)) := by
    by_cases hlt : S 9 f + q < 99
    · rw [if_pos ((nI_ltI (by omega) (by omega)).mpr hlt), show min 99 (S 9 f + q) = S 9 f + q by omega]
    · rw [if_neg (fun h => hlt ((nI_ltI (by omega) (by omega)).mp h)), show min 99 (S 9 f + q) = 99 by omega]
  have v2 : T_X4_lesser (nI 99) (nI (S 9 f + q)) = nI (min 99 (S 9 f + q)) := by
    rw [T_X4_lesser]
    by_cases hlt : S 9 f + q ≤ 99
    · rw [if_pos ((nI_leI (by omega) (by omega)).mpr hlt), show min 99 (S 9 f + q) = S 9 f + q by omega]
    · rw [if_neg (fun h => hlt ((nI_leI (by omega) (by omega)).mp h)), show min 99 (S 9 f + q) = 99 by omega]
  have hf5 : f < 5 := by omega
  refine opI (a := (nI (min 99 (S 9 f + q)), x_bads x, nI (kept (S 4 0) + 1), upd (xn_foods x) f (nI (min 99 (S 9 f + q))), R)) (b := (nI (min 99 (S 9 f + q)), nI (kept (S 4 0) + 1), m_refused m, upd (m_food m) f (nI (min 99 (S 9 f + q))), RM)) ?_ ?_ ?_
  · rw [T_X3_feed, c4, e1]
    simp (disch := omega) only [c1, l0, l1, l5, l60, l99, jn, lt', Option.bind_some, inF, h1, h2, nI_eq, obN, nI_clamp, d0, nI_add, v1, pk_us, reduceIte, Nat.reduceEqDiff]
  · rw [T_X4_feed, m4, e2]
    simp (disch := omega) only [m1, l0, l1, l5, l60, l99, jn, lt', Option.bind_some, fl4, inW, h1, h2, nI_eq, obN, nI_clamp, d1, nI_add, v2, pk_us, reduceIte, Nat.reduceEqDiff]
  · obtain ⟨k1, k2, k3, k4⟩ := kept_le o4
    exact ⟨rfl, ⟨mkS (S 0 0) (S 1 0) (S 2 0) (S 3 0) (kept (S 4 0) + 1) (S 5) (S 6) (S 7) (S 8) (upn (S 9) f (min 99 (S 9 f + q))) (S 10) (S 11) (kuN (S 4 0) (S 0 0) (S 8) (S 9) (S 12)),
      ⟨o0, o1, o2, o3, by show kept (S 4 0) + 1 ≤ 8; omega, o5, o6, o7, o8, upn_p o9 (by omega), o10, o11, ku_ok o4 o1 o0 o8 o9 o12⟩,
      ⟨⟨c0, c1, c2, c3, rfl⟩, c5, c6, c7, c8, upn_u c9, c10, c11, ku_rows o4 o1 (r1.trans c0) r2 r3 c8 c9 c12⟩,
      ⟨⟨m0, m1, m2, m3, rfl⟩, m5, m6, m7, m8, upn_u m9, m10, m11, ku_rows o4 o1 (s1.trans m0) s2 s3 m8 m9 m12⟩⟩, htx, hab, hrf, hg0, hg1⟩
set_option maxHeartbeats 4000000 in
theorem op_moves (N : Nat) (hN : 1000 ≤ N) (x : FIV) (m : MV) (p1 p2 : Int32) (h : REL x m) : ∃ (R : Int32 × Int32 × Int32 × (Nat → Int32) × (Nat → Int32)) (RM : Int32 × Int32 × (Nat → Int32) × (Nat → Int32) × (Nat → Int32)), T_X3_moves N (x_bads x) (xn_month x) (xn_floes x) (xn_undos x) (xn_cells x) (xn_foods x) (xn_undoRows x) p1 p2 = some R ∧ T_X4_moves N (m_many m) (m_now m) (m_undoMany m) (m_refused m) (m_cells m) (m_food m) (m_ahead m) p1 p2 = some RM ∧ R.1 = RM.1 ∧ REL ((xn_month x), (xn_ways x), (xn_strengths x), (xn_floes x), (xn_kinds x), R.2.2.2.1, (xn_foods x), (xn_founds x), (xn_foundRows x), (xn_notes x), (xn_noteRows x), R.2.2.1, R.2.2.2.2, (xs_month x), (xs_ways x), (xs_strengths x), (xs_floes x), (xs_kinds x), (xs_cells x), (xs_foods x), (xs_founds x), (xs_foundRows x), (xs_notes x), (xs_noteRows x), (xs_undos x), (xs_undoRows x), (xt_bytes x), (xt_length x), (xt_place x), (xt_fault x), (x_odds x), (x_nextOdds x), (x_gains x), (x_above x), (x_below x), R.2.1, (x_nos x), (x_fulls x), (x_img0 x), (x_img1 x)) (RM.2.2.1, (m_many m), (m_now m), (m_findMany m), (m_noteMany m), (m_ways m), (m_strengths m), (m_kinds m), RM.2.2.2.1, (m_food m), (m_findKind m), (m_findMonth m), (m_findCell m), (m_noted m), (m_text m), (m_typed m), (m_readAt m), (m_readMonth m), (m_readMany m), (m_readFloe m), (m_readWind m), (m_readNumber m), RM.2.2.2.2, RM.2.1, (m_aside m), (m_above m), (m_below m), (m_images m), (m_isKept m), (m_h0 m)) := by
  obtain ⟨⟨S, hok, hc, hm⟩, htx, hab, hrf, hg0, hg1⟩ := h
  obtain ⟨o0, o1, o2, o3, o4, o5, o6, o7, o8, o9, o10, o11, o12⟩ := hok; obtain ⟨⟨c0, c1, c2, c3, c4⟩, c5, c6, c7, c8, c9, c10, c11, c12⟩ := hc; obtain ⟨⟨m0, m1, m2, m3, m4⟩, m5, m6, m7, m8, m9, m10, m11, m12⟩ := hm
  have hok : okS S := ⟨o0, o1, o2, o3, o4, o5, o6, o7, o8, o9, o10, o11, o12⟩
  have hc : cS S (xn_month x) (xn_floes x) (xn_founds x) (xn_notes x) (xn_undos x) (xn_ways x) (xn_strengths x) (xn_kinds x) (xn_cells x) (xn_foods x) (xn_foundRows x) (xn_noteRows x) (xn_undoRows x) := ⟨⟨c0, c1, c2, c3, c4⟩, c5, c6, c7, c8, c9, c10, c11, c12⟩
  have hm : mS S (m_now m) (m_many m) (m_findMany m) (m_noteMany m) (m_undoMany m) (m_ways m) (m_strengths m) (m_kinds m) (m_cells m) (m_food m) (m_findKind m) (m_findMonth m) (m_findCell m) (m_noted m) (m_ahead m) := ⟨⟨m0, m1, m2, m3, m4⟩, m5, m6, m7, m8, m9, m10, m11, m12⟩
  rcases wif p1 (S 1 0) (by omega) with h0 | ⟨f, hf, rfl, h1⟩
  · refine opI (by rw [T_X3_moves]; simp (disch := omega) only [l0, l1, l2, l3, l4, l5, l6, l7, l8, l9, l10, l11, l12, l30, l35, l36, l60, l99, l127, l150, l999, nI_eq, nI_leI, nI_ltI, nI_1, nI_add, pk_mul, obN, nI_clamp, lt', jn, Option.bind_some, inW, inF, inC, inK, fl4, cl4, wi3, T_X3_isFirstOrSecond, badE, fullE, noE, T_X3_refuseBad, T_X3_refuseFull, T_X3_refuseNo, reduceIte, Nat.reduceEqDiff, Nat.reduceLeDiff, Nat.reduceMul, Nat.reduceAdd, Nat.reduceSub, and_true, true_and, c1, m1, h0]; rfl) (by rw [T_X4_moves]; simp (disch := omega) only [l0, l1, l2, l3, l4, l5, l6, l7, l8, l9, l10, l11, l12, l30, l35, l36, l60, l99, l127, l150, l999, nI_eq, nI_leI, nI_ltI, nI_1, nI_add, pk_mul, obN, nI_clamp, lt', jn, Option.bind_some, inW, inF, inC, inK, fl4, cl4, wi3, T_X3_isFirstOrSecond, badE, fullE, noE, T_X3_refuseBad, T_X3_refuseFull, T_X3_refuseNo, reduceIte, Nat.reduceEqDiff, Nat.reduceLeDiff, Nat.reduceMul, Nat.reduceAdd, Nat.reduceSub, and_true, true_and, c1, m1, h0]; rfl) ?_; exact ⟨rfl, ⟨S, hok, hc, hm⟩, htx, hab, rf_bad hrf, hg0, hg1⟩
  rcases wi p2 35 (by omega) with h0 | ⟨q, hq, rfl, h2⟩
  · refine opI (by rw [T_X3_moves]; simp (disch := omega) only [l0, l1, l2, l3, l4, l5, l6, l7, l8, l9, l10, l11, l12, l30, l35, l36, l60, l99, l127, l150, l999, nI_eq, nI_leI, nI_ltI, nI_1, nI_add, pk_mul, obN, nI_clamp, lt', jn, Option.bind_some, inW, inF, inC, inK, fl4, cl4, wi3, T_X3_isFirstOrSecond, badE, fullE, noE, T_X3_refuseBad, T_X3_refuseFull, T_X3_refuseNo, reduceIte, Nat.reduceEqDiff, Nat.reduceLeDiff, Nat.reduceMul, Nat.reduceAdd, Nat.reduceSub, and_true, true_and, c1, m1, h0, h1]; rfl) (by rw [T_X4_moves]; simp (disch := omega) only [l0, l1, l2, l3, l4, l5, l6, l7, l8, l9, l10, l11, l12, l30, l35, l36, l60, l99, l127, l150, l999, nI_eq, nI_leI, nI_ltI, nI_1, nI_add, pk_mul, obN, nI_clamp, lt', jn, Option.bind_some, inW, inF, inC, inK, fl4, cl4, wi3, T_X3_isFirstOrSecond, badE, fullE, noE, T_X3_refuseBad, T_X3_refuseFull, T_X3_refuseNo, reduceIte, Nat.reduceEqDiff, Nat.reduceLeDiff, Nat.reduceMul, Nat.reduceAdd, Nat.reduceSub, and_true, true_and, c1, m1, h0, h1]; rfl) ?_; exact ⟨rfl, ⟨S, hok, hc, hm⟩, htx, hab, rf_bad hrf, hg0, hg1⟩
  obtain ⟨R, e1, r1, r2, r3⟩ := keep_n (N := N) o4 (xn_month x) (xn_cells x) (xn_foods x) (xn_undoRows x)
  obtain ⟨RM, e2, s1, s2, s3⟩ := notes_n hN o4 (m_now m) (m_cells m) (m_food m) (m_ahead m)
  have d0 := c8 f hf
  have d1 := m8 f hf
  have hf5 : f < 5 := by omega
  refine opI (a := (nI (S 8 f), x_bads x, nI (kept (S 4 0) + 1), upd (xn_cells x) f (nI q), R)) (b := (nI (S 8 f), nI (kept (S 4 0) + 1), m_refused m, upd (m_cells m) f (nI q), RM)) ?_ ?_ ?_
  · rw [T_X3_moves, c4, e1]
    simp (disch := omega) only [l0, l1, l2, l3, l4, l5, l6, l7, l8, l9, l10, l11, l12, l30, l35, l36, l60, l99, l127, l150, l999, nI_eq, nI_leI, nI_ltI, nI_1, nI_add, pk_mul, obN, nI_clamp, lt', jn, Option.bind_some, inW, inF, inC, inK, fl4, cl4, wi3, T_X3_isFirstOrSecond, badE, fullE, noE, T_X3_refuseBad, T_X3_refuseFull, T_X3_refuseNo, reduceIte, Nat.reduceEqDiff, Nat.reduceLeDiff, Nat.reduceMul, Nat.reduceAdd, Nat.reduceSub, and_true, true_and, c1, h1, h2, d0]
  · rw [T_X4_moves, m4, e2]
    simp (disch := omega) only [l0, l1, l2, l3, l4, l5, l6, l7, l8, l9, l10, l11, l12, l30, l35, l36, l60, l99, l127, l150, l999, nI_eq, nI_leI, nI_ltI, nI_1, nI_add, pk_mul, obN, nI_clamp, lt', jn, Option.bind_some, inW, inF, inC, inK, fl4, cl4, wi3, T_X3_isFirstOrSecond, badE, fullE, noE, T_X3_refuseBad, T_X3_refuseFull, T_X3_refuseNo, reduceIte, Nat.reduceEqDiff, Nat.reduceLeDiff, Nat.reduceMul, Nat.reduceAdd, Nat.reduceSub, and_true, true_and, m1, h1, h2, d1]
  · obtain ⟨k1, k2, k3, k4⟩ := kept_le o4
    exact ⟨rfl, ⟨mkS (S 0 0) (S 1 0) (S 2 0) (S 3 0) (kept (S 4 0) + 1) (S 5) (S 6) (S 7) (upn (S 8) f q) (S 9) (S 10) (S 11) (kuN (S 4 0) (S 0 0) (S 8) (S 9) (S 12)),
      ⟨o0, o1, o2, o3, by show kept (S 4 0) + 1 ≤ 8; omega, o5, o6, o7, upn_p o8 hq, o9, o10, o11, ku_ok o4 o1 o0 o8 o9 o12⟩,
      ⟨⟨c0, c1, c2, c3, rfl⟩, c5, c6, c7, upn_u c8, c9, c10, c11, ku_rows o4 o1 (r1.trans c0) r2 r3 c8 c9 c12⟩,
      ⟨⟨m0, m1, m2, m3, rfl⟩, m5, m6, m7, upn_u m8, m9, m10, m11, ku_rows o4 o1 (s1.trans m0) s2 s3 m8 m9 m12⟩⟩, htx, hab, hrf, hg0, hg1⟩
