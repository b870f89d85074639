/-- a month goes by: month, cells, foods -/
def mvN (W G K : Nat → Nat) (s : Nat × (Nat → Nat) × (Nat → Nat)) : Nat × (Nat → Nat) × (Nat → Nat) :=
  if s.1 < 999 then (s.1 + 1, fun f => itN W G (K f) (s.2.1 f) s.1, fun f => s.2.2 f - 1) else s
def mvs (W G K : Nat → Nat) (s : Nat × (Nat → Nat) × (Nat → Nat)) : Nat → Nat × (Nat → Nat) × (Nat → Nat)
  | 0 => s
  | i + 1 => mvN W G K (mvs W G K s i)
theorem mvs_stop {W G K : Nat → Nat} {s : Nat × (Nat → Nat) × (Nat → Nat)} {i : Nat} (h : ¬ (mvs W G K s i).1 < 999) : ∀ d, mvs W G K s (i + d) = mvs W G K s i
  | 0 => rfl
  | d + 1 => by
    have e := mvs_stop h d
    show mvN W G K (mvs W G K s (i + d)) = _
    rw [e, mvN, if_neg h]
def okM (n : Nat) (s : Nat × (Nat → Nat) × (Nat → Nat)) : Prop := s.1 ≤ 999 ∧ (∀ f, f < n → s.2.1 f ≤ 35) ∧ ∀ f, f < n → s.2.2 f ≤ 99
theorem mvN_ok {W G K : Nat → Nat} {n : Nat} (hW : ∀ i, i < 12 → W i ≤ 3) (hG : ∀ i, i < 12 → G i ≤ 3) (hK : ∀ f, f < n → K f ≤ 5) {s : Nat × (Nat → Nat) × (Nat → Nat)} (h : okM n s) : okM n (mvN W G K s) := by
  obtain ⟨h1, h2, h3⟩ := h
  by_cases hm : s.1 < 999
  · rw [mvN, if_pos hm]
    exact ⟨by show s.1 + 1 ≤ 999; omega, fun f hf => itN_le hW hG (hK f hf) (h2 f hf), fun f hf => by have := h3 f hf; show s.2.2 f - 1 ≤ 99; omega⟩
  · rw [mvN, if_neg hm]; exact ⟨h1, h2, h3⟩
theorem mvs_ok {W G K : Nat → Nat} {n : Nat} (hW : ∀ i, i < 12 → W i ≤ 3) (hG : ∀ i, i < 12 → G i ≤ 3) (hK : ∀ f, f < n → K f ≤ 5) {s : Nat × (Nat → Nat) × (Nat → Nat)} (h : okM n s) : ∀ i, okM n (mvs W G K s i)
  | 0 => h
  | i + 1 => mvN_ok hW hG hK (mvs_ok hW hG hK h i)
def eqM (n : Nat) (s : Nat × (Nat → Nat) × (Nat → Nat)) (mo : Int32) (c f : Nat → Int32) : Prop := mo = nI s.1 ∧ (∀ i, i < n → c i = nI (s.2.1 i)) ∧ ∀ i, i < n → f i = nI (s.2.2 i)
theorem dec_n {q : Nat} (h : q < 2 ^ 30) : (if nI 0 < nI q - nI 1 then nI q - nI 1 else nI 0) = nI (q - 1) := by
  rcases q with _ | q
  · rfl
  · rw [show nI (q + 1) - nI 1 = nI q from nI_pred q]
    by_cases e : 0 < q
    · rw [if_pos ((nI_ltI (by omega) (by omega)).mpr e)]; rfl
    · rw [if_neg (fun h => e ((nI_ltI (by omega) (by omega)).mp h))]
      obtain rfl : q = 0 := by omega
      rfl
theorem passMonth_n {N n : Nat} {W G K : Nat → Nat} (hN : 1000 ≤ N) (hn : n ≤ 5) {w g k cells foods : Nat → Int32} {s : Nat × (Nat → Nat) × (Nat → Nat)} {mo : Int32}
    (ew : ∀ i, i < 12 → w i = nI (W i)) (eg : ∀ i, i < 12 → g i = nI (G i)) (hW : ∀ i, i < 12 → W i ≤ 3) (hG : ∀ i, i < 12 → G i ≤ 3) (ek : ∀ f, f < n → k f = nI (K f)) (hK : ∀ f, f < n → K f ≤ 5)
    (hs : okM n s) (he : eqM n s mo cells foods) : ∃ mo' c f, T_X1_passMonth N mo (nI n) w g k cells foods = some (mo', c, f) ∧ eqM n (mvN W G K s) mo' c f := by
  obtain ⟨h1, h2, h3⟩ := hs
  obtain ⟨rfl, g2, g3⟩ := he
  by_cases hm : s.1 < 999
  · rw [T_X1_passMonth, mvN, if_pos hm]
    obtain ⟨r, e1, c, f, rfl, e2, e3⟩ := lp (fun j (q : Int32 × (Nat → Int32) × (Nat → Int32)) => T_X1_passMonth_L13 N (nI s.1) (nI n) w g k (fun z33 z34 => some (nI s.1 + 1, z33, z34)) j q.1 q.2.1 q.2.2)
      (fun i q => q.1 = nI i ∧ (∀ f, f < n → q.2.1 f = if f < i then nI (itN W G (K f) (s.2.1 f) s.1) else nI (s.2.1 f)) ∧ ∀ f, f < n → q.2.2 f = if f < i then nI (s.2.2 f - 1) else nI (s.2.2 f))
      (fun r => ∃ c f, r = (nI s.1 + 1, c, f) ∧ (∀ i, i < n → c i = nI (itN W G (K i) (s.2.1 i) s.1)) ∧ ∀ i, i < n → f i = nI (s.2.2 i - 1)) n
      (fun i q j hi ⟨a1, a2, a3⟩ => by
        obtain ⟨q1, q2, q3⟩ := q
        simp only at a1 a2 a3
        subst a1
        have b2 := a2 i hi
        have b3 := a3 i hi
        rw [if_neg (Nat.lt_irrefl i)] at b2 b3
        have hn5 : ¬ n ≤ i := by omega
        have hi5 : i < 5 := by omega
        have c2 := h2 i hi
        have c3 := h3 i hi
        refine .inl ⟨(nI (i + 1), upd q2 i (nI (itN W G (K i) (s.2.1 i) s.1)), upd q3 i (nI (s.2.2 i - 1))), ⟨rfl, ?_, ?_⟩, ?_⟩
        · intro f hf
          simp only
          by_cases e : f = i
          · subst e; rw [pk_us, if_pos (by omega)]
          · rw [pk_un e, a2 f hf]
            by_cases e' : f < i
            · rw [if_pos e', if_pos (by omega)]
            · rw [if_neg e', if_neg (by omega)]
        · intro f hf
          simp only
          by_cases e : f = i
          · subst e; rw [pk_us, if_pos (by omega)]
          · rw [pk_un e, a3 f hf]
            by_cases e' : f < i
            · rw [if_pos e', if_pos (by omega)]
            · rw [if_neg e', if_neg (by omega)]
        · have nx := nextCell_n (N := N) (m := s.1) ew eg hW hG (hK i hi) c2 (by omega)
          have ek' := ek i hi
          have dn := dec_n (q := s.2.2 i) (by omega)
          (try simp only)
          rw [T_X1_passMonth_L13]
          simp (disch := omega) only [l0, l1, l2, l3, l4, l5, l6, l7, l8, l9, l10, l11, l12, l30, l35, l36, l60, l99, l127, l150, l999, nI_eq, nI_leI, nI_ltI, nI_1, nI_add, pk_mul, obN, nI_clamp, lt', jn, Option.bind_some, inW, inF, inC, inK, fl4, cl4, wi3, T_X3_isFirstOrSecond, badE, fullE, noE, T_X3_refuseBad, T_X3_refuseFull, T_X3_refuseNo, reduceIte, Nat.reduceEqDiff, Nat.reduceLeDiff, Nat.reduceMul, Nat.reduceAdd, Nat.reduceSub, and_true, true_and, hn5, b2, b3, ek', nx, dn])
      (fun q j ⟨a1, a2, a3⟩ => ⟨_, by (try simp only); rw [T_X1_passMonth_L13, a1]; simp (disch := omega) only [l0, l1, l2, l3, l4, l5, l6, l7, l8, l9, l10, l11, l12, l30, l35, l36, l60, l99, l127, l150, l999, nI_eq, nI_leI, nI_ltI, nI_1, nI_add, pk_mul, obN, nI_clamp, lt', jn, Option.bind_some, inW, inF, inC, inK, fl4, cl4, wi3, T_X3_isFirstOrSecond, badE, fullE, noE, T_X3_refuseBad, T_X3_refuseFull, T_X3_refuseNo, reduceIte, Nat.reduceEqDiff, Nat.reduceLeDiff, Nat.reduceMul, Nat.reduceAdd, Nat.reduceSub, and_true, true_and, Nat.le_refl] <;> rfl, q.2.1, q.2.2, rfl, fun i hi => (a2 i hi).trans (if_pos hi), fun i hi => (a3 i hi).trans (if_pos hi)⟩)
      n 0 (0, cells, foods) N (by omega) ⟨rfl, fun f hf => (g2 f hf).trans (if_neg (Nat.not_lt_zero f)).symm, fun f hf => (g3 f hf).trans (if_neg (Nat.not_lt_zero f)).symm⟩ (by omega)
    rw [l999, if_pos ((nI_ltI (by omega) (by omega)).mpr hm)]
    exact ⟨_, c, f, e1, nI_1 _, e2, e3⟩
  · rw [T_X1_passMonth, mvN, if_neg hm, l999, if_neg (fun h => hm ((nI_ltI (by omega) (by omega)).mp h))]
    exact ⟨_, _, _, rfl, rfl, g2, g3⟩
theorem pass_n {N n : Nat} {W G K : Nat → Nat} (hN : 1000 ≤ N) (hn : n ≤ 5) {w g k cells foods : Nat → Int32} {s : Nat × (Nat → Nat) × (Nat → Nat)} {mo : Int32}
    (ew : ∀ i, i < 12 → w i = nI (W i)) (eg : ∀ i, i < 12 → g i = nI (G i)) (hW : ∀ i, i < 12 → W i ≤ 3) (hG : ∀ i, i < 12 → G i ≤ 3) (ek : ∀ f, f < n → k f = nI (K f)) (hK : ∀ f, f < n → K f ≤ 5)
    (hs : okM n s) (he : eqM n s mo cells foods) (hm : s.1 < 999) : ∃ mo' c f, T_X4_pass N (nI n) mo w g k cells foods = some (mo', c, f) ∧ eqM n (mvN W G K s) mo' c f := by
  obtain ⟨h1, h2, h3⟩ := hs
  obtain ⟨rfl, g2, g3⟩ := he
  rw [T_X4_pass, mvN, if_pos hm]
  obtain ⟨r, e1, c, f, rfl, e2, e3⟩ := lp (fun j (q : Int32 × (Nat → Int32) × (Nat → Int32)) => T_X4_pass_L2 N (nI n) (nI s.1) w g k (fun z43 z44 => some (nI s.1 + 1, z43, z44)) j q.1 q.2.1 q.2.2)
    (fun i q => q.1 = nI i ∧ (∀ f, f < n → q.2.1 f = if f < i then nI (itN W G (K f) (s.2.1 f) s.1) else nI (s.2.1 f)) ∧ ∀ f, f < n → q.2.2 f = if f < i then nI (s.2.2 f - 1) else nI (s.2.2 f))
    (fun r => ∃ c f, r = (nI s.1 + 1, c, f) ∧ (∀ i, i < n → c i = nI (itN W G (K i) (s.2.1 i) s.1)) ∧ ∀ i, i < n → f i = nI (s.2.2 i - 1)) n
    (fun i q j hi ⟨a1, a2, a3⟩ => by
      obtain ⟨q1, q2, q3⟩ := q
      simp only at a1 a2 a3
      subst a1
      have b2 := a2 i hi
      have b3 := a3 i hi
      rw [if_neg (Nat.lt_irrefl i)] at b2 b3
      have hn5 : ¬ n ≤ i := by omega
      have hi5 : i < 5 := by omega
      have c2 := h2 i hi
      have c3 := h3 i hi
      refine .inl ⟨(nI (i + 1), upd q2 i (nI (itN W G (K i) (s.2.1 i) s.1)), upd q3 i (nI (s.2.2 i - 1))), ⟨rfl, ?_, ?_⟩, ?_⟩
      · intro f hf
        simp only
        by_cases e : f = i
        · subst e; rw [pk_us, if_pos (by omega)]
        · rw [pk_un e, a2 f hf]
          by_cases e' : f < i
          · rw [if_pos e', if_pos (by omega)]
          · rw [if_neg e', if_neg (by omega)]
      · intro f hf
        simp only
        by_cases e : f = i
        · subst e; rw [pk_us, if_pos (by omega)]
        · rw [pk_un e, a3 f hf]
          by_cases e' : f < i
          · rw [if_pos e', if_pos (by omega)]
          · rw [if_neg e', if_neg (by omega)]
      · have nx := driftsIn_n (m := s.1) hN ew eg hW hG (hK i hi) c2 (by omega)
        have ek' := ek i hi
        (try simp only)
        rw [T_X4_pass_L2]
        by_cases hz : s.2.2 i = 0
        · have hz' : s.2.2 i ≤ 0 := by omega
          have e9 : nI (s.2.2 i) - nI 0 = nI (s.2.2 i - 1) := by rw [hz]; rfl
          simp (disch := omega) only [l0, l1, l2, l3, l4, l5, l6, l7, l8, l9, l10, l11, l12, l30, l35, l36, l60, l99, l127, l150, l999, nI_eq, nI_leI, nI_ltI, nI_1, nI_add, pk_mul, obN, nI_clamp, lt', jn, Option.bind_some, inW, inF, inC, inK, fl4, cl4, wi3, T_X3_isFirstOrSecond, badE, fullE, noE, T_X3_refuseBad, T_X3_refuseFull, T_X3_refuseNo, reduceIte, Nat.reduceEqDiff, Nat.reduceLeDiff, Nat.reduceMul, Nat.reduceAdd, Nat.reduceSub, and_true, true_and, hn5, b2, b3, ek', nx, hz', e9]
        · have hz' : ¬ s.2.2 i ≤ 0 := by omega
          simp (disch := omega) only [l0, l1, l2, l3, l4, l5, l6, l7, l8, l9, l10, l11, l12, l30, l35, l36, l60, l99, l127, l150, l999, nI_eq, nI_leI, nI_ltI, nI_1, nI_add, pk_mul, obN, nI_clamp, lt', jn, Option.bind_some, inW, inF, inC, inK, fl4, cl4, wi3, T_X3_isFirstOrSecond, badE, fullE, noE, T_X3_refuseBad, T_X3_refuseFull, T_X3_refuseNo, reduceIte, Nat.reduceEqDiff, Nat.reduceLeDiff, Nat.reduceMul, Nat.reduceAdd, Nat.reduceSub, and_true, true_and, hn5, b2, b3, ek', nx, hz', pk_sub])
    (fun q j ⟨a1, a2, a3⟩ => ⟨_, by (try simp only); rw [T_X4_pass_L2, a1]; simp (disch := omega) only [l0, l1, l2, l3, l4, l5, l6, l7, l8, l9, l10, l11, l12, l30, l35, l36, l60, l99, l127, l150, l999, nI_eq, nI_leI, nI_ltI, nI_1, nI_add, pk_mul, obN, nI_clamp, lt', jn, Option.bind_some, inW, inF, inC, inK, fl4, cl4, wi3, T_X3_isFirstOrSecond, badE, fullE, noE, T_X3_refuseBad, T_X3_refuseFull, T_X3_refuseNo, reduceIte, Nat.reduceEqDiff, Nat.reduceLeDiff, Nat.reduceMul, Nat.reduceAdd, Nat.reduceSub, and_true, true_and, Nat.le_refl] <;> rfl, q.2.1, q.2.2, rfl, fun i hi => (a2 i hi).trans (if_pos hi), fun i hi => (a3 i hi).trans (if_pos hi)⟩)
    n 0 (0, cells, foods) N (by omega) ⟨rfl, fun f hf => (g2 f hf).trans (if_neg (Nat.not_lt_zero f)).symm, fun f hf => (g3 f hf).trans (if_neg (Nat.not_lt_zero f)).symm⟩ (by omega)
  exact ⟨_, c, f, e1, nI_1 _, e2, e3⟩
set_option maxHeartbeats 4000000 in
theorem op_month (N : Nat) (hN : 1000 ≤ N) (x : FIV) (m : MV) (p1 : Int32) (h : REL x m) : ∃ (R : Int32 × Int32 × Int32 × Int32 × (Nat → Int32) × (Nat → Int32) × (Nat → Int32)) (RM : Int32 × Int32 × Int32 × (Nat → Int32) × (Nat → Int32) × (Nat → Int32) × (Nat → Int32)), T_X3_month N (x_bads x) (xn_month x) (xn_floes x) (xn_undos x) (xn_ways x) (xn_strengths x) (xn_kinds x) (xn_cells x) (xn_foods x) (xn_undoRows x) p1 = some R ∧ T_X4_month N (m_many m) (m_now m) (m_undoMany m) (m_refused m) (m_ways m) (m_strengths m) (m_kinds m) (m_cells m) (m_food m) (m_ahead m) p1 = some RM ∧ R.1 = RM.1 ∧ REL (R.2.2.1, (xn_ways x), (xn_strengths x), (xn_floes x), (xn_kinds x), R.2.2.2.2.1, R.2.2.2.2.2.1, (xn_founds x), (xn_foundRows x), (xn_notes x), (xn_noteRows x), R.2.2.2.1, R.2.2.2.2.2.2, (xs_month x), (xs_ways x), (xs_strengths x), (xs_floes x), (xs_kinds x), (xs_cells x), (xs_foods x), (xs_founds x), (xs_foundRows x), (xs_notes x), (xs_noteRows x), (xs_undos x), (xs_undoRows x), (xt_bytes x), (xt_length x), (xt_place x), (xt_fault x), (x_odds x), (x_nextOdds x), (x_gains x), (x_above x), (x_below x), R.2.1, (x_nos x), (x_fulls x), (x_img0 x), (x_img1 x)) (RM.2.2.2.1, (m_many m), RM.2.1, (m_findMany m), (m_noteMany m), (m_ways m), (m_strengths m), (m_kinds m), RM.2.2.2.2.1, RM.2.2.2.2.2.1, (m_findKind m), (m_findMonth m), (m_findCell m), (m_noted m), (m_text m), (m_typed m), (m_readAt m), (m_readMonth m), (m_readMany m), (m_readFloe m), (m_readWind m), (m_readNumber m), RM.2.2.2.2.2.2, RM.2.2.1, (m_aside m), (m_above m), (m_below m), (m_images m), (m_isKept m), (m_h0 m)) := by
  obtain ⟨⟨S, hok, hc, hm⟩, htx, hab, hrf, hg0, hg1⟩ := h
  obtain ⟨o0, o1, o2, o3, o4, o5, o6, o7, o8, o9, o10, o11, o12⟩ := hok; obtain ⟨⟨c0, c1, c2, c3, c4⟩, c5, c6, c7, c8, c9, c10, c11, c12⟩ := hc; obtain ⟨⟨m0, m1, m2, m3, m4⟩, m5, m6, m7, m8, m9, m10, m11, m12⟩ := hm
  have hok : okS S := ⟨o0, o1, o2, o3, o4, o5, o6, o7, o8, o9, o10, o11, o12⟩
  have hc : cS S (xn_month x) (xn_floes x) (xn_founds x) (xn_notes x) (xn_undos x) (xn_ways x) (xn_strengths x) (xn_kinds x) (xn_cells x) (xn_foods x) (xn_foundRows x) (xn_noteRows x) (xn_undoRows x) := ⟨⟨c0, c1, c2, c3, c4⟩, c5, c6, c7, c8, c9, c10, c11, c12⟩
  have hm : mS S (m_now m) (m_many m) (m_findMany m) (m_noteMany m) (m_undoMany m) (m_ways m) (m_strengths m) (m_kinds m) (m_cells m) (m_food m) (m_findKind m) (m_findMonth m) (m_findCell m) (m_noted m) (m_ahead m) := ⟨⟨m0, m1, m2, m3, m4⟩, m5, m6, m7, m8, m9, m10, m11, m12⟩
  rcases wi1 p1 60 (by omega) with h0 | ⟨q, hq1, hq, rfl, h2⟩
  · refine opI (by rw [T_X3_month]; simp (disch := omega) only [l0, l1, l2, l3, l4, l5, l6, l7, l8, l9, l10, l11, l12, l30, l35, l36, l60, l99, l127, l150, l999, nI_eq, nI_leI, nI_ltI, nI_1, nI_add, pk_mul, obN, nI_clamp, lt', jn, Option.bind_some, inW, inF, inC, inK, fl4, cl4, wi3, T_X3_isFirstOrSecond, badE, fullE, noE, T_X3_refuseBad, T_X3_refuseFull, T_X3_refuseNo, reduceIte, Nat.reduceEqDiff, Nat.reduceLeDiff, Nat.reduceMul, Nat.reduceAdd, Nat.reduceSub, and_true, true_and, h0]; rfl) (by rw [T_X4_month]; simp (disch := omega) only [l0, l1, l2, l3, l4, l5, l6, l7, l8, l9, l10, l11, l12, l30, l35, l36, l60, l99, l127, l150, l999, nI_eq, nI_leI, nI_ltI, nI_1, nI_add, pk_mul, obN, nI_clamp, lt', jn, Option.bind_some, inW, inF, inC, inK, fl4, cl4, wi3, T_X3_isFirstOrSecond, badE, fullE, noE, T_X3_refuseBad, T_X3_refuseFull, T_X3_refuseNo, reduceIte, Nat.reduceEqDiff, Nat.reduceLeDiff, Nat.reduceMul, Nat.reduceAdd, Nat.reduceSub, and_true, true_and, h0]; rfl) ?_; exact ⟨rfl, ⟨S, hok, hc, hm⟩, htx, hab, rf_bad hrf, hg0, hg1⟩
  obtain ⟨R, e1, r1, r2, r3⟩ := keep_n (N := N) o4 (xn_month x) (xn_cells x) (xn_foods x) (xn_undoRows x)
  obtain ⟨RM, e2, s1, s2, s3⟩ := notes_n hN o4 (m_now m) (m_cells m) (m_food m) (m_ahead m)
  have hs0 : okM (S 1 0) (S 0 0, S 8, S 9) := ⟨o0, o8, o9⟩
  have hsi := mvs_ok (W := S 5) (G := S 6) (K := S 7) (n := S 1 0) o5 o6 o7 hs0
  have a1 := lp (fun n (t : Int32 × Int32 × (Nat → Int32) × (Nat → Int32)) => T_X3_month_L24 N (nI q) (nI (S 1 0)) (xn_ways x) (xn_strengths x) (xn_kinds x) (fun z31 z32 z33 => Option.bind (T_X1_floesOut N (nI (S 1 0)) z32) fun u37 => some (u37, x_bads x, z31, nI (kept (S 4 0) + 1), z32, z33, R)) n t.1 t.2.1 t.2.2.1 t.2.2.2)
    (fun i t => t.1 = nI i ∧ eqM (S 1 0) (mvs (S 5) (S 6) (S 7) (S 0 0, S 8, S 9) i) t.2.1 t.2.2.1 t.2.2.2)
    (fun r => ∃ mo c f, r = (nI (outN (mvs (S 5) (S 6) (S 7) (S 0 0, S 8, S 9) q).2.1 (S 1 0)), x_bads x, mo, nI (kept (S 4 0) + 1), c, f, R) ∧ eqM (S 1 0) (mvs (S 5) (S 6) (S 7) (S 0 0, S 8, S 9) q) mo c f) q
    (fun i t n hi ⟨a1, a2⟩ => by
      obtain ⟨t1, t2, t3, t4⟩ := t
      simp only at a1 a2
      subst a1
      obtain ⟨mo, c, f, b1, b2⟩ := passMonth_n hN o1 c5 c6 o5 o6 c7 o7 (hsi i) a2
      refine .inl ⟨(nI (i + 1), mo, c, f), ⟨rfl, b2⟩, ?_⟩
      have hn5 : ¬ q ≤ i := by omega
      (try simp only)
      rw [T_X3_month_L24, b1]
      simp (disch := omega) only [l0, l1, l2, l3, l4, l5, l6, l7, l8, l9, l10, l11, l12, l30, l35, l36, l60, l99, l127, l150, l999, nI_eq, nI_leI, nI_ltI, nI_1, nI_add, pk_mul, obN, nI_clamp, lt', jn, Option.bind_some, inW, inF, inC, inK, fl4, cl4, wi3, T_X3_isFirstOrSecond, badE, fullE, noE, T_X3_refuseBad, T_X3_refuseFull, T_X3_refuseNo, reduceIte, Nat.reduceEqDiff, Nat.reduceLeDiff, Nat.reduceMul, Nat.reduceAdd, Nat.reduceSub, and_true, true_and, hn5])
    (fun t n ⟨a1, a2⟩ => by
      obtain ⟨t1, t2, t3, t4⟩ := t
      simp only at a1 a2
      subst a1
      have fo := floesOut_n hN o1 a2.2.1 (hsi q).2.1
      exact ⟨_, by (try simp only); rw [T_X3_month_L24, fo]; simp (disch := omega) only [l0, l1, l2, l3, l4, l5, l6, l7, l8, l9, l10, l11, l12, l30, l35, l36, l60, l99, l127, l150, l999, nI_eq, nI_leI, nI_ltI, nI_1, nI_add, pk_mul, obN, nI_clamp, lt', jn, Option.bind_some, inW, inF, inC, inK, fl4, cl4, wi3, T_X3_isFirstOrSecond, badE, fullE, noE, T_X3_refuseBad, T_X3_refuseFull, T_X3_refuseNo, reduceIte, Nat.reduceEqDiff, Nat.reduceLeDiff, Nat.reduceMul, Nat.reduceAdd, Nat.reduceSub, and_true, true_and, Nat.le_refl] <;> rfl, _, _, _, rfl, a2⟩)
    q 0 (0, xn_month x, xn_cells x, xn_foods x) N (by omega) ⟨rfl, c0, c8, c9⟩ (by omega)
  have a2 := lp (fun n (t : Int32 × Int32 × (Nat → Int32) × (Nat → Int32)) => T_X4_month_L21 N (nI q) (nI (S 1 0)) (m_ways m) (m_strengths m) (m_kinds m) (fun z34 z35 z36 => Option.bind (T_X4_outs N (nI (S 1 0)) z35) fun u40 => some (u40, z34, nI (kept (S 4 0) + 1), m_refused m, z35, z36, RM)) n t.1 t.2.1 t.2.2.1 t.2.2.2)
    (fun i t => t.1 = nI i ∧ eqM (S 1 0) (mvs (S 5) (S 6) (S 7) (S 0 0, S 8, S 9) i) t.2.1 t.2.2.1 t.2.2.2)
    (fun r => ∃ mo c f, r = (nI (outN (mvs (S 5) (S 6) (S 7) (S 0 0, S 8, S 9) q).2.1 (S 1 0)), mo, nI (kept (S 4 0) + 1), m_refused m, c, f, RM) ∧ eqM (S 1 0) (mvs (S 5) (S 6) (S 7) (S 0 0, S 8, S 9) q) mo c f) q
    (fun i t n hi ⟨a1, a2⟩ => by
      obtain ⟨t1, t2, t3, t4⟩ := t
      simp only at a1 a2
      subst a1
      have hn5 : ¬ q ≤ i := by omega
      have a20 := a2.1
      have hmo := (hsi i).1
      by_cases hlt : (mvs (S 5) (S 6) (S 7) (S 0 0, S 8, S 9) i).1 < 999
      · obtain ⟨mo, c, f, b1, b2⟩ := pass_n hN o1 m5 m6 o5 o6 m7 o7 (hsi i) a2 hlt
        refine .inl ⟨(nI (i + 1), mo, c, f), ⟨rfl, b2⟩, ?_⟩
        have hle : ¬ 999 ≤ (mvs (S 5) (S 6) (S 7) (S 0 0, S 8, S 9) i).1 := by omega
        (try simp only)
        rw [T_X4_month_L21, b1, a20]
        simp (disch := omega) only [l0, l1, l2, l3, l4, l5, l6, l7, l8, l9, l10, l11, l12, l30, l35, l36, l60, l99, l127, l150, l999, nI_eq, nI_leI, nI_ltI, nI_1, nI_add, pk_mul, obN, nI_clamp, lt', jn, Option.bind_some, inW, inF, inC, inK, fl4, cl4, wi3, T_X3_isFirstOrSecond, badE, fullE, noE, T_X3_refuseBad, T_X3_refuseFull, T_X3_refuseNo, reduceIte, Nat.reduceEqDiff, Nat.reduceLeDiff, Nat.reduceMul, Nat.reduceAdd, Nat.reduceSub, and_true, true_and, hn5, hle]
      · refine .inr ?_
        have hle : 999 ≤ (mvs (S 5) (S 6) (S 7) (S 0 0, S 8, S 9) i).1 := by omega
        have hst := mvs_stop hlt (q - i)
        rw [show i + (q - i) = q by omega] at hst
        have fo := outs_n hN o1 a2.2.1 (hsi i).2.1
        rw [hst]
        exact ⟨_, by (try simp only); rw [T_X4_month_L21, fo, a20]; simp (disch := omega) only [l0, l1, l2, l3, l4, l5, l6, l7, l8, l9, l10, l11, l12, l30, l35, l36, l60, l99, l127, l150, l999, nI_eq, nI_leI, nI_ltI, nI_1, nI_add, pk_mul, obN, nI_clamp, lt', jn, Option.bind_some, inW, inF, inC, inK, fl4, cl4, wi3, T_X3_isFirstOrSecond, badE, fullE, noE, T_X3_refuseBad, T_X3_refuseFull, T_X3_refuseNo, reduceIte, Nat.reduceEqDiff, Nat.reduceLeDiff, Nat.reduceMul, Nat.reduceAdd, Nat.reduceSub, and_true, true_and, hn5, hle] <;> rfl, _, _, _, rfl, rfl, a2.2.1, a2.2.2⟩)
    (fun t n ⟨a1, a2⟩ => by
      obtain ⟨t1, t2, t3, t4⟩ := t
      simp only at a1 a2
      subst a1
      have fo := outs_n hN o1 a2.2.1 (hsi q).2.1
      exact ⟨_, by (try simp only); rw [T_X4_month_L21, fo]; simp (disch := omega) only [l0, l1, l2, l3, l4, l5, l6, l7, l8, l9, l10, l11, l12, l30, l35, l36, l60, l99, l127, l150, l999, nI_eq, nI_leI, nI_ltI, nI_1, nI_add, pk_mul, obN, nI_clamp, lt', jn, Option.bind_some, inW, inF, inC, inK, fl4, cl4, wi3, T_X3_isFirstOrSecond, badE, fullE, noE, T_X3_refuseBad, T_X3_refuseFull, T_X3_refuseNo, reduceIte, Nat.reduceEqDiff, Nat.reduceLeDiff, Nat.reduceMul, Nat.reduceAdd, Nat.reduceSub, and_true, true_and, Nat.le_refl] <;> rfl, _, _, _, rfl, a2⟩)
    q 0 (0, m_now m, m_cells m, m_food m) N (by omega) ⟨rfl, m0, m8, m9⟩ (by omega)
  obtain ⟨r, x1, mo, c, f, rfl, y1, y2, y3⟩ := a1
  obtain ⟨r, x2, mo', c', f', rfl, z1, z2, z3⟩ := a2
  obtain ⟨k1, k2, k3, k4⟩ := kept_le o4
  have hq' := hsi q
  refine opI (a := (nI (outN (mvs (S 5) (S 6) (S 7) (S 0 0, S 8, S 9) q).2.1 (S 1 0)), x_bads x, mo, nI (kept (S 4 0) + 1), c, f, R)) (b := (nI (outN (mvs (S 5) (S 6) (S 7) (S 0 0, S 8, S 9) q).2.1 (S 1 0)), mo', nI (kept (S 4 0) + 1), m_refused m, c', f', RM)) ?_ ?_ ?_
  · refine Eq.trans ?_ x1
    rw [T_X3_month, c4, e1]
    simp (disch := omega) only [l0, l1, l2, l3, l4, l5, l6, l7, l8, l9, l10, l11, l12, l30, l35, l36, l60, l99, l127, l150, l999, nI_eq, nI_leI, nI_ltI, nI_1, nI_add, pk_mul, obN, nI_clamp, lt', jn, Option.bind_some, inW, inF, inC, inK, fl4, cl4, wi3, T_X3_isFirstOrSecond, badE, fullE, noE, T_X3_refuseBad, T_X3_refuseFull, T_X3_refuseNo, reduceIte, Nat.reduceEqDiff, Nat.reduceLeDiff, Nat.reduceMul, Nat.reduceAdd, Nat.reduceSub, and_true, true_and, c1, h2]
  · refine Eq.trans ?_ x2
    rw [T_X4_month, m4, e2]
    simp (disch := omega) only [l0, l1, l2, l3, l4, l5, l6, l7, l8, l9, l10, l11, l12, l30, l35, l36, l60, l99, l127, l150, l999, nI_eq, nI_leI, nI_ltI, nI_1, nI_add, pk_mul, obN, nI_clamp, lt', jn, Option.bind_some, inW, inF, inC, inK, fl4, cl4, wi3, T_X3_isFirstOrSecond, badE, fullE, noE, T_X3_refuseBad, T_X3_refuseFull, T_X3_refuseNo, reduceIte, Nat.reduceEqDiff, Nat.reduceLeDiff, Nat.reduceMul, Nat.reduceAdd, Nat.reduceSub, and_true, true_and, m1, h2]
  · exact ⟨rfl, ⟨mkS (mvs (S 5) (S 6) (S 7) (S 0 0, S 8, S 9) q).1 (S 1 0) (S 2 0) (S 3 0) (kept (S 4 0) + 1) (S 5) (S 6) (S 7) (mvs (S 5) (S 6) (S 7) (S 0 0, S 8, S 9) q).2.1 (mvs (S 5) (S 6) (S 7) (S 0 0, S 8, S 9) q).2.2 (S 10) (S 11) (kuN (S 4 0) (S 0 0) (S 8) (S 9) (S 12)),
      ⟨hq'.1, o1, o2, o3, by show kept (S 4 0) + 1 ≤ 8; omega, o5, o6, o7, hq'.2.1, hq'.2.2, o10, o11, ku_ok o4 o1 o0 o8 o9 o12⟩,
      ⟨⟨y1, c1, c2, c3, rfl⟩, c5, c6, c7, y2, y3, c10, c11, ku_rows o4 o1 (r1.trans c0) r2 r3 c8 c9 c12⟩,
      ⟨⟨z1, m1, m2, m3, rfl⟩, m5, m6, m7, z2, z3, m10, m11, ku_rows o4 o1 (s1.trans m0) s2 s3 m8 m9 m12⟩⟩, htx, hab, hrf, hg0, hg1⟩
