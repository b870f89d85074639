/-! what the class's operations answer, in numbers -/
theorem wi_in {j b : Nat} (h : j ≤ b) (hb : b < 2 ^ 31) : T_X3_within (nI j) (nI 0) (nI b) = nI 1 := by
  rw [wiE, if_neg (by rw [nI_ltI (by omega) (by omega)]; omega), if_neg (by rw [nI_ltI (by omega) (by omega)]; omega)]
theorem wi1_in {j b : Nat} (h1 : 1 ≤ j) (h : j ≤ b) (hb : b < 2 ^ 31) : T_X3_within (nI j) (nI 1) (nI b) = nI 1 := by
  rw [wiE, if_neg (by rw [nI_ltI (by omega) (by omega)]; omega), if_neg (by rw [nI_ltI (by omega) (by omega)]; omega)]
theorem wif_in {j b : Nat} (h : j < b) (hb : b < 2 ^ 30) : T_X3_within (nI j) (nI 0) (nI b - nI 1) = nI 1 := by
  obtain ⟨b, rfl⟩ : ∃ k, b = k + 1 := ⟨b - 1, by omega⟩
  rw [show nI (b + 1) - nI 1 = nI b from nI_pred b]
  exact wi_in (by omega) (by omega)
theorem mvs_run {W G K C F : Nat → Nat} {mo : Nat} : ∀ i, mo + i ≤ 999 → mvs W G K (mo, C, F) i = (mo + i, fun f => runN W G (K f) (C f) mo i, fun f => F f - i)
  | 0, _ => rfl
  | i + 1, h => by
    rw [mvs, mvs_run i (by omega), mvN, if_pos (by show mo + i < 999; omega)]
    rfl

set_option maxHeartbeats 4000000 in
theorem q_sea (N : Nat) (hN : 1000 ≤ N) (x : FIV) {S : SeaN} {I : Option SeaN} {ab be : Int64} (h : CR S I ab be x) (j : Nat) (hj9 : j ≤ 99) : ∃ R : Int32 × Int32 × Int32 × Int32 × Int32 × Int32 × Int32 × (Nat → Int32) × (Nat → Int32), T_X3_sea N (x_bads x) (xn_month x) (xn_floes x) (xn_founds x) (xn_notes x) (xn_undos x) (xn_ways x) (xn_strengths x) (nI j) = some R ∧ R.1 = nI (S 1 0) ∧ CR (mkS j 0 0 0 0 (fun _ => 0) (fun _ => 1) (fun _ => 0) (fun _ => 0) (fun _ => 0) (fun _ => 0) (fun _ => 0) (fun _ => 0)) I ab be (R.2.2.1, R.2.2.2.2.2.2.2.1, R.2.2.2.2.2.2.2.2, R.2.2.2.1, (xn_kinds x), (xn_cells x), (xn_foods x), R.2.2.2.2.1, (xn_foundRows x), R.2.2.2.2.2.1, (xn_noteRows x), R.2.2.2.2.2.2.1, (xn_undoRows x), (xs_month x), (xs_ways x), (xs_strengths x), (xs_floes x), (xs_kinds x), (xs_cells x), (xs_foods x), (xs_founds x), (xs_foundRows x), (xs_notes x), (xs_noteRows x), (xs_undos x), (xs_undoRows x), (xt_bytes x), (xt_length x), (xt_place x), (xt_fault x), (x_odds x), (x_nextOdds x), (x_gains x), (x_above x), (x_below x), R.2.1, (x_nos x), (x_fulls x), (x_img0 x), (x_img1 x)) := by
  obtain ⟨hok, hc, hi, hj, ha, hb⟩ := h
  have nz : ∀ {P : Nat → Prop} (k : Nat), k < 0 → P k := fun _ h => absurd h (Nat.not_lt_zero _)
  have nz3 : ∀ {P : Nat → Prop} (k : Nat), k < 3 * 0 → P k := fun _ h => absurd h (by omega)
  have nz7 : ∀ {P : Nat → Prop} (k : Nat), k < 7 * 0 → P k := fun _ h => absurd h (by omega)
  have h1 := wi_in (j := j) (b := 99) hj9 (by omega)
  obtain ⟨f1, e1, d1⟩ := fill_i N hN (xn_ways x) 0
  obtain ⟨f2, e2, d2⟩ := fill_i N hN (xn_strengths x) 1
  refine opI1 (by rw [T_X3_sea, T_X1_begin, e1, e2]; simp (disch := omega) only [l0, l1, l2, l3, l4, l5, l6, l7, l8, l9, l10, l11, l12, l30, l35, l36, l60, l99, l127, l150, l999, nI_eq, nI_leI, nI_ltI, nI_1, nI_add, pk_mul, obN, nI_clamp, lt', jn, Option.bind_some, inF, inC, inK, wi3, T_X3_isFirstOrSecond, T_X3_refuseBad, T_X3_refuseFull, T_X3_refuseNo, reduceIte, Nat.reduceEqDiff, Nat.reduceLeDiff, Nat.reduceMul, Nat.reduceAdd, Nat.reduceSub, and_true, true_and, h1]; rfl) ?_
  exact ⟨hc.1.2.1, ⟨by show j ≤ 999; omega, Nat.zero_le _, Nat.zero_le _, Nat.zero_le _, Nat.zero_le _, fun _ _ => Nat.zero_le _, fun _ _ => (by decide : 1 ≤ 3), nz, nz, nz, nz, nz, nz⟩,
    ⟨⟨rfl, rfl, rfl, rfl, rfl⟩, d1, d2, nz, nz, nz, nz, nz, nz⟩, hi, hj, ha, hb⟩

set_option maxHeartbeats 4000000 in
theorem q_wind (N : Nat) (hN : 1000 ≤ N) (x : FIV) {S : SeaN} {I : Option SeaN} {ab be : Int64} (h : CR S I ab be x) (j w s : Nat) (hj1 : j ≤ 11) (hw : w ≤ 3) (hs : s ≤ 3) : ∃ R : Int32 × Int32 × Int32 × (Nat → Int32) × (Nat → Int32), T_X3_wind N (x_bads x) (xn_undos x) (xn_ways x) (xn_strengths x) (nI j) (nI w) (nI s) = some R ∧ R.1 = nI (10 * S 5 j + S 6 j) ∧ CR (mkS (S 0 0) (S 1 0) (S 2 0) (S 3 0) 0 (upn (S 5) j w) (upn (S 6) j s) (S 7) (S 8) (S 9) (S 10) (S 11) (S 12)) I ab be ((xn_month x), R.2.2.2.1, R.2.2.2.2, (xn_floes x), (xn_kinds x), (xn_cells x), (xn_foods x), (xn_founds x), (xn_foundRows x), (xn_notes x), (xn_noteRows x), R.2.2.1, (xn_undoRows x), (xs_month x), (xs_ways x), (xs_strengths x), (xs_floes x), (xs_kinds x), (xs_cells x), (xs_foods x), (xs_founds x), (xs_foundRows x), (xs_notes x), (xs_noteRows x), (xs_undos x), (xs_undoRows x), (xt_bytes x), (xt_length x), (xt_place x), (xt_fault x), (x_odds x), (x_nextOdds x), (x_gains x), (x_above x), (x_below x), R.2.1, (x_nos x), (x_fulls x), (x_img0 x), (x_img1 x)) := by
  obtain ⟨hok, hc, hi, hj, ha, hb⟩ := h
  have nz : ∀ {P : Nat → Prop} (k : Nat), k < 0 → P k := fun _ h => absurd h (Nat.not_lt_zero _)
  have nz3 : ∀ {P : Nat → Prop} (k : Nat), k < 3 * 0 → P k := fun _ h => absurd h (by omega)
  have nz7 : ∀ {P : Nat → Prop} (k : Nat), k < 7 * 0 → P k := fun _ h => absurd h (by omega)
  have q_ := hok; obtain ⟨o0, o1, o2, o3, o4, o5, o6, o7, o8, o9, o10, o11, o12⟩ := q_
  have q_ := hc; obtain ⟨⟨c0, c1, c2, c3, c4⟩, c5, c6, c7, c8, c9, c10, c11, c12⟩ := q_
  have h1 := wi_in (j := j) (b := 11) hj1 (by omega)
  have h2 := wi_in (j := w) (b := 3) hw (by omega)
  have h3 := wi_in (j := s) (b := 3) hs (by omega)
  have a5 := c5 j (by omega)
  have a6 := c6 j (by omega)
  refine opI1 (b := (nI (10 * S 5 j + S 6 j), x_bads x, nI 0, upd (xn_ways x) j (nI w), upd (xn_strengths x) j (nI s))) (by rw [T_X3_wind, T_X1_tellWind]; simp (disch := omega) only [l0, l1, l2, l3, l4, l5, l6, l7, l8, l9, l10, l11, l12, l30, l35, l36, l60, l99, l127, l150, l999, nI_eq, nI_leI, nI_ltI, nI_1, nI_add, pk_mul, obN, nI_clamp, lt', jn, Option.bind_some, inF, inC, inK, wi3, T_X3_isFirstOrSecond, T_X3_refuseBad, T_X3_refuseFull, T_X3_refuseNo, reduceIte, Nat.reduceEqDiff, Nat.reduceLeDiff, Nat.reduceMul, Nat.reduceAdd, Nat.reduceSub, and_true, true_and, h1, h2, h3, a5, a6]) ?_
  exact ⟨rfl, ⟨o0, o1, o2, o3, Nat.zero_le _, upn_p o5 hw, upn_p o6 hs, o7, o8, o9, o10, o11, nz⟩,
    ⟨⟨c0, c1, c2, c3, rfl⟩, upn_u c5, upn_u c6, c7, c8, c9, c10, c11, nz⟩, hi, hj, ha, hb⟩

set_option maxHeartbeats 4000000 in
theorem q_floe (N : Nat) (hN : 1000 ≤ N) (x : FIV) {S : SeaN} {I : Option SeaN} {ab be : Int64} (h : CR S I ab be x) (k c f : Nat) (hk : k ≤ 5) (hcl : c ≤ 35) (hf : f ≤ 60) (hlt : S 1 0 < 5) : ∃ R : Int32 × Int32 × Int32 × Int32 × Int32 × (Nat → Int32) × (Nat → Int32) × (Nat → Int32), T_X3_floe N (x_bads x) (x_fulls x) (xn_floes x) (xn_undos x) (xn_kinds x) (xn_cells x) (xn_foods x) (nI k) (nI c) (nI f) = some R ∧ R.1 = nI (S 1 0) ∧ CR (mkS (S 0 0) (S 1 0 + 1) (S 2 0) (S 3 0) 0 (S 5) (S 6) (upn (S 7) (S 1 0) k) (upn (S 8) (S 1 0) c) (upn (S 9) (S 1 0) f) (S 10) (S 11) (S 12)) I ab be ((xn_month x), (xn_ways x), (xn_strengths x), R.2.2.2.1, R.2.2.2.2.2.1, R.2.2.2.2.2.2.1, R.2.2.2.2.2.2.2, (xn_founds x), (xn_foundRows x), (xn_notes x), (xn_noteRows x), R.2.2.2.2.1, (xn_undoRows x), (xs_month x), (xs_ways x), (xs_strengths x), (xs_floes x), (xs_kinds x), (xs_cells x), (xs_foods x), (xs_founds x), (xs_foundRows x), (xs_notes x), (xs_noteRows x), (xs_undos x), (xs_undoRows x), (xt_bytes x), (xt_length x), (xt_place x), (xt_fault x), (x_odds x), (x_nextOdds x), (x_gains x), (x_above x), (x_below x), R.2.1, (x_nos x), R.2.2.1, (x_img0 x), (x_img1 x)) := by
  obtain ⟨hok, hc, hi, hj, ha, hb⟩ := h
  have nz : ∀ {P : Nat → Prop} (k : Nat), k < 0 → P k := fun _ h => absurd h (Nat.not_lt_zero _)
  have nz3 : ∀ {P : Nat → Prop} (k : Nat), k < 3 * 0 → P k := fun _ h => absurd h (by omega)
  have nz7 : ∀ {P : Nat → Prop} (k : Nat), k < 7 * 0 → P k := fun _ h => absurd h (by omega)
  have q_ := hok; obtain ⟨o0, o1, o2, o3, o4, o5, o6, o7, o8, o9, o10, o11, o12⟩ := q_
  have q_ := hc; obtain ⟨⟨c0, c1, c2, c3, c4⟩, c5, c6, c7, c8, c9, c10, c11, c12⟩ := q_
  have h1 := wi_in (j := k) (b := 5) hk (by omega)
  have h2 := wi_in (j := c) (b := 35) hcl (by omega)
  have h3 := wi_in (j := f) (b := 60) hf (by omega)
  have hn : ¬ 5 ≤ S 1 0 := by omega
  have hp : nI (S 1 0 + 1) - nI 1 = nI (S 1 0) := nI_pred _
  refine opI1 (b := (nI (S 1 0), x_bads x, x_fulls x, nI (S 1 0 + 1), nI 0, upd (xn_kinds x) (S 1 0) (nI k), upd (xn_cells x) (S 1 0) (nI c), upd (xn_foods x) (S 1 0) (nI f))) (by rw [T_X3_floe, T_X1_addFloe]; simp (disch := omega) only [l0, l1, l2, l3, l4, l5, l6, l7, l8, l9, l10, l11, l12, l30, l35, l36, l60, l99, l127, l150, l999, nI_eq, nI_leI, nI_ltI, nI_1, nI_add, pk_mul, obN, nI_clamp, lt', jn, Option.bind_some, inF, inC, inK, wi3, T_X3_isFirstOrSecond, T_X3_refuseBad, T_X3_refuseFull, T_X3_refuseNo, reduceIte, Nat.reduceEqDiff, Nat.reduceLeDiff, Nat.reduceMul, Nat.reduceAdd, Nat.reduceSub, and_true, true_and, c1, h1, h2, h3, hlt, hn, hp]) ?_
  exact ⟨rfl, ⟨o0, by show S 1 0 + 1 ≤ 5; omega, o2, o3, Nat.zero_le _, o5, o6, upn_p1 o7 hk, upn_p1 o8 hcl, upn_p1 o9 (by omega), o10, o11, nz⟩,
    ⟨⟨c0, rfl, c2, c3, rfl⟩, c5, c6, upn_u1 c7, upn_u1 c8, upn_u1 c9, c10, c11, nz⟩, hi, hj, ha, hb⟩

set_option maxHeartbeats 4000000 in
theorem q_month (N : Nat) (hN : 1000 ≤ N) (x : FIV) {S : SeaN} {I : Option SeaN} {ab be : Int64} (h : CR S I ab be x) (q : Nat) (hq1 : 1 ≤ q) (hq : q ≤ 60) (hm9 : S 0 0 + q ≤ 999) : ∃ R : Int32 × Int32 × Int32 × Int32 × (Nat → Int32) × (Nat → Int32) × (Nat → Int32), T_X3_month N (x_bads x) (xn_month x) (xn_floes x) (xn_undos x) (xn_ways x) (xn_strengths x) (xn_kinds x) (xn_cells x) (xn_foods x) (xn_undoRows x) (nI q) = some R ∧ R.1 = nI (outN (fun f => runN (S 5) (S 6) (S 7 f) (S 8 f) (S 0 0) q) (S 1 0)) ∧ CR (mkS (S 0 0 + q) (S 1 0) (S 2 0) (S 3 0) (kept (S 4 0) + 1) (S 5) (S 6) (S 7) (fun f => runN (S 5) (S 6) (S 7 f) (S 8 f) (S 0 0) q) (fun f => S 9 f - q) (S 10) (S 11) (kuN (S 4 0) (S 0 0) (S 8) (S 9) (S 12))) I ab be (R.2.2.1, (xn_ways x), (xn_strengths x), (xn_floes x), (xn_kinds x), R.2.2.2.2.1, R.2.2.2.2.2.1, (xn_founds x), (xn_foundRows x), (xn_notes x), (xn_noteRows x), R.2.2.2.1, R.2.2.2.2.2.2, (xs_month x), (xs_ways x), (xs_strengths x), (xs_floes x), (xs_kinds x), (xs_cells x), (xs_foods x), (xs_founds x), (xs_foundRows x), (xs_notes x), (xs_noteRows x), (xs_undos x), (xs_undoRows x), (xt_bytes x), (xt_length x), (xt_place x), (xt_fault x), (x_odds x), (x_nextOdds x), (x_gains x), (x_above x), (x_below x), R.2.1, (x_nos x), (x_fulls x), (x_img0 x), (x_img1 x)) := by
  obtain ⟨hok, hc, hi, hj, ha, hb⟩ := h
  have q_ := hok; obtain ⟨o0, o1, o2, o3, o4, o5, o6, o7, o8, o9, o10, o11, o12⟩ := q_
  have q_ := hc; obtain ⟨⟨c0, c1, c2, c3, c4⟩, c5, c6, c7, c8, c9, c10, c11, c12⟩ := q_
  have h2 := wi1_in (j := q) (b := 60) hq1 hq (by omega)
  obtain ⟨R, e1, r1, r2, r3⟩ := keep_n (N := N) o4 (xn_month x) (xn_cells x) (xn_foods x) (xn_undoRows x)
  have hs0 : okM (S 1 0) (S 0 0, S 8, S 9) := ⟨o0, o8, o9⟩
  have hsi := mvs_ok (W := S 5) (G := S 6) (K := S 7) (n := S 1 0) o5 o6 o7 hs0
  have a1 := lp (fun n (t : Int32 × Int32 × (Nat → Int32) × (Nat → Int32)) => T_X3_month_L24 N (nI q) (nI (S 1 0)) (xn_ways x) (xn_strengths x) (xn_kinds x) (fun z31 z32 z33 => Option.bind (T_X1_floesOut N (nI (S 1 0)) z32) fun u37 => some (u37, x_bads x, z31, nI (kept (S 4 0) + 1), z32, z33, R)) n t.1 t.2.1 t.2.2.1 t.2.2.2)
    (fun i t => t.1 = nI i ∧ eqM (S 1 0) (mvs (S 5) (S 6) (S 7) (S 0 0, S 8, S 9) i) t.2.1 t.2.2.1 t.2.2.2)
    (fun r => ∃ mo c f, r = (nI (outN (mvs (S 5) (S 6) (S 7) (S 0 0, S 8, S 9) q).2.1 (S 1 0)), x_bads x, mo, nI (kept (S 4 0) + 1), c, f, R) ∧ eqM (S 1 0) (mvs (S 5) (S 6) (S 7) (S 0 0, S 8, S 9) q) mo c f) q
    (fun i t n hi ⟨a1, a2⟩ => by
      obtain ⟨t1, t2, t3, t4⟩ := t
      simp only at a1 a2
      subst a1
      obtain ⟨mo, c, f, b1, b2⟩ := passMonth_n hN o1 c5 c6 o5 o6 c7 o7 (hsi i) a2
      refine .inl ⟨(nI (i + 1), mo, c, f), ⟨rfl, b2⟩, ?_⟩
      have hn5 : ¬ q ≤ i := by omega
      (try simp only)
      rw [T_X3_month_L24, b1]
      simp (disch := omega) only [l0, l1, l2, l3, l4, l5, l6, l7, l8, l9, l10, l11, l12, l30, l35, l36, l60, l99, l127, l150, l999, nI_eq, nI_leI, nI_ltI, nI_1, nI_add, pk_mul, obN, nI_clamp, lt', jn, Option.bind_some, inF, inC, inK, wi3, T_X3_isFirstOrSecond, T_X3_refuseBad, T_X3_refuseFull, T_X3_refuseNo, reduceIte, Nat.reduceEqDiff, Nat.reduceLeDiff, Nat.reduceMul, Nat.reduceAdd, Nat.reduceSub, and_true, true_and, hn5])
    (fun t n ⟨a1, a2⟩ => by
      obtain ⟨t1, t2, t3, t4⟩ := t
      simp only at a1 a2
      subst a1
      have fo := floesOut_n hN o1 a2.2.1 (hsi q).2.1
      exact ⟨_, by (try simp only); rw [T_X3_month_L24, fo]; simp (disch := omega) only [l0, l1, l2, l3, l4, l5, l6, l7, l8, l9, l10, l11, l12, l30, l35, l36, l60, l99, l127, l150, l999, nI_eq, nI_leI, nI_ltI, nI_1, nI_add, pk_mul, obN, nI_clamp, lt', jn, Option.bind_some, inF, inC, inK, wi3, T_X3_isFirstOrSecond, T_X3_refuseBad, T_X3_refuseFull, T_X3_refuseNo, reduceIte, Nat.reduceEqDiff, Nat.reduceLeDiff, Nat.reduceMul, Nat.reduceAdd, Nat.reduceSub, and_true, true_and, Nat.le_refl] <;> rfl, _, _, _, rfl, a2⟩)
    q 0 (0, xn_month x, xn_cells x, xn_foods x) N (by omega) ⟨rfl, c0, c8, c9⟩ (by omega)
  obtain ⟨r, x1, mo, c, f, rfl, y1, y2, y3⟩ := a1
  obtain ⟨k1, k2, k3, k4⟩ := kept_le o4
  have hq' := hsi q
  have hrun := mvs_run (W := S 5) (G := S 6) (K := S 7) (C := S 8) (F := S 9) q hm9
  rw [hrun] at y1 y2 y3 hq' x1
  refine opI1 (Eq.trans ?_ x1) ?_
  · rw [T_X3_month, c4, e1]
    simp (disch := omega) only [l0, l1, l2, l3, l4, l5, l6, l7, l8, l9, l10, l11, l12, l30, l35, l36, l60, l99, l127, l150, l999, nI_eq, nI_leI, nI_ltI, nI_1, nI_add, pk_mul, obN, nI_clamp, lt', jn, Option.bind_some, inF, inC, inK, wi3, T_X3_isFirstOrSecond, T_X3_refuseBad, T_X3_refuseFull, T_X3_refuseNo, reduceIte, Nat.reduceEqDiff, Nat.reduceLeDiff, Nat.reduceMul, Nat.reduceAdd, Nat.reduceSub, and_true, true_and, c1, h2]
  · exact ⟨rfl, ⟨hq'.1, o1, o2, o3, by show kept (S 4 0) + 1 ≤ 8; omega, o5, o6, o7, hq'.2.1, hq'.2.2, o10, o11, ku_ok o4 o1 o0 o8 o9 o12⟩,
      ⟨⟨y1, c1, c2, c3, rfl⟩, c5, c6, c7, y2, y3, c10, c11, ku_rows o4 o1 (r1.trans c0) r2 r3 c8 c9 c12⟩, hi, hj, ha, hb⟩

set_option maxHeartbeats 4000000 in
theorem q_feed (N : Nat) (hN : 1000 ≤ N) (x : FIV) {S : SeaN} {I : Option SeaN} {ab be : Int64} (h : CR S I ab be x) (f q : Nat) (hf : f < S 1 0) (hq1 : 1 ≤ q) (hq : q ≤ 60) : ∃ R : Int32 × Int32 × Int32 × (Nat → Int32) × (Nat → Int32), T_X3_feed N (x_bads x) (xn_month x) (xn_floes x) (xn_undos x) (xn_cells x) (xn_foods x) (xn_undoRows x) (nI f) (nI q) = some R ∧ R.1 = nI (min 99 (S 9 f + q)) ∧ CR (mkS (S 0 0) (S 1 0) (S 2 0) (S 3 0) (kept (S 4 0) + 1) (S 5) (S 6) (S 7) (S 8) (upn (S 9) f (min 99 (S 9 f + q))) (S 10) (S 11) (kuN (S 4 0) (S 0 0) (S 8) (S 9) (S 12))) I ab be ((xn_month x), (xn_ways x), (xn_strengths x), (xn_floes x), (xn_kinds x), (xn_cells x), R.2.2.2.1, (xn_founds x), (xn_foundRows x), (xn_notes x), (xn_noteRows x), R.2.2.1, R.2.2.2.2, (xs_month x), (xs_ways x), (xs_strengths x), (xs_floes x), (xs_kinds x), (xs_cells x), (xs_foods x), (xs_founds x), (xs_foundRows x), (xs_notes x), (xs_noteRows x), (xs_undos x), (xs_undoRows x), (xt_bytes x), (xt_length x), (xt_place x), (xt_fault x), (x_odds x), (x_nextOdds x), (x_gains x), (x_above x), (x_below x), R.2.1, (x_nos x), (x_fulls x), (x_img0 x), (x_img1 x)) := by
  obtain ⟨hok, hc, hi, hj, ha, hb⟩ := h
  have q_ := hok; obtain ⟨o0, o1, o2, o3, o4, o5, o6, o7, o8, o9, o10, o11, o12⟩ := q_
  have q_ := hc; obtain ⟨⟨c0, c1, c2, c3, c4⟩, c5, c6, c7, c8, c9, c10, c11, c12⟩ := q_
  have h1 := wif_in hf (by omega)
  have h2 := wi1_in (j := q) (b := 60) hq1 hq (by omega)
  obtain ⟨R, e1, r1, r2, r3⟩ := keep_n (N := N) o4 (xn_month x) (xn_cells x) (xn_foods x) (xn_undoRows x)
  have d0 := c9 f hf
  have b9 := o9 f hf
  have v1 : (if nI (S 9 f + q) < nI 99 then nI (S 9 f + q) else nI 99) = nI (min 99 (S 9 f + q)) := by
    by_cases hlt : S 9 f + q < 99
    · rw [if_pos ((nI_ltI (by omega) (by omega)).mpr hlt), show min 99 (S 9 f + q) = S 9 f + q by omega]
    · rw [if_neg (fun h => hlt ((nI_ltI (by omega) (by omega)).mp h)), show min 99 (S 9 f + q) = 99 by omega]
  have hf5 : f < 5 := by omega
  refine opI1 (b := (nI (min 99 (S 9 f + q)), x_bads x, nI (kept (S 4 0) + 1), upd (xn_foods x) f (nI (min 99 (S 9 f + q))), R)) ?_ ?_
  · rw [T_X3_feed, c4, e1]
    simp (disch := omega) only [c1, l0, l1, l5, l60, l99, jn, lt', Option.bind_some, inF, h1, h2, nI_eq, obN, nI_clamp, d0, nI_add, v1, pk_us, reduceIte, Nat.reduceEqDiff]
  · obtain ⟨k1, k2, k3, k4⟩ := kept_le o4
    exact ⟨rfl, ⟨o0, o1, o2, o3, by show kept (S 4 0) + 1 ≤ 8; omega, o5, o6, o7, o8, upn_p o9 (by omega), o10, o11, ku_ok o4 o1 o0 o8 o9 o12⟩,
      ⟨⟨c0, c1, c2, c3, rfl⟩, c5, c6, c7, c8, upn_u c9, c10, c11, ku_rows o4 o1 (r1.trans c0) r2 r3 c8 c9 c12⟩, hi, hj, ha, hb⟩

set_option maxHeartbeats 4000000 in
theorem q_moves (N : Nat) (hN : 1000 ≤ N) (x : FIV) {S : SeaN} {I : Option SeaN} {ab be : Int64} (h : CR S I ab be x) (f q : Nat) (hf : f < S 1 0) (hq : q ≤ 35) : ∃ R : Int32 × Int32 × Int32 × (Nat → Int32) × (Nat → Int32), T_X3_moves N (x_bads x) (xn_month x) (xn_floes x) (xn_undos x) (xn_cells x) (xn_foods x) (xn_undoRows x) (nI f) (nI q) = some R ∧ R.1 = nI (S 8 f) ∧ CR (mkS (S 0 0) (S 1 0) (S 2 0) (S 3 0) (kept (S 4 0) + 1) (S 5) (S 6) (S 7) (upn (S 8) f q) (S 9) (S 10) (S 11) (kuN (S 4 0) (S 0 0) (S 8) (S 9) (S 12))) I ab be ((xn_month x), (xn_ways x), (xn_strengths x), (xn_floes x), (xn_kinds x), R.2.2.2.1, (xn_foods x), (xn_founds x), (xn_foundRows x), (xn_notes x), (xn_noteRows x), R.2.2.1, R.2.2.2.2, (xs_month x), (xs_ways x), (xs_strengths x), (xs_floes x), (xs_kinds x), (xs_cells x), (xs_foods x), (xs_founds x), (xs_foundRows x), (xs_notes x), (xs_noteRows x), (xs_undos x), (xs_undoRows x), (xt_bytes x), (xt_length x), (xt_place x), (xt_fault x), (x_odds x), (x_nextOdds x), (x_gains x), (x_above x), (x_below x), R.2.1, (x_nos x), (x_fulls x), (x_img0 x), (x_img1 x)) := by
  obtain ⟨hok, hc, hi, hj, ha, hb⟩ := h
  have q_ := hok; obtain ⟨o0, o1, o2, o3, o4, o5, o6, o7, o8, o9, o10, o11, o12⟩ := q_
  have q_ := hc; obtain ⟨⟨c0, c1, c2, c3, c4⟩, c5, c6, c7, c8, c9, c10, c11, c12⟩ := q_
  have h1 := wif_in hf (by omega)
  have h2 := wi_in (j := q) (b := 35) hq (by omega)
  obtain ⟨R, e1, r1, r2, r3⟩ := keep_n (N := N) o4 (xn_month x) (xn_cells x) (xn_foods x) (xn_undoRows x)
  have d0 := c8 f hf
  have hf5 : f < 5 := by omega
  refine opI1 (b := (nI (S 8 f), x_bads x, nI (kept (S 4 0) + 1), upd (xn_cells x) f (nI q), R)) ?_ ?_
  · rw [T_X3_moves, c4, e1]
    simp (disch := omega) only [l0, l1, l2, l3, l4, l5, l6, l7, l8, l9, l10, l11, l12, l30, l35, l36, l60, l99, l127, l150, l999, nI_eq, nI_leI, nI_ltI, nI_1, nI_add, pk_mul, obN, nI_clamp, lt', jn, Option.bind_some, inF, inC, inK, wi3, T_X3_isFirstOrSecond, T_X3_refuseBad, T_X3_refuseFull, T_X3_refuseNo, reduceIte, Nat.reduceEqDiff, Nat.reduceLeDiff, Nat.reduceMul, Nat.reduceAdd, Nat.reduceSub, and_true, true_and, c1, h1, h2, d0]
  · obtain ⟨k1, k2, k3, k4⟩ := kept_le o4
    exact ⟨rfl, ⟨o0, o1, o2, o3, by show kept (S 4 0) + 1 ≤ 8; omega, o5, o6, o7, upn_p o8 hq, o9, o10, o11, ku_ok o4 o1 o0 o8 o9 o12⟩,
      ⟨⟨c0, c1, c2, c3, rfl⟩, c5, c6, c7, upn_u c8, c9, c10, c11, ku_rows o4 o1 (r1.trans c0) r2 r3 c8 c9 c12⟩, hi, hj, ha, hb⟩

set_option maxHeartbeats 4000000 in
theorem q_undo (N : Nat) (hN : 1000 ≤ N) (x : FIV) {S : SeaN} {I : Option SeaN} {ab be : Int64} (h : CR S I ab be x) (v mo' : Nat) (C' D' : Nat → Nat) (hv : S 4 0 = v + 1) (hm : S 12 (11 * v) = mo') (hC : ∀ f, f < S 1 0 → S 12 (11 * v + 1 + f) = C' f ∧ S 12 (11 * v + 6 + f) = D' f) : ∃ R : Int32 × Int32 × Int32 × Int32 × (Nat → Int32) × (Nat → Int32), T_X3_undo N (x_nos x) (xn_month x) (xn_undos x) (xn_cells x) (xn_foods x) (xn_undoRows x) = some R ∧ R.1 = nI mo' ∧ CR (mkS mo' (S 1 0) (S 2 0) (S 3 0) v (S 5) (S 6) (S 7) C' D' (S 10) (S 11) (S 12)) I ab be (R.2.2.1, (xn_ways x), (xn_strengths x), (xn_floes x), (xn_kinds x), R.2.2.2.2.1, R.2.2.2.2.2, (xn_founds x), (xn_foundRows x), (xn_notes x), (xn_noteRows x), R.2.2.2.1, (xn_undoRows x), (xs_month x), (xs_ways x), (xs_strengths x), (xs_floes x), (xs_kinds x), (xs_cells x), (xs_foods x), (xs_founds x), (xs_foundRows x), (xs_notes x), (xs_noteRows x), (xs_undos x), (xs_undoRows x), (xt_bytes x), (xt_length x), (xt_place x), (xt_fault x), (x_odds x), (x_nextOdds x), (x_gains x), (x_above x), (x_below x), (x_bads x), R.2.1, (x_fulls x), (x_img0 x), (x_img1 x)) := by
  obtain ⟨hok, hc, hi, hj, ha, hb⟩ := h
  have q_ := hok; obtain ⟨o0, o1, o2, o3, o4, o5, o6, o7, o8, o9, o10, o11, o12⟩ := q_
  have q_ := hc; obtain ⟨⟨c0, c1, c2, c3, c4⟩, c5, c6, c7, c8, c9, c10, c11, c12⟩ := q_
  have e0 : xn_undos x = nI (v + 1) := by rw [c4, hv]
  have p1 : nI (v + 1) - nI 1 = nI v := nI_pred v
  have hne : ¬ v + 1 = 0 := by omega
  have q := c12 v (by omega)
  have qo := o12 v (by omega)
  refine opI1 (by rw [T_X3_undo, T_X1_takeBack]; simp (disch := omega) only [l0, l1, l2, l3, l4, l5, l6, l7, l8, l9, l10, l11, l12, l30, l35, l36, l60, l99, l127, l150, l999, nI_eq, nI_leI, nI_ltI, nI_1, nI_add, pk_mul, obN, nI_clamp, lt', jn, Option.bind_some, inF, inC, inK, wi3, T_X3_isFirstOrSecond, T_X3_refuseBad, T_X3_refuseFull, T_X3_refuseNo, reduceIte, Nat.reduceEqDiff, Nat.reduceLeDiff, Nat.reduceMul, Nat.reduceAdd, Nat.reduceSub, and_true, true_and, e0, p1, gcN, hne]; rfl) ?_
  rw [hm] at q qo
  refine ⟨q.1, ⟨qo.1, o1, o2, o3, by show v ≤ 8; omega, o5, o6, o7, fun f hf => ?_, fun f hf => ?_, o10, o11, fun u hu => o12 u (by have : u < v := hu; omega)⟩,
    ⟨⟨q.1, c1, c2, c3, rfl⟩, c5, c6, c7, ?_, ?_, c10, c11, fun u hu => c12 u (by have : u < v := hu; omega)⟩, hi, hj, ha, hb⟩
  · have h := (qo.2 f hf).1
    rw [(hC f hf).1] at h
    exact h
  · have h := (qo.2 f hf).2
    rw [(hC f hf).2] at h
    exact h
  · intro f hf
    have hf : f < S 1 0 := hf
    have h := (q.2 f hf).1
    rw [(hC f hf).1] at h
    refine Eq.trans ?_ h
    show va_cpy (xn_undoRows x) (xn_cells x) (11 * v + 1) 0 5 f = _
    rw [pk_cpy_in (by omega) (by omega), Nat.sub_zero]
  · intro f hf
    have hf : f < S 1 0 := hf
    have h := (q.2 f hf).2
    rw [(hC f hf).2] at h
    refine Eq.trans ?_ h
    show va_cpy (xn_undoRows x) (xn_foods x) (11 * v + 1 + 5) 0 5 f = _
    rw [pk_cpy_in (by omega) (by omega), Nat.sub_zero]

set_option maxHeartbeats 4000000 in
theorem q_of0 (N : Nat) (hN : 1000 ≤ N) (x : FIV) {S : SeaN} {I : Option SeaN} {ab be : Int64} (h : CR S I ab be x) (f : Nat) (hf : f < S 1 0) : ∃ R : Int32 × Int32, T_X3_of N (x_bads x) (xn_floes x) (xn_kinds x) (xn_cells x) (xn_foods x) (nI f) (nI 0) = some R ∧ R.1 = nI (S 7 f) ∧ CR S I ab be ((xn_month x), (xn_ways x), (xn_strengths x), (xn_floes x), (xn_kinds x), (xn_cells x), (xn_foods x), (xn_founds x), (xn_foundRows x), (xn_notes x), (xn_noteRows x), (xn_undos x), (xn_undoRows x), (xs_month x), (xs_ways x), (xs_strengths x), (xs_floes x), (xs_kinds x), (xs_cells x), (xs_foods x), (xs_founds x), (xs_foundRows x), (xs_notes x), (xs_noteRows x), (xs_undos x), (xs_undoRows x), (xt_bytes x), (xt_length x), (xt_place x), (xt_fault x), (x_odds x), (x_nextOdds x), (x_gains x), (x_above x), (x_below x), R.2, (x_nos x), (x_fulls x), (x_img0 x), (x_img1 x)) := by
  obtain ⟨hok, hc, hi, hj, ha, hb⟩ := h
  have q_ := hok; obtain ⟨o0, o1, o2, o3, o4, o5, o6, o7, o8, o9, o10, o11, o12⟩ := q_
  have q_ := hc; obtain ⟨⟨c0, c1, c2, c3, c4⟩, c5, c6, c7, c8, c9, c10, c11, c12⟩ := q_
  have h1 := wif_in hf (by omega)
  have hf5 : f < 5 := by omega
  have a := c7 f hf
  exact opI1 (b := (nI (S 7 f), x_bads x)) (by rw [T_X3_of]; simp (disch := omega) only [l0, l1, l2, l3, l4, l5, l6, l7, l8, l9, l10, l11, l12, l30, l35, l36, l60, l99, l127, l150, l999, nI_eq, nI_leI, nI_ltI, nI_1, nI_add, pk_mul, obN, nI_clamp, lt', jn, Option.bind_some, inF, inC, inK, wi3, T_X3_isFirstOrSecond, T_X3_refuseBad, T_X3_refuseFull, T_X3_refuseNo, reduceIte, Nat.reduceEqDiff, Nat.reduceLeDiff, Nat.reduceMul, Nat.reduceAdd, Nat.reduceSub, and_true, true_and, c1, h1, a]) ⟨rfl, hok, hc, hi, hj, ha, hb⟩

set_option maxHeartbeats 4000000 in
theorem q_of1 (N : Nat) (hN : 1000 ≤ N) (x : FIV) {S : SeaN} {I : Option SeaN} {ab be : Int64} (h : CR S I ab be x) (f : Nat) (hf : f < S 1 0) : ∃ R : Int32 × Int32, T_X3_of N (x_bads x) (xn_floes x) (xn_kinds x) (xn_cells x) (xn_foods x) (nI f) (nI 1) = some R ∧ R.1 = nI (S 8 f) ∧ CR S I ab be ((xn_month x), (xn_ways x), (xn_strengths x), (xn_floes x), (xn_kinds x), (xn_cells x), (xn_foods x), (xn_founds x), (xn_foundRows x), (xn_notes x), (xn_noteRows x), (xn_undos x), (xn_undoRows x), (xs_month x), (xs_ways x), (xs_strengths x), (xs_floes x), (xs_kinds x), (xs_cells x), (xs_foods x), (xs_founds x), (xs_foundRows x), (xs_notes x), (xs_noteRows x), (xs_undos x), (xs_undoRows x), (xt_bytes x), (xt_length x), (xt_place x), (xt_fault x), (x_odds x), (x_nextOdds x), (x_gains x), (x_above x), (x_below x), R.2, (x_nos x), (x_fulls x), (x_img0 x), (x_img1 x)) := by
  obtain ⟨hok, hc, hi, hj, ha, hb⟩ := h
  have q_ := hok; obtain ⟨o0, o1, o2, o3, o4, o5, o6, o7, o8, o9, o10, o11, o12⟩ := q_
  have q_ := hc; obtain ⟨⟨c0, c1, c2, c3, c4⟩, c5, c6, c7, c8, c9, c10, c11, c12⟩ := q_
  have h1 := wif_in hf (by omega)
  have hf5 : f < 5 := by omega
  have a := c8 f hf
  exact opI1 (b := (nI (S 8 f), x_bads x)) (by rw [T_X3_of]; simp (disch := omega) only [l0, l1, l2, l3, l4, l5, l6, l7, l8, l9, l10, l11, l12, l30, l35, l36, l60, l99, l127, l150, l999, nI_eq, nI_leI, nI_ltI, nI_1, nI_add, pk_mul, obN, nI_clamp, lt', jn, Option.bind_some, inF, inC, inK, wi3, T_X3_isFirstOrSecond, T_X3_refuseBad, T_X3_refuseFull, T_X3_refuseNo, reduceIte, Nat.reduceEqDiff, Nat.reduceLeDiff, Nat.reduceMul, Nat.reduceAdd, Nat.reduceSub, and_true, true_and, c1, h1, a]) ⟨rfl, hok, hc, hi, hj, ha, hb⟩

set_option maxHeartbeats 4000000 in
theorem q_of2 (N : Nat) (hN : 1000 ≤ N) (x : FIV) {S : SeaN} {I : Option SeaN} {ab be : Int64} (h : CR S I ab be x) (f : Nat) (hf : f < S 1 0) : ∃ R : Int32 × Int32, T_X3_of N (x_bads x) (xn_floes x) (xn_kinds x) (xn_cells x) (xn_foods x) (nI f) (nI 2) = some R ∧ R.1 = nI (S 9 f) ∧ CR S I ab be ((xn_month x), (xn_ways x), (xn_strengths x), (xn_floes x), (xn_kinds x), (xn_cells x), (xn_foods x), (xn_founds x), (xn_foundRows x), (xn_notes x), (xn_noteRows x), (xn_undos x), (xn_undoRows x), (xs_month x), (xs_ways x), (xs_strengths x), (xs_floes x), (xs_kinds x), (xs_cells x), (xs_foods x), (xs_founds x), (xs_foundRows x), (xs_notes x), (xs_noteRows x), (xs_undos x), (xs_undoRows x), (xt_bytes x), (xt_length x), (xt_place x), (xt_fault x), (x_odds x), (x_nextOdds x), (x_gains x), (x_above x), (x_below x), R.2, (x_nos x), (x_fulls x), (x_img0 x), (x_img1 x)) := by
  obtain ⟨hok, hc, hi, hj, ha, hb⟩ := h
  have q_ := hok; obtain ⟨o0, o1, o2, o3, o4, o5, o6, o7, o8, o9, o10, o11, o12⟩ := q_
  have q_ := hc; obtain ⟨⟨c0, c1, c2, c3, c4⟩, c5, c6, c7, c8, c9, c10, c11, c12⟩ := q_
  have h1 := wif_in hf (by omega)
  have hf5 : f < 5 := by omega
  have a := c9 f hf
  exact opI1 (b := (nI (S 9 f), x_bads x)) (by rw [T_X3_of]; simp (disch := omega) only [l0, l1, l2, l3, l4, l5, l6, l7, l8, l9, l10, l11, l12, l30, l35, l36, l60, l99, l127, l150, l999, nI_eq, nI_leI, nI_ltI, nI_1, nI_add, pk_mul, obN, nI_clamp, lt', jn, Option.bind_some, inF, inC, inK, wi3, T_X3_isFirstOrSecond, T_X3_refuseBad, T_X3_refuseFull, T_X3_refuseNo, reduceIte, Nat.reduceEqDiff, Nat.reduceLeDiff, Nat.reduceMul, Nat.reduceAdd, Nat.reduceSub, and_true, true_and, c1, h1, a]) ⟨rfl, hok, hc, hi, hj, ha, hb⟩

set_option maxHeartbeats 4000000 in
theorem q_of3 (N : Nat) (hN : 1000 ≤ N) (x : FIV) {S : SeaN} {I : Option SeaN} {ab be : Int64} (h : CR S I ab be x) (f : Nat) (hf : f < S 1 0) : ∃ R : Int32 × Int32, T_X3_of N (x_bads x) (xn_floes x) (xn_kinds x) (xn_cells x) (xn_foods x) (nI f) (nI 3) = some R ∧ R.1 = nI (if S 8 f % 6 = 5 then 1 else 0) ∧ CR S I ab be ((xn_month x), (xn_ways x), (xn_strengths x), (xn_floes x), (xn_kinds x), (xn_cells x), (xn_foods x), (xn_founds x), (xn_foundRows x), (xn_notes x), (xn_noteRows x), (xn_undos x), (xn_undoRows x), (xs_month x), (xs_ways x), (xs_strengths x), (xs_floes x), (xs_kinds x), (xs_cells x), (xs_foods x), (xs_founds x), (xs_foundRows x), (xs_notes x), (xs_noteRows x), (xs_undos x), (xs_undoRows x), (xt_bytes x), (xt_length x), (xt_place x), (xt_fault x), (x_odds x), (x_nextOdds x), (x_gains x), (x_above x), (x_below x), R.2, (x_nos x), (x_fulls x), (x_img0 x), (x_img1 x)) := by
  obtain ⟨hok, hc, hi, hj, ha, hb⟩ := h
  have q_ := hok; obtain ⟨o0, o1, o2, o3, o4, o5, o6, o7, o8, o9, o10, o11, o12⟩ := q_
  have q_ := hc; obtain ⟨⟨c0, c1, c2, c3, c4⟩, c5, c6, c7, c8, c9, c10, c11, c12⟩ := q_
  have h1 := wif_in hf (by omega)
  have hf5 : f < 5 := by omega
  have a := c8 f hf
  have b8 := o8 f hf
  have io := isOut_n (c := S 8 f) (by omega)
  refine opI1 (b := (nI (if S 8 f % 6 = 5 then 1 else 0), x_bads x)) ?_ ⟨rfl, hok, hc, hi, hj, ha, hb⟩
  by_cases h5 : S 8 f % 6 = 5
  · rw [if_pos h5] at io ⊢
    rw [T_X3_of]; simp (disch := omega) only [l0, l1, l2, l3, l4, l5, l6, l7, l8, l9, l10, l11, l12, l30, l35, l36, l60, l99, l127, l150, l999, nI_eq, nI_leI, nI_ltI, nI_1, nI_add, pk_mul, obN, nI_clamp, lt', jn, Option.bind_some, inF, inC, inK, wi3, T_X3_isFirstOrSecond, T_X3_refuseBad, T_X3_refuseFull, T_X3_refuseNo, reduceIte, Nat.reduceEqDiff, Nat.reduceLeDiff, Nat.reduceMul, Nat.reduceAdd, Nat.reduceSub, and_true, true_and, c1, h1, a, io]
  · rw [if_neg h5] at io ⊢
    rw [T_X3_of]; simp (disch := omega) only [l0, l1, l2, l3, l4, l5, l6, l7, l8, l9, l10, l11, l12, l30, l35, l36, l60, l99, l127, l150, l999, nI_eq, nI_leI, nI_ltI, nI_1, nI_add, pk_mul, obN, nI_clamp, lt', jn, Option.bind_some, inF, inC, inK, wi3, T_X3_isFirstOrSecond, T_X3_refuseBad, T_X3_refuseFull, T_X3_refuseNo, reduceIte, Nat.reduceEqDiff, Nat.reduceLeDiff, Nat.reduceMul, Nat.reduceAdd, Nat.reduceSub, and_true, true_and, c1, h1, a, io]

set_option maxHeartbeats 4000000 in
theorem q_then (N : Nat) (hN : 1000 ≤ N) (x : FIV) {S : SeaN} {I : Option SeaN} {ab be : Int64} (h : CR S I ab be x) (f j : Nat) (hf : f < S 1 0) (hj6 : j ≤ 60) : ∃ R : Int32 × Int32, T_X3_then N (x_bads x) (xn_month x) (xn_floes x) (xn_ways x) (xn_strengths x) (xn_kinds x) (xn_cells x) (nI f) (nI j) = some R ∧ R.1 = nI (runN (S 5) (S 6) (S 7 f) (S 8 f) (S 0 0) j) ∧ CR S I ab be ((xn_month x), (xn_ways x), (xn_strengths x), (xn_floes x), (xn_kinds x), (xn_cells x), (xn_foods x), (xn_founds x), (xn_foundRows x), (xn_notes x), (xn_noteRows x), (xn_undos x), (xn_undoRows x), (xs_month x), (xs_ways x), (xs_strengths x), (xs_floes x), (xs_kinds x), (xs_cells x), (xs_foods x), (xs_founds x), (xs_foundRows x), (xs_notes x), (xs_noteRows x), (xs_undos x), (xs_undoRows x), (xt_bytes x), (xt_length x), (xt_place x), (xt_fault x), (x_odds x), (x_nextOdds x), (x_gains x), (x_above x), (x_below x), R.2, (x_nos x), (x_fulls x), (x_img0 x), (x_img1 x)) := by
  obtain ⟨hok, hc, hi, hj, ha, hb⟩ := h
  have q_ := hok; obtain ⟨o0, o1, o2, o3, o4, o5, o6, o7, o8, o9, o10, o11, o12⟩ := q_
  have q_ := hc; obtain ⟨⟨c0, c1, c2, c3, c4⟩, c5, c6, c7, c8, c9, c10, c11, c12⟩ := q_
  have h1 := wif_in hf (by omega)
  have h2 := wi_in (j := j) (b := 60) hj6 (by omega)
  have hf5 : f < 5 := by omega
  have d := drifted_n (mo := S 0 0) (j := j) hN c5 c6 o5 o6 (o7 f hf) (o8 f hf) (by omega) (by omega)
  have cb : T_X1_cellBehind N (xn_month x) (xn_ways x) (xn_strengths x) (xn_kinds x) (xn_cells x) (nI f) (nI j) = some (nI (runN (S 5) (S 6) (S 7 f) (S 8 f) (S 0 0) j)) := by
    rw [T_X1_cellBehind, nI_clamp (by omega), c7 f hf, c8 f hf, c0, d, obN hf5 (by omega), obN hf5 (by omega)]
    rfl
  exact opI1 (b := (nI (runN (S 5) (S 6) (S 7 f) (S 8 f) (S 0 0) j), x_bads x)) (by rw [T_X3_then, cb]; simp (disch := omega) only [l0, l1, l2, l3, l4, l5, l6, l7, l8, l9, l10, l11, l12, l30, l35, l36, l60, l99, l127, l150, l999, nI_eq, nI_leI, nI_ltI, nI_1, nI_add, pk_mul, obN, nI_clamp, lt', jn, Option.bind_some, inF, inC, inK, wi3, T_X3_isFirstOrSecond, T_X3_refuseBad, T_X3_refuseFull, T_X3_refuseNo, reduceIte, Nat.reduceEqDiff, Nat.reduceLeDiff, Nat.reduceMul, Nat.reduceAdd, Nat.reduceSub, and_true, true_and, c1, h1, h2]) ⟨rfl, hok, hc, hi, hj, ha, hb⟩

set_option maxHeartbeats 4000000 in
theorem q_count0 (N : Nat) (hN : 1000 ≤ N) (x : FIV) {S : SeaN} {I : Option SeaN} {ab be : Int64} (h : CR S I ab be x)  : ∃ R : Int32 × Int32, T_X3_count N (x_bads x) (xn_month x) (xn_floes x) (xn_founds x) (xn_notes x) (xn_undos x) (xn_cells x) (xt_length x) (nI 0) = some R ∧ R.1 = nI (S 1 0) ∧ CR S I ab be ((xn_month x), (xn_ways x), (xn_strengths x), (xn_floes x), (xn_kinds x), (xn_cells x), (xn_foods x), (xn_founds x), (xn_foundRows x), (xn_notes x), (xn_noteRows x), (xn_undos x), (xn_undoRows x), (xs_month x), (xs_ways x), (xs_strengths x), (xs_floes x), (xs_kinds x), (xs_cells x), (xs_foods x), (xs_founds x), (xs_foundRows x), (xs_notes x), (xs_noteRows x), (xs_undos x), (xs_undoRows x), (xt_bytes x), (xt_length x), (xt_place x), (xt_fault x), (x_odds x), (x_nextOdds x), (x_gains x), (x_above x), (x_below x), R.2, (x_nos x), (x_fulls x), (x_img0 x), (x_img1 x)) := by
  obtain ⟨hok, hc, hi, hj, ha, hb⟩ := h
  have q_ := hc; obtain ⟨⟨c0, c1, c2, c3, c4⟩, c5, c6, c7, c8, c9, c10, c11, c12⟩ := q_
  refine opI1 (by rw [T_X3_count]; simp (disch := omega) only [l0, l1, l2, l3, l4, l5, l6, l7, l8, l9, l10, l11, l12, l30, l35, l36, l60, l99, l127, l150, l999, nI_eq, nI_leI, nI_ltI, nI_1, nI_add, pk_mul, obN, nI_clamp, lt', jn, Option.bind_some, inF, inC, inK, wi3, T_X3_isFirstOrSecond, T_X3_refuseBad, T_X3_refuseFull, T_X3_refuseNo, reduceIte, Nat.reduceEqDiff, Nat.reduceLeDiff, Nat.reduceMul, Nat.reduceAdd, Nat.reduceSub, and_true, true_and]; rfl) ?_
  exact ⟨c1, hok, hc, hi, hj, ha, hb⟩

set_option maxHeartbeats 4000000 in
theorem q_count1 (N : Nat) (hN : 1000 ≤ N) (x : FIV) {S : SeaN} {I : Option SeaN} {ab be : Int64} (h : CR S I ab be x)  : ∃ R : Int32 × Int32, T_X3_count N (x_bads x) (xn_month x) (xn_floes x) (xn_founds x) (xn_notes x) (xn_undos x) (xn_cells x) (xt_length x) (nI 1) = some R ∧ R.1 = nI (S 0 0) ∧ CR S I ab be ((xn_month x), (xn_ways x), (xn_strengths x), (xn_floes x), (xn_kinds x), (xn_cells x), (xn_foods x), (xn_founds x), (xn_foundRows x), (xn_notes x), (xn_noteRows x), (xn_undos x), (xn_undoRows x), (xs_month x), (xs_ways x), (xs_strengths x), (xs_floes x), (xs_kinds x), (xs_cells x), (xs_foods x), (xs_founds x), (xs_foundRows x), (xs_notes x), (xs_noteRows x), (xs_undos x), (xs_undoRows x), (xt_bytes x), (xt_length x), (xt_place x), (xt_fault x), (x_odds x), (x_nextOdds x), (x_gains x), (x_above x), (x_below x), R.2, (x_nos x), (x_fulls x), (x_img0 x), (x_img1 x)) := by
  obtain ⟨hok, hc, hi, hj, ha, hb⟩ := h
  have q_ := hc; obtain ⟨⟨c0, c1, c2, c3, c4⟩, c5, c6, c7, c8, c9, c10, c11, c12⟩ := q_
  refine opI1 (by rw [T_X3_count]; simp (disch := omega) only [l0, l1, l2, l3, l4, l5, l6, l7, l8, l9, l10, l11, l12, l30, l35, l36, l60, l99, l127, l150, l999, nI_eq, nI_leI, nI_ltI, nI_1, nI_add, pk_mul, obN, nI_clamp, lt', jn, Option.bind_some, inF, inC, inK, wi3, T_X3_isFirstOrSecond, T_X3_refuseBad, T_X3_refuseFull, T_X3_refuseNo, reduceIte, Nat.reduceEqDiff, Nat.reduceLeDiff, Nat.reduceMul, Nat.reduceAdd, Nat.reduceSub, and_true, true_and]; rfl) ?_
  exact ⟨c0, hok, hc, hi, hj, ha, hb⟩

set_option maxHeartbeats 4000000 in
theorem q_count2 (N : Nat) (hN : 1000 ≤ N) (x : FIV) {S : SeaN} {I : Option SeaN} {ab be : Int64} (h : CR S I ab be x)  : ∃ R : Int32 × Int32, T_X3_count N (x_bads x) (xn_month x) (xn_floes x) (xn_founds x) (xn_notes x) (xn_undos x) (xn_cells x) (xt_length x) (nI 2) = some R ∧ R.1 = nI (outN (S 8) (S 1 0)) ∧ CR S I ab be ((xn_month x), (xn_ways x), (xn_strengths x), (xn_floes x), (xn_kinds x), (xn_cells x), (xn_foods x), (xn_founds x), (xn_foundRows x), (xn_notes x), (xn_noteRows x), (xn_undos x), (xn_undoRows x), (xs_month x), (xs_ways x), (xs_strengths x), (xs_floes x), (xs_kinds x), (xs_cells x), (xs_foods x), (xs_founds x), (xs_foundRows x), (xs_notes x), (xs_noteRows x), (xs_undos x), (xs_undoRows x), (xt_bytes x), (xt_length x), (xt_place x), (xt_fault x), (x_odds x), (x_nextOdds x), (x_gains x), (x_above x), (x_below x), R.2, (x_nos x), (x_fulls x), (x_img0 x), (x_img1 x)) := by
  obtain ⟨hok, hc, hi, hj, ha, hb⟩ := h
  have q_ := hok; obtain ⟨o0, o1, o2, o3, o4, o5, o6, o7, o8, o9, o10, o11, o12⟩ := q_
  have q_ := hc; obtain ⟨⟨c0, c1, c2, c3, c4⟩, c5, c6, c7, c8, c9, c10, c11, c12⟩ := q_
  have f1 := floesOut_n hN o1 c8 o8
  rw [← c1] at f1
  refine opI1 (by rw [T_X3_count, f1]; simp (disch := omega) only [l0, l1, l2, l3, l4, l5, l6, l7, l8, l9, l10, l11, l12, l30, l35, l36, l60, l99, l127, l150, l999, nI_eq, nI_leI, nI_ltI, nI_1, nI_add, pk_mul, obN, nI_clamp, lt', jn, Option.bind_some, inF, inC, inK, wi3, T_X3_isFirstOrSecond, T_X3_refuseBad, T_X3_refuseFull, T_X3_refuseNo, reduceIte, Nat.reduceEqDiff, Nat.reduceLeDiff, Nat.reduceMul, Nat.reduceAdd, Nat.reduceSub, and_true, true_and]; rfl) ?_
  exact ⟨rfl, hok, hc, hi, hj, ha, hb⟩

set_option maxHeartbeats 4000000 in
theorem q_count3 (N : Nat) (hN : 1000 ≤ N) (x : FIV) {S : SeaN} {I : Option SeaN} {ab be : Int64} (h : CR S I ab be x)  : ∃ R : Int32 × Int32, T_X3_count N (x_bads x) (xn_month x) (xn_floes x) (xn_founds x) (xn_notes x) (xn_undos x) (xn_cells x) (xt_length x) (nI 3) = some R ∧ R.1 = nI (S 2 0) ∧ CR S I ab be ((xn_month x), (xn_ways x), (xn_strengths x), (xn_floes x), (xn_kinds x), (xn_cells x), (xn_foods x), (xn_founds x), (xn_foundRows x), (xn_notes x), (xn_noteRows x), (xn_undos x), (xn_undoRows x), (xs_month x), (xs_ways x), (xs_strengths x), (xs_floes x), (xs_kinds x), (xs_cells x), (xs_foods x), (xs_founds x), (xs_foundRows x), (xs_notes x), (xs_noteRows x), (xs_undos x), (xs_undoRows x), (xt_bytes x), (xt_length x), (xt_place x), (xt_fault x), (x_odds x), (x_nextOdds x), (x_gains x), (x_above x), (x_below x), R.2, (x_nos x), (x_fulls x), (x_img0 x), (x_img1 x)) := by
  obtain ⟨hok, hc, hi, hj, ha, hb⟩ := h
  have q_ := hc; obtain ⟨⟨c0, c1, c2, c3, c4⟩, c5, c6, c7, c8, c9, c10, c11, c12⟩ := q_
  refine opI1 (by rw [T_X3_count]; simp (disch := omega) only [l0, l1, l2, l3, l4, l5, l6, l7, l8, l9, l10, l11, l12, l30, l35, l36, l60, l99, l127, l150, l999, nI_eq, nI_leI, nI_ltI, nI_1, nI_add, pk_mul, obN, nI_clamp, lt', jn, Option.bind_some, inF, inC, inK, wi3, T_X3_isFirstOrSecond, T_X3_refuseBad, T_X3_refuseFull, T_X3_refuseNo, reduceIte, Nat.reduceEqDiff, Nat.reduceLeDiff, Nat.reduceMul, Nat.reduceAdd, Nat.reduceSub, and_true, true_and]; rfl) ?_
  exact ⟨c2, hok, hc, hi, hj, ha, hb⟩

set_option maxHeartbeats 4000000 in
theorem q_count4 (N : Nat) (hN : 1000 ≤ N) (x : FIV) {S : SeaN} {I : Option SeaN} {ab be : Int64} (h : CR S I ab be x)  : ∃ R : Int32 × Int32, T_X3_count N (x_bads x) (xn_month x) (xn_floes x) (xn_founds x) (xn_notes x) (xn_undos x) (xn_cells x) (xt_length x) (nI 4) = some R ∧ R.1 = nI (S 3 0) ∧ CR S I ab be ((xn_month x), (xn_ways x), (xn_strengths x), (xn_floes x), (xn_kinds x), (xn_cells x), (xn_foods x), (xn_founds x), (xn_foundRows x), (xn_notes x), (xn_noteRows x), (xn_undos x), (xn_undoRows x), (xs_month x), (xs_ways x), (xs_strengths x), (xs_floes x), (xs_kinds x), (xs_cells x), (xs_foods x), (xs_founds x), (xs_foundRows x), (xs_notes x), (xs_noteRows x), (xs_undos x), (xs_undoRows x), (xt_bytes x), (xt_length x), (xt_place x), (xt_fault x), (x_odds x), (x_nextOdds x), (x_gains x), (x_above x), (x_below x), R.2, (x_nos x), (x_fulls x), (x_img0 x), (x_img1 x)) := by
  obtain ⟨hok, hc, hi, hj, ha, hb⟩ := h
  have q_ := hc; obtain ⟨⟨c0, c1, c2, c3, c4⟩, c5, c6, c7, c8, c9, c10, c11, c12⟩ := q_
  refine opI1 (by rw [T_X3_count]; simp (disch := omega) only [l0, l1, l2, l3, l4, l5, l6, l7, l8, l9, l10, l11, l12, l30, l35, l36, l60, l99, l127, l150, l999, nI_eq, nI_leI, nI_ltI, nI_1, nI_add, pk_mul, obN, nI_clamp, lt', jn, Option.bind_some, inF, inC, inK, wi3, T_X3_isFirstOrSecond, T_X3_refuseBad, T_X3_refuseFull, T_X3_refuseNo, reduceIte, Nat.reduceEqDiff, Nat.reduceLeDiff, Nat.reduceMul, Nat.reduceAdd, Nat.reduceSub, and_true, true_and]; rfl) ?_
  exact ⟨c3, hok, hc, hi, hj, ha, hb⟩

set_option maxHeartbeats 4000000 in
theorem q_count5 (N : Nat) (hN : 1000 ≤ N) (x : FIV) {S : SeaN} {I : Option SeaN} {ab be : Int64} (h : CR S I ab be x)  : ∃ R : Int32 × Int32, T_X3_count N (x_bads x) (xn_month x) (xn_floes x) (xn_founds x) (xn_notes x) (xn_undos x) (xn_cells x) (xt_length x) (nI 5) = some R ∧ R.1 = nI (S 4 0) ∧ CR S I ab be ((xn_month x), (xn_ways x), (xn_strengths x), (xn_floes x), (xn_kinds x), (xn_cells x), (xn_foods x), (xn_founds x), (xn_foundRows x), (xn_notes x), (xn_noteRows x), (xn_undos x), (xn_undoRows x), (xs_month x), (xs_ways x), (xs_strengths x), (xs_floes x), (xs_kinds x), (xs_cells x), (xs_foods x), (xs_founds x), (xs_foundRows x), (xs_notes x), (xs_noteRows x), (xs_undos x), (xs_undoRows x), (xt_bytes x), (xt_length x), (xt_place x), (xt_fault x), (x_odds x), (x_nextOdds x), (x_gains x), (x_above x), (x_below x), R.2, (x_nos x), (x_fulls x), (x_img0 x), (x_img1 x)) := by
  obtain ⟨hok, hc, hi, hj, ha, hb⟩ := h
  have q_ := hc; obtain ⟨⟨c0, c1, c2, c3, c4⟩, c5, c6, c7, c8, c9, c10, c11, c12⟩ := q_
  refine opI1 (by rw [T_X3_count]; simp (disch := omega) only [l0, l1, l2, l3, l4, l5, l6, l7, l8, l9, l10, l11, l12, l30, l35, l36, l60, l99, l127, l150, l999, nI_eq, nI_leI, nI_ltI, nI_1, nI_add, pk_mul, obN, nI_clamp, lt', jn, Option.bind_some, inF, inC, inK, wi3, T_X3_isFirstOrSecond, T_X3_refuseBad, T_X3_refuseFull, T_X3_refuseNo, reduceIte, Nat.reduceEqDiff, Nat.reduceLeDiff, Nat.reduceMul, Nat.reduceAdd, Nat.reduceSub, and_true, true_and]; rfl) ?_
  exact ⟨c4, hok, hc, hi, hj, ha, hb⟩

set_option maxHeartbeats 4000000 in
theorem q_part0 (N : Nat) (hN : 1000 ≤ N) (x : FIV) {S : SeaN} {I : Option SeaN} {ab be : Int64} (h : CR S I ab be x)  : ∃ R : Int64 × Int32, T_X3_part (x_above x) (x_below x) (x_bads x) (nI 0) = R ∧ R.1 = ab ∧ CR S I ab be ((xn_month x), (xn_ways x), (xn_strengths x), (xn_floes x), (xn_kinds x), (xn_cells x), (xn_foods x), (xn_founds x), (xn_foundRows x), (xn_notes x), (xn_noteRows x), (xn_undos x), (xn_undoRows x), (xs_month x), (xs_ways x), (xs_strengths x), (xs_floes x), (xs_kinds x), (xs_cells x), (xs_foods x), (xs_founds x), (xs_foundRows x), (xs_notes x), (xs_noteRows x), (xs_undos x), (xs_undoRows x), (xt_bytes x), (xt_length x), (xt_place x), (xt_fault x), (x_odds x), (x_nextOdds x), (x_gains x), (x_above x), (x_below x), R.2, (x_nos x), (x_fulls x), (x_img0 x), (x_img1 x)) := by
  obtain ⟨hok, hc, hi, hj, ha, hb⟩ := h
  have h2 := wi_in (j := 0) (b := 1) (by omega) (by omega)
  refine opI1 (by simp (disch := omega) only [l0, l1, l2, l3, l4, l5, l6, l7, l8, l9, l10, l11, l12, l30, l35, l36, l60, l99, l127, l150, l999, nI_eq, nI_leI, nI_ltI, nI_1, nI_add, pk_mul, obN, nI_clamp, lt', jn, Option.bind_some, inF, inC, inK, wi3, T_X3_isFirstOrSecond, T_X3_refuseBad, T_X3_refuseFull, T_X3_refuseNo, reduceIte, Nat.reduceEqDiff, Nat.reduceLeDiff, Nat.reduceMul, Nat.reduceAdd, Nat.reduceSub, and_true, true_and, T_X3_part, h2]; rfl) ?_
  exact ⟨ha, hok, hc, hi, hj, ha, hb⟩

set_option maxHeartbeats 4000000 in
theorem q_part1 (N : Nat) (hN : 1000 ≤ N) (x : FIV) {S : SeaN} {I : Option SeaN} {ab be : Int64} (h : CR S I ab be x)  : ∃ R : Int64 × Int32, T_X3_part (x_above x) (x_below x) (x_bads x) (nI 1) = R ∧ R.1 = be ∧ CR S I ab be ((xn_month x), (xn_ways x), (xn_strengths x), (xn_floes x), (xn_kinds x), (xn_cells x), (xn_foods x), (xn_founds x), (xn_foundRows x), (xn_notes x), (xn_noteRows x), (xn_undos x), (xn_undoRows x), (xs_month x), (xs_ways x), (xs_strengths x), (xs_floes x), (xs_kinds x), (xs_cells x), (xs_foods x), (xs_founds x), (xs_foundRows x), (xs_notes x), (xs_noteRows x), (xs_undos x), (xs_undoRows x), (xt_bytes x), (xt_length x), (xt_place x), (xt_fault x), (x_odds x), (x_nextOdds x), (x_gains x), (x_above x), (x_below x), R.2, (x_nos x), (x_fulls x), (x_img0 x), (x_img1 x)) := by
  obtain ⟨hok, hc, hi, hj, ha, hb⟩ := h
  have h2 := wi_in (j := 1) (b := 1) (by omega) (by omega)
  refine opI1 (by simp (disch := omega) only [l0, l1, l2, l3, l4, l5, l6, l7, l8, l9, l10, l11, l12, l30, l35, l36, l60, l99, l127, l150, l999, nI_eq, nI_leI, nI_ltI, nI_1, nI_add, pk_mul, obN, nI_clamp, lt', jn, Option.bind_some, inF, inC, inK, wi3, T_X3_isFirstOrSecond, T_X3_refuseBad, T_X3_refuseFull, T_X3_refuseNo, reduceIte, Nat.reduceEqDiff, Nat.reduceLeDiff, Nat.reduceMul, Nat.reduceAdd, Nat.reduceSub, and_true, true_and, T_X3_part, h2]; rfl) ?_
  exact ⟨hb, hok, hc, hi, hj, ha, hb⟩

set_option maxHeartbeats 4000000 in
theorem q_forget0 (N : Nat) (hN : 1000 ≤ N) (x : FIV) {S : SeaN} {I : Option SeaN} {ab be : Int64} (h : CR S I ab be x)  : ∃ R : Int32 × Int32 × Int32 × Int32, T_X3_forget (x_bads x) (xn_founds x) (xn_notes x) (nI 0) = R ∧ R.1 = nI (S 2 0) ∧ CR (mkS (S 0 0) (S 1 0) 0 (S 3 0) (S 4 0) (S 5) (S 6) (S 7) (S 8) (S 9) (S 10) (S 11) (S 12)) I ab be ((xn_month x), (xn_ways x), (xn_strengths x), (xn_floes x), (xn_kinds x), (xn_cells x), (xn_foods x), R.2.2.1, (xn_foundRows x), R.2.2.2, (xn_noteRows x), (xn_undos x), (xn_undoRows x), (xs_month x), (xs_ways x), (xs_strengths x), (xs_floes x), (xs_kinds x), (xs_cells x), (xs_foods x), (xs_founds x), (xs_foundRows x), (xs_notes x), (xs_noteRows x), (xs_undos x), (xs_undoRows x), (xt_bytes x), (xt_length x), (xt_place x), (xt_fault x), (x_odds x), (x_nextOdds x), (x_gains x), (x_above x), (x_below x), R.2.1, (x_nos x), (x_fulls x), (x_img0 x), (x_img1 x)) := by
  obtain ⟨hok, hc, hi, hj, ha, hb⟩ := h
  have nz : ∀ {P : Nat → Prop} (k : Nat), k < 0 → P k := fun _ h => absurd h (Nat.not_lt_zero _)
  have nz3 : ∀ {P : Nat → Prop} (k : Nat), k < 3 * 0 → P k := fun _ h => absurd h (by omega)
  have nz7 : ∀ {P : Nat → Prop} (k : Nat), k < 7 * 0 → P k := fun _ h => absurd h (by omega)
  have q_ := hok; obtain ⟨o0, o1, o2, o3, o4, o5, o6, o7, o8, o9, o10, o11, o12⟩ := q_
  have q_ := hc; obtain ⟨⟨c0, c1, c2, c3, c4⟩, c5, c6, c7, c8, c9, c10, c11, c12⟩ := q_
  have h1 := wi_in (j := 0) (b := 1) (by omega) (by omega)
  refine opI1 (by simp (disch := omega) only [l0, l1, l2, l3, l4, l5, l6, l7, l8, l9, l10, l11, l12, l30, l35, l36, l60, l99, l127, l150, l999, nI_eq, nI_leI, nI_ltI, nI_1, nI_add, pk_mul, obN, nI_clamp, lt', jn, Option.bind_some, inF, inC, inK, wi3, T_X3_isFirstOrSecond, T_X3_refuseBad, T_X3_refuseFull, T_X3_refuseNo, reduceIte, Nat.reduceEqDiff, Nat.reduceLeDiff, Nat.reduceMul, Nat.reduceAdd, Nat.reduceSub, and_true, true_and, T_X3_forget, h1]; rfl) ?_
  exact ⟨c2, ⟨o0, o1, Nat.zero_le _, o3, o4, o5, o6, o7, o8, o9, nz, o11, o12⟩, ⟨⟨c0, c1, rfl, c3, c4⟩, c5, c6, c7, c8, c9, nz3, c11, c12⟩, hi, hj, ha, hb⟩

set_option maxHeartbeats 4000000 in
theorem q_forget1 (N : Nat) (hN : 1000 ≤ N) (x : FIV) {S : SeaN} {I : Option SeaN} {ab be : Int64} (h : CR S I ab be x)  : ∃ R : Int32 × Int32 × Int32 × Int32, T_X3_forget (x_bads x) (xn_founds x) (xn_notes x) (nI 1) = R ∧ R.1 = nI (S 3 0) ∧ CR (mkS (S 0 0) (S 1 0) (S 2 0) 0 (S 4 0) (S 5) (S 6) (S 7) (S 8) (S 9) (S 10) (S 11) (S 12)) I ab be ((xn_month x), (xn_ways x), (xn_strengths x), (xn_floes x), (xn_kinds x), (xn_cells x), (xn_foods x), R.2.2.1, (xn_foundRows x), R.2.2.2, (xn_noteRows x), (xn_undos x), (xn_undoRows x), (xs_month x), (xs_ways x), (xs_strengths x), (xs_floes x), (xs_kinds x), (xs_cells x), (xs_foods x), (xs_founds x), (xs_foundRows x), (xs_notes x), (xs_noteRows x), (xs_undos x), (xs_undoRows x), (xt_bytes x), (xt_length x), (xt_place x), (xt_fault x), (x_odds x), (x_nextOdds x), (x_gains x), (x_above x), (x_below x), R.2.1, (x_nos x), (x_fulls x), (x_img0 x), (x_img1 x)) := by
  obtain ⟨hok, hc, hi, hj, ha, hb⟩ := h
  have nz : ∀ {P : Nat → Prop} (k : Nat), k < 0 → P k := fun _ h => absurd h (Nat.not_lt_zero _)
  have nz3 : ∀ {P : Nat → Prop} (k : Nat), k < 3 * 0 → P k := fun _ h => absurd h (by omega)
  have nz7 : ∀ {P : Nat → Prop} (k : Nat), k < 7 * 0 → P k := fun _ h => absurd h (by omega)
  have q_ := hok; obtain ⟨o0, o1, o2, o3, o4, o5, o6, o7, o8, o9, o10, o11, o12⟩ := q_
  have q_ := hc; obtain ⟨⟨c0, c1, c2, c3, c4⟩, c5, c6, c7, c8, c9, c10, c11, c12⟩ := q_
  have h1 := wi_in (j := 1) (b := 1) (by omega) (by omega)
  refine opI1 (by simp (disch := omega) only [l0, l1, l2, l3, l4, l5, l6, l7, l8, l9, l10, l11, l12, l30, l35, l36, l60, l99, l127, l150, l999, nI_eq, nI_leI, nI_ltI, nI_1, nI_add, pk_mul, obN, nI_clamp, lt', jn, Option.bind_some, inF, inC, inK, wi3, T_X3_isFirstOrSecond, T_X3_refuseBad, T_X3_refuseFull, T_X3_refuseNo, reduceIte, Nat.reduceEqDiff, Nat.reduceLeDiff, Nat.reduceMul, Nat.reduceAdd, Nat.reduceSub, and_true, true_and, T_X3_forget, h1]; rfl) ?_
  exact ⟨c3, ⟨o0, o1, o2, Nat.zero_le _, o4, o5, o6, o7, o8, o9, o10, nz, o12⟩, ⟨⟨c0, c1, c2, rfl, c4⟩, c5, c6, c7, c8, c9, c10, nz7, c12⟩, hi, hj, ha, hb⟩

set_option maxHeartbeats 4000000 in
theorem q_found (N : Nat) (hN : 1000 ≤ N) (x : FIV) {S : SeaN} {I : Option SeaN} {ab be : Int64} (h : CR S I ab be x) (k q c : Nat) (hk : k ≤ 5) (hq1 : 1 ≤ q) (hq : q ≤ 60) (hl : c ≤ 35) (hlt : S 2 0 < 4) : ∃ R : Int32 × Int32 × Int32 × Int32 × (Nat → Int32), T_X3_found N (x_bads x) (x_fulls x) (xn_founds x) (xn_foundRows x) (nI k) (nI q) (nI c) = some R ∧ R.1 = nI (S 2 0 + 1) ∧ CR (mkS (S 0 0) (S 1 0) (S 2 0 + 1) (S 3 0) (S 4 0) (S 5) (S 6) (S 7) (S 8) (S 9) (upn (upn (upn (S 10) (3 * S 2 0) k) (3 * S 2 0 + 1) q) (3 * S 2 0 + 2) c) (S 11) (S 12)) I ab be ((xn_month x), (xn_ways x), (xn_strengths x), (xn_floes x), (xn_kinds x), (xn_cells x), (xn_foods x), R.2.2.2.1, R.2.2.2.2, (xn_notes x), (xn_noteRows x), (xn_undos x), (xn_undoRows x), (xs_month x), (xs_ways x), (xs_strengths x), (xs_floes x), (xs_kinds x), (xs_cells x), (xs_foods x), (xs_founds x), (xs_foundRows x), (xs_notes x), (xs_noteRows x), (xs_undos x), (xs_undoRows x), (xt_bytes x), (xt_length x), (xt_place x), (xt_fault x), (x_odds x), (x_nextOdds x), (x_gains x), (x_above x), (x_below x), R.2.1, (x_nos x), R.2.2.1, (x_img0 x), (x_img1 x)) := by
  obtain ⟨hok, hc, hi, hj, ha, hb⟩ := h
  have q_ := hok; obtain ⟨o0, o1, o2, o3, o4, o5, o6, o7, o8, o9, o10, o11, o12⟩ := q_
  have q_ := hc; obtain ⟨⟨c0, c1, c2, c3, c4⟩, c5, c6, c7, c8, c9, c10, c11, c12⟩ := q_
  have h1 := wi_in (j := k) (b := 5) hk (by omega)
  have h2 := wi1_in (j := q) (b := 60) hq1 hq (by omega)
  have h3 := wi_in (j := c) (b := 35) hl (by omega)
  have hn : ¬ 4 ≤ S 2 0 := by omega
  refine opI1 (by rw [T_X3_found, T_X1_addFound]; simp (disch := omega) only [l0, l1, l2, l3, l4, l5, l6, l7, l8, l9, l10, l11, l12, l30, l35, l36, l60, l99, l127, l150, l999, nI_eq, nI_leI, nI_ltI, nI_1, nI_add, pk_mul, obN, nI_clamp, lt', jn, Option.bind_some, inF, inC, inK, wi3, T_X3_isFirstOrSecond, T_X3_refuseBad, T_X3_refuseFull, T_X3_refuseNo, reduceIte, Nat.reduceEqDiff, Nat.reduceLeDiff, Nat.reduceMul, Nat.reduceAdd, Nat.reduceSub, and_true, true_and, c2, h1, h2, h3, hlt, hn]; rfl) ?_
  refine ⟨rfl, ⟨o0, o1, by show S 2 0 + 1 ≤ 4; omega, o3, o4, o5, o6, o7, o8, o9, ?_, o11, o12⟩,
    ⟨⟨c0, c1, rfl, c3, c4⟩, c5, c6, c7, c8, c9, ?_, c11, c12⟩, hi, hj, ha, hb⟩
  · intro i hi
    show (upn (upn (upn (S 10) (3 * S 2 0) k) (3 * S 2 0 + 1) q) (3 * S 2 0 + 2) c) (3 * i) ≤ 5 ∧ (upn (upn (upn (S 10) (3 * S 2 0) k) (3 * S 2 0 + 1) q) (3 * S 2 0 + 2) c) (3 * i + 1) ≤ 60 ∧ (upn (upn (upn (S 10) (3 * S 2 0) k) (3 * S 2 0 + 1) q) (3 * S 2 0 + 2) c) (3 * i + 2) ≤ 35
    have hi' : i < S 2 0 + 1 := hi
    by_cases e : i = S 2 0
    · subst e
      simp (disch := omega) only [upn_n, upn_s]
      exact ⟨hk, hq, hl⟩
    · simp (disch := omega) only [upn_n]
      exact o10 i (by omega)
  · intro i hi
    have hi' : i < 3 * (S 2 0 + 1) := hi
    exact upn_at fun e2 => upn_at fun e1 => upn_at fun e0 => c10 i (by omega)

set_option maxHeartbeats 4000000 in
theorem q_note (N : Nat) (hN : 1000 ≤ N) (x : FIV) {S : SeaN} {I : Option SeaN} {ab be : Int64} (h : CR S I ab be x) (f q w s c y z : Nat) (hf : f < S 1 0) (hq : q ≤ 99) (hw : w ≤ 3) (hs : s ≤ 3) (hl : c ≤ 5) (hy : y ≤ 3) (hz : z ≤ 3) (hlt : S 3 0 < 6) : ∃ R : Int32 × Int32 × Int32 × Int32 × (Nat → Int32), T_X3_note N (x_bads x) (x_fulls x) (xn_floes x) (xn_notes x) (xn_noteRows x) (nI f) (nI q) (nI w) (nI s) (nI c) (nI y) (nI z) = some R ∧ R.1 = nI (S 3 0 + 1) ∧ CR (mkS (S 0 0) (S 1 0) (S 2 0) (S 3 0 + 1) (S 4 0) (S 5) (S 6) (S 7) (S 8) (S 9) (S 10) (up7 (S 11) (S 3 0) f q w s c y z) (S 12)) I ab be ((xn_month x), (xn_ways x), (xn_strengths x), (xn_floes x), (xn_kinds x), (xn_cells x), (xn_foods x), (xn_founds x), (xn_foundRows x), R.2.2.2.1, R.2.2.2.2, (xn_undos x), (xn_undoRows x), (xs_month x), (xs_ways x), (xs_strengths x), (xs_floes x), (xs_kinds x), (xs_cells x), (xs_foods x), (xs_founds x), (xs_foundRows x), (xs_notes x), (xs_noteRows x), (xs_undos x), (xs_undoRows x), (xt_bytes x), (xt_length x), (xt_place x), (xt_fault x), (x_odds x), (x_nextOdds x), (x_gains x), (x_above x), (x_below x), R.2.1, (x_nos x), R.2.2.1, (x_img0 x), (x_img1 x)) := by
  obtain ⟨hok, hc, hi, hj, ha, hb⟩ := h
  have q_ := hok; obtain ⟨o0, o1, o2, o3, o4, o5, o6, o7, o8, o9, o10, o11, o12⟩ := q_
  have q_ := hc; obtain ⟨⟨c0, c1, c2, c3, c4⟩, c5, c6, c7, c8, c9, c10, c11, c12⟩ := q_
  have h1 := wif_in hf (by omega)
  have h2 := wi_in (j := q) (b := 99) hq (by omega)
  have h3 := wi_in (j := w) (b := 3) hw (by omega)
  have h4 := wi_in (j := s) (b := 3) hs (by omega)
  have h5 := wi_in (j := c) (b := 5) hl (by omega)
  have h6 := wi_in (j := y) (b := 3) hy (by omega)
  have h7 := wi_in (j := z) (b := 3) hz (by omega)
  have hn : ¬ 6 ≤ S 3 0 := by omega
  refine opI1 (by rw [T_X3_note, T_X1_addNote]; simp (disch := omega) only [l0, l1, l2, l3, l4, l5, l6, l7, l8, l9, l10, l11, l12, l30, l35, l36, l60, l99, l127, l150, l999, nI_eq, nI_leI, nI_ltI, nI_1, nI_add, pk_mul, obN, nI_clamp, lt', jn, Option.bind_some, inF, inC, inK, wi3, T_X3_isFirstOrSecond, T_X3_refuseBad, T_X3_refuseFull, T_X3_refuseNo, reduceIte, Nat.reduceEqDiff, Nat.reduceLeDiff, Nat.reduceMul, Nat.reduceAdd, Nat.reduceSub, and_true, true_and, c1, c3, h1, h2, h3, h4, h5, h6, h7, hlt, hn]; rfl) ?_
  exact ⟨rfl, ⟨o0, o1, o2, by show S 3 0 + 1 ≤ 6; omega, o4, o5, o6, o7, o8, o9, o10, up7_p ⟨by omega, hq, hw, hs, hl, hy, hz⟩ o11, o12⟩,
    ⟨⟨c0, c1, c2, rfl, c4⟩, c5, c6, c7, c8, c9, c10, up7_u c11, c12⟩, hi, hj, ha, hb⟩
