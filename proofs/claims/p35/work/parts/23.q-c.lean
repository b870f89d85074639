/-! what the class's operations answer, in numbers: from where, what it is, who leaves, calms -/
theorem leN_eq {F : Nat → Bool} {i k : Nat} {v v' : Int32} (h : leN F i k v) (h' : leN F i k v') : v = v' := by
  rcases h with ⟨c, a1, a2, a3, a4, rfl⟩ | ⟨a1, rfl⟩
  · rcases h' with ⟨d, b1, b2, b3, b4, rfl⟩ | ⟨b1, rfl⟩
    · rcases Nat.lt_trichotomy c d with q | rfl | q
      · rw [b4 c a1 q] at a3; cases a3
      · rfl
      · rw [a4 d b1 q] at b3; cases b3
    · rw [b1 c a1 a2] at a3; cases a3
  · rcases h' with ⟨d, b1, b2, b3, b4, rfl⟩ | ⟨b1, rfl⟩
    · rw [a1 d b1 b2] at b3; cases b3
    · rfl
theorem lm1 : (-1 : Int32) = -nI 1 := rfl
theorem kinds_b {N f n : Nat} {rows : Nat → Int32} {Q : Nat → Nat} (hN : 1000 ≤ N) (hn : n ≤ 6) (hf : f ≤ 4) (hr : ∀ j, j < 7 * n → rows j = nI (Q j)) (hQ : okQ Q n) : T_X1_kindsByNotes N (nI n) rows (nI f) = some (nI (enN (fun k => alN k f Q n) 6)) := by
  generalize hB : (fun k => alN k f Q n) = B
  have eB : ∀ k, alN k f Q n = B k := fun k => by rw [← hB]
  obtain ⟨r, x1, rfl⟩ := lp (fun j (s : Int32 × Int32) => T_X1_kindsByNotes_L4 N (nI f) (nI n) rows j s.1 s.2) (fun i s => s = (nI (enN B i), nI i)) (fun r => r = nI (enN B 6)) 6
    (fun i s j hi6 hs => by
      subst hs
      have h6 : ¬ 6 ≤ i := by omega
      have an := allNotesBy_n (k := i) hN hn (by omega) hf hr hQ
      rw [eB] at an
      refine .inl ⟨(nI (enN B (i + 1)), nI (i + 1)), rfl, ?_⟩
      (try simp only)
      rw [T_X1_kindsByNotes_L4]
      cases hb : B i with
      | true =>
        rw [hb] at an
        rw [← en_or hi6 hb]
        simp (disch := omega) only [l0, l1, l2, l3, l4, l5, l6, l7, l8, l9, l10, l11, l12, l30, l35, l36, l60, l99, l127, l150, l999, nI_eq, nI_leI, nI_ltI, nI_1, nI_add, pk_mul, obN, nI_clamp, lt', jn, Option.bind_some, inF, inC, inK, wi3, T_X3_isFirstOrSecond, T_X3_refuseBad, T_X3_refuseFull, T_X3_refuseNo, reduceIte, Nat.reduceEqDiff, Nat.reduceLeDiff, Nat.reduceMul, Nat.reduceAdd, Nat.reduceSub, and_true, true_and, h6, an, b2]
      | false =>
        rw [hb] at an
        rw [en_no hb]
        simp (disch := omega) only [l0, l1, l2, l3, l4, l5, l6, l7, l8, l9, l10, l11, l12, l30, l35, l36, l60, l99, l127, l150, l999, nI_eq, nI_leI, nI_ltI, nI_1, nI_add, pk_mul, obN, nI_clamp, lt', jn, Option.bind_some, inF, inC, inK, wi3, T_X3_isFirstOrSecond, T_X3_refuseBad, T_X3_refuseFull, T_X3_refuseNo, reduceIte, Nat.reduceEqDiff, Nat.reduceLeDiff, Nat.reduceMul, Nat.reduceAdd, Nat.reduceSub, and_true, true_and, h6, an, b2, Bool.false_eq_true])
    (fun s j hs => by
      subst hs
      exact ⟨_, by (try simp only); rw [T_X1_kindsByNotes_L4]; simp (disch := omega) only [l0, l1, l2, l3, l4, l5, l6, l7, l8, l9, l10, l11, l12, l30, l35, l36, l60, l99, l127, l150, l999, nI_eq, nI_leI, nI_ltI, nI_1, nI_add, pk_mul, obN, nI_clamp, lt', jn, Option.bind_some, inF, inC, inK, wi3, T_X3_isFirstOrSecond, T_X3_refuseBad, T_X3_refuseFull, T_X3_refuseNo, reduceIte, Nat.reduceEqDiff, Nat.reduceLeDiff, Nat.reduceMul, Nat.reduceAdd, Nat.reduceSub, and_true, true_and, Nat.le_refl] <;> rfl, rfl⟩)
    6 0 (0, 0) N rfl rfl (by omega)
  rw [T_X1_kindsByNotes]
  exact x1

set_option maxHeartbeats 4000000 in
theorem q_whence0 (N : Nat) (hN : 1000 ≤ N) (x : FIV) {S : SeaN} {I : Option SeaN} {ab be : Int64} (h : CR S I ab be x)  : ∃ R : Int32 × Int32, T_X3_whence N (x_bads x) (xn_founds x) (xn_ways x) (xn_strengths x) (xn_foundRows x) (nI 0) = some R ∧ R.1 = nI (cD (fun c => frN (S 5) (S 6) (S 10) c (S 2 0)) 36) ∧ CR S I ab be ((xn_month x), (xn_ways x), (xn_strengths x), (xn_floes x), (xn_kinds x), (xn_cells x), (xn_foods x), (xn_founds x), (xn_foundRows x), (xn_notes x), (xn_noteRows x), (xn_undos x), (xn_undoRows x), (xs_month x), (xs_ways x), (xs_strengths x), (xs_floes x), (xs_kinds x), (xs_cells x), (xs_foods x), (xs_founds x), (xs_foundRows x), (xs_notes x), (xs_noteRows x), (xs_undos x), (xs_undoRows x), (xt_bytes x), (xt_length x), (xt_place x), (xt_fault x), (x_odds x), (x_nextOdds x), (x_gains x), (x_above x), (x_below x), R.2, (x_nos x), (x_fulls x), (x_img0 x), (x_img1 x)) := by
  obtain ⟨hok, hc, hi, hj, ha, hb⟩ := h
  have q_ := hok; obtain ⟨o0, o1, o2, o3, o4, o5, o6, o7, o8, o9, o10, o11, o12⟩ := q_
  have q_ := hc; obtain ⟨⟨c0, c1, c2, c3, c4⟩, c5, c6, c7, c8, c9, c10, c11, c12⟩ := q_
  have h1 := wi_in (j := 0) (b := 1) (by omega) (by omega)
  have fA := fun c (hc : c ≤ 35) => allFound_n (c := c) hN o2 c5 c6 o5 o6 hc c10 o10
  generalize hF : (fun c => frN (S 5) (S 6) (S 10) c (S 2 0)) = F at ⊢
  have eF : ∀ c, frN (S 5) (S 6) (S 10) c (S 2 0) = F c := fun c => by rw [← hF]
  simp only [eF] at fA
  obtain ⟨r, x1, v', rfl, hv'⟩ := lp (fun n (s : Int32 × Int32 × Int32) => T_X3_whence_L20 N (nI (S 2 0)) (xn_ways x) (xn_strengths x) (xn_foundRows x) (fun x34 x35 => if nI 0 = nI 0 then some (x34, x_bads x) else some (x35, x_bads x)) n s.1 s.2.1 s.2.2)
    (fun i s => s.1 = nI (cD F i) ∧ leN F (36 - i) 36 s.2.1 ∧ s.2.2 = nI (36 - i) + (-1)) (fun r => ∃ v, r = (if nI 0 = nI 0 then nI (cD F 36) else v, x_bads x) ∧ leN F 0 36 v) 36
    (fun i s n hi ⟨s1, s2, s3⟩ => by
      obtain ⟨t1, t2, t3⟩ := s
      simp only at s1 s2 s3
      have e3 : t3 = nI (35 - i) := by rw [s3, show 36 - i = 35 - i + 1 by omega, pk_m1]
      subst s1 e3
      have hb := fA (35 - i) (by omega)
      have e4 : nI (35 - i) + (-1) = nI (36 - (i + 1)) + (-1) := by rw [show 36 - (i + 1) = 35 - i by omega]
      have e4' : nI (35 - i) + -nI 1 = nI (36 - (i + 1)) + -nI 1 := e4
      have np : ¬ nI (35 - i) < nI 0 := nI_pos (by omega)
      have hcd := cD_le F i
      cases hx : F (35 - i) with
      | false =>
        refine .inl ⟨(nI (cD F (i + 1)), t2, nI (36 - (i + 1)) + (-1)), ⟨rfl, ?_, rfl⟩, ?_⟩
        · rcases s2 with ⟨c, a1, a2, a3, a4, rfl⟩ | ⟨a1, rfl⟩
          · refine .inl ⟨c, by omega, a2, a3, fun d d1 d2 => ?_, rfl⟩
            by_cases e : d = 35 - i
            · subst e; exact hx
            · exact a4 d (by omega) d2
          · refine .inr ⟨fun d d1 d2 => ?_, rfl⟩
            by_cases e : d = 35 - i
            · subst e; exact hx
            · exact a1 d (by omega) d2
        · rw [hx] at hb
          (try simp only)
          rw [T_X3_whence_L20, cD, hx]
          simp (disch := omega) only [l0, l1, l2, l3, l4, l5, l6, l7, l8, l9, l10, l11, l12, l30, l35, l36, l60, l99, l127, l150, l999, nI_eq, nI_leI, nI_ltI, nI_1, nI_add, pk_mul, obN, nI_clamp, lt', jn, Option.bind_some, inF, inC, inK, wi3, T_X3_isFirstOrSecond, T_X3_refuseBad, T_X3_refuseFull, T_X3_refuseNo, reduceIte, Nat.reduceEqDiff, Nat.reduceLeDiff, Nat.reduceMul, Nat.reduceAdd, Nat.reduceSub, and_true, true_and, hb, b2, np, e4', Bool.false_eq_true, Bool.toNat_false, Nat.add_zero]
      | true =>
        refine .inl ⟨(nI (cD F (i + 1)), nI (35 - i), nI (36 - (i + 1)) + (-1)), ⟨rfl, ?_, rfl⟩, ?_⟩
        · exact .inl ⟨35 - i, by omega, by omega, hx, fun d d1 d2 => absurd d1 (by omega), rfl⟩
        · rw [hx] at hb
          (try simp only)
          rw [T_X3_whence_L20, cD, hx]
          simp (disch := omega) only [l0, l1, l2, l3, l4, l5, l6, l7, l8, l9, l10, l11, l12, l30, l35, l36, l60, l99, l127, l150, l999, nI_eq, nI_leI, nI_ltI, nI_1, nI_add, pk_mul, obN, nI_clamp, lt', jn, Option.bind_some, inF, inC, inK, wi3, T_X3_isFirstOrSecond, T_X3_refuseBad, T_X3_refuseFull, T_X3_refuseNo, reduceIte, Nat.reduceEqDiff, Nat.reduceLeDiff, Nat.reduceMul, Nat.reduceAdd, Nat.reduceSub, and_true, true_and, hb, b2, np, e4', Bool.toNat_true])
    (fun s n ⟨s1, s2, s3⟩ => by
      obtain ⟨t1, t2, t3⟩ := s
      simp only at s1 s2 s3
      subst s1
      refine ⟨(if nI 0 = nI 0 then nI (cD F 36) else t2, x_bads x), ?_, t2, rfl, s2⟩
      have hlt : t3 < 0 := by rw [s3]; decide
      (try simp only)
      rw [T_X3_whence_L20, if_pos hlt]
      first
        | rfl
        | (rw [if_neg (by decide), if_neg (by decide)]))
    36 0 (nI 0, -1, 35) N rfl ⟨rfl, .inr ⟨fun d d1 d2 => absurd d1 (by omega), rfl⟩, by decide⟩ (by omega)
  rw [if_pos rfl] at x1
  refine opI1 (b := (nI (cD F 36), x_bads x)) ?_ ⟨rfl, hok, hc, hi, hj, ha, hb⟩
  refine Eq.trans ?_ x1
  rw [T_X3_whence, T_X3_isFirstOrSecond, if_neg (by rw [l0, l1, h1]; decide), c2]
  rfl

set_option maxHeartbeats 4000000 in
theorem q_whence1 (N : Nat) (hN : 1000 ≤ N) (x : FIV) {S : SeaN} {I : Option SeaN} {ab be : Int64} (h : CR S I ab be x) (v : Int32) (hv : leN (fun c => frN (S 5) (S 6) (S 10) c (S 2 0)) 0 36 v) : ∃ R : Int32 × Int32, T_X3_whence N (x_bads x) (xn_founds x) (xn_ways x) (xn_strengths x) (xn_foundRows x) (nI 1) = some R ∧ R.1 = v ∧ CR S I ab be ((xn_month x), (xn_ways x), (xn_strengths x), (xn_floes x), (xn_kinds x), (xn_cells x), (xn_foods x), (xn_founds x), (xn_foundRows x), (xn_notes x), (xn_noteRows x), (xn_undos x), (xn_undoRows x), (xs_month x), (xs_ways x), (xs_strengths x), (xs_floes x), (xs_kinds x), (xs_cells x), (xs_foods x), (xs_founds x), (xs_foundRows x), (xs_notes x), (xs_noteRows x), (xs_undos x), (xs_undoRows x), (xt_bytes x), (xt_length x), (xt_place x), (xt_fault x), (x_odds x), (x_nextOdds x), (x_gains x), (x_above x), (x_below x), R.2, (x_nos x), (x_fulls x), (x_img0 x), (x_img1 x)) := by
  obtain ⟨hok, hc, hi, hj, ha, hb⟩ := h
  have q_ := hok; obtain ⟨o0, o1, o2, o3, o4, o5, o6, o7, o8, o9, o10, o11, o12⟩ := q_
  have q_ := hc; obtain ⟨⟨c0, c1, c2, c3, c4⟩, c5, c6, c7, c8, c9, c10, c11, c12⟩ := q_
  have h1 := wi_in (j := 1) (b := 1) (by omega) (by omega)
  have fA := fun c (hc : c ≤ 35) => allFound_n (c := c) hN o2 c5 c6 o5 o6 hc c10 o10
  generalize hF : (fun c => frN (S 5) (S 6) (S 10) c (S 2 0)) = F at hv
  have eF : ∀ c, frN (S 5) (S 6) (S 10) c (S 2 0) = F c := fun c => by rw [← hF]
  simp only [eF] at fA
  obtain ⟨r, x1, v', rfl, hv'⟩ := lp (fun n (s : Int32 × Int32 × Int32) => T_X3_whence_L20 N (nI (S 2 0)) (xn_ways x) (xn_strengths x) (xn_foundRows x) (fun x34 x35 => if nI 1 = nI 0 then some (x34, x_bads x) else some (x35, x_bads x)) n s.1 s.2.1 s.2.2)
    (fun i s => s.1 = nI (cD F i) ∧ leN F (36 - i) 36 s.2.1 ∧ s.2.2 = nI (36 - i) + (-1)) (fun r => ∃ v, r = (if nI 1 = nI 0 then nI (cD F 36) else v, x_bads x) ∧ leN F 0 36 v) 36
    (fun i s n hi ⟨s1, s2, s3⟩ => by
      obtain ⟨t1, t2, t3⟩ := s
      simp only at s1 s2 s3
      have e3 : t3 = nI (35 - i) := by rw [s3, show 36 - i = 35 - i + 1 by omega, pk_m1]
      subst s1 e3
      have hb := fA (35 - i) (by omega)
      have e4 : nI (35 - i) + (-1) = nI (36 - (i + 1)) + (-1) := by rw [show 36 - (i + 1) = 35 - i by omega]
      have e4' : nI (35 - i) + -nI 1 = nI (36 - (i + 1)) + -nI 1 := e4
      have np : ¬ nI (35 - i) < nI 0 := nI_pos (by omega)
      have hcd := cD_le F i
      cases hx : F (35 - i) with
      | false =>
        refine .inl ⟨(nI (cD F (i + 1)), t2, nI (36 - (i + 1)) + (-1)), ⟨rfl, ?_, rfl⟩, ?_⟩
        · rcases s2 with ⟨c, a1, a2, a3, a4, rfl⟩ | ⟨a1, rfl⟩
          · refine .inl ⟨c, by omega, a2, a3, fun d d1 d2 => ?_, rfl⟩
            by_cases e : d = 35 - i
            · subst e; exact hx
            · exact a4 d (by omega) d2
          · refine .inr ⟨fun d d1 d2 => ?_, rfl⟩
            by_cases e : d = 35 - i
            · subst e; exact hx
            · exact a1 d (by omega) d2
        · rw [hx] at hb
          (try simp only)
          rw [T_X3_whence_L20, cD, hx]
          simp (disch := omega) only [l0, l1, l2, l3, l4, l5, l6, l7, l8, l9, l10, l11, l12, l30, l35, l36, l60, l99, l127, l150, l999, nI_eq, nI_leI, nI_ltI, nI_1, nI_add, pk_mul, obN, nI_clamp, lt', jn, Option.bind_some, inF, inC, inK, wi3, T_X3_isFirstOrSecond, T_X3_refuseBad, T_X3_refuseFull, T_X3_refuseNo, reduceIte, Nat.reduceEqDiff, Nat.reduceLeDiff, Nat.reduceMul, Nat.reduceAdd, Nat.reduceSub, and_true, true_and, hb, b2, np, e4', Bool.false_eq_true, Bool.toNat_false, Nat.add_zero]
      | true =>
        refine .inl ⟨(nI (cD F (i + 1)), nI (35 - i), nI (36 - (i + 1)) + (-1)), ⟨rfl, ?_, rfl⟩, ?_⟩
        · exact .inl ⟨35 - i, by omega, by omega, hx, fun d d1 d2 => absurd d1 (by omega), rfl⟩
        · rw [hx] at hb
          (try simp only)
          rw [T_X3_whence_L20, cD, hx]
          simp (disch := omega) only [l0, l1, l2, l3, l4, l5, l6, l7, l8, l9, l10, l11, l12, l30, l35, l36, l60, l99, l127, l150, l999, nI_eq, nI_leI, nI_ltI, nI_1, nI_add, pk_mul, obN, nI_clamp, lt', jn, Option.bind_some, inF, inC, inK, wi3, T_X3_isFirstOrSecond, T_X3_refuseBad, T_X3_refuseFull, T_X3_refuseNo, reduceIte, Nat.reduceEqDiff, Nat.reduceLeDiff, Nat.reduceMul, Nat.reduceAdd, Nat.reduceSub, and_true, true_and, hb, b2, np, e4', Bool.toNat_true])
    (fun s n ⟨s1, s2, s3⟩ => by
      obtain ⟨t1, t2, t3⟩ := s
      simp only at s1 s2 s3
      subst s1
      refine ⟨(if nI 1 = nI 0 then nI (cD F 36) else t2, x_bads x), ?_, t2, rfl, s2⟩
      have hlt : t3 < 0 := by rw [s3]; decide
      (try simp only)
      rw [T_X3_whence_L20, if_pos hlt]
      first
        | rfl
        | (rw [if_neg (by decide), if_neg (by decide)]))
    36 0 (nI 0, -1, 35) N rfl ⟨rfl, .inr ⟨fun d d1 d2 => absurd d1 (by omega), rfl⟩, by decide⟩ (by omega)
  rw [if_neg (by decide), leN_eq hv' hv] at x1
  refine opI1 (b := (v, x_bads x)) ?_ ⟨rfl, hok, hc, hi, hj, ha, hb⟩
  refine Eq.trans ?_ x1
  rw [T_X3_whence, T_X3_isFirstOrSecond, if_neg (by rw [l0, l1, h1]; decide), c2]
  rfl

set_option maxHeartbeats 4000000 in
theorem q_is (N : Nat) (hN : 1000 ≤ N) (x : FIV) {S : SeaN} {I : Option SeaN} {ab be : Int64} (h : CR S I ab be x) (f : Nat) (hf : f < S 1 0) : ∃ R : Int32 × Int32, T_X3_is N (x_bads x) (xn_floes x) (xn_notes x) (xn_noteRows x) (nI f) = some R ∧ R.1 = nI (enN (fun k => alN k f (S 11) (S 3 0)) 6) ∧ CR S I ab be ((xn_month x), (xn_ways x), (xn_strengths x), (xn_floes x), (xn_kinds x), (xn_cells x), (xn_foods x), (xn_founds x), (xn_foundRows x), (xn_notes x), (xn_noteRows x), (xn_undos x), (xn_undoRows x), (xs_month x), (xs_ways x), (xs_strengths x), (xs_floes x), (xs_kinds x), (xs_cells x), (xs_foods x), (xs_founds x), (xs_foundRows x), (xs_notes x), (xs_noteRows x), (xs_undos x), (xs_undoRows x), (xt_bytes x), (xt_length x), (xt_place x), (xt_fault x), (x_odds x), (x_nextOdds x), (x_gains x), (x_above x), (x_below x), R.2, (x_nos x), (x_fulls x), (x_img0 x), (x_img1 x)) := by
  obtain ⟨hok, hc, hi, hj, ha, hb⟩ := h
  have q_ := hok; obtain ⟨o0, o1, o2, o3, o4, o5, o6, o7, o8, o9, o10, o11, o12⟩ := q_
  have q_ := hc; obtain ⟨⟨c0, c1, c2, c3, c4⟩, c5, c6, c7, c8, c9, c10, c11, c12⟩ := q_
  have h1 := wif_in hf (by omega)
  have v1 := kinds_b (f := f) hN o3 (by omega) c11 o11
  exact opI1 (b := (nI (enN (fun k => alN k f (S 11) (S 3 0)) 6), x_bads x)) (by rw [T_X3_is]; simp (disch := omega) only [l0, l1, l2, l3, l4, l5, l6, l7, l8, l9, l10, l11, l12, l30, l35, l36, l60, l99, l127, l150, l999, nI_eq, nI_leI, nI_ltI, nI_1, nI_add, pk_mul, obN, nI_clamp, lt', jn, Option.bind_some, inF, inC, inK, wi3, T_X3_isFirstOrSecond, T_X3_refuseBad, T_X3_refuseFull, T_X3_refuseNo, reduceIte, Nat.reduceEqDiff, Nat.reduceLeDiff, Nat.reduceMul, Nat.reduceAdd, Nat.reduceSub, and_true, true_and, c1, c3, h1, v1]) ⟨rfl, hok, hc, hi, hj, ha, hb⟩

set_option maxHeartbeats 4000000 in
theorem q_waits (N : Nat) (hN : 1000 ≤ N) (x : FIV) {S : SeaN} {I : Option SeaN} {ab be : Int64} (h : CR S I ab be x) (f : Nat) (hf : f < S 1 0) (hv : ¬ enN (fun k => alN k f (S 11) (S 3 0)) 6 = 0) : ∃ t : Nat, t < 24 ∧ ∃ R : Int32 × Int32, T_X3_waits N (x_bads x) (xn_month x) (xn_floes x) (xn_notes x) (xn_ways x) (xn_strengths x) (xn_cells x) (xn_noteRows x) (nI f) = some R ∧ R.1 = nI t ∧ CR S I ab be ((xn_month x), (xn_ways x), (xn_strengths x), (xn_floes x), (xn_kinds x), (xn_cells x), (xn_foods x), (xn_founds x), (xn_foundRows x), (xn_notes x), (xn_noteRows x), (xn_undos x), (xn_undoRows x), (xs_month x), (xs_ways x), (xs_strengths x), (xs_floes x), (xs_kinds x), (xs_cells x), (xs_foods x), (xs_founds x), (xs_foundRows x), (xs_notes x), (xs_noteRows x), (xs_undos x), (xs_undoRows x), (xt_bytes x), (xt_length x), (xt_place x), (xt_fault x), (x_odds x), (x_nextOdds x), (x_gains x), (x_above x), (x_below x), R.2, (x_nos x), (x_fulls x), (x_img0 x), (x_img1 x)) := by
  obtain ⟨hok, hc, hi, hj, ha, hb⟩ := h
  have q_ := hok; obtain ⟨o0, o1, o2, o3, o4, o5, o6, o7, o8, o9, o10, o11, o12⟩ := q_
  have q_ := hc; obtain ⟨⟨c0, c1, c2, c3, c4⟩, c5, c6, c7, c8, c9, c10, c11, c12⟩ := q_
  have h1 := wif_in hf (by omega)
  have hf5 : f < 5 := by omega
  have v1 := kinds_b (f := f) hN o3 (by omega) c11 o11
  have hlt := enN_lt (fun k => alN k f (S 11) (S 3 0)) 6
  generalize hve : enN (fun k => alN k f (S 11) (S 3 0)) 6 = u0 at v1 hv hlt
  have l24 : (24 : Int32) = nI 24 := rfl
  have a8 := c8 f hf
  have l8 := o8 f hf
  have e1 := pk_div (a := S 8 f) (d := 6) (by omega) (by omega) (by omega)
  have e2 := pk_rem (a := S 8 f) (d := 6) (by omega) (by omega) (by omega)
  rw [e1, pk_mul] at e2
  have hA : ∀ t, ∃ u, u ≤ 6 ∧ (t < 24 → T_X1_mostAlike N (xn_ways x) (xn_strengths x) (nI u0) (nI (S 0 0 + t)) (nI (S 8 f % 6)) = some (nI u)) :=
    fun t => ⟨_, mxN_le (alkN_le (nI u0) (fun k => trN k (S 0 0 + t) (S 5 ((S 0 0 + t) % 12)) (S 6 ((S 0 0 + t) % 12)) (S 8 f % 6))) 6, fun ht => mostAlike_n hN c5 c6 o5 o6 (by omega) (by omega)⟩
  have key : ∀ (d t b l n : Nat), t + d = 24 → l ≤ 7 → b < 24 → d < n → ∃ r, r < 24 ∧ T_X3_waits_L37 N (nI f) (nI u0) (x_bads x) (nI (S 0 0)) (xn_ways x) (xn_strengths x) (xn_cells x) n (nI b) (nI l) (nI t) = some (nI r, x_bads x) := by
    intro d
    induction d with
    | zero =>
      intro t b l n ht hl hb hn
      obtain ⟨n, rfl⟩ := Nat.exists_eq_succ_of_ne_zero (show n ≠ 0 by omega)
      obtain rfl : t = 24 := by omega
      refine ⟨b, hb, ?_⟩
      rw [T_X3_waits_L37]; simp only [l24]; simp (disch := omega) only [l0, l1, l2, l3, l4, l5, l6, l7, l8, l9, l10, l11, l12, l30, l35, l36, l60, l99, l127, l150, l999, nI_eq, nI_leI, nI_ltI, nI_1, nI_add, pk_mul, obN, nI_clamp, lt', jn, Option.bind_some, inF, inC, inK, wi3, T_X3_isFirstOrSecond, T_X3_refuseBad, T_X3_refuseFull, T_X3_refuseNo, reduceIte, Nat.reduceEqDiff, Nat.reduceLeDiff, Nat.reduceMul, Nat.reduceAdd, Nat.reduceSub, and_true, true_and, Nat.le_refl]
    | succ d ih =>
      intro t b l n ht hl hb hn
      obtain ⟨n, rfl⟩ := Nat.exists_eq_succ_of_ne_zero (show n ≠ 0 by omega)
      have hn5 : ¬ 24 ≤ t := by omega
      obtain ⟨u, hu, hx⟩ := hA t
      have x1 := hx (by omega)
      by_cases h2 : l ≤ u
      · obtain ⟨r, r0, r1⟩ := ih (t + 1) b l n (by omega) hl hb (by omega)
        refine ⟨r, r0, ?_⟩
        rw [T_X3_waits_L37]; simp only [l24]; simp (disch := omega) only [l0, l1, l2, l3, l4, l5, l6, l7, l8, l9, l10, l11, l12, l30, l35, l36, l60, l99, l127, l150, l999, nI_eq, nI_leI, nI_ltI, nI_1, nI_add, pk_mul, obN, nI_clamp, lt', jn, Option.bind_some, inF, inC, inK, wi3, T_X3_isFirstOrSecond, T_X3_refuseBad, T_X3_refuseFull, T_X3_refuseNo, reduceIte, Nat.reduceEqDiff, Nat.reduceLeDiff, Nat.reduceMul, Nat.reduceAdd, Nat.reduceSub, and_true, true_and, hn5, a8, e1, e2, x1, h2]; exact r1
      · obtain ⟨r, r0, r1⟩ := ih (t + 1) t u n (by omega) (by omega) (by omega) (by omega)
        refine ⟨r, r0, ?_⟩
        rw [T_X3_waits_L37]; simp only [l24]; simp (disch := omega) only [l0, l1, l2, l3, l4, l5, l6, l7, l8, l9, l10, l11, l12, l30, l35, l36, l60, l99, l127, l150, l999, nI_eq, nI_leI, nI_ltI, nI_1, nI_add, pk_mul, obN, nI_clamp, lt', jn, Option.bind_some, inF, inC, inK, wi3, T_X3_isFirstOrSecond, T_X3_refuseBad, T_X3_refuseFull, T_X3_refuseNo, reduceIte, Nat.reduceEqDiff, Nat.reduceLeDiff, Nat.reduceMul, Nat.reduceAdd, Nat.reduceSub, and_true, true_and, hn5, a8, e1, e2, x1, h2]; exact r1
  obtain ⟨r, r0, r1⟩ := key 24 0 0 7 N rfl (by omega) (by omega) (by omega)
  refine ⟨r, r0, opI1 (b := (nI r, x_bads x)) ?_ ⟨rfl, hok, hc, hi, hj, ha, hb⟩⟩
  rw [T_X3_waits]; simp (disch := omega) only [l0, l1, l2, l3, l4, l5, l6, l7, l8, l9, l10, l11, l12, l30, l35, l36, l60, l99, l127, l150, l999, nI_eq, nI_leI, nI_ltI, nI_1, nI_add, pk_mul, obN, nI_clamp, lt', jn, Option.bind_some, inF, inC, inK, wi3, T_X3_isFirstOrSecond, T_X3_refuseBad, T_X3_refuseFull, T_X3_refuseNo, reduceIte, Nat.reduceEqDiff, Nat.reduceLeDiff, Nat.reduceMul, Nat.reduceAdd, Nat.reduceSub, and_true, true_and, c0, c1, c3, h1, v1, hv]
  exact r1

/-- which pairs rest -/
def lvR (S : SeaN) (f g : Nat) : Nat → Bool := fun q => rsN (gtI (runN (S 5) (S 6) (S 7 f) (S 8 f) (S 0 0)) (runN (S 5) (S 6) (S 7 g) (S 8 g) (S 0 0)) (S 9 g)) (gtI (runN (S 5) (S 6) (S 7 g) (S 8 g) (S 0 0)) (runN (S 5) (S 6) (S 7 f) (S 8 f) (S 0 0)) (S 9 f)) (q / 6) (q % 6) 6

set_option maxHeartbeats 4000000 in
theorem q_leave_n (N : Nat) (hN : 1000 ≤ N) (x : FIV) {S : SeaN} {I : Option SeaN} {ab be : Int64} (h : CR S I ab be x) (f g : Nat) (hf : f < S 1 0) (hg : g < S 1 0) (hfg : ¬ f = g) : ∃ R : Int32 × Int32 × (Nat → Int32), T_X3_leave N (x_bads x) (xn_month x) (xn_floes x) (xn_ways x) (xn_strengths x) (xn_kinds x) (xn_cells x) (xn_foods x) (x_gains x) (nI f) (nI g) (-1) = some R ∧ R.1 = nI (cntP (lvR S f g) 36) ∧ CR S I ab be ((xn_month x), (xn_ways x), (xn_strengths x), (xn_floes x), (xn_kinds x), (xn_cells x), (xn_foods x), (xn_founds x), (xn_foundRows x), (xn_notes x), (xn_noteRows x), (xn_undos x), (xn_undoRows x), (xs_month x), (xs_ways x), (xs_strengths x), (xs_floes x), (xs_kinds x), (xs_cells x), (xs_foods x), (xs_founds x), (xs_foundRows x), (xs_notes x), (xs_noteRows x), (xs_undos x), (xs_undoRows x), (xt_bytes x), (xt_length x), (xt_place x), (xt_fault x), (x_odds x), (x_nextOdds x), R.2.2, (x_above x), (x_below x), R.2.1, (x_nos x), (x_fulls x), (x_img0 x), (x_img1 x)) := by
  obtain ⟨hok, hc, hi, hj, ha, hb⟩ := h
  have q_ := hok; obtain ⟨o0, o1, o2, o3, o4, o5, o6, o7, o8, o9, o10, o11, o12⟩ := q_
  have q_ := hc; obtain ⟨⟨c0, c1, c2, c3, c4⟩, c5, c6, c7, c8, c9, c10, c11, c12⟩ := q_
  have un : ∀ a b, T_X3_areUnlikeFloes a (nI f) b = if T_X3_within (nI f) (nI 0) (a - nI 1) = nI 0 then nI 0 else if T_X3_within b (nI 0) (a - nI 1) = nI 0 then nI 0 else if (nI f) = b then nI 0 else nI 1 := fun a b => rfl
  have h1 := wif_in hf (by omega)
  have h2 := wif_in hg (by omega)
  have h3 : -nI 1 ≤ -nI 1 := by decide
  obtain ⟨G, x1, x2⟩ := weigh_n (gains := x_gains x) hN hok hf hg c0 c5 c6 c7 c8 c9
  have r3 : ∀ i, i < 6 → ∀ j, j < 6 → T_X3_rests N G (nI i) (nI j) = some (b2 (rsN (gtI (runN (S 5) (S 6) (S 7 f) (S 8 f) (S 0 0)) (runN (S 5) (S 6) (S 7 g) (S 8 g) (S 0 0)) (S 9 g)) (gtI (runN (S 5) (S 6) (S 7 g) (S 8 g) (S 0 0)) (runN (S 5) (S 6) (S 7 f) (S 8 f) (S 0 0)) (S 9 f)) i j 6)) :=
    fun i hi j hj => rests3_n hN hi hj (fun t ht u hu => by rw [(x2 t ht).1]; rfl) (fun t ht u hu => by rw [(x2 t ht).2, farN_c]; rfl)
  have l3 := leave3_n (N := N) (p3 := -nI 1) (bads := x_bads x) (G := G) (r := lvR S f g) (fun q hq => r3 (q / 6) (by omega) (q % 6) (by omega)) 36 0 N rfl (by omega) rfl
  rw [if_pos rfl] at l3
  refine opI1 (b := (nI (cntP (lvR S f g) 36), x_bads x, G)) ?_ ⟨rfl, hok, hc, hi, hj, ha, hb⟩
  rw [T_X3_leave]; simp (disch := omega) only [l0, l1, l2, l3, l4, l5, l6, l7, l8, l9, l10, l11, l12, l30, l35, l36, l60, l99, l127, l150, l999, nI_eq, nI_leI, nI_ltI, nI_1, nI_add, pk_mul, obN, nI_clamp, lt', jn, Option.bind_some, inF, inC, inK, wi3, T_X3_isFirstOrSecond, T_X3_refuseBad, T_X3_refuseFull, T_X3_refuseNo, reduceIte, Nat.reduceEqDiff, Nat.reduceLeDiff, Nat.reduceMul, Nat.reduceAdd, Nat.reduceSub, and_true, true_and, lm1, c1, un, h1, h2, h3, hfg, x1]; exact l3

set_option maxHeartbeats 4000000 in
theorem q_leave_k (N : Nat) (hN : 1000 ≤ N) (x : FIV) {S : SeaN} {I : Option SeaN} {ab be : Int64} (h : CR S I ab be x) (f g k : Nat) (hf : f < S 1 0) (hg : g < S 1 0) (hfg : ¬ f = g) (hk : k ≤ 36) : ∃ R : Int32 × Int32 × (Nat → Int32), T_X3_leave N (x_bads x) (xn_month x) (xn_floes x) (xn_ways x) (xn_strengths x) (xn_kinds x) (xn_cells x) (xn_foods x) (x_gains x) (nI f) (nI g) (nI k) = some R ∧ R.1 = tlP (lvR S f g) (nI k) 36 ∧ CR S I ab be ((xn_month x), (xn_ways x), (xn_strengths x), (xn_floes x), (xn_kinds x), (xn_cells x), (xn_foods x), (xn_founds x), (xn_foundRows x), (xn_notes x), (xn_noteRows x), (xn_undos x), (xn_undoRows x), (xs_month x), (xs_ways x), (xs_strengths x), (xs_floes x), (xs_kinds x), (xs_cells x), (xs_foods x), (xs_founds x), (xs_foundRows x), (xs_notes x), (xs_noteRows x), (xs_undos x), (xs_undoRows x), (xt_bytes x), (xt_length x), (xt_place x), (xt_fault x), (x_odds x), (x_nextOdds x), R.2.2, (x_above x), (x_below x), R.2.1, (x_nos x), (x_fulls x), (x_img0 x), (x_img1 x)) := by
  obtain ⟨hok, hc, hi, hj, ha, hb⟩ := h
  have q_ := hok; obtain ⟨o0, o1, o2, o3, o4, o5, o6, o7, o8, o9, o10, o11, o12⟩ := q_
  have q_ := hc; obtain ⟨⟨c0, c1, c2, c3, c4⟩, c5, c6, c7, c8, c9, c10, c11, c12⟩ := q_
  have un : ∀ a b, T_X3_areUnlikeFloes a (nI f) b = if T_X3_within (nI f) (nI 0) (a - nI 1) = nI 0 then nI 0 else if T_X3_within b (nI 0) (a - nI 1) = nI 0 then nI 0 else if (nI f) = b then nI 0 else nI 1 := fun a b => rfl
  have h1 := wif_in hf (by omega)
  have h2 := wif_in hg (by omega)
  have n3 : ¬ nI k = -nI 1 := ne1 (by omega)
  have h3 : -nI 1 ≤ nI k := Int32.le_of_lt (Int32.lt_of_lt_of_le (by decide : -nI 1 < nI 0) (Int32.not_lt.mp (nI_pos (by omega))))
  obtain ⟨G, x1, x2⟩ := weigh_n (gains := x_gains x) hN hok hf hg c0 c5 c6 c7 c8 c9
  have r3 : ∀ i, i < 6 → ∀ j, j < 6 → T_X3_rests N G (nI i) (nI j) = some (b2 (rsN (gtI (runN (S 5) (S 6) (S 7 f) (S 8 f) (S 0 0)) (runN (S 5) (S 6) (S 7 g) (S 8 g) (S 0 0)) (S 9 g)) (gtI (runN (S 5) (S 6) (S 7 g) (S 8 g) (S 0 0)) (runN (S 5) (S 6) (S 7 f) (S 8 f) (S 0 0)) (S 9 f)) i j 6)) :=
    fun i hi j hj => rests3_n hN hi hj (fun t ht u hu => by rw [(x2 t ht).1]; rfl) (fun t ht u hu => by rw [(x2 t ht).2, farN_c]; rfl)
  have l3 := leave3_n (N := N) (p3 := nI k) (bads := x_bads x) (G := G) (r := lvR S f g) (fun q hq => r3 (q / 6) (by omega) (q % 6) (by omega)) 36 0 N rfl (by omega) rfl
  simp only [n3, reduceIte] at l3
  refine opI1 (b := (tlP (lvR S f g) (nI k) 36, x_bads x, G)) ?_ ⟨rfl, hok, hc, hi, hj, ha, hb⟩
  rw [T_X3_leave]; simp (disch := omega) only [l0, l1, l2, l3, l4, l5, l6, l7, l8, l9, l10, l11, l12, l30, l35, l36, l60, l99, l127, l150, l999, nI_eq, nI_leI, nI_ltI, nI_1, nI_add, pk_mul, obN, nI_clamp, lt', jn, Option.bind_some, inF, inC, inK, wi3, T_X3_isFirstOrSecond, T_X3_refuseBad, T_X3_refuseFull, T_X3_refuseNo, reduceIte, Nat.reduceEqDiff, Nat.reduceLeDiff, Nat.reduceMul, Nat.reduceAdd, Nat.reduceSub, and_true, true_and, lm1, c1, un, h1, h2, h3, n3, hfg, x1]; exact l3

set_option maxHeartbeats 4000000 in
theorem q_leave_bad (N : Nat) (hN : 1000 ≤ N) (x : FIV) {S : SeaN} {I : Option SeaN} {ab be : Int64} (h : CR S I ab be x) (f : Nat) (hf : f < S 1 0) : ∃ R : Int32 × Int32 × (Nat → Int32), T_X3_leave N (x_bads x) (xn_month x) (xn_floes x) (xn_ways x) (xn_strengths x) (xn_kinds x) (xn_cells x) (xn_foods x) (x_gains x) (nI f) (nI f) (-1) = some R ∧ R.1 = -10 ∧ CR S I ab be ((xn_month x), (xn_ways x), (xn_strengths x), (xn_floes x), (xn_kinds x), (xn_cells x), (xn_foods x), (xn_founds x), (xn_foundRows x), (xn_notes x), (xn_noteRows x), (xn_undos x), (xn_undoRows x), (xs_month x), (xs_ways x), (xs_strengths x), (xs_floes x), (xs_kinds x), (xs_cells x), (xs_foods x), (xs_founds x), (xs_foundRows x), (xs_notes x), (xs_noteRows x), (xs_undos x), (xs_undoRows x), (xt_bytes x), (xt_length x), (xt_place x), (xt_fault x), (x_odds x), (x_nextOdds x), R.2.2, (x_above x), (x_below x), R.2.1, (x_nos x), (x_fulls x), (x_img0 x), (x_img1 x)) := by
  obtain ⟨hok, hc, hi, hj, ha, hb⟩ := h
  have q_ := hok; obtain ⟨o0, o1, o2, o3, o4, o5, o6, o7, o8, o9, o10, o11, o12⟩ := q_
  have q_ := hc; obtain ⟨⟨c0, c1, c2, c3, c4⟩, c5, c6, c7, c8, c9, c10, c11, c12⟩ := q_
  have un : ∀ a b, T_X3_areUnlikeFloes a (nI f) b = if T_X3_within (nI f) (nI 0) (a - nI 1) = nI 0 then nI 0 else if T_X3_within b (nI 0) (a - nI 1) = nI 0 then nI 0 else if (nI f) = b then nI 0 else nI 1 := fun a b => rfl
  have h1 := wif_in hf (by omega)
  refine opI1 (by rw [T_X3_leave]; simp (disch := omega) only [l0, l1, l2, l3, l4, l5, l6, l7, l8, l9, l10, l11, l12, l30, l35, l36, l60, l99, l127, l150, l999, nI_eq, nI_leI, nI_ltI, nI_1, nI_add, pk_mul, obN, nI_clamp, lt', jn, Option.bind_some, inF, inC, inK, wi3, T_X3_isFirstOrSecond, T_X3_refuseBad, T_X3_refuseFull, T_X3_refuseNo, reduceIte, Nat.reduceEqDiff, Nat.reduceLeDiff, Nat.reduceMul, Nat.reduceAdd, Nat.reduceSub, and_true, true_and, c1, un, h1]; rfl) ?_
  exact ⟨rfl, hok, hc, hi, hj, ha, hb⟩

/-- no calms: the weight lies where it drifts -/
theorem wN_0 {W G : Nat → Nat} {k : Nat} : ∀ d mo x, wN W G k 0 d mo x = if runN W G k x mo d % 6 = 5 then 10 ^ d else 0
  | 0, mo, x => rfl
  | d + 1, mo, x => by
    have ih := wN_0 (W := W) (G := G) (k := k) d (mo + 1) (itN W G k x mo)
    have hs : ∀ j, runN W G k (itN W G k x mo) (mo + 1) j = runN W G k x mo (j + 1) := by
      intro j
      induction j with
      | zero => rfl
      | succ j ihj => rw [runN, ihj, show mo + 1 + j = mo + (j + 1) by omega]; rfl
    rw [hs] at ih
    rw [wN, ih, Nat.zero_mul, Nat.zero_add, Nat.pow_succ]
    split <;> omega
/-- calms alone: the weight stays -/
theorem wN_10 {W G : Nat → Nat} {k : Nat} : ∀ d mo x, wN W G k 10 d mo x = if x % 6 = 5 then 10 ^ d else 0
  | 0, mo, x => rfl
  | d + 1, mo, x => by
    rw [wN, wN_10 d (mo + 1) x, Nat.sub_self, Nat.zero_mul, Nat.add_zero, Nat.pow_succ]
    split <;> omega
theorem frac_a {N q : Nat} (a b : Int64) (hN : 1000 ≤ N) (hq : q < 2 ^ 30) (q0 : 0 < q) (P : Prop) [Decidable P] : T_X3_setFraction N a b (lN (if P then q else 0)) (lN q) = some (if P then 1 else 0, 1) := by
  have g0 : ¬ lN q = 0 := by rw [k0, lN_eq (by omega) (by omega)]; omega
  have gc0 : ¬ lg_cmp (lN q) 0 ≤ 0 := by rw [lg_cmp_le, k0, lN_le (by omega) (by omega)]; omega
  have e3 := gcd3_n (N := N) (fun x20 => some x20) 30 (if P then q else 0) q N 0 (by split <;> omega) hq (by omega) (by omega) (by omega)
  have hg : Nat.gcd (if P then q else 0) q = q := by
    split
    · exact Nat.gcd_self q
    · exact Nat.gcd_zero_left q
  rw [hg] at e3
  rw [T_X3_setFraction, T_X3_commonDivisor]
  rw [show (0 : Int32) = nI 0 from rfl] at *
  rw [e3, Option.bind_some, if_neg gc0, nz_ne g0, nz_ne g0, lN_div (by split <;> omega) (by omega), lN_div (by omega) (by omega), Nat.div_self q0]
  by_cases hP : P
  · rw [if_pos hP, if_pos hP, Nat.div_self q0]; rfl
  · rw [if_neg hP, if_neg hP, Nat.zero_div]; rfl

set_option maxHeartbeats 4000000 in
theorem q_calms0 (N : Nat) (hN : 1000 ≤ N) (x : FIV) {S : SeaN} {I : Option SeaN} {ab be : Int64} (h : CR S I ab be x) (f e : Nat) (hf : f < S 1 0) (he : e ≤ 8) : ∃ R : Int32 × Int64 × Int64 × Int32 × (Nat → Int64) × (Nat → Int64), T_X3_calms N (x_above x) (x_below x) (x_bads x) (xn_month x) (xn_floes x) (xn_ways x) (xn_strengths x) (xn_kinds x) (xn_cells x) (x_odds x) (x_nextOdds x) (nI f) (nI e) (nI 0) = some R ∧ R.1 = 1 ∧ CR S I (if runN (S 5) (S 6) (S 7 f) (S 8 f) (S 0 0) e % 6 = 5 then 1 else 0) 1 ((xn_month x), (xn_ways x), (xn_strengths x), (xn_floes x), (xn_kinds x), (xn_cells x), (xn_foods x), (xn_founds x), (xn_foundRows x), (xn_notes x), (xn_noteRows x), (xn_undos x), (xn_undoRows x), (xs_month x), (xs_ways x), (xs_strengths x), (xs_floes x), (xs_kinds x), (xs_cells x), (xs_foods x), (xs_founds x), (xs_foundRows x), (xs_notes x), (xs_noteRows x), (xs_undos x), (xs_undoRows x), (xt_bytes x), (xt_length x), (xt_place x), (xt_fault x), R.2.2.2.2.1, R.2.2.2.2.2, (x_gains x), R.2.1, R.2.2.1, R.2.2.2.1, (x_nos x), (x_fulls x), (x_img0 x), (x_img1 x)) := by
  obtain ⟨hok, hc, hi, hj, ha, hb⟩ := h
  have q_ := hok; obtain ⟨o0, o1, o2, o3, o4, o5, o6, o7, o8, o9, o10, o11, o12⟩ := q_
  have q_ := hc; obtain ⟨⟨c0, c1, c2, c3, c4⟩, c5, c6, c7, c8, c9, c10, c11, c12⟩ := q_
  have h1 := wif_in hf (by omega)
  have h2 := wi_in (j := e) (b := 8) he (by omega)
  have h3 := wi_in (j := 0) (b := 10) (by omega) (by omega)
  have hf5 : f < 5 := by omega
  have a7 := c7 f hf
  have a8 := c8 f hf
  have j7 := o7 f hf
  have j8 := o8 f hf
  have hit : ∀ x m, x ≤ 35 → itN (S 5) (S 6) (S 7 f) x m ≤ 35 := fun x m hx => itN_le o5 o6 j7 hx
  obtain ⟨g, g1, g2⟩ := fillL_n hN (x_odds x)
  have z0 : ∀ q, q < 36 → vp_updL g (S 8 f) 1 q = lN (odN (S 5) (S 6) (S 7 f) 0 (S 0 0) (S 8 f) 0 q) := by
    intro q hq
    by_cases e : q = S 8 f
    · subst e; rw [odN, upn_s, pk_uLs]; rfl
    · rw [odN, upn_n e, pk_uLn e]; exact g2 q hq
  have tot : sumN (fun i => odN (S 5) (S 6) (S 7 f) 0 (S 0 0) (S 8 f) e (6 * i + 5)) 6 = if runN (S 5) (S 6) (S 7 f) (S 8 f) (S 0 0) e % 6 = 5 then 10 ^ e else 0 := by
    rw [← wN_0 e (S 0 0) (S 8 f), ← od_out]
    have := od_sum (c := 0) (mo := S 0 0) hit j8 e 0
    rw [Nat.add_zero] at this
    rw [← this]
    rfl
  have p8 : 10 ^ e ≤ 10 ^ 8 := Nat.pow_le_pow_right (n := 10) (by omega) he
  have p0 : 0 < 10 ^ e := Nat.pow_pos (by omega)
  have f1 := frac_a (N := N) (x_above x) (x_below x) hN (show 10 ^ e < 2 ^ 30 by omega) p0 (runN (S 5) (S 6) (S 7 f) (S 8 f) (S 0 0) e % 6 = 5)
  obtain ⟨za, zb, s1, s2⟩ := calms62_n (c0 := S 8 f) (fun (x58 : Int64) (z59 : Nat → Int64) (z60 : Nat → Int64) => (T_X3_calms_L112 N z59 (fun (x82 : Int64) => (Option.bind (T_X3_setFraction N (x_above x) (x_below x) x82 x58) fun u86 => (some (1, u86.1, u86.2, x_bads x, z59, z60)))) N 0 5)) hN hf5 he a7 c5 c6 o5 o6 j7 (show S 0 0 < 2 ^ 20 by omega) (show 0 ≤ 10 by omega) e 0 N (vp_updL g (S 8 f) 1) (x_nextOdds x) (by omega) (by omega) z0
  have s3 := calms112_n (N := N) (fun (x82 : Int64) => (Option.bind (T_X3_setFraction N (x_above x) (x_below x) x82 (lN (10 ^ e))) fun u86 => (some (1, u86.1, u86.2, x_bads x, za, zb)))) s2 6 0 N rfl (by omega)
  refine opI1 (b := (1, (if runN (S 5) (S 6) (S 7 f) (S 8 f) (S 0 0) e % 6 = 5 then 1 else 0), 1, x_bads x, za, zb)) ?_ ⟨rfl, hok, hc, hi, hj, rfl, rfl⟩
  rw [T_X3_calms]; simp (disch := omega) only [l0, l1, l2, l3, l4, l5, l6, l7, l8, l9, l10, l11, l12, l30, l35, l36, l60, l99, l127, l150, l999, nI_eq, nI_leI, nI_ltI, nI_1, nI_add, pk_mul, obN, nI_clamp, lt', jn, Option.bind_some, inF, inC, inK, wi3, T_X3_isFirstOrSecond, T_X3_refuseBad, T_X3_refuseFull, T_X3_refuseNo, reduceIte, Nat.reduceEqDiff, Nat.reduceLeDiff, Nat.reduceMul, Nat.reduceAdd, Nat.reduceSub, and_true, true_and, c0, c1, h1, h2, h3, g1, a8]
  refine Eq.trans s1 ?_
  refine Eq.trans s3 ?_
  (try simp only)
  rw [tot, f1]; rfl

set_option maxHeartbeats 4000000 in
theorem q_calms10 (N : Nat) (hN : 1000 ≤ N) (x : FIV) {S : SeaN} {I : Option SeaN} {ab be : Int64} (h : CR S I ab be x) (f e : Nat) (hf : f < S 1 0) (he : e ≤ 8) : ∃ R : Int32 × Int64 × Int64 × Int32 × (Nat → Int64) × (Nat → Int64), T_X3_calms N (x_above x) (x_below x) (x_bads x) (xn_month x) (xn_floes x) (xn_ways x) (xn_strengths x) (xn_kinds x) (xn_cells x) (x_odds x) (x_nextOdds x) (nI f) (nI e) (nI 10) = some R ∧ R.1 = 1 ∧ CR S I (if S 8 f % 6 = 5 then 1 else 0) 1 ((xn_month x), (xn_ways x), (xn_strengths x), (xn_floes x), (xn_kinds x), (xn_cells x), (xn_foods x), (xn_founds x), (xn_foundRows x), (xn_notes x), (xn_noteRows x), (xn_undos x), (xn_undoRows x), (xs_month x), (xs_ways x), (xs_strengths x), (xs_floes x), (xs_kinds x), (xs_cells x), (xs_foods x), (xs_founds x), (xs_foundRows x), (xs_notes x), (xs_noteRows x), (xs_undos x), (xs_undoRows x), (xt_bytes x), (xt_length x), (xt_place x), (xt_fault x), R.2.2.2.2.1, R.2.2.2.2.2, (x_gains x), R.2.1, R.2.2.1, R.2.2.2.1, (x_nos x), (x_fulls x), (x_img0 x), (x_img1 x)) := by
  obtain ⟨hok, hc, hi, hj, ha, hb⟩ := h
  have q_ := hok; obtain ⟨o0, o1, o2, o3, o4, o5, o6, o7, o8, o9, o10, o11, o12⟩ := q_
  have q_ := hc; obtain ⟨⟨c0, c1, c2, c3, c4⟩, c5, c6, c7, c8, c9, c10, c11, c12⟩ := q_
  have h1 := wif_in hf (by omega)
  have h2 := wi_in (j := e) (b := 8) he (by omega)
  have h3 := wi_in (j := 10) (b := 10) (by omega) (by omega)
  have hf5 : f < 5 := by omega
  have a7 := c7 f hf
  have a8 := c8 f hf
  have j7 := o7 f hf
  have j8 := o8 f hf
  have hit : ∀ x m, x ≤ 35 → itN (S 5) (S 6) (S 7 f) x m ≤ 35 := fun x m hx => itN_le o5 o6 j7 hx
  obtain ⟨g, g1, g2⟩ := fillL_n hN (x_odds x)
  have z0 : ∀ q, q < 36 → vp_updL g (S 8 f) 1 q = lN (odN (S 5) (S 6) (S 7 f) 10 (S 0 0) (S 8 f) 0 q) := by
    intro q hq
    by_cases e : q = S 8 f
    · subst e; rw [odN, upn_s, pk_uLs]; rfl
    · rw [odN, upn_n e, pk_uLn e]; exact g2 q hq
  have tot : sumN (fun i => odN (S 5) (S 6) (S 7 f) 10 (S 0 0) (S 8 f) e (6 * i + 5)) 6 = if S 8 f % 6 = 5 then 10 ^ e else 0 := by
    rw [← wN_10 e (S 0 0) (S 8 f), ← od_out]
    have := od_sum (c := 10) (mo := S 0 0) hit j8 e 0
    rw [Nat.add_zero] at this
    rw [← this]
    rfl
  have p8 : 10 ^ e ≤ 10 ^ 8 := Nat.pow_le_pow_right (n := 10) (by omega) he
  have p0 : 0 < 10 ^ e := Nat.pow_pos (by omega)
  have f1 := frac_a (N := N) (x_above x) (x_below x) hN (show 10 ^ e < 2 ^ 30 by omega) p0 (S 8 f % 6 = 5)
  obtain ⟨za, zb, s1, s2⟩ := calms62_n (c0 := S 8 f) (fun (x58 : Int64) (z59 : Nat → Int64) (z60 : Nat → Int64) => (T_X3_calms_L112 N z59 (fun (x82 : Int64) => (Option.bind (T_X3_setFraction N (x_above x) (x_below x) x82 x58) fun u86 => (some (1, u86.1, u86.2, x_bads x, z59, z60)))) N 0 5)) hN hf5 he a7 c5 c6 o5 o6 j7 (show S 0 0 < 2 ^ 20 by omega) (show 10 ≤ 10 by omega) e 0 N (vp_updL g (S 8 f) 1) (x_nextOdds x) (by omega) (by omega) z0
  have s3 := calms112_n (N := N) (fun (x82 : Int64) => (Option.bind (T_X3_setFraction N (x_above x) (x_below x) x82 (lN (10 ^ e))) fun u86 => (some (1, u86.1, u86.2, x_bads x, za, zb)))) s2 6 0 N rfl (by omega)
  refine opI1 (b := (1, (if S 8 f % 6 = 5 then 1 else 0), 1, x_bads x, za, zb)) ?_ ⟨rfl, hok, hc, hi, hj, rfl, rfl⟩
  rw [T_X3_calms]; simp (disch := omega) only [l0, l1, l2, l3, l4, l5, l6, l7, l8, l9, l10, l11, l12, l30, l35, l36, l60, l99, l127, l150, l999, nI_eq, nI_leI, nI_ltI, nI_1, nI_add, pk_mul, obN, nI_clamp, lt', jn, Option.bind_some, inF, inC, inK, wi3, T_X3_isFirstOrSecond, T_X3_refuseBad, T_X3_refuseFull, T_X3_refuseNo, reduceIte, Nat.reduceEqDiff, Nat.reduceLeDiff, Nat.reduceMul, Nat.reduceAdd, Nat.reduceSub, and_true, true_and, c0, c1, h1, h2, h3, g1, a8]
  refine Eq.trans s1 ?_
  refine Eq.trans s3 ?_
  (try simp only)
  rw [tot, f1]; rfl

set_option maxHeartbeats 4000000 in
theorem q_years0 (N : Nat) (hN : 1000 ≤ N) (x : FIV) {S : SeaN} {I : Option SeaN} {ab be : Int64} (h : CR S I ab be x) (v : Nat) (hv : v ≤ 999999) : ∃ R : Int32 × Int32, T_X3_years N (x_bads x) (xn_month x) (xn_floes x) (xn_kinds x) (xn_cells x) (nI v) (nI 0) = some R ∧ R.1 = nI (outN (S 8) (S 1 0)) ∧ CR S I ab be ((xn_month x), (xn_ways x), (xn_strengths x), (xn_floes x), (xn_kinds x), (xn_cells x), (xn_foods x), (xn_founds x), (xn_foundRows x), (xn_notes x), (xn_noteRows x), (xn_undos x), (xn_undoRows x), (xs_month x), (xs_ways x), (xs_strengths x), (xs_floes x), (xs_kinds x), (xs_cells x), (xs_foods x), (xs_founds x), (xs_foundRows x), (xs_notes x), (xs_noteRows x), (xs_undos x), (xs_undoRows x), (xt_bytes x), (xt_length x), (xt_place x), (xt_fault x), (x_odds x), (x_nextOdds x), (x_gains x), (x_above x), (x_below x), R.2, (x_nos x), (x_fulls x), (x_img0 x), (x_img1 x)) := by
  obtain ⟨hok, hc, hi, hj, ha, hb⟩ := h
  have q_ := hok; obtain ⟨o0, o1, o2, o3, o4, o5, o6, o7, o8, o9, o10, o11, o12⟩ := q_
  have q_ := hc; obtain ⟨⟨c0, c1, c2, c3, c4⟩, c5, c6, c7, c8, c9, c10, c11, c12⟩ := q_
  have lm : (999999 : Int32) = nI 999999 := rfl
  have h1 := wi_in (j := v) (b := 999999) hv (by omega)
  have h2 := wi_in (j := 0) (b := 60) (by omega) (by omega)
  have one : ∀ f, f < S 1 0 → T_X1_cellBySeed N (nI (S 0 0)) (xn_kinds x) (xn_cells x) (nI f) (nI v) (nI 0) = some (nI (S 8 f)) := by
    intro f hf
    have hf5 : f < 5 := by omega
    have a8 := c8 f hf
    obtain ⟨n, rfl⟩ := Nat.exists_eq_succ_of_ne_zero (show N ≠ 0 by omega)
    rw [T_X1_cellBySeed, obN hf5 (by omega), nI_clamp (by omega), a8]
    simp only [lt']
    rw [T_X1_cellBySeed_L15, if_pos (by decide)]
  obtain ⟨r, x1, rfl⟩ := lp (fun j (s : Int32 × Int32) => T_X3_years_L30 N (nI v) (nI 0) (x_bads x) (nI (S 0 0)) (nI (S 1 0)) (xn_kinds x) (xn_cells x) j s.1 s.2) (fun i s => s = (nI (outN (S 8) i), nI i)) (fun r => r = (nI (outN (S 8) (S 1 0)), x_bads x)) (S 1 0)
    (fun i s j hi hs => by
      subst hs
      have hn5 : ¬ S 1 0 ≤ i := by omega
      have e1 := one i hi
      have e2 := isOut_n (c := S 8 i) (by have := o8 i hi; omega)
      have e3 := outN_le (S 8) i
      refine .inl ⟨_, rfl, ?_⟩
      (try simp only)
      rw [T_X3_years_L30, outN]
      by_cases h : S 8 i % 6 = 5
      · simp (disch := omega) only [l0, l1, l2, l3, l4, l5, l6, l7, l8, l9, l10, l11, l12, l30, l35, l36, l60, l99, l127, l150, l999, nI_eq, nI_leI, nI_ltI, nI_1, nI_add, pk_mul, obN, nI_clamp, lt', jn, Option.bind_some, inF, inC, inK, wi3, T_X3_isFirstOrSecond, T_X3_refuseBad, T_X3_refuseFull, T_X3_refuseNo, reduceIte, Nat.reduceEqDiff, Nat.reduceLeDiff, Nat.reduceMul, Nat.reduceAdd, Nat.reduceSub, and_true, true_and, hn5, e1, e2, h]
      · simp (disch := omega) only [l0, l1, l2, l3, l4, l5, l6, l7, l8, l9, l10, l11, l12, l30, l35, l36, l60, l99, l127, l150, l999, nI_eq, nI_leI, nI_ltI, nI_1, nI_add, pk_mul, obN, nI_clamp, lt', jn, Option.bind_some, inF, inC, inK, wi3, T_X3_isFirstOrSecond, T_X3_refuseBad, T_X3_refuseFull, T_X3_refuseNo, reduceIte, Nat.reduceEqDiff, Nat.reduceLeDiff, Nat.reduceMul, Nat.reduceAdd, Nat.reduceSub, and_true, true_and, hn5, e1, e2, h, Nat.add_zero])
    (fun s j hs => by
      subst hs
      exact ⟨_, by (try simp only); rw [T_X3_years_L30]; simp (disch := omega) only [l0, l1, l2, l3, l4, l5, l6, l7, l8, l9, l10, l11, l12, l30, l35, l36, l60, l99, l127, l150, l999, nI_eq, nI_leI, nI_ltI, nI_1, nI_add, pk_mul, obN, nI_clamp, lt', jn, Option.bind_some, inF, inC, inK, wi3, T_X3_isFirstOrSecond, T_X3_refuseBad, T_X3_refuseFull, T_X3_refuseNo, reduceIte, Nat.reduceEqDiff, Nat.reduceLeDiff, Nat.reduceMul, Nat.reduceAdd, Nat.reduceSub, and_true, true_and, Nat.le_refl] <;> rfl, rfl⟩)
    (S 1 0) 0 (nI 0, nI 0) N (by omega) rfl (by omega)
  exact opI1 (b := (nI (outN (S 8) (S 1 0)), x_bads x)) (by refine Eq.trans ?_ x1; rw [T_X3_years]; simp (disch := omega) only [l0, l1, l2, l3, l4, l5, l6, l7, l8, l9, l10, l11, l12, l30, l35, l36, l60, l99, l127, l150, l999, nI_eq, nI_leI, nI_ltI, nI_1, nI_add, pk_mul, obN, nI_clamp, lt', jn, Option.bind_some, inF, inC, inK, wi3, T_X3_isFirstOrSecond, T_X3_refuseBad, T_X3_refuseFull, T_X3_refuseNo, reduceIte, Nat.reduceEqDiff, Nat.reduceLeDiff, Nat.reduceMul, Nat.reduceAdd, Nat.reduceSub, and_true, true_and, c0, c1, lm, h1, h2]) ⟨rfl, hok, hc, hi, hj, ha, hb⟩

set_option maxHeartbeats 4000000 in
theorem q_image_old (N : Nat) (hN : 1000 ≤ N) (x : FIV) {S : SeaN} {I : Option SeaN} {ab be : Int64} (h : CR S I ab be x) (v : SeaV) (hv : x_img0 x = some v) : ∃ R : Int32 × Int32 × Int32 × Int32 × Int32 × Int32 × Int32 × (Nat → Int32) × (Nat → Int32) × (Nat → Int32) × (Nat → Int32) × (Nat → Int32) × (Nat → Int32) × (Nat → Int32) × (Nat → Int32), T_X3_image_old N (x_bads x) (xn_month x) (xn_floes x) (xn_founds x) (xn_notes x) (xn_undos x) (xn_ways x) (xn_strengths x) (xn_kinds x) (xn_cells x) (xn_foods x) (xn_foundRows x) (xn_noteRows x) (xn_undoRows x) (s_month v) (s_floes v) (s_founds v) (s_notes v) (s_undos v) (s_ways v) (s_strengths v) (s_kinds v) (s_cells v) (s_foods v) (s_foundRows v) (s_noteRows v) (s_undoRows v) 0 = some R ∧ R.1 = 1 ∧ CR S (some S) ab be ((xn_month x), (xn_ways x), (xn_strengths x), (xn_floes x), (xn_kinds x), (xn_cells x), (xn_foods x), (xn_founds x), (xn_foundRows x), (xn_notes x), (xn_noteRows x), (xn_undos x), (xn_undoRows x), (xs_month x), (xs_ways x), (xs_strengths x), (xs_floes x), (xs_kinds x), (xs_cells x), (xs_foods x), (xs_founds x), (xs_foundRows x), (xs_notes x), (xs_noteRows x), (xs_undos x), (xs_undoRows x), (xt_bytes x), (xt_length x), (xt_place x), (xt_fault x), (x_odds x), (x_nextOdds x), (x_gains x), (x_above x), (x_below x), R.2.1, (x_nos x), (x_fulls x), (some (R.2.2.1, R.2.2.2.2.2.2.2.1, R.2.2.2.2.2.2.2.2.1, R.2.2.2.1, R.2.2.2.2.2.2.2.2.2.1, R.2.2.2.2.2.2.2.2.2.2.1, R.2.2.2.2.2.2.2.2.2.2.2.1, R.2.2.2.2.1, R.2.2.2.2.2.2.2.2.2.2.2.2.1, R.2.2.2.2.2.1, R.2.2.2.2.2.2.2.2.2.2.2.2.2.1, R.2.2.2.2.2.2.1, R.2.2.2.2.2.2.2.2.2.2.2.2.2.2)), (x_img1 x)) := by
  obtain ⟨hok, hc, hi, hj, ha, hb⟩ := h
  have h1 : T_X3_within (nI 0) (nI 0) (nI 1) = nI 1 := by decide
  refine opI1 (by rw [T_X3_image_old, T_X1_takeFrom]; simp (disch := omega) only [l0, l1, l2, l3, l4, l5, l6, l7, l8, l9, l10, l11, l12, l30, l35, l36, l60, l99, l127, l150, l999, nI_eq, nI_leI, nI_ltI, nI_1, nI_add, pk_mul, obN, nI_clamp, lt', jn, Option.bind_some, inF, inC, inK, wi3, T_X3_isFirstOrSecond, T_X3_refuseBad, T_X3_refuseFull, T_X3_refuseNo, reduceIte, Nat.reduceEqDiff, Nat.reduceLeDiff, Nat.reduceMul, Nat.reduceAdd, Nat.reduceSub, and_true, true_and, h1, gcN, q42, q88]; rfl) ?_
  exact ⟨rfl, hok, hc, ⟨_, rfl, hok, cS_cpy hok hc⟩, hj, ha, hb⟩

set_option maxHeartbeats 4000000 in
theorem q_from (N : Nat) (hN : 1000 ≤ N) (x : FIV) {S : SeaN} {I : Option SeaN} {ab be : Int64} (h : CR S I ab be x) (T : SeaN) (hT : I = some T) (v : SeaV) (hv : x_img0 x = some v) : ∃ R : Int32 × Int32 × Int32 × Int32 × Int32 × Int32 × Int32 × (Nat → Int32) × (Nat → Int32) × (Nat → Int32) × (Nat → Int32) × (Nat → Int32) × (Nat → Int32) × (Nat → Int32) × (Nat → Int32), T_X3_from_old N (x_bads x) (xn_month x) (xn_floes x) (xn_founds x) (xn_notes x) (xn_undos x) (xn_ways x) (xn_strengths x) (xn_kinds x) (xn_cells x) (xn_foods x) (xn_foundRows x) (xn_noteRows x) (xn_undoRows x) (s_month v) (s_floes v) (s_founds v) (s_notes v) (s_undos v) (s_ways v) (s_strengths v) (s_kinds v) (s_cells v) (s_foods v) (s_foundRows v) (s_noteRows v) (s_undoRows v) 0 = some R ∧ R.1 = 1 ∧ CR T (some T) ab be (R.2.2.1, R.2.2.2.2.2.2.2.1, R.2.2.2.2.2.2.2.2.1, R.2.2.2.1, R.2.2.2.2.2.2.2.2.2.1, R.2.2.2.2.2.2.2.2.2.2.1, R.2.2.2.2.2.2.2.2.2.2.2.1, R.2.2.2.2.1, R.2.2.2.2.2.2.2.2.2.2.2.2.1, R.2.2.2.2.2.1, R.2.2.2.2.2.2.2.2.2.2.2.2.2.1, R.2.2.2.2.2.2.1, R.2.2.2.2.2.2.2.2.2.2.2.2.2.2, (xs_month x), (xs_ways x), (xs_strengths x), (xs_floes x), (xs_kinds x), (xs_cells x), (xs_foods x), (xs_founds x), (xs_foundRows x), (xs_notes x), (xs_noteRows x), (xs_undos x), (xs_undoRows x), (xt_bytes x), (xt_length x), (xt_place x), (xt_fault x), (x_odds x), (x_nextOdds x), (x_gains x), (x_above x), (x_below x), R.2.1, (x_nos x), (x_fulls x), (x_img0 x), (x_img1 x)) := by
  obtain ⟨hok, hc, hi, hj, ha, hb⟩ := h
  subst hT
  obtain ⟨v', e', hokT, hcT⟩ := hi
  rw [hv] at e'
  obtain rfl := Option.some.inj e'
  have h1 : T_X3_within (nI 0) (nI 0) (nI 1) = nI 1 := by decide
  refine opI1 (by rw [T_X3_from_old, T_X1_takeFrom]; simp (disch := omega) only [l0, l1, l2, l3, l4, l5, l6, l7, l8, l9, l10, l11, l12, l30, l35, l36, l60, l99, l127, l150, l999, nI_eq, nI_leI, nI_ltI, nI_1, nI_add, pk_mul, obN, nI_clamp, lt', jn, Option.bind_some, inF, inC, inK, wi3, T_X3_isFirstOrSecond, T_X3_refuseBad, T_X3_refuseFull, T_X3_refuseNo, reduceIte, Nat.reduceEqDiff, Nat.reduceLeDiff, Nat.reduceMul, Nat.reduceAdd, Nat.reduceSub, and_true, true_and, h1, gcN, q42, q88]; rfl) ?_
  exact ⟨rfl, hokT, cS_cpy hokT hcT, ⟨v, hv, hokT, hcT⟩, hj, ha, hb⟩

set_option maxHeartbeats 4000000 in
theorem q_image_new (N : Nat) (hN : 1000 ≤ N) (x : FIV) {S : SeaN} {I : Option SeaN} {ab be : Int64} (h : CR S I ab be x) (hv : x_img0 x = none) : ∃ (f1 : Nat → Int32) (R0 : Int32 × Int32 × Int32 × Int32 × Int32 × (Nat → Int32) × (Nat → Int32) × (Nat → Int32) × (Nat → Int32) × (Nat → Int32) × (Nat → Int32) × (Nat → Int32) × (Nat → Int32)), T_J7_fill_53178 N 12 (fun _ => 0) 1 = some f1 ∧ T_X1_takeFrom N 0 0 0 0 0 (fun _ => 0) f1 (fun _ => 0) (fun _ => 0) (fun _ => 0) (fun _ => 0) (fun _ => 0) (fun _ => 0) (xn_month x) (xn_floes x) (xn_founds x) (xn_notes x) (xn_undos x) (xn_ways x) (xn_strengths x) (xn_kinds x) (xn_cells x) (xn_foods x) (xn_foundRows x) (xn_noteRows x) (xn_undoRows x) = some R0 ∧ CR S (some S) ab be ((xn_month x), (xn_ways x), (xn_strengths x), (xn_floes x), (xn_kinds x), (xn_cells x), (xn_foods x), (xn_founds x), (xn_foundRows x), (xn_notes x), (xn_noteRows x), (xn_undos x), (xn_undoRows x), (xs_month x), (xs_ways x), (xs_strengths x), (xs_floes x), (xs_kinds x), (xs_cells x), (xs_foods x), (xs_founds x), (xs_foundRows x), (xs_notes x), (xs_noteRows x), (xs_undos x), (xs_undoRows x), (xt_bytes x), (xt_length x), (xt_place x), (xt_fault x), (x_odds x), (x_nextOdds x), (x_gains x), (x_above x), (x_below x), (x_bads x), (x_nos x), (x_fulls x), (some (R0.1, R0.2.2.2.2.2.1, R0.2.2.2.2.2.2.1, R0.2.1, R0.2.2.2.2.2.2.2.1, R0.2.2.2.2.2.2.2.2.1, R0.2.2.2.2.2.2.2.2.2.1, R0.2.2.1, R0.2.2.2.2.2.2.2.2.2.2.1, R0.2.2.2.1, R0.2.2.2.2.2.2.2.2.2.2.2.1, R0.2.2.2.2.1, R0.2.2.2.2.2.2.2.2.2.2.2.2)), (x_img1 x)) := by
  obtain ⟨hok, hc, hi, hj, ha, hb⟩ := h
  obtain ⟨f1, e1, d1⟩ := fill_i N hN (fun _ => 0) 1
  refine ⟨f1, _, e1, take_n, ?_⟩
  exact ⟨hok, hc, ⟨_, rfl, hok, cS_cpy hok hc⟩, hj, ha, hb⟩
