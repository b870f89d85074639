/-! where what was found came from -/
def frN (W G Q : Nat → Nat) (c : Nat) : Nat → Bool
  | 0 => true
  | i + 1 => frN W G Q c i && decide (runN W G (Q (3 * i)) c 0 (Q (3 * i + 1)) = Q (3 * i + 2))
theorem frN_no {W G Q : Nat → Nat} {c i : Nat} (h : frN W G Q c i = false) : ∀ d, frN W G Q c (i + d) = false
  | 0 => h
  | d + 1 => by
    show (frN W G Q c (i + d) && _) = false
    rw [frN_no h d, Bool.false_and]
def okF (Q : Nat → Nat) (n : Nat) : Prop := ∀ k, k < n → Q (3 * k) ≤ 5 ∧ Q (3 * k + 1) ≤ 60 ∧ Q (3 * k + 2) ≤ 35
theorem allFound_n {N n c : Nat} {W G Q : Nat → Nat} {w g rows : Nat → Int32} (hN : 1000 ≤ N) (hn : n ≤ 4) (ew : ∀ i, i < 12 → w i = nI (W i)) (eg : ∀ i, i < 12 → g i = nI (G i)) (hW : ∀ i, i < 12 → W i ≤ 3) (hG : ∀ i, i < 12 → G i ≤ 3) (hc : c ≤ 35) (hr : ∀ k, k < 3 * n → rows k = nI (Q k)) (hQ : okF Q n) : T_X1_allFoundFrom N (nI n) w g rows (nI c) = some (b2 (frN W G Q c n)) := by
  obtain ⟨r, x1, rfl⟩ := lp (fun j (s : Int32) => T_X1_allFoundFrom_L2 N (nI c) (nI n) w g rows j s) (fun i s => s = nI i ∧ frN W G Q c i = true) (fun r => r = b2 (frN W G Q c n)) n
    (fun i s j hi ⟨s1, s2⟩ => by
      subst s1
      have hn5 : ¬ n ≤ i := by omega
      obtain ⟨q0, q1, q2⟩ := hQ i hi
      have r0 := hr (3 * i) (by omega)
      have r1 := hr (3 * i + 1) (by omega)
      have r2 := hr (3 * i + 2) (by omega)
      have d := drifted_n (mo := 0) (j := Q (3 * i + 1)) hN ew eg hW hG q0 hc (by omega) (by omega)
      have dl := runN_le (m := 0) hW hG q0 hc (Q (3 * i + 1))
      by_cases h : runN W G (Q (3 * i)) c 0 (Q (3 * i + 1)) = Q (3 * i + 2)
      · refine .inl ⟨nI (i + 1), ⟨rfl, by rw [frN, s2, h]; simp⟩, ?_⟩
        (try simp only)
        rw [T_X1_allFoundFrom_L2]
        simp (disch := omega) only [l0, l1, l2, l3, l4, l5, l6, l7, l8, l9, l10, l11, l12, l30, l35, l36, l60, l99, l127, l150, l999, nI_eq, nI_leI, nI_ltI, nI_1, nI_add, pk_mul, obN, nI_clamp, lt', jn, Option.bind_some, inW, inF, inC, inK, fl4, cl4, wi3, T_X3_isFirstOrSecond, badE, fullE, noE, T_X3_refuseBad, T_X3_refuseFull, T_X3_refuseNo, reduceIte, Nat.reduceEqDiff, Nat.reduceLeDiff, Nat.reduceMul, Nat.reduceAdd, Nat.reduceSub, and_true, true_and, hn5, r0, r1, r2, d, h]
      · refine .inr ⟨nI 0, ?_, ?_⟩
        · (try simp only)
          rw [T_X1_allFoundFrom_L2]
          simp (disch := omega) only [l0, l1, l2, l3, l4, l5, l6, l7, l8, l9, l10, l11, l12, l30, l35, l36, l60, l99, l127, l150, l999, nI_eq, nI_leI, nI_ltI, nI_1, nI_add, pk_mul, obN, nI_clamp, lt', jn, Option.bind_some, inW, inF, inC, inK, fl4, cl4, wi3, T_X3_isFirstOrSecond, badE, fullE, noE, T_X3_refuseBad, T_X3_refuseFull, T_X3_refuseNo, reduceIte, Nat.reduceEqDiff, Nat.reduceLeDiff, Nat.reduceMul, Nat.reduceAdd, Nat.reduceSub, and_true, true_and, hn5, r0, r1, r2, d, h]
        · have h' := frN_no (W := W) (G := G) (Q := Q) (c := c) (i := i + 1) (by rw [frN]; simp [h]) (n - (i + 1))
          rw [show i + 1 + (n - (i + 1)) = n by omega] at h'
          rw [h']; rfl)
    (fun s j ⟨s1, s2⟩ => by
      subst s1
      exact ⟨nI 1, by (try simp only); rw [T_X1_allFoundFrom_L2]; simp (disch := omega) only [l0, l1, l2, l3, l4, l5, l6, l7, l8, l9, l10, l11, l12, l30, l35, l36, l60, l99, l127, l150, l999, nI_eq, nI_leI, nI_ltI, nI_1, nI_add, pk_mul, obN, nI_clamp, lt', jn, Option.bind_some, inW, inF, inC, inK, fl4, cl4, wi3, T_X3_isFirstOrSecond, badE, fullE, noE, T_X3_refuseBad, T_X3_refuseFull, T_X3_refuseNo, reduceIte, Nat.reduceEqDiff, Nat.reduceLeDiff, Nat.reduceMul, Nat.reduceAdd, Nat.reduceSub, and_true, true_and, Nat.le_refl], by rw [s2]; rfl⟩)
    n 0 (nI 0) N (by omega) ⟨rfl, rfl⟩ (by omega)
  exact x1
theorem isFrom_n {N n c : Nat} {W G Q : Nat → Nat} {w g fk fm fc : Nat → Int32} (hN : 1000 ≤ N) (hn : n ≤ 4) (ew : ∀ i, i < 12 → w i = nI (W i)) (eg : ∀ i, i < 12 → g i = nI (G i)) (hW : ∀ i, i < 12 → W i ≤ 3) (hG : ∀ i, i < 12 → G i ≤ 3) (hc : c ≤ 35) (hr : ∀ k, k < n → fk k = nI (Q (3 * k)) ∧ fm k = nI (Q (3 * k + 1)) ∧ fc k = nI (Q (3 * k + 2))) (hQ : okF Q n) : T_X4_isFrom N (nI n) w g fk fm fc (nI c) = some (b2 (frN W G Q c n)) := by
  have inner : ∀ (i : Nat), i < n → ∀ (K : Int32 → Option Int32) (d t j : Nat), t + d = Q (3 * i + 1) → d < j → T_X4_isFrom_L18 N (nI i) w g fk fm K j (nI (runN W G (Q (3 * i)) c 0 t)) (nI t) = K (nI (runN W G (Q (3 * i)) c 0 (Q (3 * i + 1)))) := by
    intro i hi K d
    obtain ⟨q0, q1, q2⟩ := hQ i hi
    obtain ⟨r0, r1, r2⟩ := hr i hi
    have hi4 : i < 4 := by omega
    induction d with
    | zero =>
      intro t j ht hj
      obtain ⟨j, rfl⟩ := Nat.exists_eq_succ_of_ne_zero (show j ≠ 0 by omega)
      have ht : t = Q (3 * i + 1) := by omega
      rw [T_X4_isFrom_L18, ht]; simp (disch := omega) only [l0, l1, l2, l3, l4, l5, l6, l7, l8, l9, l10, l11, l12, l30, l35, l36, l60, l99, l127, l150, l999, nI_eq, nI_leI, nI_ltI, nI_1, nI_add, pk_mul, obN, nI_clamp, lt', jn, Option.bind_some, inW, inF, inC, inK, fl4, cl4, wi3, T_X3_isFirstOrSecond, badE, fullE, noE, T_X3_refuseBad, T_X3_refuseFull, T_X3_refuseNo, reduceIte, Nat.reduceEqDiff, Nat.reduceLeDiff, Nat.reduceMul, Nat.reduceAdd, Nat.reduceSub, and_true, true_and, r1, Nat.le_refl]
    | succ d ih =>
      intro t j ht hj
      obtain ⟨j, rfl⟩ := Nat.exists_eq_succ_of_ne_zero (show j ≠ 0 by omega)
      have hn5 : ¬ Q (3 * i + 1) ≤ t := by omega
      have nx := driftsIn_n (m := 0 + t) hN ew eg hW hG q0 (runN_le (m := 0) hW hG q0 hc t) (by omega)
      rw [Nat.zero_add] at nx
      have ih := ih (t + 1) j (by omega) (by omega)
      rw [← ih, T_X4_isFrom_L18, runN, Nat.zero_add]
      simp (disch := omega) only [l0, l1, l2, l3, l4, l5, l6, l7, l8, l9, l10, l11, l12, l30, l35, l36, l60, l99, l127, l150, l999, nI_eq, nI_leI, nI_ltI, nI_1, nI_add, pk_mul, obN, nI_clamp, lt', jn, Option.bind_some, inW, inF, inC, inK, fl4, cl4, wi3, T_X3_isFirstOrSecond, badE, fullE, noE, T_X3_refuseBad, T_X3_refuseFull, T_X3_refuseNo, reduceIte, Nat.reduceEqDiff, Nat.reduceLeDiff, Nat.reduceMul, Nat.reduceAdd, Nat.reduceSub, and_true, true_and, hn5, r0, r1, nx]
  obtain ⟨r, x1, rfl⟩ := lp (fun j (s : Int32 × Int32) => T_X4_isFrom_L4 N (nI c) (nI n) w g fk fm fc j s.1 s.2) (fun i s => s.2 = nI i ∧ s.1 = b2 (frN W G Q c i)) (fun r => r = b2 (frN W G Q c n)) n
    (fun i s j hi ⟨s1, s2⟩ => by
      obtain ⟨t1, t2⟩ := s
      simp only at s1 s2
      subst s1 s2
      have hn5 : ¬ n ≤ i := by omega
      obtain ⟨q0, q1, q2⟩ := hQ i hi
      obtain ⟨r0, r1, r2⟩ := hr i hi
      have hi4 : i < 4 := by omega
      have dl := runN_le (m := 0) hW hG q0 hc (Q (3 * i + 1))
      have L : ∀ K, T_X4_isFrom_L18 N (nI i) w g fk fm K N (nI c) 0 = K (nI (runN W G (Q (3 * i)) c 0 (Q (3 * i + 1)))) := fun K => inner i hi K (Q (3 * i + 1)) 0 N (by omega) (by omega)
      refine .inl ⟨(b2 (frN W G Q c (i + 1)), nI (i + 1)), ⟨rfl, rfl⟩, ?_⟩
      (try simp only)
      rw [T_X4_isFrom_L4, L, frN]
      cases hb : frN W G Q c i with
      | false => simp (disch := omega) only [l0, l1, l2, l3, l4, l5, l6, l7, l8, l9, l10, l11, l12, l30, l35, l36, l60, l99, l127, l150, l999, nI_eq, nI_leI, nI_ltI, nI_1, nI_add, pk_mul, obN, nI_clamp, lt', jn, Option.bind_some, inW, inF, inC, inK, fl4, cl4, wi3, T_X3_isFirstOrSecond, badE, fullE, noE, T_X3_refuseBad, T_X3_refuseFull, T_X3_refuseNo, reduceIte, Nat.reduceEqDiff, Nat.reduceLeDiff, Nat.reduceMul, Nat.reduceAdd, Nat.reduceSub, and_true, true_and, hn5, b2, Bool.false_eq_true, Bool.false_and]
      | true =>
        by_cases h : runN W G (Q (3 * i)) c 0 (Q (3 * i + 1)) = Q (3 * i + 2)
        · simp (disch := omega) only [l0, l1, l2, l3, l4, l5, l6, l7, l8, l9, l10, l11, l12, l30, l35, l36, l60, l99, l127, l150, l999, nI_eq, nI_leI, nI_ltI, nI_1, nI_add, pk_mul, obN, nI_clamp, lt', jn, Option.bind_some, inW, inF, inC, inK, fl4, cl4, wi3, T_X3_isFirstOrSecond, badE, fullE, noE, T_X3_refuseBad, T_X3_refuseFull, T_X3_refuseNo, reduceIte, Nat.reduceEqDiff, Nat.reduceLeDiff, Nat.reduceMul, Nat.reduceAdd, Nat.reduceSub, and_true, true_and, hn5, b2, r2, h, Bool.true_and, decide_true]
        · simp (disch := omega) only [l0, l1, l2, l3, l4, l5, l6, l7, l8, l9, l10, l11, l12, l30, l35, l36, l60, l99, l127, l150, l999, nI_eq, nI_leI, nI_ltI, nI_1, nI_add, pk_mul, obN, nI_clamp, lt', jn, Option.bind_some, inW, inF, inC, inK, fl4, cl4, wi3, T_X3_isFirstOrSecond, badE, fullE, noE, T_X3_refuseBad, T_X3_refuseFull, T_X3_refuseNo, reduceIte, Nat.reduceEqDiff, Nat.reduceLeDiff, Nat.reduceMul, Nat.reduceAdd, Nat.reduceSub, and_true, true_and, hn5, b2, r2, h, Bool.true_and, decide_false, Bool.false_eq_true])
    (fun s j ⟨s1, s2⟩ => by
      obtain ⟨t1, t2⟩ := s
      simp only at s1 s2
      subst s1 s2
      refine ⟨b2 (frN W G Q c n), ?_, rfl⟩
      have hg : b2 (frN W G Q c n) = 0 ∨ b2 (frN W G Q c n) = 1 := by
        cases frN W G Q c n
        · exact .inl rfl
        · exact .inr rfl
      (try simp only)
      rw [T_X4_isFrom_L4, if_pos ((nI_leI (by omega) (by omega)).mpr (Nat.le_refl n)), gb, if_pos hg])
    n 0 (1, 0) N (by omega) ⟨rfl, rfl⟩ (by omega)
  exact x1
def cA (F : Nat → Bool) : Nat → Nat
  | 0 => 0
  | k + 1 => cA F k + (F k).toNat
def cD (F : Nat → Bool) : Nat → Nat
  | 0 => 0
  | k + 1 => cD F k + (F (35 - k)).toNat
theorem cA_cD (F : Nat → Bool) : cD F 36 = cA F 36 := by
  simp only [cA, cD, Nat.reduceSub, Nat.sub_zero, Nat.sub_self]
  omega
theorem cA_le (F : Nat → Bool) : ∀ k, cA F k ≤ k
  | 0 => Nat.le_refl 0
  | k + 1 => by
    have := cA_le F k
    have h := Bool.toNat_le (F k)
    rw [cA]; omega
theorem cD_le (F : Nat → Bool) : ∀ k, cD F k ≤ k
  | 0 => Nat.le_refl 0
  | k + 1 => by
    have := cD_le F k
    have h := Bool.toNat_le (F (35 - k))
    rw [cD]; omega
/-- the least of those from i to below k, or none -/
def leN (F : Nat → Bool) (i k : Nat) (v : Int32) : Prop := (∃ c, i ≤ c ∧ c < k ∧ F c = true ∧ (∀ d, i ≤ d → d < c → F d = false) ∧ v = nI c) ∨ ((∀ d, i ≤ d → d < k → F d = false) ∧ v = -1)
theorem leN_eq {F : Nat → Bool} {i k : Nat} {v v' : Int32} (h : leN F i k v) (h' : leN F i k v') : v = v' := by
  rcases h with ⟨c, a1, a2, a3, a4, rfl⟩ | ⟨a1, rfl⟩
  · rcases h' with ⟨c', b1, b2, b3, b4, rfl⟩ | ⟨b1, rfl⟩
    · rcases Nat.lt_trichotomy c c' with h | rfl | h
      · rw [b4 c a1 h] at a3; cases a3
      · rfl
      · rw [a4 c' b1 h] at b3; cases b3
    · rw [b1 c a1 a2] at a3; cases a3
  · rcases h' with ⟨c', b1, b2, b3, b4, rfl⟩ | ⟨b1, rfl⟩
    · rw [a1 c' b1 b2] at b3; cases b3
    · rfl
theorem cA_0 {F : Nat → Bool} : ∀ {k : Nat}, cA F k = 0 ↔ ∀ d, d < k → F d = false := by
  intro k
  induction k with
  | zero => exact ⟨fun _ d h => absurd h (Nat.not_lt_zero d), fun _ => rfl⟩
  | succ k ih =>
    rw [cA]
    constructor
    · intro h d hd
      by_cases e : d = k
      · subst e
        cases hF : F d with
        | false => rfl
        | true => rw [hF] at h; simp at h
      · exact ih.mp (by omega) d (by omega)
    · intro h
      rw [ih.mpr fun d hd => h d (by omega), h k (by omega)]
      rfl
set_option maxHeartbeats 4000000 in
theorem op_whence (N : Nat) (hN : 1000 ≤ N) (x : FIV) (m : MV) (p1 : Int32) (h : REL x m) : ∃ (R : Int32 × Int32) (RM : Int32 × (Nat → Int32)), T_X3_whence N (x_bads x) (xn_founds x) (xn_ways x) (xn_strengths x) (xn_foundRows x) p1 = some R ∧ T_X4_whence N (m_findMany m) (m_refused m) (m_ways m) (m_strengths m) (m_findKind m) (m_findMonth m) (m_findCell m) p1 = some RM ∧ R.1 = RM.1 ∧ REL ((xn_month x), (xn_ways x), (xn_strengths x), (xn_floes x), (xn_kinds x), (xn_cells x), (xn_foods x), (xn_founds x), (xn_foundRows x), (xn_notes x), (xn_noteRows x), (xn_undos x), (xn_undoRows x), (xs_month x), (xs_ways x), (xs_strengths x), (xs_floes x), (xs_kinds x), (xs_cells x), (xs_foods x), (xs_founds x), (xs_foundRows x), (xs_notes x), (xs_noteRows x), (xs_undos x), (xs_undoRows x), (xt_bytes x), (xt_length x), (xt_place x), (xt_fault x), (x_odds x), (x_nextOdds x), (x_gains x), (x_above x), (x_below x), R.2, (x_nos x), (x_fulls x), (x_img0 x), (x_img1 x)) (RM.2, (m_many m), (m_now m), (m_findMany m), (m_noteMany m), (m_ways m), (m_strengths m), (m_kinds m), (m_cells m), (m_food m), (m_findKind m), (m_findMonth m), (m_findCell m), (m_noted m), (m_text m), (m_typed m), (m_readAt m), (m_readMonth m), (m_readMany m), (m_readFloe m), (m_readWind m), (m_readNumber m), (m_ahead m), (m_undoMany m), (m_aside m), (m_above m), (m_below m), (m_images m), (m_isKept m), (m_h0 m)) := by
  obtain ⟨⟨S, hok, hc, hm⟩, htx, hab, hrf, hg0, hg1⟩ := h
  have q := hok
  have q1 := hc
  have q2 := hm
  obtain ⟨o0, o1, o2, o3, o4, o5, o6, o7, o8, o9, o10, o11, o12⟩ := q
  obtain ⟨⟨c0, c1, c2, c3, c4⟩, c5, c6, c7, c8, c9, c10, c11, c12⟩ := q1
  obtain ⟨⟨m0, m1, m2, m3, m4⟩, m5, m6, m7, m8, m9, m10, m11, m12⟩ := q2
  rcases wi p1 1 (by omega) with h0 | ⟨j, hj, rfl, h1⟩
  · refine opI (by rw [T_X3_whence]; simp (disch := omega) only [l0, l1, l2, l3, l4, l5, l6, l7, l8, l9, l10, l11, l12, l30, l35, l36, l60, l99, l127, l150, l999, nI_eq, nI_leI, nI_ltI, nI_1, nI_add, pk_mul, obN, nI_clamp, lt', jn, Option.bind_some, inW, inF, inC, inK, fl4, cl4, wi3, T_X3_isFirstOrSecond, badE, fullE, noE, T_X3_refuseBad, T_X3_refuseFull, T_X3_refuseNo, reduceIte, Nat.reduceEqDiff, Nat.reduceLeDiff, Nat.reduceMul, Nat.reduceAdd, Nat.reduceSub, and_true, true_and, h0]; rfl) (by rw [T_X4_whence]; simp (disch := omega) only [l0, l1, l2, l3, l4, l5, l6, l7, l8, l9, l10, l11, l12, l30, l35, l36, l60, l99, l127, l150, l999, nI_eq, nI_leI, nI_ltI, nI_1, nI_add, pk_mul, obN, nI_clamp, lt', jn, Option.bind_some, inW, inF, inC, inK, fl4, cl4, wi3, T_X3_isFirstOrSecond, badE, fullE, noE, T_X3_refuseBad, T_X3_refuseFull, T_X3_refuseNo, reduceIte, Nat.reduceEqDiff, Nat.reduceLeDiff, Nat.reduceMul, Nat.reduceAdd, Nat.reduceSub, and_true, true_and, h0]; rfl) ?_; exact ⟨rfl, ⟨S, hok, hc, hm⟩, htx, hab, rf_bad hrf, hg0, hg1⟩
  have fA := fun c (hc : c ≤ 35) => allFound_n (c := c) hN o2 c5 c6 o5 o6 hc c10 o10
  have fM := fun c (hc : c ≤ 35) => isFrom_n (c := c) hN o2 m5 m6 o5 o6 hc m10 o10
  generalize hF : (fun c => frN (S 5) (S 6) (S 10) c (S 2 0)) = F
  have eF : ∀ c, frN (S 5) (S 6) (S 10) c (S 2 0) = F c := fun c => by rw [← hF]
  simp only [eF] at fA fM
  obtain ⟨r, x1, v, rfl, hv⟩ := lp (fun n (s : Int32 × Int32 × Int32) => T_X3_whence_L20 N (nI (S 2 0)) (xn_ways x) (xn_strengths x) (xn_foundRows x) (fun x34 x35 => if nI j = nI 0 then some (x34, x_bads x) else some (x35, x_bads x)) n s.1 s.2.1 s.2.2)
    (fun i s => s.1 = nI (cD F i) ∧ leN F (36 - i) 36 s.2.1 ∧ s.2.2 = nI (36 - i) + (-1)) (fun r => ∃ v, r = (if nI j = nI 0 then nI (cD F 36) else v, x_bads x) ∧ leN F 0 36 v) 36
    (fun i s n hi ⟨s1, s2, s3⟩ => by
      obtain ⟨t1, t2, t3⟩ := s
      simp only at s1 s2 s3
      have e3 : t3 = nI (35 - i) := by rw [s3, show 36 - i = 35 - i + 1 by omega, pk_m1]
      subst s1 e3
      have hb := fA (35 - i) (by omega)
      have e4 : nI (35 - i) + (-1) = nI (36 - (i + 1)) + (-1) := by rw [show 36 - (i + 1) = 35 - i by omega]
      have e4' : nI (35 - i) + -nI 1 = nI (36 - (i + 1)) + -nI 1 := e4
      have np : ¬ nI (35 - i) < nI 0 := nI_pos (by omega)
      have hcd := cD_le F i
      cases hx : F (35 - i) with
      | false =>
        refine .inl ⟨(nI (cD F (i + 1)), t2, nI (36 - (i + 1)) + (-1)), ⟨rfl, ?_, rfl⟩, ?_⟩
        · rcases s2 with ⟨c, a1, a2, a3, a4, rfl⟩ | ⟨a1, rfl⟩
          · refine .inl ⟨c, by omega, a2, a3, fun d d1 d2 => ?_, rfl⟩
            by_cases e : d = 35 - i
            · subst e; exact hx
            · exact a4 d (by omega) d2
          · refine .inr ⟨fun d d1 d2 => ?_, rfl⟩
            by_cases e : d = 35 - i
            · subst e; exact hx
            · exact a1 d (by omega) d2
        · rw [hx] at hb
          (try simp only)
          rw [T_X3_whence_L20, cD, hx]
          simp (disch := omega) only [l0, l1, l2, l3, l4, l5, l6, l7, l8, l9, l10, l11, l12, l30, l35, l36, l60, l99, l127, l150, l999, nI_eq, nI_leI, nI_ltI, nI_1, nI_add, pk_mul, obN, nI_clamp, lt', jn, Option.bind_some, inW, inF, inC, inK, fl4, cl4, wi3, T_X3_isFirstOrSecond, badE, fullE, noE, T_X3_refuseBad, T_X3_refuseFull, T_X3_refuseNo, reduceIte, Nat.reduceEqDiff, Nat.reduceLeDiff, Nat.reduceMul, Nat.reduceAdd, Nat.reduceSub, and_true, true_and, hb, b2, np, e4', Bool.false_eq_true, Bool.toNat_false, Nat.add_zero]
      | true =>
        refine .inl ⟨(nI (cD F (i + 1)), nI (35 - i), nI (36 - (i + 1)) + (-1)), ⟨rfl, ?_, rfl⟩, ?_⟩
        · exact .inl ⟨35 - i, by omega, by omega, hx, fun d d1 d2 => absurd d1 (by omega), rfl⟩
        · rw [hx] at hb
          (try simp only)
          rw [T_X3_whence_L20, cD, hx]
          simp (disch := omega) only [l0, l1, l2, l3, l4, l5, l6, l7, l8, l9, l10, l11, l12, l30, l35, l36, l60, l99, l127, l150, l999, nI_eq, nI_leI, nI_ltI, nI_1, nI_add, pk_mul, obN, nI_clamp, lt', jn, Option.bind_some, inW, inF, inC, inK, fl4, cl4, wi3, T_X3_isFirstOrSecond, badE, fullE, noE, T_X3_refuseBad, T_X3_refuseFull, T_X3_refuseNo, reduceIte, Nat.reduceEqDiff, Nat.reduceLeDiff, Nat.reduceMul, Nat.reduceAdd, Nat.reduceSub, and_true, true_and, hb, b2, np, e4', Bool.toNat_true])
    (fun s n ⟨s1, s2, s3⟩ => by
      obtain ⟨t1, t2, t3⟩ := s
      simp only at s1 s2 s3
      subst s1
      refine ⟨(if nI j = nI 0 then nI (cD F 36) else t2, x_bads x), ?_, t2, rfl, s2⟩
      have hlt : t3 < 0 := by rw [s3]; decide
      (try simp only)
      rw [T_X3_whence_L20, if_pos hlt]
      by_cases h : nI j = nI 0
      · rw [if_pos h, if_pos h]
      · rw [if_neg h, if_neg h])
    36 0 (nI 0, -1, 35) N rfl ⟨rfl, .inr ⟨fun d d1 d2 => absurd d1 (by omega), rfl⟩, by decide⟩ (by omega)
  obtain ⟨r, x2, v', rfl, hv'⟩ := lp (fun n (s : Int32 × Int32 × Int32) => T_X4_whence_L21 N (nI (S 2 0)) (m_ways m) (m_strengths m) (m_findKind m) (m_findMonth m) (m_findCell m) (fun x44 x45 => if nI j = nI 0 then some (x44, m_refused m) else some (x45, m_refused m)) n s.1 s.2.1 s.2.2)
    (fun i s => s.1 = nI (cA F i) ∧ leN F 0 i s.2.1 ∧ s.2.2 = nI i) (fun r => ∃ v, r = (if nI j = nI 0 then nI (cA F 36) else v, m_refused m) ∧ leN F 0 36 v) 36
    (fun i s n hi ⟨s1, s2, s3⟩ => by
      obtain ⟨t1, t2, t3⟩ := s
      simp only at s1 s2 s3
      subst s1 s3
      have hb := fM i (by omega)
      have hn5 : ¬ 36 ≤ i := by omega
      have hca := cA_le F i
      cases hx : F i with
      | false =>
        refine .inl ⟨(nI (cA F (i + 1)), t2, nI (i + 1)), ⟨rfl, ?_, rfl⟩, ?_⟩
        · rcases s2 with ⟨c, a1, a2, a3, a4, rfl⟩ | ⟨a1, rfl⟩
          · exact .inl ⟨c, a1, by omega, a3, a4, rfl⟩
          · refine .inr ⟨fun d d1 d2 => ?_, rfl⟩
            by_cases e : d = i
            · subst e; exact hx
            · exact a1 d d1 (by omega)
        · rw [hx] at hb
          (try simp only)
          rw [T_X4_whence_L21, cA, hx]
          simp (disch := omega) only [l0, l1, l2, l3, l4, l5, l6, l7, l8, l9, l10, l11, l12, l30, l35, l36, l60, l99, l127, l150, l999, nI_eq, nI_leI, nI_ltI, nI_1, nI_add, pk_mul, obN, nI_clamp, lt', jn, Option.bind_some, inW, inF, inC, inK, fl4, cl4, wi3, T_X3_isFirstOrSecond, badE, fullE, noE, T_X3_refuseBad, T_X3_refuseFull, T_X3_refuseNo, reduceIte, Nat.reduceEqDiff, Nat.reduceLeDiff, Nat.reduceMul, Nat.reduceAdd, Nat.reduceSub, and_true, true_and, hn5, hb, b2, Bool.false_eq_true, Bool.toNat_false, Nat.add_zero]
      | true =>
        rw [hx] at hb
        by_cases hz : cA F i = 0
        · have hz' := cA_0.mp hz
          refine .inl ⟨(nI (cA F (i + 1)), nI i, nI (i + 1)), ⟨rfl, .inl ⟨i, Nat.zero_le i, by omega, hx, fun d _ d2 => hz' d d2, rfl⟩, rfl⟩, ?_⟩
          (try simp only)
          rw [T_X4_whence_L21, cA, hx]
          simp (disch := omega) only [l0, l1, l2, l3, l4, l5, l6, l7, l8, l9, l10, l11, l12, l30, l35, l36, l60, l99, l127, l150, l999, nI_eq, nI_leI, nI_ltI, nI_1, nI_add, pk_mul, obN, nI_clamp, lt', jn, Option.bind_some, inW, inF, inC, inK, fl4, cl4, wi3, T_X3_isFirstOrSecond, badE, fullE, noE, T_X3_refuseBad, T_X3_refuseFull, T_X3_refuseNo, reduceIte, Nat.reduceEqDiff, Nat.reduceLeDiff, Nat.reduceMul, Nat.reduceAdd, Nat.reduceSub, and_true, true_and, hn5, hb, b2, hz, Bool.toNat_true]
        · refine .inl ⟨(nI (cA F (i + 1)), t2, nI (i + 1)), ⟨rfl, ?_, rfl⟩, ?_⟩
          · rcases s2 with ⟨c, a1, a2, a3, a4, rfl⟩ | ⟨a1, rfl⟩
            · exact .inl ⟨c, a1, by omega, a3, a4, rfl⟩
            · exact absurd (cA_0.mpr fun d hd => a1 d (Nat.zero_le d) hd) hz
          · (try simp only)
            rw [T_X4_whence_L21, cA, hx]
            simp (disch := omega) only [l0, l1, l2, l3, l4, l5, l6, l7, l8, l9, l10, l11, l12, l30, l35, l36, l60, l99, l127, l150, l999, nI_eq, nI_leI, nI_ltI, nI_1, nI_add, pk_mul, obN, nI_clamp, lt', jn, Option.bind_some, inW, inF, inC, inK, fl4, cl4, wi3, T_X3_isFirstOrSecond, badE, fullE, noE, T_X3_refuseBad, T_X3_refuseFull, T_X3_refuseNo, reduceIte, Nat.reduceEqDiff, Nat.reduceLeDiff, Nat.reduceMul, Nat.reduceAdd, Nat.reduceSub, and_true, true_and, hn5, hb, b2, hz, Bool.toNat_true])
    (fun s n ⟨s1, s2, s3⟩ => by
      obtain ⟨t1, t2, t3⟩ := s
      simp only at s1 s2 s3
      subst s1 s3
      refine ⟨(if nI j = nI 0 then nI (cA F 36) else t2, m_refused m), ?_, t2, rfl, s2⟩
      (try simp only)
      rw [T_X4_whence_L21, l36, if_pos ((nI_leI (by omega) (by omega)).mpr (Nat.le_refl _))]
      by_cases h : nI j = nI 0
      · rw [if_pos h, if_pos h]
      · rw [if_neg h, if_neg h])
    36 0 (nI 0, -1, nI 0) N rfl ⟨rfl, .inr ⟨fun d d1 d2 => absurd d2 (Nat.not_lt_zero d), rfl⟩, rfl⟩ (by omega)
  have hvv := leN_eq hv hv'
  subst hvv
  rw [cA_cD] at x1
  refine opI (a := (if nI j = nI 0 then nI (cA F 36) else v, x_bads x)) (b := (if nI j = nI 0 then nI (cA F 36) else v, m_refused m)) ?_ ?_ ⟨rfl, ⟨S, hok, hc, hm⟩, htx, hab, hrf, hg0, hg1⟩
  · refine Eq.trans ?_ x1
    rw [T_X3_whence, T_X3_isFirstOrSecond, if_neg (by rw [l0, l1, h1]; decide), c2]
    rfl
  · refine Eq.trans ?_ x2
    rw [T_X4_whence, inW, if_neg (by rw [l0, l1, h1]; decide), m2]
    rfl
