/-! calms: the reference; the fraction -/
theorem has_all : ∀ b, b < 256 → ∀ t, t < 8 → T_X4_has (nI b) (nI t) = b2 (decide (b / 2 ^ t % 2 = 1)) := by decide +kernel
theorem shl_all : ∀ m, m < 9 → (1 : Int32) <<< (nI m &&& 31) = nI (2 ^ m) := by decide +kernel
theorem calms42_n {N m : Nat} (K : Int64 → Option (Int32 × Int64 × Int64 × (Nat → Int32))) (hm8 : m ≤ 8) :
    ∀ (d t n : Nat), t + d = m → d < n → T_X4_calms_L42 N (nI m) K n (lN (10 ^ t)) (nI t) = K (lN (10 ^ m)) := by
  intro d
  induction d with
  | zero =>
    intro t n ht hn
    obtain ⟨n, rfl⟩ := Nat.exists_eq_succ_of_ne_zero (show n ≠ 0 by omega)
    obtain rfl : t = m := by omega
    rw [T_X4_calms_L42]; simp (disch := omega) only [l0, l1, l2, l3, l4, l5, l6, l7, l8, l9, l10, l11, l12, l30, l35, l36, l60, l99, l127, l150, l999, nI_eq, nI_leI, nI_ltI, nI_1, nI_add, pk_mul, obN, nI_clamp, lt', jn, Option.bind_some, inW, inF, inC, inK, fl4, cl4, wi3, T_X3_isFirstOrSecond, badE, fullE, noE, T_X3_refuseBad, T_X3_refuseFull, T_X3_refuseNo, reduceIte, Nat.reduceEqDiff, Nat.reduceLeDiff, Nat.reduceMul, Nat.reduceAdd, Nat.reduceSub, and_true, true_and, Nat.le_refl]
  | succ d ih =>
    intro t n ht hn
    obtain ⟨n, rfl⟩ := Nat.exists_eq_succ_of_ne_zero (show n ≠ 0 by omega)
    have hn5 : ¬ m ≤ t := by omega
    rw [← ih (t + 1) n (by omega) (by omega), T_X4_calms_L42]
    simp (disch := omega) only [l0, l1, l2, l3, l4, l5, l6, l7, l8, l9, l10, l11, l12, l30, l35, l36, l60, l99, l127, l150, l999, nI_eq, nI_leI, nI_ltI, nI_1, nI_add, pk_mul, obN, nI_clamp, lt', jn, Option.bind_some, inW, inF, inC, inK, fl4, cl4, wi3, T_X3_isFirstOrSecond, badE, fullE, noE, T_X3_refuseBad, T_X3_refuseFull, T_X3_refuseNo, reduceIte, Nat.reduceEqDiff, Nat.reduceLeDiff, Nat.reduceMul, Nat.reduceAdd, Nat.reduceSub, and_true, true_and, hn5, k10, lN_mul, ← Nat.pow_succ]
theorem calms87_n {N k c mo f m b : Nat} {W G : Nat → Nat} {w g kk : Nat → Int32} (K : Int32 → Int64 → Option (Int32 × Int64 × Int64 × (Nat → Int32))) (hN : 1000 ≤ N) (hf : f < 5) (hm8 : m ≤ 8) (hb : b < 256) (ek : kk f = nI k) (ew : ∀ i, i < 12 → w i = nI (W i)) (eg : ∀ i, i < 12 → g i = nI (G i)) (hW : ∀ i, i < 12 → W i ≤ 3) (hG : ∀ i, i < 12 → G i ≤ 3) (hk : k ≤ 5) (hm : mo < 2 ^ 20) (hc : c ≤ 10) :
    ∀ (d t n x P : Nat), t + d = m → d < n → x ≤ 35 → T_X4_calms_L87 N (nI f) (nI m) (nI c) (nI b) (nI mo) w g kk K n (nI x) (lN P) (nI t) = K (nI (fnN W G k d (b / 2 ^ t) (mo + t) x)) (lN (P * prN c d (b / 2 ^ t))) := by
  have t1 := nI_l (n := c) (by omega)
  have t2 := nI_l (n := 10 - c) (by omega)
  have t3 : nI 10 - nI c = nI (10 - c) := pk_sub (by omega)
  intro d
  induction d with
  | zero =>
    intro t n x P ht hn hx
    obtain ⟨n, rfl⟩ := Nat.exists_eq_succ_of_ne_zero (show n ≠ 0 by omega)
    obtain rfl : t = m := by omega
    rw [T_X4_calms_L87, fnN, prN]; simp (disch := omega) only [l0, l1, l2, l3, l4, l5, l6, l7, l8, l9, l10, l11, l12, l30, l35, l36, l60, l99, l127, l150, l999, nI_eq, nI_leI, nI_ltI, nI_1, nI_add, pk_mul, obN, nI_clamp, lt', jn, Option.bind_some, inW, inF, inC, inK, fl4, cl4, wi3, T_X3_isFirstOrSecond, badE, fullE, noE, T_X3_refuseBad, T_X3_refuseFull, T_X3_refuseNo, reduceIte, Nat.reduceEqDiff, Nat.reduceLeDiff, Nat.reduceMul, Nat.reduceAdd, Nat.reduceSub, and_true, true_and, Nat.le_refl, Nat.mul_one]
  | succ d ih =>
    intro t n x P ht hn hx
    obtain ⟨n, rfl⟩ := Nat.exists_eq_succ_of_ne_zero (show n ≠ 0 by omega)
    have hn5 : ¬ m ≤ t := by omega
    have ha := has_all b hb t (by omega)
    have e2 : b / 2 ^ t / 2 = b / 2 ^ (t + 1) := by rw [Nat.div_div_eq_div_mul, Nat.pow_succ]
    have x2 := driftsIn_n (N := N) (c := x) (m := mo + t) hN ew eg hW hG hk hx (by omega)
    have x3 := itN_le (c := x) (m := mo + t) hW hG hk hx
    rw [fnN_s, prN_s, e2, T_X4_calms_L87]
    by_cases h1 : b / 2 ^ t % 2 = 1
    · have ih := ih (t + 1) n x (P * c) (by omega) (by omega) hx
      rw [if_pos h1, if_pos h1, ← Nat.mul_assoc, show mo + t + 1 = mo + (t + 1) by omega, ← ih]
      rw [h1] at ha
      simp (disch := omega) only [l0, l1, l2, l3, l4, l5, l6, l7, l8, l9, l10, l11, l12, l30, l35, l36, l60, l99, l127, l150, l999, nI_eq, nI_leI, nI_ltI, nI_1, nI_add, pk_mul, obN, nI_clamp, lt', jn, Option.bind_some, inW, inF, inC, inK, fl4, cl4, wi3, T_X3_isFirstOrSecond, badE, fullE, noE, T_X3_refuseBad, T_X3_refuseFull, T_X3_refuseNo, reduceIte, Nat.reduceEqDiff, Nat.reduceLeDiff, Nat.reduceMul, Nat.reduceAdd, Nat.reduceSub, and_true, true_and, hn5, ha, decide_true, b2, t1, lN_mul]
    · have ih := ih (t + 1) n (itN W G k x (mo + t)) (P * (10 - c)) (by omega) (by omega) x3
      rw [if_neg h1, if_neg h1, ← Nat.mul_assoc, show mo + t + 1 = mo + (t + 1) by omega, ← ih]
      simp (disch := omega) only [l0, l1, l2, l3, l4, l5, l6, l7, l8, l9, l10, l11, l12, l30, l35, l36, l60, l99, l127, l150, l999, nI_eq, nI_leI, nI_ltI, nI_1, nI_add, pk_mul, obN, nI_clamp, lt', jn, Option.bind_some, inW, inF, inC, inK, fl4, cl4, wi3, T_X3_isFirstOrSecond, badE, fullE, noE, T_X3_refuseBad, T_X3_refuseFull, T_X3_refuseNo, reduceIte, Nat.reduceEqDiff, Nat.reduceLeDiff, Nat.reduceMul, Nat.reduceAdd, Nat.reduceSub, and_true, true_and, hn5, ha, h1, decide_false, b2, Bool.false_eq_true, t2, t3, lN_mul, ek, x2]
theorem fnN_le {W G : Nat → Nat} {k : Nat} (hit : ∀ x m, x ≤ 35 → itN W G k x m ≤ 35) : ∀ d b mo x, x ≤ 35 → fnN W G k d b mo x ≤ 35
  | 0, _, _, x, h => h
  | d + 1, b, mo, x, h => by
    rw [fnN_s]
    refine fnN_le hit d _ _ _ ?_
    split
    · exact h
    · exact hit x mo h
theorem calms65_n {N k c mo f m c0 : Nat} {W G : Nat → Nat} {w g kk cells : Nat → Int32} (K : Int64 → Option (Int32 × Int64 × Int64 × (Nat → Int32))) (hN : 1000 ≤ N) (hf : f < 5) (hm8 : m ≤ 8) (ek : kk f = nI k) (ec : cells f = nI c0) (h0 : c0 ≤ 35) (ew : ∀ i, i < 12 → w i = nI (W i)) (eg : ∀ i, i < 12 → g i = nI (G i)) (hW : ∀ i, i < 12 → W i ≤ 3) (hG : ∀ i, i < 12 → G i ≤ 3) (hk : k ≤ 5) (hm : mo < 2 ^ 20) (hc : c ≤ 10) :
    ∀ (d b n : Nat), b + d = 2 ^ m → d < n → T_X4_calms_L65 N (nI f) (nI m) (nI c) (nI mo) w g kk cells K n (lN (sumN (tmN W G k c m mo c0) b)) (nI b) = K (lN (sumN (tmN W G k c m mo c0) (2 ^ m))) := by
  have sm := shl_all m (by omega)
  have p8 : 2 ^ m ≤ 256 := Nat.pow_le_pow_right (n := 2) (by omega) hm8
  intro d
  induction d with
  | zero =>
    intro b n hb hn
    obtain ⟨n, rfl⟩ := Nat.exists_eq_succ_of_ne_zero (show n ≠ 0 by omega)
    have hb : b = 2 ^ m := by omega
    rw [← hb] at sm p8 ⊢
    rw [T_X4_calms_L65, sm]; simp (disch := omega) only [l0, l1, l2, l3, l4, l5, l6, l7, l8, l9, l10, l11, l12, l30, l35, l36, l60, l99, l127, l150, l999, nI_eq, nI_leI, nI_ltI, nI_1, nI_add, pk_mul, obN, nI_clamp, lt', jn, Option.bind_some, inW, inF, inC, inK, fl4, cl4, wi3, T_X3_isFirstOrSecond, badE, fullE, noE, T_X3_refuseBad, T_X3_refuseFull, T_X3_refuseNo, reduceIte, Nat.reduceEqDiff, Nat.reduceLeDiff, Nat.reduceMul, Nat.reduceAdd, Nat.reduceSub, and_true, true_and, Nat.le_refl]
  | succ d ih =>
    intro b n hb hn
    obtain ⟨n, rfl⟩ := Nat.exists_eq_succ_of_ne_zero (show n ≠ 0 by omega)
    have hn5 : ¬ 2 ^ m ≤ b := by omega
    have ih := ih (b + 1) n (by omega) (by omega)
    have fl := fnN_le (W := W) (G := G) (k := k) (fun x m hx => itN_le hW hG hk hx) m b mo c0 h0
    have io := isOut_n (c := fnN W G k m b mo c0) (by omega)
    rw [← ih, T_X4_calms_L65, sm, if_neg (by rw [nI_leI (by omega) (by omega)]; omega)]
    simp only [lt']
    rw [obN hf (by omega), nI_clamp (by omega), ec]
    have e := calms87_n (N := N) (b := b) (fun (x100 : Int32) (x101 : Int64) => (jn (fun (x106 : Int64) => (lt' (lN (sumN (tmN W G k c m mo c0) b) + x106) fun x113 => (lt' (nI b + 1) fun x115 => (T_X4_calms_L65 N (nI f) (nI m) (nI c) (nI mo) w g kk cells K n x113 x115)))) fun j107 => (if (T_X4_isOut x100) = 0 then (j107 0) else (j107 x101)))) hN hf hm8 (by omega) ek ew eg hW hG hk hm hc m 0 N c0 1 (by omega) (by omega) h0
    rw [Nat.pow_zero, Nat.div_one, Nat.add_zero, Nat.one_mul] at e
    refine Eq.trans e ?_
    rw [isOut_e, sumN, tmN]
    by_cases h1 : fnN W G k m b mo c0 % 6 = 5
    · rw [if_pos h1] at io
      simp (disch := omega) only [l0, l1, l2, l3, l4, l5, l6, l7, l8, l9, l10, l11, l12, l30, l35, l36, l60, l99, l127, l150, l999, nI_eq, nI_leI, nI_ltI, nI_1, nI_add, pk_mul, obN, nI_clamp, lt', jn, Option.bind_some, inW, inF, inC, inK, fl4, cl4, wi3, T_X3_isFirstOrSecond, badE, fullE, noE, T_X3_refuseBad, T_X3_refuseFull, T_X3_refuseNo, reduceIte, Nat.reduceEqDiff, Nat.reduceLeDiff, Nat.reduceMul, Nat.reduceAdd, Nat.reduceSub, and_true, true_and, io, h1, lN_add]
    · rw [if_neg h1] at io
      simp (disch := omega) only [l0, l1, l2, l3, l4, l5, l6, l7, l8, l9, l10, l11, l12, l30, l35, l36, l60, l99, l127, l150, l999, nI_eq, nI_leI, nI_ltI, nI_1, nI_add, pk_mul, obN, nI_clamp, lt', jn, Option.bind_some, inW, inF, inC, inK, fl4, cl4, wi3, T_X3_isFirstOrSecond, badE, fullE, noE, T_X3_refuseBad, T_X3_refuseFull, T_X3_refuseNo, reduceIte, Nat.reduceEqDiff, Nat.reduceLeDiff, Nat.reduceMul, Nat.reduceAdd, Nat.reduceSub, and_true, true_and, io, h1, lN_add, k0]
theorem divs_n {p q : Nat} (hp : p < 2 ^ 31) (hq : q < 2 ^ 31) : lN p - lN p / lN q * lN q = lN (p % q) := lN_rem hp hq
theorem cmp0 {q : Nat} (hq : q < 2 ^ 31) : lg_cmp (lN q) (lN 0) = nI 0 ↔ q = 0 := by
  rw [← l0, lg_cmp_eq, lN_eq hq (by omega)]
theorem gcd3_n {N : Nat} (K : Int64 → Option Int64) : ∀ (e p q n i : Nat), p < 2 ^ 31 → q < 2 ^ e → e ≤ 30 → i + 2 * e < 128 → 2 * e < n → T_X3_commonDivisor_L9 N K n (lN p) (lN q) (nI i) = K (lN (Nat.gcd p q)) := by
  intro e
  induction e with
  | zero =>
    intro p q n i hp hq he hi hn
    obtain ⟨n, rfl⟩ := Nat.exists_eq_succ_of_ne_zero (show n ≠ 0 by omega)
    obtain rfl : q = 0 := by have : (2 : Nat) ^ 0 = 1 := rfl; omega
    have hn5 : ¬ 128 ≤ i := by omega
    rw [T_X3_commonDivisor_L9, show (128 : Int32) = nI 128 from rfl, Nat.gcd_zero_right]
    simp (disch := omega) only [l0, l1, l2, l3, l4, l5, l6, l7, l8, l9, l10, l11, l12, l30, l35, l36, l60, l99, l127, l150, l999, nI_eq, nI_leI, nI_ltI, nI_1, nI_add, pk_mul, obN, nI_clamp, lt', jn, Option.bind_some, inW, inF, inC, inK, fl4, cl4, wi3, T_X3_isFirstOrSecond, badE, fullE, noE, T_X3_refuseBad, T_X3_refuseFull, T_X3_refuseNo, reduceIte, Nat.reduceEqDiff, Nat.reduceLeDiff, Nat.reduceMul, Nat.reduceAdd, Nat.reduceSub, and_true, true_and, hn5, k0, cmp0]
  | succ e ih =>
    intro p q n i hp hq he hi hn
    have p30 : 2 ^ (e + 1) ≤ 2 ^ 30 := Nat.pow_le_pow_right (by omega) he
    have pe : 2 ^ (e + 1) = 2 ^ e * 2 := Nat.pow_succ 2 e
    obtain ⟨n, rfl⟩ := Nat.exists_eq_succ_of_ne_zero (show n ≠ 0 by omega)
    obtain ⟨n, rfl⟩ := Nat.exists_eq_succ_of_ne_zero (show n ≠ 0 by omega)
    have hn5 : ¬ 128 ≤ i := by omega
    have hn6 : ¬ 128 ≤ i + 1 := by omega
    by_cases h0 : q = 0
    · subst h0
      rw [T_X3_commonDivisor_L9, show (128 : Int32) = nI 128 from rfl, Nat.gcd_zero_right]
      simp (disch := omega) only [l0, l1, l2, l3, l4, l5, l6, l7, l8, l9, l10, l11, l12, l30, l35, l36, l60, l99, l127, l150, l999, nI_eq, nI_leI, nI_ltI, nI_1, nI_add, pk_mul, obN, nI_clamp, lt', jn, Option.bind_some, inW, inF, inC, inK, fl4, cl4, wi3, T_X3_isFirstOrSecond, badE, fullE, noE, T_X3_refuseBad, T_X3_refuseFull, T_X3_refuseNo, reduceIte, Nat.reduceEqDiff, Nat.reduceLeDiff, Nat.reduceMul, Nat.reduceAdd, Nat.reduceSub, and_true, true_and, hn5, k0, cmp0]
    · have q0 : ¬ lN q = 0 := by rw [k0, lN_eq (by omega) (by omega)]; exact h0
      have c0 : ¬ lg_cmp (lN q) (lN 0) = nI 0 := by rw [cmp0 (by omega)]; exact h0
      have r1 := divs_n hp (show q < 2 ^ 31 by omega)
      have g1 : Nat.gcd p q = Nat.gcd q (p % q) := by rw [Nat.gcd_comm p q, Nat.gcd_rec q p, Nat.gcd_comm]
      have m1 := Nat.mod_lt p (show 0 < q by omega)
      rw [T_X3_commonDivisor_L9, show (128 : Int32) = nI 128 from rfl, g1]
      simp only [k0] at q0 ⊢
      simp (disch := omega) only [l0, l1, l2, l3, l4, l5, l6, l7, l8, l9, l10, l11, l12, l30, l35, l36, l60, l99, l127, l150, l999, nI_eq, nI_leI, nI_ltI, nI_1, nI_add, pk_mul, obN, nI_clamp, lt', jn, Option.bind_some, inW, inF, inC, inK, fl4, cl4, wi3, T_X3_isFirstOrSecond, badE, fullE, noE, T_X3_refuseBad, T_X3_refuseFull, T_X3_refuseNo, reduceIte, Nat.reduceEqDiff, Nat.reduceLeDiff, Nat.reduceMul, Nat.reduceAdd, Nat.reduceSub, and_true, true_and, hn5, c0, nz_ne q0, r1]
      by_cases h1 : p % q = 0
      · rw [T_X3_commonDivisor_L9, show (128 : Int32) = nI 128 from rfl, h1, Nat.gcd_zero_right]
        simp (disch := omega) only [l0, l1, l2, l3, l4, l5, l6, l7, l8, l9, l10, l11, l12, l30, l35, l36, l60, l99, l127, l150, l999, nI_eq, nI_leI, nI_ltI, nI_1, nI_add, pk_mul, obN, nI_clamp, lt', jn, Option.bind_some, inW, inF, inC, inK, fl4, cl4, wi3, T_X3_isFirstOrSecond, badE, fullE, noE, T_X3_refuseBad, T_X3_refuseFull, T_X3_refuseNo, reduceIte, Nat.reduceEqDiff, Nat.reduceLeDiff, Nat.reduceMul, Nat.reduceAdd, Nat.reduceSub, and_true, true_and, hn6, k0, cmp0]
      · have q1 : ¬ lN (p % q) = lN 0 := by rw [lN_eq (by omega) (by omega)]; exact h1
        have c1 : ¬ lg_cmp (lN (p % q)) (lN 0) = nI 0 := by rw [cmp0 (by omega)]; exact h1
        have r2 := divs_n (show q < 2 ^ 31 by omega) (show p % q < 2 ^ 31 by omega)
        have g2 : Nat.gcd q (p % q) = Nat.gcd (p % q) (q % (p % q)) := by rw [Nat.gcd_comm q, Nat.gcd_rec (p % q) q, Nat.gcd_comm]
        have m2 := Nat.mod_lt q (show 0 < p % q by omega)
        have m3 : q % (p % q) < 2 ^ e := by
          have hd := Nat.div_add_mod q (p % q)
          have hle : 1 ≤ q / (p % q) := Nat.div_pos (by omega) (by omega)
          have hmul := Nat.mul_le_mul_left (p % q) hle
          omega
        have ih := ih (p % q) (q % (p % q)) n (i + 1 + 1) (by omega) m3 (by omega) (by omega) (by omega)
        rw [g2, ← ih, T_X3_commonDivisor_L9, show (128 : Int32) = nI 128 from rfl]
        simp only [k0] at q1 ⊢
        simp (disch := omega) only [l0, l1, l2, l3, l4, l5, l6, l7, l8, l9, l10, l11, l12, l30, l35, l36, l60, l99, l127, l150, l999, nI_eq, nI_leI, nI_ltI, nI_1, nI_add, pk_mul, obN, nI_clamp, lt', jn, Option.bind_some, inW, inF, inC, inK, fl4, cl4, wi3, T_X3_isFirstOrSecond, badE, fullE, noE, T_X3_refuseBad, T_X3_refuseFull, T_X3_refuseNo, reduceIte, Nat.reduceEqDiff, Nat.reduceLeDiff, Nat.reduceMul, Nat.reduceAdd, Nat.reduceSub, and_true, true_and, hn6, c1, nz_ne q1, r2]
theorem gcd4_n {N : Nat} (K : Int64 → Option (Int64 × Int64)) : ∀ (e p q n : Nat), p < 2 ^ 31 → q < 2 ^ e → e ≤ 30 → 2 * e < n → T_X4_lay_L6 N K n (lN p) (lN q) = K (lN (Nat.gcd p q)) := by
  intro e
  induction e with
  | zero =>
    intro p q n hp hq he hn
    obtain ⟨n, rfl⟩ := Nat.exists_eq_succ_of_ne_zero (show n ≠ 0 by omega)
    obtain rfl : q = 0 := by have : (2 : Nat) ^ 0 = 1 := rfl; omega
    rw [T_X4_lay_L6, Nat.gcd_zero_right]
    simp (disch := omega) only [l0, l1, l2, l3, l4, l5, l6, l7, l8, l9, l10, l11, l12, l30, l35, l36, l60, l99, l127, l150, l999, nI_eq, nI_leI, nI_ltI, nI_1, nI_add, pk_mul, obN, nI_clamp, lt', jn, Option.bind_some, inW, inF, inC, inK, fl4, cl4, wi3, T_X3_isFirstOrSecond, badE, fullE, noE, T_X3_refuseBad, T_X3_refuseFull, T_X3_refuseNo, reduceIte, Nat.reduceEqDiff, Nat.reduceLeDiff, Nat.reduceMul, Nat.reduceAdd, Nat.reduceSub, and_true, true_and, k0, cmp0]
  | succ e ih =>
    intro p q n hp hq he hn
    have p30 : 2 ^ (e + 1) ≤ 2 ^ 30 := Nat.pow_le_pow_right (by omega) he
    have pe : 2 ^ (e + 1) = 2 ^ e * 2 := Nat.pow_succ 2 e
    obtain ⟨n, rfl⟩ := Nat.exists_eq_succ_of_ne_zero (show n ≠ 0 by omega)
    obtain ⟨n, rfl⟩ := Nat.exists_eq_succ_of_ne_zero (show n ≠ 0 by omega)
    by_cases h0 : q = 0
    · subst h0
      rw [T_X4_lay_L6, Nat.gcd_zero_right]
      simp (disch := omega) only [l0, l1, l2, l3, l4, l5, l6, l7, l8, l9, l10, l11, l12, l30, l35, l36, l60, l99, l127, l150, l999, nI_eq, nI_leI, nI_ltI, nI_1, nI_add, pk_mul, obN, nI_clamp, lt', jn, Option.bind_some, inW, inF, inC, inK, fl4, cl4, wi3, T_X3_isFirstOrSecond, badE, fullE, noE, T_X3_refuseBad, T_X3_refuseFull, T_X3_refuseNo, reduceIte, Nat.reduceEqDiff, Nat.reduceLeDiff, Nat.reduceMul, Nat.reduceAdd, Nat.reduceSub, and_true, true_and, k0, cmp0]
    · have q0 : ¬ lN q = 0 := by rw [k0, lN_eq (by omega) (by omega)]; exact h0
      have c0 : ¬ lg_cmp (lN q) (lN 0) = nI 0 := by rw [cmp0 (by omega)]; exact h0
      have r1 := divs_n hp (show q < 2 ^ 31 by omega)
      have g1 : Nat.gcd p q = Nat.gcd q (p % q) := by rw [Nat.gcd_comm p q, Nat.gcd_rec q p, Nat.gcd_comm]
      have m1 := Nat.mod_lt p (show 0 < q by omega)
      rw [T_X4_lay_L6, g1]
      simp only [k0] at q0 ⊢
      simp (disch := omega) only [l0, l1, l2, l3, l4, l5, l6, l7, l8, l9, l10, l11, l12, l30, l35, l36, l60, l99, l127, l150, l999, nI_eq, nI_leI, nI_ltI, nI_1, nI_add, pk_mul, obN, nI_clamp, lt', jn, Option.bind_some, inW, inF, inC, inK, fl4, cl4, wi3, T_X3_isFirstOrSecond, badE, fullE, noE, T_X3_refuseBad, T_X3_refuseFull, T_X3_refuseNo, reduceIte, Nat.reduceEqDiff, Nat.reduceLeDiff, Nat.reduceMul, Nat.reduceAdd, Nat.reduceSub, and_true, true_and, c0, nz_ne q0, r1]
      by_cases h1 : p % q = 0
      · rw [T_X4_lay_L6, h1, Nat.gcd_zero_right]
        simp (disch := omega) only [l0, l1, l2, l3, l4, l5, l6, l7, l8, l9, l10, l11, l12, l30, l35, l36, l60, l99, l127, l150, l999, nI_eq, nI_leI, nI_ltI, nI_1, nI_add, pk_mul, obN, nI_clamp, lt', jn, Option.bind_some, inW, inF, inC, inK, fl4, cl4, wi3, T_X3_isFirstOrSecond, badE, fullE, noE, T_X3_refuseBad, T_X3_refuseFull, T_X3_refuseNo, reduceIte, Nat.reduceEqDiff, Nat.reduceLeDiff, Nat.reduceMul, Nat.reduceAdd, Nat.reduceSub, and_true, true_and, k0, cmp0]
      · have q1 : ¬ lN (p % q) = lN 0 := by rw [lN_eq (by omega) (by omega)]; exact h1
        have c1 : ¬ lg_cmp (lN (p % q)) (lN 0) = nI 0 := by rw [cmp0 (by omega)]; exact h1
        have r2 := divs_n (show q < 2 ^ 31 by omega) (show p % q < 2 ^ 31 by omega)
        have g2 : Nat.gcd q (p % q) = Nat.gcd (p % q) (q % (p % q)) := by rw [Nat.gcd_comm q, Nat.gcd_rec (p % q) q, Nat.gcd_comm]
        have m2 := Nat.mod_lt q (show 0 < p % q by omega)
        have m3 : q % (p % q) < 2 ^ e := by
          have hd := Nat.div_add_mod q (p % q)
          have hle : 1 ≤ q / (p % q) := Nat.div_pos (by omega) (by omega)
          have hmul := Nat.mul_le_mul_left (p % q) hle
          omega
        have ih := ih (p % q) (q % (p % q)) n (by omega) m3 (by omega) (by omega)
        rw [g2, ← ih, T_X4_lay_L6]
        simp only [k0] at q1 ⊢
        simp (disch := omega) only [l0, l1, l2, l3, l4, l5, l6, l7, l8, l9, l10, l11, l12, l30, l35, l36, l60, l99, l127, l150, l999, nI_eq, nI_leI, nI_ltI, nI_1, nI_add, pk_mul, obN, nI_clamp, lt', jn, Option.bind_some, inW, inF, inC, inK, fl4, cl4, wi3, T_X3_isFirstOrSecond, badE, fullE, noE, T_X3_refuseBad, T_X3_refuseFull, T_X3_refuseNo, reduceIte, Nat.reduceEqDiff, Nat.reduceLeDiff, Nat.reduceMul, Nat.reduceAdd, Nat.reduceSub, and_true, true_and, c1, nz_ne q1, r2]
/-- the fraction on both sides -/
theorem frac_n {N p q : Nat} (a b : Int64) (hN : 1000 ≤ N) (hp : p < 2 ^ 30) (hq : q < 2 ^ 30) (q0 : 0 < q) : ∃ r : Int64 × Int64, T_X3_setFraction N a b (lN p) (lN q) = some r ∧ T_X4_lay N a b (lN p) (lN q) = some r := by
  have hg : 0 < Nat.gcd p q := Nat.gcd_pos_of_pos_right p q0
  have hl : Nat.gcd p q ≤ q := Nat.le_of_dvd q0 (Nat.gcd_dvd_right p q)
  have g0 : ¬ lN (Nat.gcd p q) = 0 := by rw [k0, lN_eq (by omega) (by omega)]; omega
  have gc0 : ¬ lg_cmp (lN (Nat.gcd p q)) 0 ≤ 0 := by rw [lg_cmp_le, k0, lN_le (by omega) (by omega)]; omega
  have e3 := gcd3_n (N := N) (fun x20 => some x20) 30 p q N 0 (by omega) hq (by omega) (by omega) (by omega)
  have e4 := gcd4_n (N := N) (fun (x14 : Int64) => (nz x14 (nz x14 (some (lN p / x14, lN q / x14))))) 30 p q N (by omega) hq (by omega) (by omega)
  refine ⟨(lN p / lN (Nat.gcd p q), lN q / lN (Nat.gcd p q)), ?_, ?_⟩
  · rw [T_X3_setFraction, T_X3_commonDivisor]
    rw [show (0 : Int32) = nI 0 from rfl] at *
    rw [e3, Option.bind_some, if_neg gc0, nz_ne g0, nz_ne g0]
  · rw [T_X4_lay, e4]
    rw [nz_ne g0, nz_ne g0]
set_option maxHeartbeats 4000000 in
theorem op_calms (N : Nat) (hN : 1000 ≤ N) (x : FIV) (m : MV) (p1 p2 p3 : Int32) (h : REL x m) : ∃ (R : Int32 × Int64 × Int64 × Int32 × (Nat → Int64) × (Nat → Int64)) (RM : Int32 × Int64 × Int64 × (Nat → Int32)), T_X3_calms N (x_above x) (x_below x) (x_bads x) (xn_month x) (xn_floes x) (xn_ways x) (xn_strengths x) (xn_kinds x) (xn_cells x) (x_odds x) (x_nextOdds x) p1 p2 p3 = some R ∧ T_X4_calms N (m_many m) (m_now m) (m_above m) (m_below m) (m_refused m) (m_ways m) (m_strengths m) (m_kinds m) (m_cells m) p1 p2 p3 = some RM ∧ R.1 = RM.1 ∧ REL ((xn_month x), (xn_ways x), (xn_strengths x), (xn_floes x), (xn_kinds x), (xn_cells x), (xn_foods x), (xn_founds x), (xn_foundRows x), (xn_notes x), (xn_noteRows x), (xn_undos x), (xn_undoRows x), (xs_month x), (xs_ways x), (xs_strengths x), (xs_floes x), (xs_kinds x), (xs_cells x), (xs_foods x), (xs_founds x), (xs_foundRows x), (xs_notes x), (xs_noteRows x), (xs_undos x), (xs_undoRows x), (xt_bytes x), (xt_length x), (xt_place x), (xt_fault x), R.2.2.2.2.1, R.2.2.2.2.2, (x_gains x), R.2.1, R.2.2.1, R.2.2.2.1, (x_nos x), (x_fulls x), (x_img0 x), (x_img1 x)) (RM.2.2.2, (m_many m), (m_now m), (m_findMany m), (m_noteMany m), (m_ways m), (m_strengths m), (m_kinds m), (m_cells m), (m_food m), (m_findKind m), (m_findMonth m), (m_findCell m), (m_noted m), (m_text m), (m_typed m), (m_readAt m), (m_readMonth m), (m_readMany m), (m_readFloe m), (m_readWind m), (m_readNumber m), (m_ahead m), (m_undoMany m), (m_aside m), RM.2.1, RM.2.2.1, (m_images m), (m_isKept m), (m_h0 m)) := by
  obtain ⟨⟨S, hok, hc, hm⟩, htx, hab, hrf, hg0, hg1⟩ := h
  have q := hok
  have q1 := hc
  have q2 := hm
  obtain ⟨o0, o1, o2, o3, o4, o5, o6, o7, o8, o9, o10, o11, o12⟩ := q
  obtain ⟨⟨c0, c1, c2, c3, c4⟩, c5, c6, c7, c8, c9, c10, c11, c12⟩ := q1
  obtain ⟨⟨m0, m1, m2, m3, m4⟩, m5, m6, m7, m8, m9, m10, m11, m12⟩ := q2
  rcases wif p1 (S 1 0) (by omega) with h0 | ⟨f, hf, rfl, h1⟩
  · refine opI (by rw [T_X3_calms]; simp (disch := omega) only [l0, l1, l2, l3, l4, l5, l6, l7, l8, l9, l10, l11, l12, l30, l35, l36, l60, l99, l127, l150, l999, nI_eq, nI_leI, nI_ltI, nI_1, nI_add, pk_mul, obN, nI_clamp, lt', jn, Option.bind_some, inW, inF, inC, inK, fl4, cl4, wi3, T_X3_isFirstOrSecond, badE, fullE, noE, T_X3_refuseBad, T_X3_refuseFull, T_X3_refuseNo, reduceIte, Nat.reduceEqDiff, Nat.reduceLeDiff, Nat.reduceMul, Nat.reduceAdd, Nat.reduceSub, and_true, true_and, c1, m1, h0]; rfl) (by rw [T_X4_calms]; simp (disch := omega) only [l0, l1, l2, l3, l4, l5, l6, l7, l8, l9, l10, l11, l12, l30, l35, l36, l60, l99, l127, l150, l999, nI_eq, nI_leI, nI_ltI, nI_1, nI_add, pk_mul, obN, nI_clamp, lt', jn, Option.bind_some, inW, inF, inC, inK, fl4, cl4, wi3, T_X3_isFirstOrSecond, badE, fullE, noE, T_X3_refuseBad, T_X3_refuseFull, T_X3_refuseNo, reduceIte, Nat.reduceEqDiff, Nat.reduceLeDiff, Nat.reduceMul, Nat.reduceAdd, Nat.reduceSub, and_true, true_and, c1, m1, h0]; rfl) ?_; exact ⟨rfl, ⟨S, hok, hc, hm⟩, htx, hab, rf_bad hrf, hg0, hg1⟩
  rcases wi p2 8 (by omega) with h0 | ⟨e, he, rfl, h2⟩
  · refine opI (by rw [T_X3_calms]; simp (disch := omega) only [l0, l1, l2, l3, l4, l5, l6, l7, l8, l9, l10, l11, l12, l30, l35, l36, l60, l99, l127, l150, l999, nI_eq, nI_leI, nI_ltI, nI_1, nI_add, pk_mul, obN, nI_clamp, lt', jn, Option.bind_some, inW, inF, inC, inK, fl4, cl4, wi3, T_X3_isFirstOrSecond, badE, fullE, noE, T_X3_refuseBad, T_X3_refuseFull, T_X3_refuseNo, reduceIte, Nat.reduceEqDiff, Nat.reduceLeDiff, Nat.reduceMul, Nat.reduceAdd, Nat.reduceSub, and_true, true_and, c1, m1, h0, h1]; rfl) (by rw [T_X4_calms]; simp (disch := omega) only [l0, l1, l2, l3, l4, l5, l6, l7, l8, l9, l10, l11, l12, l30, l35, l36, l60, l99, l127, l150, l999, nI_eq, nI_leI, nI_ltI, nI_1, nI_add, pk_mul, obN, nI_clamp, lt', jn, Option.bind_some, inW, inF, inC, inK, fl4, cl4, wi3, T_X3_isFirstOrSecond, badE, fullE, noE, T_X3_refuseBad, T_X3_refuseFull, T_X3_refuseNo, reduceIte, Nat.reduceEqDiff, Nat.reduceLeDiff, Nat.reduceMul, Nat.reduceAdd, Nat.reduceSub, and_true, true_and, c1, m1, h0, h1]; rfl) ?_; exact ⟨rfl, ⟨S, hok, hc, hm⟩, htx, hab, rf_bad hrf, hg0, hg1⟩
  rcases wi p3 10 (by omega) with h0 | ⟨c, hcc, rfl, h3⟩
  · refine opI (by rw [T_X3_calms]; simp (disch := omega) only [l0, l1, l2, l3, l4, l5, l6, l7, l8, l9, l10, l11, l12, l30, l35, l36, l60, l99, l127, l150, l999, nI_eq, nI_leI, nI_ltI, nI_1, nI_add, pk_mul, obN, nI_clamp, lt', jn, Option.bind_some, inW, inF, inC, inK, fl4, cl4, wi3, T_X3_isFirstOrSecond, badE, fullE, noE, T_X3_refuseBad, T_X3_refuseFull, T_X3_refuseNo, reduceIte, Nat.reduceEqDiff, Nat.reduceLeDiff, Nat.reduceMul, Nat.reduceAdd, Nat.reduceSub, and_true, true_and, c1, m1, h0, h1, h2]; rfl) (by rw [T_X4_calms]; simp (disch := omega) only [l0, l1, l2, l3, l4, l5, l6, l7, l8, l9, l10, l11, l12, l30, l35, l36, l60, l99, l127, l150, l999, nI_eq, nI_leI, nI_ltI, nI_1, nI_add, pk_mul, obN, nI_clamp, lt', jn, Option.bind_some, inW, inF, inC, inK, fl4, cl4, wi3, T_X3_isFirstOrSecond, badE, fullE, noE, T_X3_refuseBad, T_X3_refuseFull, T_X3_refuseNo, reduceIte, Nat.reduceEqDiff, Nat.reduceLeDiff, Nat.reduceMul, Nat.reduceAdd, Nat.reduceSub, and_true, true_and, c1, m1, h0, h1, h2]; rfl) ?_; exact ⟨rfl, ⟨S, hok, hc, hm⟩, htx, hab, rf_bad hrf, hg0, hg1⟩
  have hf5 : f < 5 := by omega
  have a7 := c7 f hf
  have a8 := c8 f hf
  have b7 := m7 f hf
  have b8 := m8 f hf
  have j7 := o7 f hf
  have j8 := o8 f hf
  have hit : ∀ x m, x ≤ 35 → itN (S 5) (S 6) (S 7 f) x m ≤ 35 := fun x m hx => itN_le o5 o6 j7 hx
  obtain ⟨g, g1, g2⟩ := fillL_n hN (x_odds x)
  have z0 : ∀ q, q < 36 → vp_updL g (S 8 f) 1 q = lN (odN (S 5) (S 6) (S 7 f) c (S 0 0) (S 8 f) 0 q) := by
    intro q hq
    by_cases e : q = S 8 f
    · subst e; rw [odN, upn_s, pk_uLs]; rfl
    · rw [odN, upn_n e, pk_uLn e]; exact g2 q hq
  have tot : sumN (fun i => odN (S 5) (S 6) (S 7 f) c (S 0 0) (S 8 f) e (6 * i + 5)) 6 = sumN (tmN (S 5) (S 6) (S 7 f) c e (S 0 0) (S 8 f)) (2 ^ e) := by
    rw [tm_sum, ← od_out]
    have := od_sum (c := c) (mo := S 0 0) hit j8 e 0
    rw [Nat.add_zero] at this
    rw [← this]
    rfl
  have tle := wN_le (W := S 5) (G := S 6) (k := S 7 f) hcc e (S 0 0) (S 8 f)
  rw [← tm_sum] at tle
  have p8 : 10 ^ e ≤ 10 ^ 8 := Nat.pow_le_pow_right (n := 10) (by omega) he
  have p0 : 0 < 10 ^ e := Nat.pow_pos (by omega)
  obtain ⟨r, f1, f2⟩ := frac_n (N := N) (x_above x) (x_below x) hN (show sumN (tmN (S 5) (S 6) (S 7 f) c e (S 0 0) (S 8 f)) (2 ^ e) < 2 ^ 30 by omega) (show 10 ^ e < 2 ^ 30 by omega) p0
  rw [hab.1, hab.2] at f2
  obtain ⟨za, zb, s1, s2⟩ := calms62_n (c0 := S 8 f) (fun (x58 : Int64) (z59 : Nat → Int64) (z60 : Nat → Int64) => (T_X3_calms_L112 N z59 (fun (x82 : Int64) => (Option.bind (T_X3_setFraction N (x_above x) (x_below x) x82 x58) fun u86 => (some (1, u86.1, u86.2, x_bads x, z59, z60)))) N 0 5)) hN hf5 he a7 c5 c6 o5 o6 j7 (show S 0 0 < 2 ^ 20 by omega) hcc e 0 N (vp_updL g (S 8 f) 1) (x_nextOdds x) (by omega) (by omega) z0
  have s3 := calms112_n (N := N) (fun (x82 : Int64) => (Option.bind (T_X3_setFraction N (x_above x) (x_below x) x82 (lN (10 ^ e))) fun u86 => (some (1, u86.1, u86.2, x_bads x, za, zb)))) s2 6 0 N rfl (by omega)
  have t3 := calms42_n (N := N) (fun (x37 : Int64) => (T_X4_calms_L65 N (nI f) (nI e) (nI c) (nI (S 0 0)) (m_ways m) (m_strengths m) (m_kinds m) (m_cells m) (fun (x120 : Int64) => (Option.bind (T_X4_lay N (m_above m) (m_below m) x120 x37) fun u124 => (some (1, u124.1, u124.2, m_refused m)))) N 0 0)) he e 0 N (by omega) (by omega)
  have t4 := calms65_n (N := N) (c0 := S 8 f) (fun (x120 : Int64) => (Option.bind (T_X4_lay N (m_above m) (m_below m) x120 (lN (10 ^ e))) fun u124 => (some (1, u124.1, u124.2, m_refused m)))) hN hf5 he b7 b8 j8 m5 m6 o5 o6 j7 (show S 0 0 < 2 ^ 20 by omega) hcc (2 ^ e) 0 N (by omega) (by have := Nat.pow_le_pow_right (n := 2) (by omega) he; omega)
  refine opI (a := (1, r.1, r.2, x_bads x, za, zb)) (b := (1, r.1, r.2, m_refused m)) ?_ ?_ ?_
  · rw [T_X3_calms]; simp (disch := omega) only [l0, l1, l2, l3, l4, l5, l6, l7, l8, l9, l10, l11, l12, l30, l35, l36, l60, l99, l127, l150, l999, nI_eq, nI_leI, nI_ltI, nI_1, nI_add, pk_mul, obN, nI_clamp, lt', jn, Option.bind_some, inW, inF, inC, inK, fl4, cl4, wi3, T_X3_isFirstOrSecond, badE, fullE, noE, T_X3_refuseBad, T_X3_refuseFull, T_X3_refuseNo, reduceIte, Nat.reduceEqDiff, Nat.reduceLeDiff, Nat.reduceMul, Nat.reduceAdd, Nat.reduceSub, and_true, true_and, c0, c1, h1, h2, h3, g1, a8]
    refine Eq.trans s1 ?_
    refine Eq.trans s3 ?_
    (try simp only)
    rw [tot, f1]; rfl
  · rw [T_X4_calms]; simp (disch := omega) only [l0, l1, l2, l3, l4, l5, l6, l7, l8, l9, l10, l11, l12, l30, l35, l36, l60, l99, l127, l150, l999, nI_eq, nI_leI, nI_ltI, nI_1, nI_add, pk_mul, obN, nI_clamp, lt', jn, Option.bind_some, inW, inF, inC, inK, fl4, cl4, wi3, T_X3_isFirstOrSecond, badE, fullE, noE, T_X3_refuseBad, T_X3_refuseFull, T_X3_refuseNo, reduceIte, Nat.reduceEqDiff, Nat.reduceLeDiff, Nat.reduceMul, Nat.reduceAdd, Nat.reduceSub, and_true, true_and, m0, m1, h1, h2, h3]
    refine Eq.trans t3 ?_
    refine Eq.trans t4 ?_
    (try simp only)
    rw [f2]; rfl
  · exact ⟨rfl, ⟨S, hok, hc, hm⟩, htx, ⟨rfl, rfl⟩, hrf, hg0, hg1⟩
