/-! calms: the class -/
theorem cp0L {f g : Nat → Int64} {n j : Nat} (h : j < n) : va_cpy f g 0 0 n j = f j := by
  rw [pk_cpy_in (by omega) (by omega), Nat.sub_zero, Nat.zero_add]
theorem fillL_n {N : Nat} (hN : 1000 ≤ N) (f : Nat → Int64) : ∃ g, T_J7_fill_d0a16 N 36 f 0 = some g ∧ ∀ i, i < 36 → g i = lN 0 := by
  have := lp (fun n (s : Int32 × (Nat → Int64)) => T_J7_fill_d0a16_L6 N 0 (nI 36) 36 n s.1 s.2) (fun i s => s.1 = nI i ∧ ∀ j, j < i → s.2 j = lN 0) (fun r => ∀ i, i < 36 → r i = lN 0) 36
    (fun i s n hi ⟨h1, h2⟩ => by
      obtain ⟨s1, s2⟩ := s
      simp only at h1 h2
      subst h1
      refine .inl ⟨(nI i + 1, vp_updL s2 (nI i).toNatClampNeg 0), ⟨nI_1 i, ?_⟩, ?_⟩
      · intro j hj
        rw [nI_clamp (by omega)]
        by_cases e : j = i
        · subst e; exact pk_uLs
        · simp only; rw [pk_uLn e]; exact h2 j (by omega)
      · rw [T_J7_fill_d0a16_L6, if_neg (by rw [nI_leI (by omega) (by omega)]; omega), obN (by omega) (by omega)]; rfl)
    (fun s n ⟨h1, h2⟩ => ⟨s.2, by rw [T_J7_fill_d0a16_L6, h1, if_pos (by rw [nI_leI (by omega) (by omega)]; omega)], h2⟩)
    36 0 (0, f) N rfl ⟨rfl, fun j hj => absurd hj (Nat.not_lt_zero j)⟩ (by omega)
  exact this
theorem st0 : ∀ k, k < 6 → ∀ c, c < 6 → stN k 0 c = 0 := by decide +kernel
theorem calm_n {k x mo w : Nat} (hk : k ≤ 5) : nxN k x mo w 0 = x := by
  rw [nxN, st0 k (by omega) (x % 6) (by omega)]; rfl
theorem uL {z : Nat → Int64} {d : Nat → Nat} {q0 a : Nat} (h : ∀ q, q < 36 → z q = lN (d q)) (hq : q0 < 36) (q : Nat) (hl : q < 36) : vp_updL z q0 (z q0 + lN a) q = lN (upn d q0 (d q0 + a) q) := by
  by_cases e : q = q0
  · subst e; rw [upn_s, pk_uLs, h q hl, lN_add]
  · rw [upn_n e, pk_uLn e]; exact h q hl
theorem driftOdds_n {N k c mo : Nat} {W G : Nat → Nat} {w g : Nat → Int32} {odds next : Nat → Int64} {o : Nat → Nat} (hN : 1000 ≤ N) (ew : ∀ i, i < 12 → w i = nI (W i)) (eg : ∀ i, i < 12 → g i = nI (G i)) (hW : ∀ i, i < 12 → W i ≤ 3) (hG : ∀ i, i < 12 → G i ≤ 3) (hk : k ≤ 5) (hm : mo < 2 ^ 30) (hc : c ≤ 10) (ho : ∀ q, q < 36 → odds q = lN (o q)) :
    ∃ a b, T_X3_driftOdds N w g odds next (nI k) (nI mo) (nI c) = some (a, b) ∧ ∀ q, q < 36 → a q = lN (dfN o (fun x => itN W G k x mo) c 36 q) := by
  obtain ⟨f, e1, d1⟩ := fillL_n hN next
  have h12 : mo % 12 < 12 := by omega
  have gw := ew _ h12
  have hw := hW _ h12
  have q1 := pk_div (a := mo) (d := 12) (by omega) (by omega) (by omega)
  have q2 := pk_rem (a := mo) (d := 12) (by omega) (by omega) (by omega)
  rw [q1, pk_mul] at q2
  have t1 := nI_l (n := c) (by omega)
  have t2 := nI_l (n := 10 - c) (by omega)
  have t3 : nI 10 - nI c = nI (10 - c) := pk_sub (by omega)
  have key : ∀ (d x n : Nat) (z : Nat → Int64), x + d = 36 → d < n → (∀ q, q < 36 → z q = lN (dfN o (fun x => itN W G k x mo) c x q)) →
      ∃ a b, T_X3_driftOdds_L25 N (nI k) (nI mo) (nI c) (w (mo % 12)) w g odds (fun (z43 : Nat → Int64) => (gc 0 0 36 36 36 (some (va_cpy z43 odds (0 : Int32).toNatClampNeg (0 : Int32).toNatClampNeg (36 : Int32).toNatClampNeg, z43)))) n (nI x) z = some (a, b) ∧ ∀ q, q < 36 → a q = lN (dfN o (fun x => itN W G k x mo) c 36 q) := by
    intro d
    induction d with
    | zero =>
      intro x n z hx hn hz
      obtain ⟨n, rfl⟩ := Nat.exists_eq_succ_of_ne_zero (show n ≠ 0 by omega)
      obtain rfl : x = 36 := by omega
      refine ⟨va_cpy z odds 0 0 36, z, ?_, fun q hq => (cp0L hq).trans (hz q hq)⟩
      rw [T_X3_driftOdds_L25]; simp (disch := omega) only [l0, l1, l2, l3, l4, l5, l6, l7, l8, l9, l10, l11, l12, l30, l35, l36, l60, l99, l127, l150, l999, nI_eq, nI_leI, nI_ltI, nI_1, nI_add, pk_mul, obN, nI_clamp, lt', jn, Option.bind_some, inW, inF, inC, inK, fl4, cl4, wi3, T_X3_isFirstOrSecond, badE, fullE, noE, T_X3_refuseBad, T_X3_refuseFull, T_X3_refuseNo, reduceIte, Nat.reduceEqDiff, Nat.reduceLeDiff, Nat.reduceMul, Nat.reduceAdd, Nat.reduceSub, and_true, true_and, Nat.le_refl, gcN]
    | succ d ih =>
      intro x n z hx hn hz
      obtain ⟨n, rfl⟩ := Nat.exists_eq_succ_of_ne_zero (show n ≠ 0 by omega)
      have hn5 : ¬ 36 ≤ x := by omega
      have x1 := cellBy_n (k := k) (c := x) (m := mo) (w := W (mo % 12)) (s := 0) hk (by omega) (by omega) hw (by omega)
      rw [calm_n hk] at x1
      have x2 := nextCell_n (N := N) (c := x) ew eg hW hG hk (by omega) (show mo < 2 ^ 31 by omega)
      have x3 := itN_le (c := x) (m := mo) hW hG hk (by omega)
      obtain ⟨a, b, r1, r2⟩ := ih (x + 1) n (vp_updL (vp_updL z x (z x + lN (o x * c))) (itN W G k x mo) ((vp_updL z x (z x + lN (o x * c))) (itN W G k x mo) + lN (o x * (10 - c)))) (by omega) (by omega) (fun q hq => uL (fun q hq => uL hz (by omega) q hq) (by omega) q hq)
      refine ⟨a, b, ?_, r2⟩
      have ox := ho x (by omega)
      rw [T_X3_driftOdds_L25]
      simp (disch := omega) only [l0, l1, l2, l3, l4, l5, l6, l7, l8, l9, l10, l11, l12, l30, l35, l36, l60, l99, l127, l150, l999, nI_eq, nI_leI, nI_ltI, nI_1, nI_add, pk_mul, obN, nI_clamp, lt', jn, Option.bind_some, inW, inF, inC, inK, fl4, cl4, wi3, T_X3_isFirstOrSecond, badE, fullE, noE, T_X3_refuseBad, T_X3_refuseFull, T_X3_refuseNo, reduceIte, Nat.reduceEqDiff, Nat.reduceLeDiff, Nat.reduceMul, Nat.reduceAdd, Nat.reduceSub, and_true, true_and, hn5, gw, x1, x2, t1, t2, t3, ox, lN_mul]
      rw [gw] at r1
      exact r1
  obtain ⟨a, b, r1, r2⟩ := key 36 0 N f rfl (by omega) (fun q hq => d1 q hq)
  refine ⟨a, b, ?_, r2⟩
  rw [T_X3_driftOdds, e1]
  rw [gw] at r1
  simp (disch := omega) only [l0, l1, l2, l3, l4, l5, l6, l7, l8, l9, l10, l11, l12, l30, l35, l36, l60, l99, l127, l150, l999, nI_eq, nI_leI, nI_ltI, nI_1, nI_add, pk_mul, obN, nI_clamp, lt', jn, Option.bind_some, inW, inF, inC, inK, fl4, cl4, wi3, T_X3_isFirstOrSecond, badE, fullE, noE, T_X3_refuseBad, T_X3_refuseFull, T_X3_refuseNo, reduceIte, Nat.reduceEqDiff, Nat.reduceLeDiff, Nat.reduceMul, Nat.reduceAdd, Nat.reduceSub, and_true, true_and, q1, q2, gw]
  exact r1
theorem calms62_n {N k c mo c0 f m : Nat} {W G : Nat → Nat} {w g kk : Nat → Int32} (K : Int64 → (Nat → Int64) → (Nat → Int64) → Option (Int32 × Int64 × Int64 × Int32 × (Nat → Int64) × (Nat → Int64))) (hN : 1000 ≤ N) (hf : f < 5) (hm8 : m ≤ 8) (ek : kk f = nI k) (ew : ∀ i, i < 12 → w i = nI (W i)) (eg : ∀ i, i < 12 → g i = nI (G i)) (hW : ∀ i, i < 12 → W i ≤ 3) (hG : ∀ i, i < 12 → G i ≤ 3) (hk : k ≤ 5) (hm : mo < 2 ^ 20) (hc : c ≤ 10) :
    ∀ (d t n : Nat) (z y : Nat → Int64), t + d = m → d < n → (∀ q, q < 36 → z q = lN (odN W G k c mo c0 t q)) → ∃ a b, T_X3_calms_L62 N (nI f) (nI m) (nI c) (nI mo) w g kk K n (lN (10 ^ t)) (nI t) z y = K (lN (10 ^ m)) a b ∧ ∀ q, q < 36 → a q = lN (odN W G k c mo c0 m q) := by
  intro d
  induction d with
  | zero =>
    intro t n z y ht hn hz
    obtain ⟨n, rfl⟩ := Nat.exists_eq_succ_of_ne_zero (show n ≠ 0 by omega)
    obtain rfl : t = m := by omega
    refine ⟨z, y, ?_, hz⟩
    rw [T_X3_calms_L62]; simp (disch := omega) only [l0, l1, l2, l3, l4, l5, l6, l7, l8, l9, l10, l11, l12, l30, l35, l36, l60, l99, l127, l150, l999, nI_eq, nI_leI, nI_ltI, nI_1, nI_add, pk_mul, obN, nI_clamp, lt', jn, Option.bind_some, inW, inF, inC, inK, fl4, cl4, wi3, T_X3_isFirstOrSecond, badE, fullE, noE, T_X3_refuseBad, T_X3_refuseFull, T_X3_refuseNo, reduceIte, Nat.reduceEqDiff, Nat.reduceLeDiff, Nat.reduceMul, Nat.reduceAdd, Nat.reduceSub, and_true, true_and, Nat.le_refl]
  | succ d ih =>
    intro t n z y ht hn hz
    obtain ⟨n, rfl⟩ := Nat.exists_eq_succ_of_ne_zero (show n ≠ 0 by omega)
    have hn5 : ¬ m ≤ t := by omega
    obtain ⟨a, b, r1, r2⟩ := driftOdds_n (next := y) (mo := mo + t) hN ew eg hW hG hk (by omega) hc hz
    obtain ⟨a', b', s1, s2⟩ := ih (t + 1) n a b (by omega) (by omega) r2
    refine ⟨a', b', ?_, s2⟩
    rw [T_X3_calms_L62]
    simp (disch := omega) only [l0, l1, l2, l3, l4, l5, l6, l7, l8, l9, l10, l11, l12, l30, l35, l36, l60, l99, l127, l150, l999, nI_eq, nI_leI, nI_ltI, nI_1, nI_add, pk_mul, obN, nI_clamp, lt', jn, Option.bind_some, inW, inF, inC, inK, fl4, cl4, wi3, T_X3_isFirstOrSecond, badE, fullE, noE, T_X3_refuseBad, T_X3_refuseFull, T_X3_refuseNo, reduceIte, Nat.reduceEqDiff, Nat.reduceLeDiff, Nat.reduceMul, Nat.reduceAdd, Nat.reduceSub, and_true, true_and, hn5, ek, r1, k10, lN_mul, ← Nat.pow_succ]
    exact s1
theorem calms112_n {N : Nat} {o : Nat → Nat} {z : Nat → Int64} (K : Int64 → Option (Int32 × Int64 × Int64 × Int32 × (Nat → Int64) × (Nat → Int64))) (hz : ∀ q, q < 36 → z q = lN (o q)) :
    ∀ (d j n : Nat), j + d = 6 → d < n → T_X3_calms_L112 N z K n (lN (sumN (fun i => o (6 * i + 5)) j)) (nI (6 * j + 5)) = K (lN (sumN (fun i => o (6 * i + 5)) 6)) := by
  intro d
  induction d with
  | zero =>
    intro j n hj hn
    obtain ⟨n, rfl⟩ := Nat.exists_eq_succ_of_ne_zero (show n ≠ 0 by omega)
    obtain rfl : j = 6 := by omega
    have h : 36 ≤ 6 * 6 + 5 := by omega
    rw [T_X3_calms_L112]; simp (disch := omega) only [l0, l1, l2, l3, l4, l5, l6, l7, l8, l9, l10, l11, l12, l30, l35, l36, l60, l99, l127, l150, l999, nI_eq, nI_leI, nI_ltI, nI_1, nI_add, pk_mul, obN, nI_clamp, lt', jn, Option.bind_some, inW, inF, inC, inK, fl4, cl4, wi3, T_X3_isFirstOrSecond, badE, fullE, noE, T_X3_refuseBad, T_X3_refuseFull, T_X3_refuseNo, reduceIte, Nat.reduceEqDiff, Nat.reduceLeDiff, Nat.reduceMul, Nat.reduceAdd, Nat.reduceSub, and_true, true_and, h]
  | succ d ih =>
    intro j n hj hn
    obtain ⟨n, rfl⟩ := Nat.exists_eq_succ_of_ne_zero (show n ≠ 0 by omega)
    have hn5 : ¬ 36 ≤ 6 * j + 5 := by omega
    have h := hz (6 * j + 5) (by omega)
    have e : 6 * j + 5 + 6 = 6 * (j + 1) + 5 := by omega
    rw [← ih (j + 1) n (by omega) (by omega), T_X3_calms_L112, sumN]
    simp (disch := omega) only [l0, l1, l2, l3, l4, l5, l6, l7, l8, l9, l10, l11, l12, l30, l35, l36, l60, l99, l127, l150, l999, nI_eq, nI_leI, nI_ltI, nI_1, nI_add, pk_mul, obN, nI_clamp, lt', jn, Option.bind_some, inW, inF, inC, inK, fl4, cl4, wi3, T_X3_isFirstOrSecond, badE, fullE, noE, T_X3_refuseBad, T_X3_refuseFull, T_X3_refuseNo, reduceIte, Nat.reduceEqDiff, Nat.reduceLeDiff, Nat.reduceMul, Nat.reduceAdd, Nat.reduceSub, and_true, true_and, hn5, h, e, lN_add]
theorem od_out {o : Nat → Nat} : sumN (fun q => o q * (if q % 6 = 5 then 1 else 0)) 36 = sumN (fun i => o (6 * i + 5)) 6 := by
  simp [sumN]
