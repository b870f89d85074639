/-! a text's sea -/
theorem cmp150 {c : Nat} (h : c ≤ 150) : ¬ (150 : Int32) < nI c := by
  rw [l150, nI_ltI (by omega) (by omega)]; omega
def okP5 (F : Nat) (W G K C D : Nat → Nat) : Prop := F ≤ 5 ∧ (∀ i, i < 12 → W i ≤ 3) ∧ (∀ i, i < 12 → G i ≤ 3) ∧ ∀ f, f < F → K f ≤ 5 ∧ C f ≤ 35 ∧ D f ≤ 60
def cP5 (F : Nat) (W G K C D : Nat → Nat) (w g k c f : Nat → Int32) : Prop := (∀ i, i < 12 → w i = nI (W i)) ∧ (∀ i, i < 12 → g i = nI (G i)) ∧ ∀ i, i < F → k i = nI (K i) ∧ c i = nI (C i) ∧ f i = nI (D i)
def mP5 (F : Nat) (W G K C D : Nat → Nat) (RF RW : Nat → Int32) : Prop := (∀ i, i < 12 → RW (2 * i) = nI (W i) ∧ RW (2 * i + 1) = nI (G i)) ∧ ∀ i, i < F → RF (3 * i) = nI (K i) ∧ RF (3 * i + 1) = nI (C i) ∧ RF (3 * i + 2) = nI (D i)
theorem rw_upd {RW : Nat → Int32} {W G : Nat → Nat} {v a b : Nat} (h : ∀ i, i < 12 → RW (2 * i) = nI (W i) ∧ RW (2 * i + 1) = nI (G i)) (i : Nat) (hi : i < 12) :
    upd (upd RW (2 * v) (nI a)) (2 * v + 1) (nI b) (2 * i) = nI (upn W v a i) ∧ upd (upd RW (2 * v) (nI a)) (2 * v + 1) (nI b) (2 * i + 1) = nI (upn G v b i) := by
  by_cases e : i = v
  · subst e
    rw [upn_s, upn_s, pk_un (by omega), pk_us, pk_us]
    exact ⟨rfl, rfl⟩
  · rw [upn_n e, upn_n e, pk_un (by omega), pk_un (by omega), pk_un (by omega), pk_un (by omega)]
    exact h i hi
theorem rf_upd {RF : Nat → Int32} {K C D : Nat → Nat} {F a b c : Nat} (h : ∀ i, i < F → RF (3 * i) = nI (K i) ∧ RF (3 * i + 1) = nI (C i) ∧ RF (3 * i + 2) = nI (D i)) (i : Nat) (hi : i < F + 1) :
    upd (upd (upd RF (3 * F) (nI a)) (3 * F + 1) (nI b)) (3 * F + 2) (nI c) (3 * i) = nI (upn K F a i) ∧ upd (upd (upd RF (3 * F) (nI a)) (3 * F + 1) (nI b)) (3 * F + 2) (nI c) (3 * i + 1) = nI (upn C F b i) ∧ upd (upd (upd RF (3 * F) (nI a)) (3 * F + 1) (nI b)) (3 * F + 2) (nI c) (3 * i + 2) = nI (upn D F c i) := by
  by_cases e : i = F
  · subst e
    rw [upn_s, upn_s, upn_s, pk_un (by omega), pk_un (by omega), pk_us, pk_un (by omega), pk_us, pk_us]
    exact ⟨rfl, rfl, rfl⟩
  · rw [upn_n e, upn_n e, upn_n e, pk_un (by omega), pk_un (by omega), pk_un (by omega), pk_un (by omega), pk_un (by omega), pk_un (by omega), pk_un (by omega), pk_un (by omega), pk_un (by omega)]
    exact h i (by omega)
theorem items_n {N n : Nat} {b b' B : Nat → Int32} {mo : Int32} (hN : 1000 ≤ N) (hn : n ≤ 150) (hb : ∀ i, i < n → b i = B i) (hb' : ∀ i, i < n → b' i = B i) (k : Int32 → Int32 → Int32 → Int32 → Int32 → (Nat → Int32) → (Nat → Int32) → (Nat → Int32) → (Nat → Int32) → (Nat → Int32) → Option (Int32 × Int32 × Int32 × Int32 × Int32 × Int32 × Int32 × Int32 × (Nat → Int32) × (Nat → Int32) × (Nat → Int32) × (Nat → Int32) × (Nat → Int32))) :
    ∀ (d p ct F j j' : Nat) (W G K C D : Nat → Nat) (rn : Int32) (cw cg ck cc cf RF RW : Nat → Int32), n ≤ p + d → p ≤ n → 1 ≤ ct → ct ≤ p → d + 1 < j → d + 1 < j' → okP5 F W G K C D → cP5 F W G K C D cw cg ck cc cf → mP5 F W G K C D RF RW →
      (∃ q, q ≤ n ∧ (∃ a1 a2 a3 a4 a5 a6 a7 a8 a9, T_X2_readInto_L21 N (nI n) b k j (nI ct) (nI p) (-nI 1) (nI F) (nI 0) cw cg ck cc cf = k a1 a2 (nI q) a3 a4 a5 a6 a7 a8 a9) ∧ ∃ a1 a2 a3 a4, T_X4_readsSea_L59 N (nI n) mo b' j' (nI ct) (nI p) (nI F) rn RF RW = some (-1, nI q, mo, a1, a2, a3, a4)) ∨
      (∃ ct' F' W' G' K' C' D' pl rn' cw' cg' ck' cc' cf' RF' RW', 1 ≤ ct' ∧ ct' ≤ 150 ∧ okP5 F' W' G' K' C' D' ∧ cP5 F' W' G' K' C' D' cw' cg' ck' cc' cf' ∧ mP5 F' W' G' K' C' D' RF' RW' ∧
        T_X2_readInto_L21 N (nI n) b k j (nI ct) (nI p) (-nI 1) (nI F) (nI 0) cw cg ck cc cf = k (nI ct') pl (-nI 1) (nI F') (nI 0) cw' cg' ck' cc' cf' ∧
        T_X4_readsSea_L59 N (nI n) mo b' j' (nI ct) (nI p) (nI F) rn RF RW = some (nI ct', pl, mo, nI F', rn', RF', RW')) := by
  have fin : ∀ (p ct F j j' : Nat) (W G K C D : Nat → Nat) (rn : Int32) (cw cg ck cc cf RF RW : Nat → Int32), n ≤ p → p ≤ n → 1 ≤ ct → ct ≤ p → okP5 F W G K C D → cP5 F W G K C D cw cg ck cc cf → mP5 F W G K C D RF RW →
      (∃ ct' F' W' G' K' C' D' pl rn' cw' cg' ck' cc' cf' RF' RW', 1 ≤ ct' ∧ ct' ≤ 150 ∧ okP5 F' W' G' K' C' D' ∧ cP5 F' W' G' K' C' D' cw' cg' ck' cc' cf' ∧ mP5 F' W' G' K' C' D' RF' RW' ∧
        T_X2_readInto_L21 N (nI n) b k (j + 1) (nI ct) (nI p) (-nI 1) (nI F) (nI 0) cw cg ck cc cf = k (nI ct') pl (-nI 1) (nI F') (nI 0) cw' cg' ck' cc' cf' ∧
        T_X4_readsSea_L59 N (nI n) mo b' (j' + 1) (nI ct) (nI p) (nI F) rn RF RW = some (nI ct', pl, mo, nI F', rn', RF', RW')) := by
    intro p ct F j j' W G K C D rn cw cg ck cc cf RF RW h1 h2 h3 h4 ho hc hm
    refine ⟨ct, F, W, G, K, C, D, nI p, rn, cw, cg, ck, cc, cf, RF, RW, h3, by omega, ho, hc, hm, ?_, ?_⟩
    · rw [T_X2_readInto_L21]; simp (disch := omega) only [l0, l1, l2, l3, l4, l5, l6, l7, l8, l9, l10, l11, l12, l30, l35, l36, l60, l99, l127, l150, l999, nI_eq, nI_leI, nI_ltI, nI_1, nI_add, pk_mul, obN, nI_clamp, lt', jn, Option.bind_some, inW, inF, inC, inK, fl4, cl4, wi3, T_X3_isFirstOrSecond, badE, fullE, noE, T_X3_refuseBad, T_X3_refuseFull, T_X3_refuseNo, reduceIte, Nat.reduceEqDiff, Nat.reduceLeDiff, Nat.reduceMul, Nat.reduceAdd, Nat.reduceSub, and_true, true_and, h1]
    · rw [T_X4_readsSea_L59]; simp (disch := omega) only [l0, l1, l2, l3, l4, l5, l6, l7, l8, l9, l10, l11, l12, l30, l35, l36, l60, l99, l127, l150, l999, nI_eq, nI_leI, nI_ltI, nI_1, nI_add, pk_mul, obN, nI_clamp, lt', jn, Option.bind_some, inW, inF, inC, inK, fl4, cl4, wi3, T_X3_isFirstOrSecond, badE, fullE, noE, T_X3_refuseBad, T_X3_refuseFull, T_X3_refuseNo, reduceIte, Nat.reduceEqDiff, Nat.reduceLeDiff, Nat.reduceMul, Nat.reduceAdd, Nat.reduceSub, and_true, true_and, h1]
  intro d
  induction d with
  | zero =>
    intro p ct F j j' W G K C D rn cw cg ck cc cf RF RW hd hp hct hcp hj hj' ho hc hm
    obtain ⟨j, rfl⟩ := Nat.exists_eq_succ_of_ne_zero (show j ≠ 0 by omega)
    obtain ⟨j', rfl⟩ := Nat.exists_eq_succ_of_ne_zero (show j' ≠ 0 by omega)
    exact .inr (fin p ct F j j' W G K C D rn cw cg ck cc cf RF RW (by omega) hp hct hcp ho hc hm)
  | succ d ih =>
    intro p ct F j j' W G K C D rn cw cg ck cc cf RF RW hd hp hct hcp hj hj' ho hc hm
    obtain ⟨j, rfl⟩ := Nat.exists_eq_succ_of_ne_zero (show j ≠ 0 by omega)
    obtain ⟨j', rfl⟩ := Nat.exists_eq_succ_of_ne_zero (show j' ≠ 0 by omega)
    by_cases hnp : n ≤ p
    · exact .inr (fin p ct F j j' W G K C D rn cw cg ck cc cf RF RW hnp hp hct hcp ho hc hm)
    · have c150 : ¬ (150 : Int32) < nI ct := cmp150 (by omega)
      rw [l150] at c150
      obtain ⟨o1, o2, o3, o4⟩ := ho
      obtain ⟨q1, q2, q3⟩ := hc
      obtain ⟨r1, r2⟩ := hm
      have i3 := item3_n (N := N) (p := p) (F := F) (w := cw) (g := cg) (k := ck) (c := cc) (f := cf) (un := nI 0) hN hn hb hp o1
      obtain ⟨mm, rn', RF', RW', i4⟩ := item4_n (N := N) (p := p) (F := F) (RF := RF) (RW := RW) (rn := rn) hN hn hb' hp o1
      cases hi : ieN B n p F with
      | inl q =>
        rw [hi] at i3 i4
        obtain ⟨hq, pl, fl, un', w', g', k', c', f', hpl, i3⟩ := i3
        refine .inl ⟨q, hq, ?_, ?_⟩
        · have s := skip3_n (N := N) hN hn hb hpl
          have y : ¬ nI q = -nI 1 := ne1 (by omega)
          obtain ⟨j, rfl⟩ := Nat.exists_eq_succ_of_ne_zero (show j ≠ 0 by omega)
          refine ⟨nI (ct + 1), nI (skN B n pl), fl, un', w', g', k', c', f', ?_⟩
          rw [T_X2_readInto_L21]; simp (disch := omega) only [l0, l1, l2, l3, l4, l5, l6, l7, l8, l9, l10, l11, l12, l30, l35, l36, l60, l99, l127, l150, l999, nI_eq, nI_leI, nI_ltI, nI_1, nI_add, pk_mul, obN, nI_clamp, lt', jn, Option.bind_some, inW, inF, inC, inK, fl4, cl4, wi3, T_X3_isFirstOrSecond, badE, fullE, noE, T_X3_refuseBad, T_X3_refuseFull, T_X3_refuseNo, reduceIte, Nat.reduceEqDiff, Nat.reduceLeDiff, Nat.reduceMul, Nat.reduceAdd, Nat.reduceSub, and_true, true_and, hnp, c150, i3, s]
          rw [T_X2_readInto_L21]; simp (disch := omega) only [l0, l1, l2, l3, l4, l5, l6, l7, l8, l9, l10, l11, l12, l30, l35, l36, l60, l99, l127, l150, l999, nI_eq, nI_leI, nI_ltI, nI_1, nI_add, pk_mul, obN, nI_clamp, lt', jn, Option.bind_some, inW, inF, inC, inK, fl4, cl4, wi3, T_X3_isFirstOrSecond, badE, fullE, noE, T_X3_refuseBad, T_X3_refuseFull, T_X3_refuseNo, reduceIte, Nat.reduceEqDiff, Nat.reduceLeDiff, Nat.reduceMul, Nat.reduceAdd, Nat.reduceSub, and_true, true_and, y]
        · refine ⟨mm, rn', RF', RW', ?_⟩
          rw [T_X4_readsSea_L59]; simp (disch := omega) only [l0, l1, l2, l3, l4, l5, l6, l7, l8, l9, l10, l11, l12, l30, l35, l36, l60, l99, l127, l150, l999, nI_eq, nI_leI, nI_ltI, nI_1, nI_add, pk_mul, obN, nI_clamp, lt', jn, Option.bind_some, inW, inF, inC, inK, fl4, cl4, wi3, T_X3_isFirstOrSecond, badE, fullE, noE, T_X3_refuseBad, T_X3_refuseFull, T_X3_refuseNo, reduceIte, Nat.reduceEqDiff, Nat.reduceLeDiff, Nat.reduceMul, Nat.reduceAdd, Nat.reduceSub, and_true, true_and, hnp, i4]
      | inr bv =>
        obtain ⟨t, v⟩ := bv
        rw [hi] at i3 i4
        cases t with
        | true =>
          obtain ⟨i3, v1, v2, v3, v4, v5⟩ := i3
          have hs := skN_le (B := B) v5
          have s3 := skip3_n (N := N) hN hn hb v5
          have s4 := skip4_n (N := N) hN hn hb' v5
          have e3 : T_X2_readInto_L21 N (nI n) b k (j + 1) (nI ct) (nI p) (-nI 1) (nI F) (nI 0) cw cg ck cc cf = T_X2_readInto_L21 N (nI n) b k j (nI (ct + 1)) (nI (skN B n v.2.2.2)) (-nI 1) (nI F) (nI 0) (upd cw v.1 (nI v.2.1)) (upd cg v.1 (nI v.2.2.1)) ck cc cf := by
            rw [T_X2_readInto_L21]; simp (disch := omega) only [l0, l1, l2, l3, l4, l5, l6, l7, l8, l9, l10, l11, l12, l30, l35, l36, l60, l99, l127, l150, l999, nI_eq, nI_leI, nI_ltI, nI_1, nI_add, pk_mul, obN, nI_clamp, lt', jn, Option.bind_some, inW, inF, inC, inK, fl4, cl4, wi3, T_X3_isFirstOrSecond, badE, fullE, noE, T_X3_refuseBad, T_X3_refuseFull, T_X3_refuseNo, reduceIte, Nat.reduceEqDiff, Nat.reduceLeDiff, Nat.reduceMul, Nat.reduceAdd, Nat.reduceSub, and_true, true_and, hnp, c150, i3, s3]
          have e4 : T_X4_readsSea_L59 N (nI n) mo b' (j' + 1) (nI ct) (nI p) (nI F) rn RF RW = T_X4_readsSea_L59 N (nI n) mo b' j' (nI (ct + 1)) (nI (skN B n v.2.2.2)) (nI F) rn' RF (upd (upd RW (2 * v.1) (nI v.2.1)) (2 * v.1 + 1) (nI v.2.2.1)) := by
            rw [T_X4_readsSea_L59]; simp (disch := omega) only [l0, l1, l2, l3, l4, l5, l6, l7, l8, l9, l10, l11, l12, l30, l35, l36, l60, l99, l127, l150, l999, nI_eq, nI_leI, nI_ltI, nI_1, nI_add, pk_mul, obN, nI_clamp, lt', jn, Option.bind_some, inW, inF, inC, inK, fl4, cl4, wi3, T_X3_isFirstOrSecond, badE, fullE, noE, T_X3_refuseBad, T_X3_refuseFull, T_X3_refuseNo, reduceIte, Nat.reduceEqDiff, Nat.reduceLeDiff, Nat.reduceMul, Nat.reduceAdd, Nat.reduceSub, and_true, true_and, hnp, i4, s4]
          rw [e3, e4]
          exact ih (skN B n v.2.2.2) (ct + 1) F j j' (upn W v.1 v.2.1) (upn G v.1 v.2.2.1) K C D rn' _ _ _ _ _ _ _ (by omega) hs.2 (by omega) (by omega) (by omega) (by omega) ⟨o1, upn_p o2 v2, upn_p o3 v3, o4⟩ ⟨upn_u q1, upn_u q2, q3⟩ ⟨rw_upd r1, r2⟩
        | false =>
          obtain ⟨i3, hF5, v1, v2, v3, v4, v5⟩ := i3
          have hs := skN_le (B := B) v5
          have s3 := skip3_n (N := N) hN hn hb v5
          have s4 := skip4_n (N := N) hN hn hb' v5
          have e3 : T_X2_readInto_L21 N (nI n) b k (j + 1) (nI ct) (nI p) (-nI 1) (nI F) (nI 0) cw cg ck cc cf = T_X2_readInto_L21 N (nI n) b k j (nI (ct + 1)) (nI (skN B n v.2.2.2)) (-nI 1) (nI (F + 1)) (nI 0) cw cg (upd ck F (nI v.1)) (upd cc F (nI v.2.1)) (upd cf F (nI v.2.2.1)) := by
            rw [T_X2_readInto_L21]; simp (disch := omega) only [l0, l1, l2, l3, l4, l5, l6, l7, l8, l9, l10, l11, l12, l30, l35, l36, l60, l99, l127, l150, l999, nI_eq, nI_leI, nI_ltI, nI_1, nI_add, pk_mul, obN, nI_clamp, lt', jn, Option.bind_some, inW, inF, inC, inK, fl4, cl4, wi3, T_X3_isFirstOrSecond, badE, fullE, noE, T_X3_refuseBad, T_X3_refuseFull, T_X3_refuseNo, reduceIte, Nat.reduceEqDiff, Nat.reduceLeDiff, Nat.reduceMul, Nat.reduceAdd, Nat.reduceSub, and_true, true_and, hnp, c150, i3, s3]
          have e4 : T_X4_readsSea_L59 N (nI n) mo b' (j' + 1) (nI ct) (nI p) (nI F) rn RF RW = T_X4_readsSea_L59 N (nI n) mo b' j' (nI (ct + 1)) (nI (skN B n v.2.2.2)) (nI (F + 1)) rn' (upd (upd (upd RF (3 * F) (nI v.1)) (3 * F + 1) (nI v.2.1)) (3 * F + 2) (nI v.2.2.1)) RW := by
            rw [T_X4_readsSea_L59]; simp (disch := omega) only [l0, l1, l2, l3, l4, l5, l6, l7, l8, l9, l10, l11, l12, l30, l35, l36, l60, l99, l127, l150, l999, nI_eq, nI_leI, nI_ltI, nI_1, nI_add, pk_mul, obN, nI_clamp, lt', jn, Option.bind_some, inW, inF, inC, inK, fl4, cl4, wi3, T_X3_isFirstOrSecond, badE, fullE, noE, T_X3_refuseBad, T_X3_refuseFull, T_X3_refuseNo, reduceIte, Nat.reduceEqDiff, Nat.reduceLeDiff, Nat.reduceMul, Nat.reduceAdd, Nat.reduceSub, and_true, true_and, hnp, i4, s4]
          rw [e3, e4]
          refine ih (skN B n v.2.2.2) (ct + 1) (F + 1) j j' W G (upn K F v.1) (upn C F v.2.1) (upn D F v.2.2.1) rn' _ _ _ _ _ _ _ (by omega) hs.2 (by omega) (by omega) (by omega) (by omega) ⟨by omega, o2, o3, fun f hf => ?_⟩ ⟨q1, q2, fun f hf => ?_⟩ ⟨r1, rf_upd r2⟩
          · by_cases e : f = F
            · subst e; rw [upn_s, upn_s, upn_s]; exact ⟨v1, v2, v3⟩
            · rw [upn_n e, upn_n e, upn_n e]; exact o4 f (by omega)
          · by_cases e : f = F
            · subst e; rw [upn_s, upn_s, upn_s, pk_us, pk_us, pk_us]; exact ⟨rfl, rfl, rfl⟩
            · rw [upn_n e, upn_n e, upn_n e, pk_un e, pk_un e, pk_un e]; exact q3 f (by omega)
/-- the first item -/
def fsN (B : Nat → Int32) (n : Nat) : Nat ⊕ (Nat × Nat) := if wdB B n 0 (skN B n 0) then (match nmN B n (skN B n 0 + 3) 99 with
    | .inl q => .inl q
    | .inr a => match enN B n a.2 with
      | .inl q => .inl q
      | .inr e => .inr (a.1, e))
  else .inl (skN B n 0)
theorem first3_n {N n : Nat} {b B w g : Nat → Int32} {x1 x2 x3 x4 x5 : Int32} (hN : 1000 ≤ N) (hn : n ≤ 150) (hb : ∀ i, i < n → b i = B i) :
    ∃ pl mo w' g', pl ≤ n ∧ (∀ i, i < 12 → w' i = 0 ∧ g' i = 1) ∧ T_X2_readSea N (nI n) (nI 0) (-nI 1) b x1 x2 x3 x4 x5 w g = some (match fsN B n with
      | .inl q => (nI pl, nI q, nI mo, 0, 0, 0, 0, w', g')
      | .inr a => (nI a.2, -nI 1, nI a.1, 0, 0, 0, 0, w', g')) := by
  have s := skip3_n (N := N) hN hn hb (Nat.zero_le n)
  have hs := skN_le (B := B) (Nat.zero_le n)
  have tw := takeWord_n (N := N) (i := 0) hN hn hb hs.2 (by omega)
  obtain ⟨w', f1, d1⟩ := fill_i N hN w 0
  obtain ⟨g', f2, d2⟩ := fill_i N hN g 1
  have be : ∀ v, T_X1_begin N x1 x2 x3 x4 x5 w g v = some (v, 0, 0, 0, 0, w', g') := fun v => by rw [T_X1_begin, f1]; simp only [Option.bind_some]; rw [f2]; rfl
  unfold fsN
  rw [T_X2_readSea, s]
  simp only [Option.bind_some]
  rw [tw]
  cases h1 : wdB B n 0 (skN B n 0) with
  | true =>
    have hp3 : skN B n 0 + 3 ≤ n := wd4 h1 hs.2
    have tk := tk_ok (B := B) (mx := 99) hp3 (show okP n none from trivial)
    have te := te_ok (B := B) tk.2.1 tk.2.2
    have ta := takeNumber_n (N := N) (mx := 99) (fo := none) hN hn hb hp3 (by omega) trivial
    have tb := takeEnd_n (N := N) hN hn hb tk.2.1 tk.2.2
    refine ⟨(teN B n (tkN B n none (skN B n 0 + 3) 99).2.2 (tkN B n none (skN B n 0 + 3) 99).2.1).1, (tkN B n none (skN B n 0 + 3) 99).1, w', g', te.1, fun i hi => ⟨d1 i hi, d2 i hi⟩, ?_⟩
    simp only [if_true, Option.bind_some, jn, l99]
    rw [if_neg (by decide), show skN B n 0 + lenS 0 = skN B n 0 + 3 from rfl, show (-nI 1 : Int32) = pf none from rfl, ta]
    simp only [Option.bind_some, lt']
    rw [tb]
    simp only [Option.bind_some]
    rw [be]
    cases h2 : nmN B n (skN B n 0 + 3) 99 with
    | inl q => simp only [tkN, h2, teN, Option.bind_some, pf]
    | inr a =>
      cases h3 : enN B n a.2 with
      | inl q => simp only [tkN, h2, h3, teN, Option.bind_some, pf]
      | inr e => simp only [tkN, h2, h3, teN, Option.bind_some, pf]
  | false =>
    have ff : okP n (some (skN B n 0)) := hs.2
    have tk := tk_ok (B := B) (mx := 99) hs.2 ff
    have te := te_ok (B := B) tk.2.1 tk.2.2
    have ta := takeNumber_n (N := N) (mx := 99) hN hn hb hs.2 (by omega) ff
    have tb := takeEnd_n (N := N) hN hn hb tk.2.1 tk.2.2
    refine ⟨(teN B n (tkN B n (some (skN B n 0)) (skN B n 0) 99).2.2 (tkN B n (some (skN B n 0)) (skN B n 0) 99).2.1).1, (tkN B n (some (skN B n 0)) (skN B n 0) 99).1, w', g', te.1, fun i hi => ⟨d1 i hi, d2 i hi⟩, ?_⟩
    simp only [Bool.false_eq_true, if_false, Option.bind_some, jn, l99, lt']
    rw [if_pos (show nI 0 = 0 from rfl), show T_X2_fail (nI (skN B n 0)) (-nI 1) = pf (some (skN B n 0)) from by rw [T_X2_fail, if_pos (show (-nI 1 : Int32) = -1 from rfl)]; rfl, ta]
    simp only [Option.bind_some]
    rw [tb]
    simp only [Option.bind_some]
    rw [be]
    simp only [tkN, teN, Option.bind_some, pf]
theorem first4_n {N n : Nat} {b B : Nat → Int32} {rm rn : Int32} (hN : 1000 ≤ N) (hn : n ≤ 150) (hb : ∀ i, i < n → b i = B i) :
    ∃ rm' rn', T_X4_readsFirst N (nI n) (nI 0) rm rn b = some (match fsN B n with
      | .inl q => (nI 0, nI q, rm', rn')
      | .inr a => (nI 1, nI a.2, nI a.1, nI a.1)) := by
  have s := skip4_n (N := N) hN hn hb (Nat.zero_le n)
  have hs := skN_le (B := B) (Nat.zero_le n)
  have wh := wordHere_n (N := N) hN hn hb hs.2
  unfold fsN
  rw [T_X4_readsFirst, s]
  simp only [Option.bind_some]
  rw [wh]
  cases h1 : wdB B n 0 (skN B n 0) with
  | true =>
    have hp3 : skN B n 0 + 3 ≤ n := wd4 h1 hs.2
    have na := number4_n (N := N) (mx := 99) (rn := rn) hN hn hb hp3 (by omega)
    cases h2 : nmN B n (skN B n 0 + 3) 99 with
    | inl q =>
      rw [h2] at na
      refine ⟨rm, rn, ?_⟩
      simp (disch := omega) only [l0, l1, l2, l3, l4, l5, l6, l7, l8, l9, l10, l11, l12, l30, l35, l36, l60, l99, l127, l150, l999, nI_eq, nI_leI, nI_ltI, nI_1, nI_add, pk_mul, obN, nI_clamp, lt', jn, Option.bind_some, inW, inF, inC, inK, fl4, cl4, wi3, T_X3_isFirstOrSecond, badE, fullE, noE, T_X3_refuseBad, T_X3_refuseFull, T_X3_refuseNo, reduceIte, Nat.reduceEqDiff, Nat.reduceLeDiff, Nat.reduceMul, Nat.reduceAdd, Nat.reduceSub, and_true, true_and, na]
    | inr a =>
      rw [h2] at na
      have a1 := nmR (v := a.1) (p' := a.2) h2 hp3
      have ne := ends4_n (N := N) hN hn hb a1.2.2
      cases h3 : enN B n a.2 with
      | inl q =>
        rw [h3] at ne
        refine ⟨nI a.1, nI a.1, ?_⟩
        simp (disch := omega) only [l0, l1, l2, l3, l4, l5, l6, l7, l8, l9, l10, l11, l12, l30, l35, l36, l60, l99, l127, l150, l999, nI_eq, nI_leI, nI_ltI, nI_1, nI_add, pk_mul, obN, nI_clamp, lt', jn, Option.bind_some, inW, inF, inC, inK, fl4, cl4, wi3, T_X3_isFirstOrSecond, badE, fullE, noE, T_X3_refuseBad, T_X3_refuseFull, T_X3_refuseNo, reduceIte, Nat.reduceEqDiff, Nat.reduceLeDiff, Nat.reduceMul, Nat.reduceAdd, Nat.reduceSub, and_true, true_and, na, ne, h3]
      | inr e =>
        rw [h3] at ne
        refine ⟨nI a.1, nI a.1, ?_⟩
        simp (disch := omega) only [l0, l1, l2, l3, l4, l5, l6, l7, l8, l9, l10, l11, l12, l30, l35, l36, l60, l99, l127, l150, l999, nI_eq, nI_leI, nI_ltI, nI_1, nI_add, pk_mul, obN, nI_clamp, lt', jn, Option.bind_some, inW, inF, inC, inK, fl4, cl4, wi3, T_X3_isFirstOrSecond, badE, fullE, noE, T_X3_refuseBad, T_X3_refuseFull, T_X3_refuseNo, reduceIte, Nat.reduceEqDiff, Nat.reduceLeDiff, Nat.reduceMul, Nat.reduceAdd, Nat.reduceSub, and_true, true_and, na, ne, h3]
  | false =>
    refine ⟨rm, rn, ?_⟩
    have m1 : ¬ -nI 1 = nI 0 := by decide
    cases wdB B n 1 (skN B n 0) with
    | true => simp (disch := omega) only [l0, l1, l2, l3, l4, l5, l6, l7, l8, l9, l10, l11, l12, l30, l35, l36, l60, l99, l127, l150, l999, nI_eq, nI_leI, nI_ltI, nI_1, nI_add, pk_mul, obN, nI_clamp, lt', jn, Option.bind_some, inW, inF, inC, inK, fl4, cl4, wi3, T_X3_isFirstOrSecond, badE, fullE, noE, T_X3_refuseBad, T_X3_refuseFull, T_X3_refuseNo, reduceIte, Nat.reduceEqDiff, Nat.reduceLeDiff, Nat.reduceMul, Nat.reduceAdd, Nat.reduceSub, and_true, true_and, Bool.false_eq_true]
    | false =>
      cases wdB B n 2 (skN B n 0) with
      | true => simp (disch := omega) only [l0, l1, l2, l3, l4, l5, l6, l7, l8, l9, l10, l11, l12, l30, l35, l36, l60, l99, l127, l150, l999, nI_eq, nI_leI, nI_ltI, nI_1, nI_add, pk_mul, obN, nI_clamp, lt', jn, Option.bind_some, inW, inF, inC, inK, fl4, cl4, wi3, T_X3_isFirstOrSecond, badE, fullE, noE, T_X3_refuseBad, T_X3_refuseFull, T_X3_refuseNo, reduceIte, Nat.reduceEqDiff, Nat.reduceLeDiff, Nat.reduceMul, Nat.reduceAdd, Nat.reduceSub, and_true, true_and, Bool.false_eq_true]
      | false => simp (disch := omega) only [l0, l1, l2, l3, l4, l5, l6, l7, l8, l9, l10, l11, l12, l30, l35, l36, l60, l99, l127, l150, l999, nI_eq, nI_leI, nI_ltI, nI_1, nI_add, pk_mul, obN, nI_clamp, lt', jn, Option.bind_some, inW, inF, inC, inK, fl4, cl4, wi3, T_X3_isFirstOrSecond, badE, fullE, noE, T_X3_refuseBad, T_X3_refuseFull, T_X3_refuseNo, reduceIte, Nat.reduceEqDiff, Nat.reduceLeDiff, Nat.reduceMul, Nat.reduceAdd, Nat.reduceSub, and_true, true_and, Bool.false_eq_true, m1]
theorem fs_ok {B : Nat → Int32} {n : Nat} : match fsN B n with
    | .inl q => q ≤ n
    | .inr a => a.1 ≤ 99 ∧ 1 < a.2 ∧ a.2 ≤ n := by
  have hs := skN_le (B := B) (Nat.zero_le n)
  unfold fsN
  cases h1 : wdB B n 0 (skN B n 0) with
  | false => exact hs.2
  | true =>
    have hp3 : skN B n 0 + 3 ≤ n := wd4 h1 hs.2
    cases h2 : nmN B n (skN B n 0 + 3) 99 with
    | inl q => exact (nmL h2 hp3).2
    | inr a =>
      have a1 := nmR (v := a.1) (p' := a.2) h2 hp3
      cases h3 : enN B n a.2 with
      | inl q => have := en_l h3 a1.2.2; simp only [if_true, h3]; exact this.2
      | inr e => have := en_r h3 a1.2.2; simp only [if_true, h3]; exact ⟨a1.1, by omega, this.2⟩
