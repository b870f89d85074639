theorem l12_n {N : Nat} (K : (Nat → Int32) → Option (Int32 × Int32 × Int32 × Int32 × Int32 × (Nat → Int32) × (Nat → Int32))) : ∀ (d i j : Nat) (z : Nat → Int32), i + d = 12 → d < j → (∀ q, q < i → z (2 * q) = nI 0 ∧ z (2 * q + 1) = nI 1) → ∃ z', T_X4_readsSea_L12 N K j (nI i) z = K z' ∧ ∀ q, q < 12 → z' (2 * q) = nI 0 ∧ z' (2 * q + 1) = nI 1 := by
  intro d
  induction d with
  | zero =>
    intro i j z hi hj hz
    obtain ⟨j, rfl⟩ := Nat.exists_eq_succ_of_ne_zero (show j ≠ 0 by omega)
    obtain rfl : i = 12 := by omega
    exact ⟨z, by rw [T_X4_readsSea_L12]; simp (disch := omega) only [l0, l1, l2, l3, l4, l5, l6, l7, l8, l9, l10, l11, l12, l30, l35, l36, l60, l99, l127, l150, l999, nI_eq, nI_leI, nI_ltI, nI_1, nI_add, pk_mul, obN, nI_clamp, lt', jn, Option.bind_some, inW, inF, inC, inK, fl4, cl4, wi3, T_X3_isFirstOrSecond, badE, fullE, noE, T_X3_refuseBad, T_X3_refuseFull, T_X3_refuseNo, reduceIte, Nat.reduceEqDiff, Nat.reduceLeDiff, Nat.reduceMul, Nat.reduceAdd, Nat.reduceSub, and_true, true_and, Nat.le_refl], hz⟩
  | succ d ih =>
    intro i j z hi hj hz
    obtain ⟨j, rfl⟩ := Nat.exists_eq_succ_of_ne_zero (show j ≠ 0 by omega)
    have h : ¬ 12 ≤ i := by omega
    obtain ⟨z', e1, e2⟩ := ih (i + 1) j (upd (upd z (2 * i) (nI 0)) (2 * i + 1) (nI 1)) (by omega) (by omega) (fun q hq => by
      by_cases e : q = i
      · subst e; rw [pk_un (by omega), pk_us, pk_us]; exact ⟨rfl, rfl⟩
      · rw [pk_un (by omega), pk_un (by omega), pk_un (by omega), pk_un (by omega)]; exact hz q (by omega))
    refine ⟨z', ?_, e2⟩
    rw [T_X4_readsSea_L12]; simp (disch := omega) only [l0, l1, l2, l3, l4, l5, l6, l7, l8, l9, l10, l11, l12, l30, l35, l36, l60, l99, l127, l150, l999, nI_eq, nI_leI, nI_ltI, nI_1, nI_add, pk_mul, obN, nI_clamp, lt', jn, Option.bind_some, inW, inF, inC, inK, fl4, cl4, wi3, T_X3_isFirstOrSecond, badE, fullE, noE, T_X3_refuseBad, T_X3_refuseFull, T_X3_refuseNo, reduceIte, Nat.reduceEqDiff, Nat.reduceLeDiff, Nat.reduceMul, Nat.reduceAdd, Nat.reduceSub, and_true, true_and, h]; exact e1
theorem l27_n {N : Nat} {y : Nat → Int32} (K : (Nat → Int32) → (Nat → Int32) → Option (Int32 × Int32 × Int32 × Int32 × Int32 × Int32 × Int32 × Int32 × Int32 × Int32 × (Nat → Int32) × (Nat → Int32) × (Nat → Int32) × (Nat → Int32) × (Nat → Int32) × (Nat → Int32) × (Nat → Int32))) : ∀ (d i j : Nat) (z w : Nat → Int32), i + d = 12 → d < j → (∀ q, q < i → z q = y (2 * q) ∧ w q = y (2 * q + 1)) → ∃ z' w', T_X4_read_L27 N y K j (nI i) z w = K z' w' ∧ ∀ q, q < 12 → z' q = y (2 * q) ∧ w' q = y (2 * q + 1) := by
  intro d
  induction d with
  | zero =>
    intro i j z w hi hj hz
    obtain ⟨j, rfl⟩ := Nat.exists_eq_succ_of_ne_zero (show j ≠ 0 by omega)
    obtain rfl : i = 12 := by omega
    exact ⟨z, w, by rw [T_X4_read_L27]; simp (disch := omega) only [l0, l1, l2, l3, l4, l5, l6, l7, l8, l9, l10, l11, l12, l30, l35, l36, l60, l99, l127, l150, l999, nI_eq, nI_leI, nI_ltI, nI_1, nI_add, pk_mul, obN, nI_clamp, lt', jn, Option.bind_some, inW, inF, inC, inK, fl4, cl4, wi3, T_X3_isFirstOrSecond, badE, fullE, noE, T_X3_refuseBad, T_X3_refuseFull, T_X3_refuseNo, reduceIte, Nat.reduceEqDiff, Nat.reduceLeDiff, Nat.reduceMul, Nat.reduceAdd, Nat.reduceSub, and_true, true_and, Nat.le_refl], hz⟩
  | succ d ih =>
    intro i j z w hi hj hz
    obtain ⟨j, rfl⟩ := Nat.exists_eq_succ_of_ne_zero (show j ≠ 0 by omega)
    have h : ¬ 12 ≤ i := by omega
    obtain ⟨z', w', e1, e2⟩ := ih (i + 1) j (upd z i (y (2 * i))) (upd w i (y (2 * i + 1))) (by omega) (by omega) (fun q hq => by
      by_cases e : q = i
      · subst e; rw [pk_us, pk_us]; exact ⟨rfl, rfl⟩
      · rw [pk_un e, pk_un e]; exact hz q (by omega))
    refine ⟨z', w', ?_, e2⟩
    rw [T_X4_read_L27]; simp (disch := omega) only [l0, l1, l2, l3, l4, l5, l6, l7, l8, l9, l10, l11, l12, l30, l35, l36, l60, l99, l127, l150, l999, nI_eq, nI_leI, nI_ltI, nI_1, nI_add, pk_mul, obN, nI_clamp, lt', jn, Option.bind_some, inW, inF, inC, inK, fl4, cl4, wi3, T_X3_isFirstOrSecond, badE, fullE, noE, T_X3_refuseBad, T_X3_refuseFull, T_X3_refuseNo, reduceIte, Nat.reduceEqDiff, Nat.reduceLeDiff, Nat.reduceMul, Nat.reduceAdd, Nat.reduceSub, and_true, true_and, h]; exact e1
theorem l71_n {N F : Nat} {y63 y64 y65 y66 y67 y68 y70 : Int32} {y71 y72 RF RW : Nat → Int32} {K C D : Nat → Nat} (hF : F ≤ 5) (hr : ∀ i, i < F → RF (3 * i) = nI (K i) ∧ RF (3 * i + 1) = nI (C i) ∧ RF (3 * i + 2) = nI (D i)) :
    ∀ (d i j : Nat) (k c f : Nat → Int32), i + d = F → d < j → (∀ q, q < i → k q = nI (K q) ∧ c q = nI (C q) ∧ f q = nI (D q)) → ∃ k' c' f', T_X4_read_L71 N y63 y64 y65 y66 y67 y68 (nI F) y70 y71 y72 RF RW j (nI i) (nI i) (nI 0) k c f = some (y63, nI F, y64, y65, y66, y67, y68, nI F, y70, nI 0, y71, y72, k', c', f', RF, RW) ∧ ∀ q, q < F → k' q = nI (K q) ∧ c' q = nI (C q) ∧ f' q = nI (D q) := by
  intro d
  induction d with
  | zero =>
    intro i j k c f hi hj hz
    obtain ⟨j, rfl⟩ := Nat.exists_eq_succ_of_ne_zero (show j ≠ 0 by omega)
    obtain rfl : i = F := by omega
    exact ⟨k, c, f, by rw [T_X4_read_L71]; simp (disch := omega) only [l0, l1, l2, l3, l4, l5, l6, l7, l8, l9, l10, l11, l12, l30, l35, l36, l60, l99, l127, l150, l999, nI_eq, nI_leI, nI_ltI, nI_1, nI_add, pk_mul, obN, nI_clamp, lt', jn, Option.bind_some, inW, inF, inC, inK, fl4, cl4, wi3, T_X3_isFirstOrSecond, badE, fullE, noE, T_X3_refuseBad, T_X3_refuseFull, T_X3_refuseNo, reduceIte, Nat.reduceEqDiff, Nat.reduceLeDiff, Nat.reduceMul, Nat.reduceAdd, Nat.reduceSub, and_true, true_and, Nat.le_refl], hz⟩
  | succ d ih =>
    intro i j k c f hi hj hz
    obtain ⟨j, rfl⟩ := Nat.exists_eq_succ_of_ne_zero (show j ≠ 0 by omega)
    have h : ¬ F ≤ i := by omega
    obtain ⟨r0, r1, r2⟩ := hr i (by omega)
    obtain ⟨k', c', f', e1, e2⟩ := ih (i + 1) j (upd k i (nI (K i))) (upd c i (nI (C i))) (upd f i (nI (D i))) (by omega) (by omega) (fun q hq => by
      by_cases e : q = i
      · subst e; rw [pk_us, pk_us, pk_us]; exact ⟨rfl, rfl, rfl⟩
      · rw [pk_un e, pk_un e, pk_un e]; exact hz q (by omega))
    refine ⟨k', c', f', ?_, e2⟩
    rw [T_X4_read_L71]; simp (disch := omega) only [l0, l1, l2, l3, l4, l5, l6, l7, l8, l9, l10, l11, l12, l30, l35, l36, l60, l99, l127, l150, l999, nI_eq, nI_leI, nI_ltI, nI_1, nI_add, pk_mul, obN, nI_clamp, lt', jn, Option.bind_some, inW, inF, inC, inK, fl4, cl4, wi3, T_X3_isFirstOrSecond, badE, fullE, noE, T_X3_refuseBad, T_X3_refuseFull, T_X3_refuseNo, reduceIte, Nat.reduceEqDiff, Nat.reduceLeDiff, Nat.reduceMul, Nat.reduceAdd, Nat.reduceSub, and_true, true_and, h, r0, r1, r2, T_X4_addFloe]; exact e1
theorem m10_le : ∀ q, q < 151 → (-10 : Int32) - nI q ≤ 0 := by decide +kernel
theorem m1_not : ¬ (0 : Int32) ≤ -1 := by decide
theorem read_n {N n : Nat} {b text w g kk cc ff RF0 RW0 : Nat → Int32} {pl0 ft0 x1 x2 x3 x4 x5 rA rM rF rN : Int32} (hN : 1000 ≤ N) (hn : n ≤ 150) (t3 : ∀ i, i < n → b i = text i) :
    (∃ q, q ≤ n ∧ (∃ a1 a2 a3 a4 a5 a6 a7 b1 b2 b3 b4 b5, T_X2_readInto N (nI n) pl0 ft0 b x1 x2 x3 x4 x5 w g kk cc ff = some ((-10) - nI q, a1, a2, a3, a4, a5, a6, a7, b1, b2, b3, b4, b5)) ∧ ∃ c1 c2 c3 d1 d2, T_X4_readsSea N (nI n) rA rM rF rN text RF0 RW0 = some (-1, nI q, c1, c2, c3, d1, d2)) ∨
    (∃ v ct F W G K C D pl rn' cw cg ck cc' cf RF RW, v ≤ 99 ∧ 1 ≤ ct ∧ ct ≤ 150 ∧ okP5 F W G K C D ∧ cP5 F W G K C D cw cg ck cc' cf ∧ mP5 F W G K C D RF RW ∧ T_X2_readInto N (nI n) pl0 ft0 b x1 x2 x3 x4 x5 w g kk cc ff = some (nI ct, pl, -nI 1, nI v, nI F, 0, 0, nI 0, cw, cg, ck, cc', cf) ∧ T_X4_readsSea N (nI n) rA rM rF rN text RF0 RW0 = some (nI ct, pl, nI v, nI F, rn', RF, RW)) := by
  obtain ⟨pl, mo, w0, g0, hpl, d0, e3⟩ := first3_n (N := N) (b := b) (B := text) (w := w) (g := g) (x1 := x1) (x2 := x2) (x3 := x3) (x4 := x4) (x5 := x5) hN hn t3
  obtain ⟨rm', rn', e4⟩ := first4_n (N := N) (b := text) (B := text) (rm := rM) (rn := rN) hN hn (fun _ _ => rfl)
  obtain ⟨RW1, ew1, ew2⟩ := l12_n (N := N) (fun (z26 : Nat → Int32) => (Option.bind (T_X4_readsFirst N (nI n) 0 rM rN text) fun u30 => (if u30.1 = 0 then (some ((-1), u30.2.1, u30.2.2.1, 0, u30.2.2.2, RF0, z26)) else (Option.bind (T_X4_skip N (nI n) u30.2.1 text) fun u38 => (T_X4_readsSea_L59 N (nI n) u30.2.2.1 text N 1 u38 0 u30.2.2.2 RF0 z26))))) 12 0 N RW0 rfl (by omega) (fun q hq => absurd hq (Nat.not_lt_zero q))
  have hs4 : T_X4_readsSea N (nI n) rA rM rF rN text RF0 RW0 = Option.bind (T_X4_readsFirst N (nI n) 0 rM rN text) fun u30 => (if u30.1 = 0 then (some ((-1), u30.2.1, u30.2.2.1, 0, u30.2.2.2, RF0, RW1)) else (Option.bind (T_X4_skip N (nI n) u30.2.1 text) fun u38 => (T_X4_readsSea_L59 N (nI n) u30.2.2.1 text N 1 u38 0 u30.2.2.2 RF0 RW1))) := ew1
  have e3 : T_X2_readSea N (nI n) 0 (-1) b x1 x2 x3 x4 x5 w g = _ := e3
  have e4 : T_X4_readsFirst N (nI n) 0 rM rN text = _ := e4
  have fo := fs_ok (B := text) (n := n)
  cases hf : fsN text n with
  | inl q =>
    rw [hf] at fo e3 e4
    have y : ¬ nI q = -1 := ne1 (by have : q ≤ n := fo; omega)
    have s := skip3_n (N := N) hN hn t3 hpl
    refine .inl ⟨q, fo, ⟨nI (skN text n pl), nI q, nI mo, 0, 0, 0, 0, w0, g0, kk, cc, ff, ?_⟩, rm', 0, rn', RF0, RW1, ?_⟩
    · rw [T_X2_readInto, e3]
      simp only [Option.bind_some]
      rw [s]
      simp only [Option.bind_some]
      have L : ∀ J, 0 < J → ∀ k, T_X2_readInto_L21 N (nI n) b k J 1 (nI (skN text n pl)) (nI q) 0 0 w0 g0 kk cc ff = k 1 (nI (skN text n pl)) (nI q) 0 0 w0 g0 kk cc ff := by
        intro J hJ k
        obtain ⟨J, rfl⟩ := Nat.exists_eq_succ_of_ne_zero (show J ≠ 0 by omega)
        rw [T_X2_readInto_L21, if_neg y]
      rw [L N (by omega), if_neg y]
    · rw [hs4, e4]
      simp only [Option.bind_some]
      rw [if_pos (show nI 0 = 0 from rfl)]
  | inr a =>
    rw [hf] at fo e3 e4
    obtain ⟨v, p⟩ := a
    obtain ⟨v1, v2, v3⟩ := fo
    simp only at v1 v2 v3 e3 e4
    have hs := skN_le (B := text) v3
    have s3 := skip3_n (N := N) hN hn t3 v3
    have s4 := skip4_n (N := N) (b := text) (B := text) hN hn (fun _ _ => rfl) v3
    have it := items_n (N := N) (n := n) (b := b) (b' := text) (B := text) (mo := nI v) hN hn t3 (fun _ _ => rfl) (fun (x62 : Int32) (z63 : Int32) (z64 : Int32) (z65 : Int32) (z66 : Int32) (z67 : Nat → Int32) (z68 : Nat → Int32) (z69 : Nat → Int32) (z70 : Nat → Int32) (z71 : Nat → Int32) => (if z64 = (-1) then (some (x62, z63, z64, nI v, z65, 0, 0, z66, z67, z68, z69, z70, z71)) else (some ((-10) - z64, z63, z64, nI v, z65, 0, 0, z66, z67, z68, z69, z70, z71))))
      n (skN text n p) 1 0 N N (fun _ => 0) (fun _ => 1) (fun _ => 0) (fun _ => 0) (fun _ => 0) (nI v) w0 g0 kk cc ff RF0 RW1 (by omega) hs.2 (by omega) (by omega) (by omega) (by omega) ⟨Nat.zero_le _, fun _ _ => Nat.zero_le _, fun _ _ => (by decide : 1 ≤ 3), fun f hf => absurd hf (Nat.not_lt_zero f)⟩ ⟨fun i hi => (d0 i hi).1, fun i hi => (d0 i hi).2, fun f hf => absurd hf (Nat.not_lt_zero f)⟩ ⟨ew2, fun f hf => absurd hf (Nat.not_lt_zero f)⟩
    have hM0 : ∀ r, T_X4_readsSea_L59 N (nI n) (nI v) text N 1 (nI (skN text n p)) 0 (nI v) RF0 RW1 = r → T_X4_readsSea N (nI n) rA rM rF rN text RF0 RW0 = r := by
      intro r h
      rw [hs4, e4]
      simp only [Option.bind_some]
      rw [if_neg (by decide), s4]
      exact h
    have hR0 : ∀ r, T_X2_readInto_L21 N (nI n) b (fun (x62 : Int32) (z63 : Int32) (z64 : Int32) (z65 : Int32) (z66 : Int32) (z67 : Nat → Int32) (z68 : Nat → Int32) (z69 : Nat → Int32) (z70 : Nat → Int32) (z71 : Nat → Int32) => (if z64 = (-1) then (some (x62, z63, z64, nI v, z65, 0, 0, z66, z67, z68, z69, z70, z71)) else (some ((-10) - z64, z63, z64, nI v, z65, 0, 0, z66, z67, z68, z69, z70, z71)))) N (nI 1) (nI (skN text n p)) (-nI 1) (nI 0) 0 w0 g0 kk cc ff = r → T_X2_readInto N (nI n) pl0 ft0 b x1 x2 x3 x4 x5 w g kk cc ff = r := by
      intro r h
      rw [T_X2_readInto, e3]
      simp only [Option.bind_some]
      rw [s3]
      exact h
    rcases it with ⟨q, hq, ⟨a1, a2, a3, a4, a5, a6, a7, a8, a9, hR⟩, c1, c2, c3, c4, hM⟩ | ⟨ct, F, W, G, K, C, D, pl', rnn, cw, cg, ck, cc', cf, RF, RW, k1, k2, o, q1, r1, hR, hM⟩
    · have y : ¬ nI q = -1 := ne1 (by omega)
      rw [if_neg y] at hR
      exact .inl ⟨q, hq, ⟨_, _, _, _, _, _, _, _, _, _, _, _, hR0 _ hR⟩, _, _, _, _, _, hM0 _ hM⟩
    · rw [if_pos (show (-nI 1 : Int32) = -1 from rfl)] at hR
      exact .inr ⟨v, ct, F, W, G, K, C, D, pl', rnn, cw, cg, ck, cc', cf, RF, RW, v1, k1, k2, o, q1, r1, hR0 _ hR, hM0 _ hM⟩
theorem take_n {N : Nat} {a1 a2 a3 a4 a5 c1 c2 c3 c4 c5 : Int32} {w s k c f r n u w' s' k' c' f' r' n' u' : Nat → Int32} : T_X1_takeFrom N a1 a2 a3 a4 a5 w' s' k' c' f' r' n' u' c1 c2 c3 c4 c5 w s k c f r n u = some (c1, c2, c3, c4, c5, va_cpy w w' 0 0 12, va_cpy s s' 0 0 12, va_cpy k k' 0 0 5, va_cpy c c' 0 0 5, va_cpy f f' 0 0 5, va_cpy r r' 0 0 12, va_cpy n n' 0 0 42, va_cpy u u' 0 0 88) := by
  rw [T_X1_takeFrom]; simp (disch := omega) only [l0, l1, l2, l3, l4, l5, l6, l7, l8, l9, l10, l11, l12, l30, l35, l36, l60, l99, l127, l150, l999, nI_eq, nI_leI, nI_ltI, nI_1, nI_add, pk_mul, obN, nI_clamp, lt', jn, Option.bind_some, inW, inF, inC, inK, fl4, cl4, wi3, T_X3_isFirstOrSecond, badE, fullE, noE, T_X3_refuseBad, T_X3_refuseFull, T_X3_refuseNo, reduceIte, Nat.reduceEqDiff, Nat.reduceLeDiff, Nat.reduceMul, Nat.reduceAdd, Nat.reduceSub, and_true, true_and, gcN, q42, q88]
theorem read4_n {N F v ct : Nat} {a1 a2 a3 a4 ty rA rM rF rN a9 pl rn' : Int32} {w s k c f text RF0 RW0 RF RW : Nat → Int32} {W G K C D : Nat → Nat} (hN : 1000 ≤ N) (hct : ct ≤ 150) (hF : F ≤ 5) (r1 : ∀ i, i < 12 → RW (2 * i) = nI (W i) ∧ RW (2 * i + 1) = nI (G i)) (r2 : ∀ i, i < F → RF (3 * i) = nI (K i) ∧ RF (3 * i + 1) = nI (C i) ∧ RF (3 * i + 2) = nI (D i)) (hM : T_X4_readsSea N ty rA rM rF rN text RF0 RW0 = some (nI ct, pl, nI v, nI F, rn', RF, RW)) :
    ∃ zw zs k' c' f', T_X4_read N a1 a2 a3 a4 ty rA rM rF rN a9 w s k c f text RF0 RW0 = some (nI ct, nI F, nI v, 0, 0, pl, nI v, nI F, rn', nI 0, zw, zs, k', c', f', RF, RW) ∧ (∀ i, i < 12 → zw i = nI (W i) ∧ zs i = nI (G i)) ∧ ∀ i, i < F → k' i = nI (K i) ∧ c' i = nI (C i) ∧ f' i = nI (D i) := by
  have y2 : (0 : Int32) ≤ nI ct := nI_pos' (by omega)
  obtain ⟨gg, eg, dg⟩ := begin_i N hN a1 a2 a3 a4 a9 w s (nI v)
  obtain ⟨zw, zs, e27, d27⟩ := l27_n (N := N) (y := RW) (fun (z52 : Nat → Int32) (z53 : Nat → Int32) => (T_X4_read_L71 N (nI ct) (nI v) 0 0 pl (nI v) (nI F) rn' z52 z53 RF RW N (nI 0) (nI 0) (nI 0) k c f)) 12 0 N gg.1 gg.2 rfl (by omega) (fun q hq => absurd hq (Nat.not_lt_zero q))
  obtain ⟨k', c', f', e71, d71⟩ := l71_n (N := N) (y63 := nI ct) (y64 := nI v) (y65 := 0) (y66 := 0) (y67 := pl) (y68 := nI v) (y70 := rn') (y71 := zw) (y72 := zs) (RF := RF) (RW := RW) hF r2 F 0 N k c f (by omega) (by omega) (fun q hq => absurd hq (Nat.not_lt_zero q))
  refine ⟨zw, zs, k', c', f', ?_, fun i hi => ?_, d71⟩
  · have e := e27.trans e71
    rw [T_X4_read, hM]
    simp only [Option.bind_some, lt']
    rw [if_pos y2, eg]
    simp only [Option.bind_some]
    simp only [l0] at e ⊢
    exact e
  · rw [(d27 i hi).1, (d27 i hi).2]; exact r1 i hi
theorem read3_bad {N : Nat} {q a1 a2 a3 a4 a5 a6 a7 n1 n2 n3 n4 n5 s1 s2 s3 s4 s5 tl tp tf : Int32} {b1 b2 b3 b4 b5 nw ns nk nc nf nr nn nu sw ss sk sc sf sr sn su tb : Nat → Int32} (h0 : q ≤ 0) (hR : T_X2_readInto N tl tp tf tb s1 s2 s3 s4 s5 sw ss sk sc sf = some (q, a1, a2, a3, a4, a5, a6, a7, b1, b2, b3, b4, b5)) :
    T_X3_read N n1 n2 n3 n4 n5 nw ns nk nc nf nr nn nu s1 s2 s3 s4 s5 sw ss sk sc sf sr sn su tl tp tf tb = some (q, n1, n2, n3, n4, n5, nw, ns, nk, nc, nf, nr, nn, nu, a3, a4, a5, a6, a7, b1, b2, b3, b4, b5, a1, a2) := by
  rw [T_X3_read, hR]
  simp only [Option.bind_some, lt', jn]
  rw [if_pos h0]
theorem read3_ok {N : Nat} {q a1 a2 a3 a4 a5 a6 a7 n1 n2 n3 n4 n5 s1 s2 s3 s4 s5 tl tp tf : Int32} {b1 b2 b3 b4 b5 nw ns nk nc nf nr nn nu sw ss sk sc sf sr sn su tb : Nat → Int32} (h0 : ¬ q ≤ 0) (hR : T_X2_readInto N tl tp tf tb s1 s2 s3 s4 s5 sw ss sk sc sf = some (q, a1, a2, a3, a4, a5, a6, a7, b1, b2, b3, b4, b5)) :
    T_X3_read N n1 n2 n3 n4 n5 nw ns nk nc nf nr nn nu s1 s2 s3 s4 s5 sw ss sk sc sf sr sn su tl tp tf tb = some (q, a3, a4, a5, a6, a7, va_cpy b1 nw 0 0 12, va_cpy b2 ns 0 0 12, va_cpy b3 nk 0 0 5, va_cpy b4 nc 0 0 5, va_cpy b5 nf 0 0 5, va_cpy sr nr 0 0 12, va_cpy sn nn 0 0 42, va_cpy su nu 0 0 88, a3, a4, a5, a6, a7, b1, b2, b3, b4, b5, a1, a2) := by
  rw [T_X3_read, hR]
  simp only [Option.bind_some, lt', jn]
  rw [if_neg h0, take_n]
  rfl
theorem read4_bad {N : Nat} {q a1 a2 a3 a4 ty rA rM rF rN a9 c1 c2 c3 : Int32} {w s k c f text RF0 RW0 d1 d2 : Nat → Int32} (hM : T_X4_readsSea N ty rA rM rF rN text RF0 RW0 = some (-1, q, c1, c2, c3, d1, d2)) :
    T_X4_read N a1 a2 a3 a4 ty rA rM rF rN a9 w s k c f text RF0 RW0 = some ((-10) - q, a1, a2, a3, a4, q, c1, c2, c3, a9, w, s, k, c, f, d1, d2) := by
  rw [T_X4_read, hM]
  simp only [Option.bind_some, lt']
  rw [if_neg m1_not]
set_option maxHeartbeats 4000000 in
theorem op_read (N : Nat) (hN : 1000 ≤ N) (x : FIV) (m : MV) (h : REL x m) : ∃ (R : Int32 × Int32 × Int32 × Int32 × Int32 × Int32 × (Nat → Int32) × (Nat → Int32) × (Nat → Int32) × (Nat → Int32) × (Nat → Int32) × (Nat → Int32) × (Nat → Int32) × (Nat → Int32) × Int32 × Int32 × Int32 × Int32 × Int32 × (Nat → Int32) × (Nat → Int32) × (Nat → Int32) × (Nat → Int32) × (Nat → Int32) × Int32 × Int32) (RM : Int32 × Int32 × Int32 × Int32 × Int32 × Int32 × Int32 × Int32 × Int32 × Int32 × (Nat → Int32) × (Nat → Int32) × (Nat → Int32) × (Nat → Int32) × (Nat → Int32) × (Nat → Int32) × (Nat → Int32)), T_X3_read N (xn_month x) (xn_floes x) (xn_founds x) (xn_notes x) (xn_undos x) (xn_ways x) (xn_strengths x) (xn_kinds x) (xn_cells x) (xn_foods x) (xn_foundRows x) (xn_noteRows x) (xn_undoRows x) (xs_month x) (xs_floes x) (xs_founds x) (xs_notes x) (xs_undos x) (xs_ways x) (xs_strengths x) (xs_kinds x) (xs_cells x) (xs_foods x) (xs_foundRows x) (xs_noteRows x) (xs_undoRows x) (xt_length x) (xt_place x) (xt_fault x) (xt_bytes x) = some R ∧ T_X4_read N (m_many m) (m_now m) (m_findMany m) (m_noteMany m) (m_typed m) (m_readAt m) (m_readMonth m) (m_readMany m) (m_readNumber m) (m_undoMany m) (m_ways m) (m_strengths m) (m_kinds m) (m_cells m) (m_food m) (m_text m) (m_readFloe m) (m_readWind m) = some RM ∧ R.1 = RM.1 ∧ REL (R.2.1, R.2.2.2.2.2.2.1, R.2.2.2.2.2.2.2.1, R.2.2.1, R.2.2.2.2.2.2.2.2.1, R.2.2.2.2.2.2.2.2.2.1, R.2.2.2.2.2.2.2.2.2.2.1, R.2.2.2.1, R.2.2.2.2.2.2.2.2.2.2.2.1, R.2.2.2.2.1, R.2.2.2.2.2.2.2.2.2.2.2.2.1, R.2.2.2.2.2.1, R.2.2.2.2.2.2.2.2.2.2.2.2.2.1, R.2.2.2.2.2.2.2.2.2.2.2.2.2.2.1, R.2.2.2.2.2.2.2.2.2.2.2.2.2.2.2.2.2.2.2.1, R.2.2.2.2.2.2.2.2.2.2.2.2.2.2.2.2.2.2.2.2.1, R.2.2.2.2.2.2.2.2.2.2.2.2.2.2.2.1, R.2.2.2.2.2.2.2.2.2.2.2.2.2.2.2.2.2.2.2.2.2.1, R.2.2.2.2.2.2.2.2.2.2.2.2.2.2.2.2.2.2.2.2.2.2.1, R.2.2.2.2.2.2.2.2.2.2.2.2.2.2.2.2.2.2.2.2.2.2.2.1, R.2.2.2.2.2.2.2.2.2.2.2.2.2.2.2.2.1, (xs_foundRows x), R.2.2.2.2.2.2.2.2.2.2.2.2.2.2.2.2.2.1, (xs_noteRows x), R.2.2.2.2.2.2.2.2.2.2.2.2.2.2.2.2.2.2.1, (xs_undoRows x), (xt_bytes x), (xt_length x), R.2.2.2.2.2.2.2.2.2.2.2.2.2.2.2.2.2.2.2.2.2.2.2.2.1, R.2.2.2.2.2.2.2.2.2.2.2.2.2.2.2.2.2.2.2.2.2.2.2.2.2, (x_odds x), (x_nextOdds x), (x_gains x), (x_above x), (x_below x), (x_bads x), (x_nos x), (x_fulls x), (x_img0 x), (x_img1 x)) ((m_refused m), RM.2.1, RM.2.2.1, RM.2.2.2.1, RM.2.2.2.2.1, RM.2.2.2.2.2.2.2.2.2.2.1, RM.2.2.2.2.2.2.2.2.2.2.2.1, RM.2.2.2.2.2.2.2.2.2.2.2.2.1, RM.2.2.2.2.2.2.2.2.2.2.2.2.2.1, RM.2.2.2.2.2.2.2.2.2.2.2.2.2.2.1, (m_findKind m), (m_findMonth m), (m_findCell m), (m_noted m), (m_text m), (m_typed m), RM.2.2.2.2.2.1, RM.2.2.2.2.2.2.1, RM.2.2.2.2.2.2.2.1, RM.2.2.2.2.2.2.2.2.2.2.2.2.2.2.2.1, RM.2.2.2.2.2.2.2.2.2.2.2.2.2.2.2.2, RM.2.2.2.2.2.2.2.2.1, (m_ahead m), RM.2.2.2.2.2.2.2.2.2.1, (m_aside m), (m_above m), (m_below m), (m_images m), (m_isKept m), (m_h0 m)) := by
  obtain ⟨⟨S, hok, hc, hm⟩, htx, hab, hrf, hg0, hg1⟩ := h
  obtain ⟨n, hn, t1, t2, t3⟩ := htx
  have htx : txR (xt_length x) (xt_bytes x) (m_typed m) (m_text m) := ⟨n, hn, t1, t2, t3⟩
  rcases read_n (N := N) (b := xt_bytes x) (text := m_text m) (w := xs_ways x) (g := xs_strengths x) (kk := xs_kinds x) (cc := xs_cells x) (ff := xs_foods x) (RF0 := m_readFloe m) (RW0 := m_readWind m) (pl0 := xt_place x) (ft0 := xt_fault x) (x1 := xs_month x) (x2 := xs_floes x) (x3 := xs_founds x) (x4 := xs_notes x) (x5 := xs_undos x) (rA := m_readAt m) (rM := m_readMonth m) (rF := m_readMany m) (rN := m_readNumber m) hN hn t3 with ⟨q, hq, ⟨a1, a2, a3, a4, a5, a6, a7, b1, b2, b3, b4, b5, hR⟩, c1, c2, c3, d1, d2, hM⟩ | ⟨v, ct, F, W, G, K, C, D, pl, rn', cw, cg, ck, cc, cf, RF, RW, v1, k1, k2, ⟨o1, o2, o3, o4⟩, ⟨q1, q2, q3⟩, ⟨r1, r2⟩, hR, hM⟩
  · rw [← t1] at hR
    rw [← t2] at hM
    refine opI (read3_bad (m10_le q (by omega)) hR) (read4_bad hM) ?_
    exact ⟨rfl, ⟨S, hok, hc, hm⟩, htx, hab, hrf, hg0, hg1⟩
  · have y1 : ¬ nI ct ≤ 0 := by rw [l0, nI_leI (by omega) (by omega)]; omega
    rw [← t1] at hR
    rw [← t2] at hM
    obtain ⟨zw, zs, k', c', f', gM, d27, d71⟩ := read4_n (a1 := m_many m) (a2 := m_now m) (a3 := m_findMany m) (a4 := m_noteMany m) (a9 := m_undoMany m) (w := m_ways m) (s := m_strengths m) (k := m_kinds m) (c := m_cells m) (f := m_food m) hN k2 o1 r1 r2 hM
    refine opI (read3_ok y1 hR) gM ?_
    have nz : ∀ {P : Nat → Prop} (k : Nat), k < 0 → P k := fun _ h => absurd h (Nat.not_lt_zero _)
    exact ⟨rfl, ⟨mkS v F 0 0 0 W G K C D (fun _ => 0) (fun _ => 0) (fun _ => 0),
      ⟨by show v ≤ 999; omega, o1, Nat.zero_le _, Nat.zero_le _, Nat.zero_le _, o2, o3, fun f hf => (o4 f hf).1, fun f hf => (o4 f hf).2.1, fun f hf => by have h : D f ≤ 60 := (o4 f hf).2.2; show D f ≤ 99; omega, nz, nz, nz⟩,
      ⟨⟨rfl, rfl, rfl, rfl, rfl⟩, fun i hi => (cp0 hi).trans (q1 i hi), fun i hi => (cp0 hi).trans (q2 i hi), fun i hi => (cp0 (Nat.lt_of_lt_of_le hi o1)).trans (q3 i hi).1, fun i hi => (cp0 (Nat.lt_of_lt_of_le hi o1)).trans (q3 i hi).2.1, fun i hi => (cp0 (Nat.lt_of_lt_of_le hi o1)).trans (q3 i hi).2.2, nz, nz, nz⟩,
      ⟨⟨rfl, rfl, rfl, rfl, rfl⟩, fun i hi => (d27 i hi).1, fun i hi => (d27 i hi).2, fun i hi => (d71 i hi).1, fun i hi => (d71 i hi).2.1, fun i hi => (d71 i hi).2.2, nz, nz, nz⟩⟩, htx, hab, hrf, hg0, hg1⟩
