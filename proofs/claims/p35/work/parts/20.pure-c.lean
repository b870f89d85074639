def trN (k mo w s c : Nat) : Nat := if stN k s c = 0 then 0 else 4 * stN k s c + wayN k mo w
theorem tracks_n {k mo w s c : Nat} (hk : k ≤ 5) (hm : mo < 2 ^ 31) (hw : w ≤ 3) (hs : s ≤ 3) (hc : c ≤ 5) : T_X0_tracks (nI k) (nI mo) (nI w) (nI s) (nI c) = nI (trN k mo w s c) := by
  obtain ⟨s1, s2, s3⟩ := st_all k (by omega) s (by omega) c (by omega)
  have wy := wayOf_n (k := k) (m := mo) (w := w) hk hm hw
  rw [T_X0_tracks, trN]
  by_cases h : stN k s c = 0
  · simp (disch := omega) only [l0, l1, l2, l3, l4, l5, l6, l7, l8, l9, l10, l11, l12, l30, l35, l36, l60, l99, l127, l150, l999, nI_eq, nI_leI, nI_ltI, nI_1, nI_add, pk_mul, obN, nI_clamp, lt', jn, Option.bind_some, inF, inC, inK, wi3, T_X3_isFirstOrSecond, T_X3_refuseBad, T_X3_refuseFull, T_X3_refuseNo, reduceIte, Nat.reduceEqDiff, Nat.reduceLeDiff, Nat.reduceMul, Nat.reduceAdd, Nat.reduceSub, and_true, true_and, s1, h]
  · simp (disch := omega) only [l0, l1, l2, l3, l4, l5, l6, l7, l8, l9, l10, l11, l12, l30, l35, l36, l60, l99, l127, l150, l999, nI_eq, nI_leI, nI_ltI, nI_1, nI_add, pk_mul, obN, nI_clamp, lt', jn, Option.bind_some, inF, inC, inK, wi3, T_X3_isFirstOrSecond, T_X3_refuseBad, T_X3_refuseFull, T_X3_refuseNo, reduceIte, Nat.reduceEqDiff, Nat.reduceLeDiff, Nat.reduceMul, Nat.reduceAdd, Nat.reduceSub, and_true, true_and, s1, h, wy]
/-- is it one of the set -/
def inS (v : Int32) (k : Nat) : Bool := decide ((v >>> (nI k &&& nI 31)) &&& nI 1 = nI 1)
theorem l31 : (31 : Int32) = nI 31 := rfl
def alkN (v : Int32) (T : Nat → Nat) (a : Nat) : Nat := if inS v a then cntP (fun k => inS v k && decide (T k = T a)) 6 else 0
theorem alkN_le (v : Int32) (T : Nat → Nat) (a : Nat) : alkN v T a ≤ 6 := by
  unfold alkN
  split
  · exact cntP_le _ 6
  · omega
def mxN (f : Nat → Nat) : Nat → Nat
  | 0 => 0
  | n + 1 => if mxN f n < f n then f n else mxN f n
theorem mxN_le {f : Nat → Nat} {b : Nat} (h : ∀ n, f n ≤ b) : ∀ n, mxN f n ≤ b
  | 0 => Nat.zero_le b
  | n + 1 => by
    have := mxN_le h n
    have := h n
    unfold mxN; split <;> omega
theorem alikeTo_n {N a mo c : Nat} {v : Int32} {W G : Nat → Nat} {w g : Nat → Int32} (hN : 1000 ≤ N) (ew : ∀ i, i < 12 → w i = nI (W i)) (eg : ∀ i, i < 12 → g i = nI (G i)) (hW : ∀ i, i < 12 → W i ≤ 3) (hG : ∀ i, i < 12 → G i ≤ 3) (ha : a ≤ 5) (hm : mo < 2 ^ 31) (hc : c ≤ 5) :
    T_X1_alikeTo N w g (nI a) v (nI mo) (nI c) = some (nI (cntP (fun k => inS v k && decide (trN k mo (W (mo % 12)) (G (mo % 12)) c = trN a mo (W (mo % 12)) (G (mo % 12)) c)) 6)) := by
  have h12 : mo % 12 < 12 := by omega
  have gw := ew _ h12
  have gg := eg _ h12
  have hw := hW _ h12
  have hg := hG _ h12
  generalize W (mo % 12) = ww at *
  generalize G (mo % 12) = ss at *
  have e1 := pk_div (a := mo) (d := 12) (by omega) (by omega) (by omega)
  have e2 := pk_rem (a := mo) (d := 12) (by omega) (by omega) (by omega)
  rw [e1, pk_mul] at e2
  have ta := tracks_n (mo := mo) ha hm hw hg hc
  obtain ⟨r, x1, rfl⟩ := lp (fun n (s : Int32 × Int32) => T_X1_alikeTo_L41 N v (nI mo) (nI c) (nI ww) (nI ss) (nI (trN a mo ww ss c)) n s.1 s.2) (fun k s => s = (nI (cntP (fun k => inS v k && decide (trN k mo ww ss c = trN a mo ww ss c)) k), nI k)) (fun r => r = nI (cntP (fun k => inS v k && decide (trN k mo ww ss c = trN a mo ww ss c)) 6)) 6
    (fun k s n hk hs => by
      subst hs
      have hn5 : ¬ 6 ≤ k := by omega
      have tk := tracks_n (k := k) (mo := mo) (by omega) hm hw hg hc
      have lk : trN k mo ww ss c < 2 ^ 31 := by
        have := (st_all k (by omega) ss (by omega) c (by omega)).2.2
        have := wayN_le (k := k) (m := mo) hw
        unfold trN; split <;> omega
      have lk' : trN a mo ww ss c < 2 ^ 31 := by
        have := (st_all a (by omega) ss (by omega) c (by omega)).2.2
        have := wayN_le (k := a) (m := mo) hw
        unfold trN; split <;> omega
      refine .inl ⟨_, rfl, ?_⟩
      (try simp only)
      rw [T_X1_alikeTo_L41, cntP]
      by_cases h1 : (v >>> (nI k &&& nI 31)) &&& nI 1 = nI 1
      · by_cases h2 : trN k mo ww ss c = trN a mo ww ss c
        · simp (disch := omega) only [l0, l1, l2, l3, l4, l5, l6, l7, l8, l9, l10, l11, l12, l30, l35, l36, l60, l99, l127, l150, l999, nI_eq, nI_leI, nI_ltI, nI_1, nI_add, pk_mul, obN, nI_clamp, lt', jn, Option.bind_some, inF, inC, inK, wi3, T_X3_isFirstOrSecond, T_X3_refuseBad, T_X3_refuseFull, T_X3_refuseNo, reduceIte, Nat.reduceEqDiff, Nat.reduceLeDiff, Nat.reduceMul, Nat.reduceAdd, Nat.reduceSub, and_true, true_and, hn5, l31, h1, h2, tk, inS, decide_true, Bool.and_true]
        · simp (disch := omega) only [l0, l1, l2, l3, l4, l5, l6, l7, l8, l9, l10, l11, l12, l30, l35, l36, l60, l99, l127, l150, l999, nI_eq, nI_leI, nI_ltI, nI_1, nI_add, pk_mul, obN, nI_clamp, lt', jn, Option.bind_some, inF, inC, inK, wi3, T_X3_isFirstOrSecond, T_X3_refuseBad, T_X3_refuseFull, T_X3_refuseNo, reduceIte, Nat.reduceEqDiff, Nat.reduceLeDiff, Nat.reduceMul, Nat.reduceAdd, Nat.reduceSub, and_true, true_and, hn5, l31, h1, h2, tk, inS, decide_true, decide_false, Bool.and_false, Bool.false_eq_true]
      · simp (disch := omega) only [l0, l1, l2, l3, l4, l5, l6, l7, l8, l9, l10, l11, l12, l30, l35, l36, l60, l99, l127, l150, l999, nI_eq, nI_leI, nI_ltI, nI_1, nI_add, pk_mul, obN, nI_clamp, lt', jn, Option.bind_some, inF, inC, inK, wi3, T_X3_isFirstOrSecond, T_X3_refuseBad, T_X3_refuseFull, T_X3_refuseNo, reduceIte, Nat.reduceEqDiff, Nat.reduceLeDiff, Nat.reduceMul, Nat.reduceAdd, Nat.reduceSub, and_true, true_and, hn5, l31, h1, inS, decide_false, Bool.false_and, Bool.false_eq_true])
    (fun s n hs => by
      subst hs
      exact ⟨_, by (try simp only); rw [T_X1_alikeTo_L41]; simp (disch := omega) only [l0, l1, l2, l3, l4, l5, l6, l7, l8, l9, l10, l11, l12, l30, l35, l36, l60, l99, l127, l150, l999, nI_eq, nI_leI, nI_ltI, nI_1, nI_add, pk_mul, obN, nI_clamp, lt', jn, Option.bind_some, inF, inC, inK, wi3, T_X3_isFirstOrSecond, T_X3_refuseBad, T_X3_refuseFull, T_X3_refuseNo, reduceIte, Nat.reduceEqDiff, Nat.reduceLeDiff, Nat.reduceMul, Nat.reduceAdd, Nat.reduceSub, and_true, true_and, Nat.le_refl], rfl⟩)
    6 0 (0, 0) N rfl rfl (by omega)
  rw [T_X1_alikeTo]
  simp (disch := omega) only [l0, l1, l2, l3, l4, l5, l6, l7, l8, l9, l10, l11, l12, l30, l35, l36, l60, l99, l127, l150, l999, nI_eq, nI_leI, nI_ltI, nI_1, nI_add, pk_mul, obN, nI_clamp, lt', jn, Option.bind_some, inF, inC, inK, wi3, T_X3_isFirstOrSecond, T_X3_refuseBad, T_X3_refuseFull, T_X3_refuseNo, reduceIte, Nat.reduceEqDiff, Nat.reduceLeDiff, Nat.reduceMul, Nat.reduceAdd, Nat.reduceSub, and_true, true_and, e1, e2, gw, gg, ta]
  exact x1
theorem mostAlike_n {N mo c : Nat} {v : Int32} {W G : Nat → Nat} {w g : Nat → Int32} (hN : 1000 ≤ N) (ew : ∀ i, i < 12 → w i = nI (W i)) (eg : ∀ i, i < 12 → g i = nI (G i)) (hW : ∀ i, i < 12 → W i ≤ 3) (hG : ∀ i, i < 12 → G i ≤ 3) (hm : mo < 2 ^ 31) (hc : c ≤ 5) :
    T_X1_mostAlike N w g v (nI mo) (nI c) = some (nI (mxN (alkN v (fun k => trN k mo (W (mo % 12)) (G (mo % 12)) c)) 6)) := by
  generalize hT : (fun k => trN k mo (W (mo % 12)) (G (mo % 12)) c) = T
  have ml := mxN_le (alkN_le v T)
  obtain ⟨r, x1, rfl⟩ := lp (fun n (s : Int32 × Int32) => T_X1_mostAlike_L6 N v (nI mo) (nI c) w g n s.1 s.2) (fun k s => s = (nI (mxN (alkN v T) k), nI k)) (fun r => r = nI (mxN (alkN v T) 6)) 6
    (fun k s n hk hs => by
      subst hs
      have hn5 : ¬ 6 ≤ k := by omega
      have lk := ml k
      have la := alkN_le v T k
      have ta := alikeTo_n (a := k) (v := v) hN ew eg hW hG (by omega) hm hc
      rw [show (fun k_1 => inS v k_1 && decide (trN k_1 mo (W (mo % 12)) (G (mo % 12)) c = trN k mo (W (mo % 12)) (G (mo % 12)) c)) = (fun i => inS v i && decide (T i = T k)) by rw [← hT]] at ta
      refine .inl ⟨_, rfl, ?_⟩
      (try simp only)
      rw [T_X1_mostAlike_L6, mxN]
      have cl := cntP_le (fun i => inS v i && decide (T i = T k)) 6
      by_cases h1 : (v >>> (nI k &&& nI 31)) &&& nI 1 = nI 1
      · have ak : alkN v T k = cntP (fun i => inS v i && decide (T i = T k)) 6 := by unfold alkN inS; simp only [h1, decide_true, if_true]
        rw [ak]
        by_cases h2 : mxN (alkN v T) k < cntP (fun i => inS v i && decide (T i = T k)) 6
        · simp (disch := omega) only [l0, l1, l2, l3, l4, l5, l6, l7, l8, l9, l10, l11, l12, l30, l35, l36, l60, l99, l127, l150, l999, nI_eq, nI_leI, nI_ltI, nI_1, nI_add, pk_mul, obN, nI_clamp, lt', jn, Option.bind_some, inF, inC, inK, wi3, T_X3_isFirstOrSecond, T_X3_refuseBad, T_X3_refuseFull, T_X3_refuseNo, reduceIte, Nat.reduceEqDiff, Nat.reduceLeDiff, Nat.reduceMul, Nat.reduceAdd, Nat.reduceSub, and_true, true_and, hn5, l31, h1, h2, ta]
        · simp (disch := omega) only [l0, l1, l2, l3, l4, l5, l6, l7, l8, l9, l10, l11, l12, l30, l35, l36, l60, l99, l127, l150, l999, nI_eq, nI_leI, nI_ltI, nI_1, nI_add, pk_mul, obN, nI_clamp, lt', jn, Option.bind_some, inF, inC, inK, wi3, T_X3_isFirstOrSecond, T_X3_refuseBad, T_X3_refuseFull, T_X3_refuseNo, reduceIte, Nat.reduceEqDiff, Nat.reduceLeDiff, Nat.reduceMul, Nat.reduceAdd, Nat.reduceSub, and_true, true_and, hn5, l31, h1, h2, ta]
      · have ak : alkN v T k = 0 := by unfold alkN inS; simp only [h1, decide_false, Bool.false_eq_true, if_false]
        rw [ak]
        simp (disch := omega) only [l0, l1, l2, l3, l4, l5, l6, l7, l8, l9, l10, l11, l12, l30, l35, l36, l60, l99, l127, l150, l999, nI_eq, nI_leI, nI_ltI, nI_1, nI_add, pk_mul, obN, nI_clamp, lt', jn, Option.bind_some, inF, inC, inK, wi3, T_X3_isFirstOrSecond, T_X3_refuseBad, T_X3_refuseFull, T_X3_refuseNo, reduceIte, Nat.reduceEqDiff, Nat.reduceLeDiff, Nat.reduceMul, Nat.reduceAdd, Nat.reduceSub, and_true, true_and, hn5, l31, h1, Nat.not_lt_zero])
    (fun s n hs => by
      subst hs
      exact ⟨_, by (try simp only); rw [T_X1_mostAlike_L6]; simp (disch := omega) only [l0, l1, l2, l3, l4, l5, l6, l7, l8, l9, l10, l11, l12, l30, l35, l36, l60, l99, l127, l150, l999, nI_eq, nI_leI, nI_ltI, nI_1, nI_add, pk_mul, obN, nI_clamp, lt', jn, Option.bind_some, inF, inC, inK, wi3, T_X3_isFirstOrSecond, T_X3_refuseBad, T_X3_refuseFull, T_X3_refuseNo, reduceIte, Nat.reduceEqDiff, Nat.reduceLeDiff, Nat.reduceMul, Nat.reduceAdd, Nat.reduceSub, and_true, true_and, Nat.le_refl], rfl⟩)
    6 0 (0, 0) N rfl rfl (by omega)
  rw [T_X1_mostAlike]
  exact x1
theorem k0 : (0 : Int64) = lN 0 := rfl
theorem k1 : (1 : Int64) = lN 1 := rfl
theorem k10 : (10 : Int64) = lN 10 := rfl
theorem lN_div {a d : Nat} (ha : a < 2 ^ 31) (hd : d < 2 ^ 31) : lN a / lN d = lN (a / d) := by
  apply Int64.toInt_inj.mp
  have h := Nat.div_le_self a d
  rw [Int64.toInt_div, lN_toInt ha, lN_toInt hd, lN_toInt (by omega), ← Int.ofNat_tdiv]
  generalize a / d = q at h ⊢
  refine Int.bmod_eq_of_le ?_ ?_ <;> omega
theorem lN_rem {a d : Nat} (ha : a < 2 ^ 31) (hd : d < 2 ^ 31) : lN a - lN a / lN d * lN d = lN (a % d) := by
  have h1 := Nat.div_add_mod a d
  have h2 := Nat.mul_comm d (a / d)
  rw [lN_div ha hd, lN_mul, lN_sub (by omega)]
  congr 1
  omega
def sumN (f : Nat → Nat) : Nat → Nat
  | 0 => 0
  | n + 1 => sumN f n + f n
theorem sumN_c {f g : Nat → Nat} : ∀ n, (∀ x, x < n → f x = g x) → sumN f n = sumN g n
  | 0, _ => rfl
  | n + 1, h => by
    show sumN f n + f n = sumN g n + g n
    rw [sumN_c n (fun x hx => h x (by omega)), h n (by omega)]
theorem sumN_0 {f : Nat → Nat} : ∀ n, (∀ x, x < n → f x = 0) → sumN f n = 0
  | 0, _ => rfl
  | n + 1, h => by
    show sumN f n + f n = 0
    rw [sumN_0 n (fun x hx => h x (by omega)), h n (by omega)]
theorem sumN_upn {z V : Nat → Nat} {q a : Nat} : ∀ n, q < n → sumN (fun x => upn z q (z q + a) x * V x) n = sumN (fun x => z x * V x) n + a * V q
  | 0, h => absurd h (Nat.not_lt_zero q)
  | n + 1, h => by
    show sumN (fun x => upn z q (z q + a) x * V x) n + upn z q (z q + a) n * V n = sumN (fun x => z x * V x) n + z n * V n + a * V q
    by_cases e : n = q
    · subst e
      rw [upn_s, sumN_c (g := fun x => z x * V x) n (fun x hx => by rw [upn_n (by omega)]), Nat.add_mul]; omega
    · rw [upn_n e, sumN_upn n (by omega)]; omega
theorem sumN_2 (f : Nat → Nat) : ∀ n, sumN f (2 * n) = sumN (fun b => f (2 * b) + f (2 * b + 1)) n
  | 0 => rfl
  | n + 1 => by
    show sumN f (2 * n + 2) = sumN (fun b => f (2 * b) + f (2 * b + 1)) n + (f (2 * n) + f (2 * n + 1))
    rw [← sumN_2 f n]
    show sumN f (2 * n) + f (2 * n) + f (2 * n + 1) = _
    omega
theorem sumN_add (f g : Nat → Nat) : ∀ n, sumN (fun x => f x + g x) n = sumN f n + sumN g n
  | 0 => rfl
  | n + 1 => by
    show sumN (fun x => f x + g x) n + (f n + g n) = sumN f n + f n + (sumN g n + g n)
    rw [sumN_add f g n]; omega
theorem sumN_mul (c : Nat) (f : Nat → Nat) : ∀ n, sumN (fun x => c * f x) n = c * sumN f n
  | 0 => rfl
  | n + 1 => by
    show sumN (fun x => c * f x) n + c * f n = c * (sumN f n + f n)
    rw [sumN_mul c f n, Nat.mul_add]
/-- the weights a month later, of so many cells -/
def dfN (o nx : Nat → Nat) (c : Nat) : Nat → Nat → Nat
  | 0 => fun _ => 0
  | x + 1 => upn (upn (dfN o nx c x) x (dfN o nx c x x + o x * c)) (nx x) (upn (dfN o nx c x) x (dfN o nx c x x + o x * c) (nx x) + o x * (10 - c))
theorem df_sum {o nx V : Nat → Nat} {c : Nat} (hnx : ∀ x, x < 36 → nx x < 36) : ∀ n, n ≤ 36 → sumN (fun q => dfN o nx c n q * V q) 36 = sumN (fun x => o x * (c * V x + (10 - c) * V (nx x))) n
  | 0, _ => sumN_0 36 (fun x _ => Nat.zero_mul _)
  | n + 1, h => by
    have ih := df_sum (o := o) (V := V) (c := c) hnx n (by omega)
    show _ = sumN (fun x => o x * (c * V x + (10 - c) * V (nx x))) n + o n * (c * V n + (10 - c) * V (nx n))
    rw [dfN, sumN_upn 36 (hnx n (by omega)), sumN_upn 36 (by omega), ih, Nat.mul_add, Nat.mul_assoc, Nat.mul_assoc]; omega
/-- the weights behind t months -/
def odN (W G : Nat → Nat) (k c mo c0 : Nat) : Nat → Nat → Nat
  | 0 => upn (fun _ => 0) c0 1
  | t + 1 => dfN (odN W G k c mo c0 t) (fun x => itN W G k x (mo + t)) c 36
/-- the weight of being out behind d months -/
def wN (W G : Nat → Nat) (k c : Nat) : Nat → Nat → Nat → Nat
  | 0, _, x => if x % 6 = 5 then 1 else 0
  | d + 1, mo, x => c * wN W G k c d (mo + 1) x + (10 - c) * wN W G k c d (mo + 1) (itN W G k x mo)
theorem wN_le {W G : Nat → Nat} {k c : Nat} (hc : c ≤ 10) : ∀ d mo x, wN W G k c d mo x ≤ 10 ^ d
  | 0, _, x => by unfold wN; split <;> simp
  | d + 1, mo, x => by
    have a := Nat.mul_le_mul_left c (wN_le (W := W) (G := G) (k := k) hc d (mo + 1) x)
    have b := Nat.mul_le_mul_left (10 - c) (wN_le (W := W) (G := G) (k := k) hc d (mo + 1) (itN W G k x mo))
    have e : c * 10 ^ d + (10 - c) * 10 ^ d = 10 ^ d * 10 := by rw [← Nat.add_mul, Nat.mul_comm]; congr 1; omega
    unfold wN
    rw [Nat.pow_succ]
    omega
theorem od_sum {W G : Nat → Nat} {k c mo c0 : Nat} (hit : ∀ x m, x ≤ 35 → itN W G k x m ≤ 35) (h0 : c0 ≤ 35) : ∀ t d, sumN (fun q => odN W G k c mo c0 t q * wN W G k c d (mo + t) q) 36 = wN W G k c (t + d) mo c0
  | 0, d => by
    have h := sumN_upn (z := fun _ => 0) (V := wN W G k c d (mo + 0)) (q := c0) (a := 1) 36 (by omega)
    rw [sumN_0 (f := fun x => 0 * wN W G k c d (mo + 0) x) 36 (fun x _ => Nat.zero_mul _)] at h
    rw [show 0 + 1 = 1 from rfl] at h
    rw [odN, h, Nat.zero_add, Nat.one_mul, Nat.zero_add]
    rfl
  | t + 1, d => by
    have ih := od_sum (c := c) (mo := mo) hit h0 t (d + 1)
    rw [odN, df_sum (fun x hx => by have := hit x (mo + t) (by omega); omega) 36 (by omega)]
    rw [show t + 1 + d = t + (d + 1) by omega, ← ih]
    rfl
/-- calm in a month whose place in the mask has a one -/
def fnN (W G : Nat → Nat) (k : Nat) : Nat → Nat → Nat → Nat → Nat
  | 0, _, _, x => x
  | d + 1, b, mo, x => fnN W G k d (b / 2) (mo + 1) (if b % 2 = 1 then x else itN W G k x mo)
def prN (c : Nat) : Nat → Nat → Nat
  | 0, _ => 1
  | d + 1, b => (if b % 2 = 1 then c else 10 - c) * prN c d (b / 2)
theorem fnN_s (W G : Nat → Nat) (k d b mo x : Nat) : fnN W G k (d + 1) b mo x = fnN W G k d (b / 2) (mo + 1) (if b % 2 = 1 then x else itN W G k x mo) := rfl
theorem prN_s (c d b : Nat) : prN c (d + 1) b = (if b % 2 = 1 then c else 10 - c) * prN c d (b / 2) := rfl
def tmN (W G : Nat → Nat) (k c d mo x b : Nat) : Nat := if fnN W G k d b mo x % 6 = 5 then prN c d b else 0
theorem tm_sum {W G : Nat → Nat} {k c : Nat} : ∀ d mo x, sumN (tmN W G k c d mo x) (2 ^ d) = wN W G k c d mo x
  | 0, mo, x => by
    show 0 + tmN W G k c 0 mo x 0 = _
    rw [Nat.zero_add]; rfl
  | d + 1, mo, x => by
    have e : ∀ b, tmN W G k c (d + 1) mo x (2 * b) + tmN W G k c (d + 1) mo x (2 * b + 1) = (10 - c) * tmN W G k c d (mo + 1) (itN W G k x mo) b + c * tmN W G k c d (mo + 1) x b := by
      intro b
      have a1 : 2 * b / 2 = b := by omega
      have a2 : (2 * b + 1) / 2 = b := by omega
      have a3 : ¬ 2 * b % 2 = 1 := by omega
      have a4 : (2 * b + 1) % 2 = 1 := by omega
      have f0 : fnN W G k (d + 1) (2 * b) mo x = fnN W G k d b (mo + 1) (itN W G k x mo) := by rw [fnN_s, a1, if_neg a3]
      have f1 : fnN W G k (d + 1) (2 * b + 1) mo x = fnN W G k d b (mo + 1) x := by rw [fnN_s, a2, if_pos a4]
      have p0 : prN c (d + 1) (2 * b) = (10 - c) * prN c d b := by rw [prN_s, a1, if_neg a3]
      have p1 : prN c (d + 1) (2 * b + 1) = c * prN c d b := by rw [prN_s, a2, if_pos a4]
      rw [tmN, tmN, tmN, tmN, f0, f1, p0, p1]
      by_cases h1 : fnN W G k d b (mo + 1) (itN W G k x mo) % 6 = 5 <;> by_cases h2 : fnN W G k d b (mo + 1) x % 6 = 5 <;> simp [h1, h2]
    rw [Nat.pow_succ, Nat.mul_comm, sumN_2, sumN_c (g := fun b => (10 - c) * tmN W G k c d (mo + 1) (itN W G k x mo) b + c * tmN W G k c d (mo + 1) x b) _ (fun b _ => e b), sumN_add, sumN_mul, sumN_mul, tm_sum d, tm_sum d, wN]
    omega
theorem cp0L {f g : Nat → Int64} {n j : Nat} (h : j < n) : va_cpy f g 0 0 n j = f j := by
  rw [pk_cpy_in (by omega) (by omega), Nat.sub_zero, Nat.zero_add]
theorem fillL_n {N : Nat} (hN : 1000 ≤ N) (f : Nat → Int64) : ∃ g, T_J7_fill_d0a16 N 36 f 0 = some g ∧ ∀ i, i < 36 → g i = lN 0 := by
  have := lp (fun n (s : Int32 × (Nat → Int64)) => T_J7_fill_d0a16_L6 N 0 (nI 36) 36 n s.1 s.2) (fun i s => s.1 = nI i ∧ ∀ j, j < i → s.2 j = lN 0) (fun r => ∀ i, i < 36 → r i = lN 0) 36
    (fun i s n hi ⟨h1, h2⟩ => by
      obtain ⟨s1, s2⟩ := s
      simp only at h1 h2
      subst h1
      refine .inl ⟨(nI i + 1, vp_updL s2 (nI i).toNatClampNeg 0), ⟨nI_1 i, ?_⟩, ?_⟩
      · intro j hj
        rw [nI_clamp (by omega)]
        by_cases e : j = i
        · subst e; exact pk_uLs
        · simp only; rw [pk_uLn e]; exact h2 j (by omega)
      · rw [T_J7_fill_d0a16_L6, if_neg (by rw [nI_leI (by omega) (by omega)]; omega), obN (by omega) (by omega)]; rfl)
    (fun s n ⟨h1, h2⟩ => ⟨s.2, by rw [T_J7_fill_d0a16_L6, h1, if_pos (by rw [nI_leI (by omega) (by omega)]; omega)], h2⟩)
    36 0 (0, f) N rfl ⟨rfl, fun j hj => absurd hj (Nat.not_lt_zero j)⟩ (by omega)
  exact this
theorem st0 : ∀ k, k < 6 → ∀ c, c < 6 → stN k 0 c = 0 := by decide +kernel
theorem calm_n {k x mo w : Nat} (hk : k ≤ 5) : nxN k x mo w 0 = x := by
  rw [nxN, st0 k (by omega) (x % 6) (by omega)]; rfl
theorem uL {z : Nat → Int64} {d : Nat → Nat} {q0 a : Nat} (h : ∀ q, q < 36 → z q = lN (d q)) (hq : q0 < 36) (q : Nat) (hl : q < 36) : vp_updL z q0 (z q0 + lN a) q = lN (upn d q0 (d q0 + a) q) := by
  by_cases e : q = q0
  · subst e; rw [upn_s, pk_uLs, h q hl, lN_add]
  · rw [upn_n e, pk_uLn e]; exact h q hl
theorem driftOdds_n {N k c mo : Nat} {W G : Nat → Nat} {w g : Nat → Int32} {odds next : Nat → Int64} {o : Nat → Nat} (hN : 1000 ≤ N) (ew : ∀ i, i < 12 → w i = nI (W i)) (eg : ∀ i, i < 12 → g i = nI (G i)) (hW : ∀ i, i < 12 → W i ≤ 3) (hG : ∀ i, i < 12 → G i ≤ 3) (hk : k ≤ 5) (hm : mo < 2 ^ 30) (hc : c ≤ 10) (ho : ∀ q, q < 36 → odds q = lN (o q)) :
    ∃ a b, T_X3_driftOdds N w g odds next (nI k) (nI mo) (nI c) = some (a, b) ∧ ∀ q, q < 36 → a q = lN (dfN o (fun x => itN W G k x mo) c 36 q) := by
  obtain ⟨f, e1, d1⟩ := fillL_n hN next
  have h12 : mo % 12 < 12 := by omega
  have gw := ew _ h12
  have hw := hW _ h12
  have q1 := pk_div (a := mo) (d := 12) (by omega) (by omega) (by omega)
  have q2 := pk_rem (a := mo) (d := 12) (by omega) (by omega) (by omega)
  rw [q1, pk_mul] at q2
  have t1 := nI_l (n := c) (by omega)
  have t2 := nI_l (n := 10 - c) (by omega)
  have t3 : nI 10 - nI c = nI (10 - c) := pk_sub (by omega)
  have key : ∀ (d x n : Nat) (z : Nat → Int64), x + d = 36 → d < n → (∀ q, q < 36 → z q = lN (dfN o (fun x => itN W G k x mo) c x q)) →
      ∃ a b, T_X3_driftOdds_L25 N (nI k) (nI mo) (nI c) (w (mo % 12)) w g odds (fun (z43 : Nat → Int64) => (gc 0 0 36 36 36 (some (va_cpy z43 odds (0 : Int32).toNatClampNeg (0 : Int32).toNatClampNeg (36 : Int32).toNatClampNeg, z43)))) n (nI x) z = some (a, b) ∧ ∀ q, q < 36 → a q = lN (dfN o (fun x => itN W G k x mo) c 36 q) := by
    intro d
    induction d with
    | zero =>
      intro x n z hx hn hz
      obtain ⟨n, rfl⟩ := Nat.exists_eq_succ_of_ne_zero (show n ≠ 0 by omega)
      obtain rfl : x = 36 := by omega
      refine ⟨va_cpy z odds 0 0 36, z, ?_, fun q hq => (cp0L hq).trans (hz q hq)⟩
      rw [T_X3_driftOdds_L25]; simp (disch := omega) only [l0, l1, l2, l3, l4, l5, l6, l7, l8, l9, l10, l11, l12, l30, l35, l36, l60, l99, l127, l150, l999, nI_eq, nI_leI, nI_ltI, nI_1, nI_add, pk_mul, obN, nI_clamp, lt', jn, Option.bind_some, inF, inC, inK, wi3, T_X3_isFirstOrSecond, T_X3_refuseBad, T_X3_refuseFull, T_X3_refuseNo, reduceIte, Nat.reduceEqDiff, Nat.reduceLeDiff, Nat.reduceMul, Nat.reduceAdd, Nat.reduceSub, and_true, true_and, Nat.le_refl, gcN]
    | succ d ih =>
      intro x n z hx hn hz
      obtain ⟨n, rfl⟩ := Nat.exists_eq_succ_of_ne_zero (show n ≠ 0 by omega)
      have hn5 : ¬ 36 ≤ x := by omega
      have x1 := cellBy_n (k := k) (c := x) (m := mo) (w := W (mo % 12)) (s := 0) hk (by omega) (by omega) hw (by omega)
      rw [calm_n hk] at x1
      have x2 := nextCell_n (N := N) (c := x) ew eg hW hG hk (by omega) (show mo < 2 ^ 31 by omega)
      have x3 := itN_le (c := x) (m := mo) hW hG hk (by omega)
      obtain ⟨a, b, r1, r2⟩ := ih (x + 1) n (vp_updL (vp_updL z x (z x + lN (o x * c))) (itN W G k x mo) ((vp_updL z x (z x + lN (o x * c))) (itN W G k x mo) + lN (o x * (10 - c)))) (by omega) (by omega) (fun q hq => uL (fun q hq => uL hz (by omega) q hq) (by omega) q hq)
      refine ⟨a, b, ?_, r2⟩
      have ox := ho x (by omega)
      rw [T_X3_driftOdds_L25]
      simp (disch := omega) only [l0, l1, l2, l3, l4, l5, l6, l7, l8, l9, l10, l11, l12, l30, l35, l36, l60, l99, l127, l150, l999, nI_eq, nI_leI, nI_ltI, nI_1, nI_add, pk_mul, obN, nI_clamp, lt', jn, Option.bind_some, inF, inC, inK, wi3, T_X3_isFirstOrSecond, T_X3_refuseBad, T_X3_refuseFull, T_X3_refuseNo, reduceIte, Nat.reduceEqDiff, Nat.reduceLeDiff, Nat.reduceMul, Nat.reduceAdd, Nat.reduceSub, and_true, true_and, hn5, gw, x1, x2, t1, t2, t3, ox, lN_mul]
      rw [gw] at r1
      exact r1
  obtain ⟨a, b, r1, r2⟩ := key 36 0 N f rfl (by omega) (fun q hq => d1 q hq)
  refine ⟨a, b, ?_, r2⟩
  rw [T_X3_driftOdds, e1]
  rw [gw] at r1
  simp (disch := omega) only [l0, l1, l2, l3, l4, l5, l6, l7, l8, l9, l10, l11, l12, l30, l35, l36, l60, l99, l127, l150, l999, nI_eq, nI_leI, nI_ltI, nI_1, nI_add, pk_mul, obN, nI_clamp, lt', jn, Option.bind_some, inF, inC, inK, wi3, T_X3_isFirstOrSecond, T_X3_refuseBad, T_X3_refuseFull, T_X3_refuseNo, reduceIte, Nat.reduceEqDiff, Nat.reduceLeDiff, Nat.reduceMul, Nat.reduceAdd, Nat.reduceSub, and_true, true_and, q1, q2, gw]
  exact r1
theorem calms62_n {N k c mo c0 f m : Nat} {W G : Nat → Nat} {w g kk : Nat → Int32} (K : Int64 → (Nat → Int64) → (Nat → Int64) → Option (Int32 × Int64 × Int64 × Int32 × (Nat → Int64) × (Nat → Int64))) (hN : 1000 ≤ N) (hf : f < 5) (hm8 : m ≤ 8) (ek : kk f = nI k) (ew : ∀ i, i < 12 → w i = nI (W i)) (eg : ∀ i, i < 12 → g i = nI (G i)) (hW : ∀ i, i < 12 → W i ≤ 3) (hG : ∀ i, i < 12 → G i ≤ 3) (hk : k ≤ 5) (hm : mo < 2 ^ 20) (hc : c ≤ 10) :
    ∀ (d t n : Nat) (z y : Nat → Int64), t + d = m → d < n → (∀ q, q < 36 → z q = lN (odN W G k c mo c0 t q)) → ∃ a b, T_X3_calms_L62 N (nI f) (nI m) (nI c) (nI mo) w g kk K n (lN (10 ^ t)) (nI t) z y = K (lN (10 ^ m)) a b ∧ ∀ q, q < 36 → a q = lN (odN W G k c mo c0 m q) := by
  intro d
  induction d with
  | zero =>
    intro t n z y ht hn hz
    obtain ⟨n, rfl⟩ := Nat.exists_eq_succ_of_ne_zero (show n ≠ 0 by omega)
    obtain rfl : t = m := by omega
    refine ⟨z, y, ?_, hz⟩
    rw [T_X3_calms_L62]; simp (disch := omega) only [l0, l1, l2, l3, l4, l5, l6, l7, l8, l9, l10, l11, l12, l30, l35, l36, l60, l99, l127, l150, l999, nI_eq, nI_leI, nI_ltI, nI_1, nI_add, pk_mul, obN, nI_clamp, lt', jn, Option.bind_some, inF, inC, inK, wi3, T_X3_isFirstOrSecond, T_X3_refuseBad, T_X3_refuseFull, T_X3_refuseNo, reduceIte, Nat.reduceEqDiff, Nat.reduceLeDiff, Nat.reduceMul, Nat.reduceAdd, Nat.reduceSub, and_true, true_and, Nat.le_refl]
  | succ d ih =>
    intro t n z y ht hn hz
    obtain ⟨n, rfl⟩ := Nat.exists_eq_succ_of_ne_zero (show n ≠ 0 by omega)
    have hn5 : ¬ m ≤ t := by omega
    obtain ⟨a, b, r1, r2⟩ := driftOdds_n (next := y) (mo := mo + t) hN ew eg hW hG hk (by omega) hc hz
    obtain ⟨a', b', s1, s2⟩ := ih (t + 1) n a b (by omega) (by omega) r2
    refine ⟨a', b', ?_, s2⟩
    rw [T_X3_calms_L62]
    simp (disch := omega) only [l0, l1, l2, l3, l4, l5, l6, l7, l8, l9, l10, l11, l12, l30, l35, l36, l60, l99, l127, l150, l999, nI_eq, nI_leI, nI_ltI, nI_1, nI_add, pk_mul, obN, nI_clamp, lt', jn, Option.bind_some, inF, inC, inK, wi3, T_X3_isFirstOrSecond, T_X3_refuseBad, T_X3_refuseFull, T_X3_refuseNo, reduceIte, Nat.reduceEqDiff, Nat.reduceLeDiff, Nat.reduceMul, Nat.reduceAdd, Nat.reduceSub, and_true, true_and, hn5, ek, r1, k10, lN_mul, ← Nat.pow_succ]
    exact s1
theorem calms112_n {N : Nat} {o : Nat → Nat} {z : Nat → Int64} (K : Int64 → Option (Int32 × Int64 × Int64 × Int32 × (Nat → Int64) × (Nat → Int64))) (hz : ∀ q, q < 36 → z q = lN (o q)) :
    ∀ (d j n : Nat), j + d = 6 → d < n → T_X3_calms_L112 N z K n (lN (sumN (fun i => o (6 * i + 5)) j)) (nI (6 * j + 5)) = K (lN (sumN (fun i => o (6 * i + 5)) 6)) := by
  intro d
  induction d with
  | zero =>
    intro j n hj hn
    obtain ⟨n, rfl⟩ := Nat.exists_eq_succ_of_ne_zero (show n ≠ 0 by omega)
    obtain rfl : j = 6 := by omega
    have h : 36 ≤ 6 * 6 + 5 := by omega
    rw [T_X3_calms_L112]; simp (disch := omega) only [l0, l1, l2, l3, l4, l5, l6, l7, l8, l9, l10, l11, l12, l30, l35, l36, l60, l99, l127, l150, l999, nI_eq, nI_leI, nI_ltI, nI_1, nI_add, pk_mul, obN, nI_clamp, lt', jn, Option.bind_some, inF, inC, inK, wi3, T_X3_isFirstOrSecond, T_X3_refuseBad, T_X3_refuseFull, T_X3_refuseNo, reduceIte, Nat.reduceEqDiff, Nat.reduceLeDiff, Nat.reduceMul, Nat.reduceAdd, Nat.reduceSub, and_true, true_and, h]
  | succ d ih =>
    intro j n hj hn
    obtain ⟨n, rfl⟩ := Nat.exists_eq_succ_of_ne_zero (show n ≠ 0 by omega)
    have hn5 : ¬ 36 ≤ 6 * j + 5 := by omega
    have h := hz (6 * j + 5) (by omega)
    have e : 6 * j + 5 + 6 = 6 * (j + 1) + 5 := by omega
    rw [← ih (j + 1) n (by omega) (by omega), T_X3_calms_L112, sumN]
    simp (disch := omega) only [l0, l1, l2, l3, l4, l5, l6, l7, l8, l9, l10, l11, l12, l30, l35, l36, l60, l99, l127, l150, l999, nI_eq, nI_leI, nI_ltI, nI_1, nI_add, pk_mul, obN, nI_clamp, lt', jn, Option.bind_some, inF, inC, inK, wi3, T_X3_isFirstOrSecond, T_X3_refuseBad, T_X3_refuseFull, T_X3_refuseNo, reduceIte, Nat.reduceEqDiff, Nat.reduceLeDiff, Nat.reduceMul, Nat.reduceAdd, Nat.reduceSub, and_true, true_and, hn5, h, e, lN_add]
theorem od_out {o : Nat → Nat} : sumN (fun q => o q * (if q % 6 = 5 then 1 else 0)) 36 = sumN (fun i => o (6 * i + 5)) 6 := by
  simp [sumN]
theorem divs_n {p q : Nat} (hp : p < 2 ^ 31) (hq : q < 2 ^ 31) : lN p - lN p / lN q * lN q = lN (p % q) := lN_rem hp hq
theorem cmp0 {q : Nat} (hq : q < 2 ^ 31) : lg_cmp (lN q) (lN 0) = nI 0 ↔ q = 0 := by
  rw [← l0, lg_cmp_eq, lN_eq hq (by omega)]
theorem gcd3_n {N : Nat} (K : Int64 → Option Int64) : ∀ (e p q n i : Nat), p < 2 ^ 31 → q < 2 ^ e → e ≤ 30 → i + 2 * e < 128 → 2 * e < n → T_X3_commonDivisor_L9 N K n (lN p) (lN q) (nI i) = K (lN (Nat.gcd p q)) := by
  intro e
  induction e with
  | zero =>
    intro p q n i hp hq he hi hn
    obtain ⟨n, rfl⟩ := Nat.exists_eq_succ_of_ne_zero (show n ≠ 0 by omega)
    obtain rfl : q = 0 := by have : (2 : Nat) ^ 0 = 1 := rfl; omega
    have hn5 : ¬ 128 ≤ i := by omega
    rw [T_X3_commonDivisor_L9, show (128 : Int32) = nI 128 from rfl, Nat.gcd_zero_right]
    simp (disch := omega) only [l0, l1, l2, l3, l4, l5, l6, l7, l8, l9, l10, l11, l12, l30, l35, l36, l60, l99, l127, l150, l999, nI_eq, nI_leI, nI_ltI, nI_1, nI_add, pk_mul, obN, nI_clamp, lt', jn, Option.bind_some, inF, inC, inK, wi3, T_X3_isFirstOrSecond, T_X3_refuseBad, T_X3_refuseFull, T_X3_refuseNo, reduceIte, Nat.reduceEqDiff, Nat.reduceLeDiff, Nat.reduceMul, Nat.reduceAdd, Nat.reduceSub, and_true, true_and, hn5, k0, cmp0]
  | succ e ih =>
    intro p q n i hp hq he hi hn
    have p30 : 2 ^ (e + 1) ≤ 2 ^ 30 := Nat.pow_le_pow_right (by omega) he
    have pe : 2 ^ (e + 1) = 2 ^ e * 2 := Nat.pow_succ 2 e
    obtain ⟨n, rfl⟩ := Nat.exists_eq_succ_of_ne_zero (show n ≠ 0 by omega)
    obtain ⟨n, rfl⟩ := Nat.exists_eq_succ_of_ne_zero (show n ≠ 0 by omega)
    have hn5 : ¬ 128 ≤ i := by omega
    have hn6 : ¬ 128 ≤ i + 1 := by omega
    by_cases h0 : q = 0
    · subst h0
      rw [T_X3_commonDivisor_L9, show (128 : Int32) = nI 128 from rfl, Nat.gcd_zero_right]
      simp (disch := omega) only [l0, l1, l2, l3, l4, l5, l6, l7, l8, l9, l10, l11, l12, l30, l35, l36, l60, l99, l127, l150, l999, nI_eq, nI_leI, nI_ltI, nI_1, nI_add, pk_mul, obN, nI_clamp, lt', jn, Option.bind_some, inF, inC, inK, wi3, T_X3_isFirstOrSecond, T_X3_refuseBad, T_X3_refuseFull, T_X3_refuseNo, reduceIte, Nat.reduceEqDiff, Nat.reduceLeDiff, Nat.reduceMul, Nat.reduceAdd, Nat.reduceSub, and_true, true_and, hn5, k0, cmp0]
    · have q0 : ¬ lN q = 0 := by rw [k0, lN_eq (by omega) (by omega)]; exact h0
      have c0 : ¬ lg_cmp (lN q) (lN 0) = nI 0 := by rw [cmp0 (by omega)]; exact h0
      have r1 := divs_n hp (show q < 2 ^ 31 by omega)
      have g1 : Nat.gcd p q = Nat.gcd q (p % q) := by rw [Nat.gcd_comm p q, Nat.gcd_rec q p, Nat.gcd_comm]
      have m1 := Nat.mod_lt p (show 0 < q by omega)
      rw [T_X3_commonDivisor_L9, show (128 : Int32) = nI 128 from rfl, g1]
      simp only [k0] at q0 ⊢
      simp (disch := omega) only [l0, l1, l2, l3, l4, l5, l6, l7, l8, l9, l10, l11, l12, l30, l35, l36, l60, l99, l127, l150, l999, nI_eq, nI_leI, nI_ltI, nI_1, nI_add, pk_mul, obN, nI_clamp, lt', jn, Option.bind_some, inF, inC, inK, wi3, T_X3_isFirstOrSecond, T_X3_refuseBad, T_X3_refuseFull, T_X3_refuseNo, reduceIte, Nat.reduceEqDiff, Nat.reduceLeDiff, Nat.reduceMul, Nat.reduceAdd, Nat.reduceSub, and_true, true_and, hn5, c0, nz_ne q0, r1]
      by_cases h1 : p % q = 0
      · rw [T_X3_commonDivisor_L9, show (128 : Int32) = nI 128 from rfl, h1, Nat.gcd_zero_right]
        simp (disch := omega) only [l0, l1, l2, l3, l4, l5, l6, l7, l8, l9, l10, l11, l12, l30, l35, l36, l60, l99, l127, l150, l999, nI_eq, nI_leI, nI_ltI, nI_1, nI_add, pk_mul, obN, nI_clamp, lt', jn, Option.bind_some, inF, inC, inK, wi3, T_X3_isFirstOrSecond, T_X3_refuseBad, T_X3_refuseFull, T_X3_refuseNo, reduceIte, Nat.reduceEqDiff, Nat.reduceLeDiff, Nat.reduceMul, Nat.reduceAdd, Nat.reduceSub, and_true, true_and, hn6, k0, cmp0]
      · have q1 : ¬ lN (p % q) = lN 0 := by rw [lN_eq (by omega) (by omega)]; exact h1
        have c1 : ¬ lg_cmp (lN (p % q)) (lN 0) = nI 0 := by rw [cmp0 (by omega)]; exact h1
        have r2 := divs_n (show q < 2 ^ 31 by omega) (show p % q < 2 ^ 31 by omega)
        have g2 : Nat.gcd q (p % q) = Nat.gcd (p % q) (q % (p % q)) := by rw [Nat.gcd_comm q, Nat.gcd_rec (p % q) q, Nat.gcd_comm]
        have m2 := Nat.mod_lt q (show 0 < p % q by omega)
        have m3 : q % (p % q) < 2 ^ e := by
          have hd := Nat.div_add_mod q (p % q)
          have hle : 1 ≤ q / (p % q) := Nat.div_pos (by omega) (by omega)
          have hmul := Nat.mul_le_mul_left (p % q) hle
          omega
        have ih := ih (p % q) (q % (p % q)) n (i + 1 + 1) (by omega) m3 (by omega) (by omega) (by omega)
        rw [g2, ← ih, T_X3_commonDivisor_L9, show (128 : Int32) = nI 128 from rfl]
        simp only [k0] at q1 ⊢
        simp (disch := omega) only [l0, l1, l2, l3, l4, l5, l6, l7, l8, l9, l10, l11, l12, l30, l35, l36, l60, l99, l127, l150, l999, nI_eq, nI_leI, nI_ltI, nI_1, nI_add, pk_mul, obN, nI_clamp, lt', jn, Option.bind_some, inF, inC, inK, wi3, T_X3_isFirstOrSecond, T_X3_refuseBad, T_X3_refuseFull, T_X3_refuseNo, reduceIte, Nat.reduceEqDiff, Nat.reduceLeDiff, Nat.reduceMul, Nat.reduceAdd, Nat.reduceSub, and_true, true_and, hn6, c1, nz_ne q1, r2]
theorem take_n {N : Nat} {a1 a2 a3 a4 a5 c1 c2 c3 c4 c5 : Int32} {w s k c f r n u w' s' k' c' f' r' n' u' : Nat → Int32} : T_X1_takeFrom N a1 a2 a3 a4 a5 w' s' k' c' f' r' n' u' c1 c2 c3 c4 c5 w s k c f r n u = some (c1, c2, c3, c4, c5, va_cpy w w' 0 0 12, va_cpy s s' 0 0 12, va_cpy k k' 0 0 5, va_cpy c c' 0 0 5, va_cpy f f' 0 0 5, va_cpy r r' 0 0 12, va_cpy n n' 0 0 42, va_cpy u u' 0 0 88) := by
  rw [T_X1_takeFrom]; simp (disch := omega) only [l0, l1, l2, l3, l4, l5, l6, l7, l8, l9, l10, l11, l12, l30, l35, l36, l60, l99, l127, l150, l999, nI_eq, nI_leI, nI_ltI, nI_1, nI_add, pk_mul, obN, nI_clamp, lt', jn, Option.bind_some, inF, inC, inK, wi3, T_X3_isFirstOrSecond, T_X3_refuseBad, T_X3_refuseFull, T_X3_refuseNo, reduceIte, Nat.reduceEqDiff, Nat.reduceLeDiff, Nat.reduceMul, Nat.reduceAdd, Nat.reduceSub, and_true, true_and, gcN, q42, q88]
