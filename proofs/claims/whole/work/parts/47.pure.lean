/-! calms: sums of weights -/
theorem k0 : (0 : Int64) = lN 0 := rfl
theorem k1 : (1 : Int64) = lN 1 := rfl
theorem k10 : (10 : Int64) = lN 10 := rfl
theorem lN_div {a d : Nat} (ha : a < 2 ^ 31) (hd : d < 2 ^ 31) : lN a / lN d = lN (a / d) := by
  apply Int64.toInt_inj.mp
  have h := Nat.div_le_self a d
  rw [Int64.toInt_div, lN_toInt ha, lN_toInt hd, lN_toInt (by omega), ← Int.ofNat_tdiv]
  generalize a / d = q at h ⊢
  refine Int.bmod_eq_of_le ?_ ?_ <;> omega
theorem lN_rem {a d : Nat} (ha : a < 2 ^ 31) (hd : d < 2 ^ 31) : lN a - lN a / lN d * lN d = lN (a % d) := by
  have h1 := Nat.div_add_mod a d
  have h2 := Nat.mul_comm d (a / d)
  rw [lN_div ha hd, lN_mul, lN_sub (by omega)]
  congr 1
  omega
def sumN (f : Nat → Nat) : Nat → Nat
  | 0 => 0
  | n + 1 => sumN f n + f n
theorem sumN_c {f g : Nat → Nat} : ∀ n, (∀ x, x < n → f x = g x) → sumN f n = sumN g n
  | 0, _ => rfl
  | n + 1, h => by
    show sumN f n + f n = sumN g n + g n
    rw [sumN_c n (fun x hx => h x (by omega)), h n (by omega)]
theorem sumN_0 {f : Nat → Nat} : ∀ n, (∀ x, x < n → f x = 0) → sumN f n = 0
  | 0, _ => rfl
  | n + 1, h => by
    show sumN f n + f n = 0
    rw [sumN_0 n (fun x hx => h x (by omega)), h n (by omega)]
theorem sumN_upn {z V : Nat → Nat} {q a : Nat} : ∀ n, q < n → sumN (fun x => upn z q (z q + a) x * V x) n = sumN (fun x => z x * V x) n + a * V q
  | 0, h => absurd h (Nat.not_lt_zero q)
  | n + 1, h => by
    show sumN (fun x => upn z q (z q + a) x * V x) n + upn z q (z q + a) n * V n = sumN (fun x => z x * V x) n + z n * V n + a * V q
    by_cases e : n = q
    · subst e
      rw [upn_s, sumN_c (g := fun x => z x * V x) n (fun x hx => by rw [upn_n (by omega)]), Nat.add_mul]; omega
    · rw [upn_n e, sumN_upn n (by omega)]; omega
theorem sumN_2 (f : Nat → Nat) : ∀ n, sumN f (2 * n) = sumN (fun b => f (2 * b) + f (2 * b + 1)) n
  | 0 => rfl
  | n + 1 => by
    show sumN f (2 * n + 2) = sumN (fun b => f (2 * b) + f (2 * b + 1)) n + (f (2 * n) + f (2 * n + 1))
    rw [← sumN_2 f n]
    show sumN f (2 * n) + f (2 * n) + f (2 * n + 1) = _
    omega
theorem sumN_add (f g : Nat → Nat) : ∀ n, sumN (fun x => f x + g x) n = sumN f n + sumN g n
  | 0 => rfl
  | n + 1 => by
    show sumN (fun x => f x + g x) n + (f n + g n) = sumN f n + f n + (sumN g n + g n)
    rw [sumN_add f g n]; omega
theorem sumN_mul (c : Nat) (f : Nat → Nat) : ∀ n, sumN (fun x => c * f x) n = c * sumN f n
  | 0 => rfl
  | n + 1 => by
    show sumN (fun x => c * f x) n + c * f n = c * (sumN f n + f n)
    rw [sumN_mul c f n, Nat.mul_add]
/-- the weights a month later, of so many cells -/
def dfN (o nx : Nat → Nat) (c : Nat) : Nat → Nat → Nat
  | 0 => fun _ => 0
  | x + 1 => upn (upn (dfN o nx c x) x (dfN o nx c x x + o x * c)) (nx x) (upn (dfN o nx c x) x (dfN o nx c x x + o x * c) (nx x) + o x * (10 - c))
theorem df_sum {o nx V : Nat → Nat} {c : Nat} (hnx : ∀ x, x < 36 → nx x < 36) : ∀ n, n ≤ 36 → sumN (fun q => dfN o nx c n q * V q) 36 = sumN (fun x => o x * (c * V x + (10 - c) * V (nx x))) n
  | 0, _ => sumN_0 36 (fun x _ => Nat.zero_mul _)
  | n + 1, h => by
    have ih := df_sum (o := o) (V := V) (c := c) hnx n (by omega)
    show _ = sumN (fun x => o x * (c * V x + (10 - c) * V (nx x))) n + o n * (c * V n + (10 - c) * V (nx n))
    rw [dfN, sumN_upn 36 (hnx n (by omega)), sumN_upn 36 (by omega), ih, Nat.mul_add, Nat.mul_assoc, Nat.mul_assoc]; omega
/-- the weights behind t months -/
def odN (W G : Nat → Nat) (k c mo c0 : Nat) : Nat → Nat → Nat
  | 0 => upn (fun _ => 0) c0 1
  | t + 1 => dfN (odN W G k c mo c0 t) (fun x => itN W G k x (mo + t)) c 36
/-- the weight of being out behind d months -/
def wN (W G : Nat → Nat) (k c : Nat) : Nat → Nat → Nat → Nat
  | 0, _, x => if x % 6 = 5 then 1 else 0
  | d + 1, mo, x => c * wN W G k c d (mo + 1) x + (10 - c) * wN W G k c d (mo + 1) (itN W G k x mo)
theorem wN_le {W G : Nat → Nat} {k c : Nat} (hc : c ≤ 10) : ∀ d mo x, wN W G k c d mo x ≤ 10 ^ d
  | 0, _, x => by unfold wN; split <;> simp
  | d + 1, mo, x => by
    have a := Nat.mul_le_mul_left c (wN_le (W := W) (G := G) (k := k) hc d (mo + 1) x)
    have b := Nat.mul_le_mul_left (10 - c) (wN_le (W := W) (G := G) (k := k) hc d (mo + 1) (itN W G k x mo))
    have e : c * 10 ^ d + (10 - c) * 10 ^ d = 10 ^ d * 10 := by rw [← Nat.add_mul, Nat.mul_comm]; congr 1; omega
    unfold wN
    rw [Nat.pow_succ]
    omega
theorem od_sum {W G : Nat → Nat} {k c mo c0 : Nat} (hit : ∀ x m, x ≤ 35 → itN W G k x m ≤ 35) (h0 : c0 ≤ 35) : ∀ t d, sumN (fun q => odN W G k c mo c0 t q * wN W G k c d (mo + t) q) 36 = wN W G k c (t + d) mo c0
  | 0, d => by
    have h := sumN_upn (z := fun _ => 0) (V := wN W G k c d (mo + 0)) (q := c0) (a := 1) 36 (by omega)
    rw [sumN_0 (f := fun x => 0 * wN W G k c d (mo + 0) x) 36 (fun x _ => Nat.zero_mul _)] at h
    rw [show 0 + 1 = 1 from rfl] at h
    rw [odN, h, Nat.zero_add, Nat.one_mul, Nat.zero_add]
    rfl
  | t + 1, d => by
    have ih := od_sum (c := c) (mo := mo) hit h0 t (d + 1)
    rw [odN, df_sum (fun x hx => by have := hit x (mo + t) (by omega); omega) 36 (by omega)]
    rw [show t + 1 + d = t + (d + 1) by omega, ← ih]
    rfl
/-- calm in a month whose place in the mask has a one -/
def fnN (W G : Nat → Nat) (k : Nat) : Nat → Nat → Nat → Nat → Nat
  | 0, _, _, x => x
  | d + 1, b, mo, x => fnN W G k d (b / 2) (mo + 1) (if b % 2 = 1 then x else itN W G k x mo)
def prN (c : Nat) : Nat → Nat → Nat
  | 0, _ => 1
  | d + 1, b => (if b % 2 = 1 then c else 10 - c) * prN c d (b / 2)
theorem fnN_s (W G : Nat → Nat) (k d b mo x : Nat) : fnN W G k (d + 1) b mo x = fnN W G k d (b / 2) (mo + 1) (if b % 2 = 1 then x else itN W G k x mo) := rfl
theorem prN_s (c d b : Nat) : prN c (d + 1) b = (if b % 2 = 1 then c else 10 - c) * prN c d (b / 2) := rfl
def tmN (W G : Nat → Nat) (k c d mo x b : Nat) : Nat := if fnN W G k d b mo x % 6 = 5 then prN c d b else 0
theorem tm_sum {W G : Nat → Nat} {k c : Nat} : ∀ d mo x, sumN (tmN W G k c d mo x) (2 ^ d) = wN W G k c d mo x
  | 0, mo, x => by
    show 0 + tmN W G k c 0 mo x 0 = _
    rw [Nat.zero_add]; rfl
  | d + 1, mo, x => by
    have e : ∀ b, tmN W G k c (d + 1) mo x (2 * b) + tmN W G k c (d + 1) mo x (2 * b + 1) = (10 - c) * tmN W G k c d (mo + 1) (itN W G k x mo) b + c * tmN W G k c d (mo + 1) x b := by
      intro b
      have a1 : 2 * b / 2 = b := by omega
      have a2 : (2 * b + 1) / 2 = b := by omega
      have a3 : ¬ 2 * b % 2 = 1 := by omega
      have a4 : (2 * b + 1) % 2 = 1 := by omega
      have f0 : fnN W G k (d + 1) (2 * b) mo x = fnN W G k d b (mo + 1) (itN W G k x mo) := by rw [fnN_s, a1, if_neg a3]
      have f1 : fnN W G k (d + 1) (2 * b + 1) mo x = fnN W G k d b (mo + 1) x := by rw [fnN_s, a2, if_pos a4]
      have p0 : prN c (d + 1) (2 * b) = (10 - c) * prN c d b := by rw [prN_s, a1, if_neg a3]
      have p1 : prN c (d + 1) (2 * b + 1) = c * prN c d b := by rw [prN_s, a2, if_pos a4]
      rw [tmN, tmN, tmN, tmN, f0, f1, p0, p1]
      by_cases h1 : fnN W G k d b (mo + 1) (itN W G k x mo) % 6 = 5 <;> by_cases h2 : fnN W G k d b (mo + 1) x % 6 = 5 <;> simp [h1, h2]
    rw [Nat.pow_succ, Nat.mul_comm, sumN_2, sumN_c (g := fun b => (10 - c) * tmN W G k c d (mo + 1) (itN W G k x mo) b + c * tmN W G k c d (mo + 1) x b) _ (fun b _ => e b), sumN_add, sumN_mul, sumN_mul, tm_sum d, tm_sum d, wN]
    omega
