/-! what ties the class's value and the reference's: one sea of numbers -/
/-- a sea of numbers: 0 month, 1 floes, 2 founds, 3 notes, 4 undos (at 0); 5 ways, 6 strengths, 7 kinds, 8 cells, 9 foods, 10 found rows, 11 note rows, 12 undo rows -/
abbrev SeaN : Type := Nat → Nat → Nat
def okS (S : SeaN) : Prop :=
  S 0 0 ≤ 999 ∧ S 1 0 ≤ 5 ∧ S 2 0 ≤ 4 ∧ S 3 0 ≤ 6 ∧ S 4 0 ≤ 8 ∧
  (∀ i, i < 12 → S 5 i ≤ 3) ∧ (∀ i, i < 12 → S 6 i ≤ 3) ∧
  (∀ f, f < S 1 0 → S 7 f ≤ 5) ∧ (∀ f, f < S 1 0 → S 8 f ≤ 35) ∧ (∀ f, f < S 1 0 → S 9 f ≤ 99) ∧
  (∀ k, k < S 2 0 → S 10 (3 * k) ≤ 5 ∧ S 10 (3 * k + 1) ≤ 60 ∧ S 10 (3 * k + 2) ≤ 35) ∧
  (∀ k, k < S 3 0 → S 11 (7 * k) ≤ 4 ∧ S 11 (7 * k + 1) ≤ 99 ∧ S 11 (7 * k + 2) ≤ 3 ∧ S 11 (7 * k + 3) ≤ 3 ∧ S 11 (7 * k + 4) ≤ 5 ∧ S 11 (7 * k + 5) ≤ 3 ∧ S 11 (7 * k + 6) ≤ 3) ∧
  (∀ u, u < S 4 0 → S 12 (11 * u) ≤ 999 ∧ ∀ f, f < S 1 0 → S 12 (11 * u + 1 + f) ≤ 35 ∧ S 12 (11 * u + 6 + f) ≤ 99)
/-- the class's sea holds these numbers -/
def cS (S : SeaN) (month floes founds notes undos : Int32) (ways strengths kinds cells foods foundRows noteRows undoRows : Nat → Int32) : Prop :=
  (month = nI (S 0 0) ∧ floes = nI (S 1 0) ∧ founds = nI (S 2 0) ∧ notes = nI (S 3 0) ∧ undos = nI (S 4 0)) ∧
  (∀ i, i < 12 → ways i = nI (S 5 i)) ∧ (∀ i, i < 12 → strengths i = nI (S 6 i)) ∧
  (∀ f, f < S 1 0 → kinds f = nI (S 7 f)) ∧ (∀ f, f < S 1 0 → cells f = nI (S 8 f)) ∧ (∀ f, f < S 1 0 → foods f = nI (S 9 f)) ∧
  (∀ k, k < 3 * S 2 0 → foundRows k = nI (S 10 k)) ∧
  (∀ k, k < 7 * S 3 0 → noteRows k = nI (S 11 k)) ∧
  (∀ u, u < S 4 0 → undoRows (11 * u) = nI (S 12 (11 * u)) ∧ ∀ f, f < S 1 0 → undoRows (11 * u + 1 + f) = nI (S 12 (11 * u + 1 + f)) ∧ undoRows (11 * u + 6 + f) = nI (S 12 (11 * u + 6 + f)))
/-- the reference's rows hold these numbers -/
def mS (S : SeaN) (now many findMany noteMany undoMany : Int32) (ways strengths kinds cells food findKind findMonth findCell noted ahead : Nat → Int32) : Prop :=
  (now = nI (S 0 0) ∧ many = nI (S 1 0) ∧ findMany = nI (S 2 0) ∧ noteMany = nI (S 3 0) ∧ undoMany = nI (S 4 0)) ∧
  (∀ i, i < 12 → ways i = nI (S 5 i)) ∧ (∀ i, i < 12 → strengths i = nI (S 6 i)) ∧
  (∀ f, f < S 1 0 → kinds f = nI (S 7 f)) ∧ (∀ f, f < S 1 0 → cells f = nI (S 8 f)) ∧ (∀ f, f < S 1 0 → food f = nI (S 9 f)) ∧
  (∀ k, k < S 2 0 → findKind k = nI (S 10 (3 * k)) ∧ findMonth k = nI (S 10 (3 * k + 1)) ∧ findCell k = nI (S 10 (3 * k + 2))) ∧
  (∀ k, k < 7 * S 3 0 → noted k = nI (S 11 k)) ∧
  (∀ u, u < S 4 0 → ahead (11 * u) = nI (S 12 (11 * u)) ∧ ∀ f, f < S 1 0 → ahead (11 * u + 1 + f) = nI (S 12 (11 * u + 1 + f)) ∧ ahead (11 * u + 6 + f) = nI (S 12 (11 * u + 6 + f)))
/-- an image's place in the reference's rows -/
def mI (S : SeaN) (g : Nat → Int32) (at_ : Nat) : Prop :=
  mS S (g (at_ + 4)) (g at_) (g (at_ + 1)) (g (at_ + 2)) (g (at_ + 3)) (fun i => g (at_ + 15 + i)) (fun i => g (at_ + 27 + i)) (fun i => g (at_ + 39 + i)) (fun i => g (at_ + 5 + i)) (fun i => g (at_ + 10 + i)) (fun i => g (at_ + 44 + i)) (fun i => g (at_ + 48 + i)) (fun i => g (at_ + 52 + i)) (fun i => g (at_ + 56 + i)) (fun i => g (at_ + 98 + i))
def cV (S : SeaN) (v : SeaV) : Prop := cS S (s_month v) (s_floes v) (s_founds v) (s_notes v) (s_undos v) (s_ways v) (s_strengths v) (s_kinds v) (s_cells v) (s_foods v) (s_foundRows v) (s_noteRows v) (s_undoRows v)
def imgR (o : Option SeaV) (kept : Int32) (g : Nat → Int32) (at_ : Nat) : Prop := match o with
  | none => kept = 0
  | some v => kept = 1 ∧ ∃ S : SeaN, okS S ∧ cV S v ∧ mI S g at_
/-- the texts are the same -/
def txR (length : Int32) (bytes : Nat → Int32) (typed : Int32) (text : Nat → Int32) : Prop := ∃ n : Nat, n ≤ 150 ∧ length = nI n ∧ typed = nI n ∧ ∀ i, i < n → bytes i = text i
def REL (x : FIV) (m : MV) : Prop :=
  (∃ S : SeaN, okS S ∧ cS S (xn_month x) (xn_floes x) (xn_founds x) (xn_notes x) (xn_undos x) (xn_ways x) (xn_strengths x) (xn_kinds x) (xn_cells x) (xn_foods x) (xn_foundRows x) (xn_noteRows x) (xn_undoRows x) ∧
    mS S (m_now m) (m_many m) (m_findMany m) (m_noteMany m) (m_undoMany m) (m_ways m) (m_strengths m) (m_kinds m) (m_cells m) (m_food m) (m_findKind m) (m_findMonth m) (m_findCell m) (m_noted m) (m_ahead m)) ∧
  txR (xt_length x) (xt_bytes x) (m_typed m) (m_text m) ∧
  (x_above x = m_above m ∧ x_below x = m_below m) ∧
  (x_bads x = m_refused m 0 ∧ x_nos x = m_refused m 1 ∧ x_fulls x = m_refused m 2) ∧
  imgR (x_img0 x) (m_isKept m 0) (m_images m) 0 ∧ imgR (x_img1 x) (m_isKept m 1) (m_images m) 200
