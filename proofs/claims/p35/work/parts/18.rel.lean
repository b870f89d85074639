/-! what the class's value holds: a sea of numbers -/
/-- a sea of numbers: 0 month, 1 floes, 2 founds, 3 notes, 4 undos (at 0); 5 ways, 6 strengths, 7 kinds, 8 cells, 9 foods, 10 found rows, 11 note rows, 12 undo rows -/
abbrev SeaN : Type := Nat → Nat → Nat
def okS (S : SeaN) : Prop :=
  S 0 0 ≤ 999 ∧ S 1 0 ≤ 5 ∧ S 2 0 ≤ 4 ∧ S 3 0 ≤ 6 ∧ S 4 0 ≤ 8 ∧
  (∀ i, i < 12 → S 5 i ≤ 3) ∧ (∀ i, i < 12 → S 6 i ≤ 3) ∧
  (∀ f, f < S 1 0 → S 7 f ≤ 5) ∧ (∀ f, f < S 1 0 → S 8 f ≤ 35) ∧ (∀ f, f < S 1 0 → S 9 f ≤ 99) ∧
  (∀ k, k < S 2 0 → S 10 (3 * k) ≤ 5 ∧ S 10 (3 * k + 1) ≤ 60 ∧ S 10 (3 * k + 2) ≤ 35) ∧
  (∀ k, k < S 3 0 → S 11 (7 * k) ≤ 4 ∧ S 11 (7 * k + 1) ≤ 99 ∧ S 11 (7 * k + 2) ≤ 3 ∧ S 11 (7 * k + 3) ≤ 3 ∧ S 11 (7 * k + 4) ≤ 5 ∧ S 11 (7 * k + 5) ≤ 3 ∧ S 11 (7 * k + 6) ≤ 3) ∧
  (∀ u, u < S 4 0 → S 12 (11 * u) ≤ 999 ∧ ∀ f, f < S 1 0 → S 12 (11 * u + 1 + f) ≤ 35 ∧ S 12 (11 * u + 6 + f) ≤ 99)
/-- the class's sea holds these numbers -/
def cS (S : SeaN) (month floes founds notes undos : Int32) (ways strengths kinds cells foods foundRows noteRows undoRows : Nat → Int32) : Prop :=
  (month = nI (S 0 0) ∧ floes = nI (S 1 0) ∧ founds = nI (S 2 0) ∧ notes = nI (S 3 0) ∧ undos = nI (S 4 0)) ∧
  (∀ i, i < 12 → ways i = nI (S 5 i)) ∧ (∀ i, i < 12 → strengths i = nI (S 6 i)) ∧
  (∀ f, f < S 1 0 → kinds f = nI (S 7 f)) ∧ (∀ f, f < S 1 0 → cells f = nI (S 8 f)) ∧ (∀ f, f < S 1 0 → foods f = nI (S 9 f)) ∧
  (∀ k, k < 3 * S 2 0 → foundRows k = nI (S 10 k)) ∧
  (∀ k, k < 7 * S 3 0 → noteRows k = nI (S 11 k)) ∧
  (∀ u, u < S 4 0 → undoRows (11 * u) = nI (S 12 (11 * u)) ∧ ∀ f, f < S 1 0 → undoRows (11 * u + 1 + f) = nI (S 12 (11 * u + 1 + f)) ∧ undoRows (11 * u + 6 + f) = nI (S 12 (11 * u + 6 + f)))
def cV (S : SeaN) (v : SeaV) : Prop := cS S (s_month v) (s_floes v) (s_founds v) (s_notes v) (s_undos v) (s_ways v) (s_strengths v) (s_kinds v) (s_cells v) (s_foods v) (s_foundRows v) (s_noteRows v) (s_undoRows v)
/-- the image that is kept -/
def iR (I : Option SeaN) (o : Option SeaV) : Prop := match I with
  | none => o = none
  | some T => ∃ v, o = some v ∧ okS T ∧ cV T v
/-- the class's value holds the sea S, the image I, the fraction ab by be -/
def CR (S : SeaN) (I : Option SeaN) (ab be : Int64) (x : FIV) : Prop :=
  okS S ∧ cS S (xn_month x) (xn_floes x) (xn_founds x) (xn_notes x) (xn_undos x) (xn_ways x) (xn_strengths x) (xn_kinds x) (xn_cells x) (xn_foods x) (xn_foundRows x) (xn_noteRows x) (xn_undoRows x) ∧ iR I (x_img0 x) ∧ x_img1 x = none ∧ x_above x = ab ∧ x_below x = be
