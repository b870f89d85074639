/-! a text's items -/
/-- three numbers and an end -/
def w3N (B : Nat → Int32) (n p m1 m2 m3 : Nat) : Nat ⊕ (Nat × Nat × Nat × Nat) := match nmN B n p m1 with
  | .inl q => .inl q
  | .inr a => match nmN B n a.2 m2 with
    | .inl q => .inl q
    | .inr b => match nmN B n b.2 m3 with
      | .inl q => .inl q
      | .inr c => match enN B n c.2 with
        | .inl q => .inl q
        | .inr e => .inr (a.1, b.1, c.1, e)
def c3a (B : Nat → Int32) (n : Nat) (fo : Option Nat) (p m1 : Nat) := tkN B n fo p m1
def c3b (B : Nat → Int32) (n : Nat) (fo : Option Nat) (p m1 m2 : Nat) := tkN B n (tkN B n fo p m1).2.2 (tkN B n fo p m1).2.1 m2
def c3c (B : Nat → Int32) (n : Nat) (fo : Option Nat) (p m1 m2 m3 : Nat) := tkN B n (c3b B n fo p m1 m2).2.2 (c3b B n fo p m1 m2).2.1 m3
def c3e (B : Nat → Int32) (n : Nat) (fo : Option Nat) (p m1 m2 m3 : Nat) := teN B n (c3c B n fo p m1 m2 m3).2.2 (c3c B n fo p m1 m2 m3).2.1
theorem c3_ok {B : Nat → Int32} {n : Nat} {fo : Option Nat} {p m1 m2 m3 : Nat} (hp : p ≤ n) (hf : okP n fo) :
    ((c3a B n fo p m1).1 ≤ m1 ∧ (c3a B n fo p m1).2.1 ≤ n ∧ okP n (c3a B n fo p m1).2.2) ∧ ((c3b B n fo p m1 m2).1 ≤ m2 ∧ (c3b B n fo p m1 m2).2.1 ≤ n ∧ okP n (c3b B n fo p m1 m2).2.2) ∧ ((c3c B n fo p m1 m2 m3).1 ≤ m3 ∧ (c3c B n fo p m1 m2 m3).2.1 ≤ n ∧ okP n (c3c B n fo p m1 m2 m3).2.2) ∧ (c3e B n fo p m1 m2 m3).1 ≤ n ∧ okP n (c3e B n fo p m1 m2 m3).2 := by
  have a := tk_ok (B := B) (mx := m1) hp hf
  have b := tk_ok (B := B) (mx := m2) a.2.1 a.2.2
  have c := tk_ok (B := B) (mx := m3) b.2.1 b.2.2
  have e := te_ok (B := B) c.2.1 c.2.2
  exact ⟨a, b, c, e⟩
theorem c3_l {B : Nat → Int32} {n p m1 m2 m3 q : Nat} (h : w3N B n p m1 m2 m3 = .inl q) : (c3e B n none p m1 m2 m3).2 = some q := by
  unfold w3N at h
  unfold c3e c3c c3b
  cases h1 : nmN B n p m1 with
  | inl r => rw [h1] at h; cases h; simp only [tkN, h1, teN]
  | inr a =>
    rw [h1] at h
    simp only at h
    cases h2 : nmN B n a.2 m2 with
    | inl r => rw [h2] at h; cases h; simp only [tkN, h1, h2, teN]
    | inr b =>
      rw [h2] at h
      simp only at h
      cases h3 : nmN B n b.2 m3 with
      | inl r => rw [h3] at h; cases h; simp only [tkN, h1, h2, h3, teN]
      | inr c =>
        rw [h3] at h
        simp only at h
        cases h4 : enN B n c.2 with
        | inl r => rw [h4] at h; cases h; simp only [tkN, h1, h2, h3, h4, teN]
        | inr e => rw [h4] at h; cases h
theorem c3_r {B : Nat → Int32} {n p m1 m2 m3 v1 v2 v3 p4 : Nat} (h : w3N B n p m1 m2 m3 = .inr (v1, v2, v3, p4)) (hp : p ≤ n) : (c3a B n none p m1).1 = v1 ∧ (c3b B n none p m1 m2).1 = v2 ∧ (c3c B n none p m1 m2 m3).1 = v3 ∧ c3e B n none p m1 m2 m3 = (p4, none) ∧ v1 ≤ m1 ∧ v2 ≤ m2 ∧ v3 ≤ m3 ∧ p < p4 ∧ p4 ≤ n := by
  unfold w3N at h
  unfold c3e c3c c3b c3a
  cases h1 : nmN B n p m1 with
  | inl r => rw [h1] at h; cases h
  | inr a =>
    rw [h1] at h
    simp only at h
    have a1 := nmR (v := a.1) (p' := a.2) h1 hp
    cases h2 : nmN B n a.2 m2 with
    | inl r => rw [h2] at h; cases h
    | inr b =>
      rw [h2] at h
      simp only at h
      have b1 := nmR (v := b.1) (p' := b.2) h2 a1.2.2
      cases h3 : nmN B n b.2 m3 with
      | inl r => rw [h3] at h; cases h
      | inr c =>
        rw [h3] at h
        simp only at h
        have c1 := nmR (v := c.1) (p' := c.2) h3 b1.2.2
        cases h4 : enN B n c.2 with
        | inl r => rw [h4] at h; cases h
        | inr e =>
          rw [h4] at h
          simp only at h
          have e1 := en_r h4 c1.2.2
          cases h
          simp only [tkN, h1, h2, h3, h4, teN, true_and]
          exact ⟨a1.1, b1.1, c1.1, by omega, e1.2⟩
theorem readWind_n {N n p : Nat} {fo : Option Nat} {b B w g : Nat → Int32} {un : Int32} (hN : 1000 ≤ N) (hn : n ≤ 150) (hb : ∀ i, i < n → b i = B i) (hp : p ≤ n) (hf : okP n fo) : T_X2_readWind N (nI n) (nI p) (pf fo) b un w g = some (nI (c3e B n fo p 11 3 3).1, pf (c3e B n fo p 11 3 3).2, nI 0, upd w (c3a B n fo p 11).1 (nI (c3b B n fo p 11 3).1), upd g (c3a B n fo p 11).1 (nI (c3c B n fo p 11 3 3).1)) := by
  obtain ⟨⟨a1, a2, a3⟩, ⟨b1, b2, b3⟩, ⟨c1, c2, c3⟩, -⟩ := c3_ok (B := B) (m1 := 11) (m2 := 3) (m3 := 3) hp hf
  have ta := takeNumber_n (N := N) (mx := 11) hN hn hb hp (by omega) hf
  have tb := takeNumber_n (N := N) (mx := 3) hN hn hb a2 (by omega) a3
  have tc := takeNumber_n (N := N) (mx := 3) hN hn hb b2 (by omega) b3
  have te := takeEnd_n (N := N) hN hn hb c2 c3
  rw [T_X2_readWind, l11, l3, ta]
  simp only [Option.bind_some, lt']
  rw [show tkN B n fo p 11 = c3a B n fo p 11 from rfl, tb]
  simp only [Option.bind_some]
  rw [show tkN B n (c3a B n fo p 11).2.2 (c3a B n fo p 11).2.1 3 = c3b B n fo p 11 3 from rfl, tc]
  simp only [Option.bind_some]
  rw [show tkN B n (c3b B n fo p 11 3).2.2 (c3b B n fo p 11 3).2.1 3 = c3c B n fo p 11 3 3 from rfl, te]
  simp only [Option.bind_some]
  rw [T_X1_tellWind, obN (by omega) (by omega), obN (by omega) (by omega), nI_clamp (by omega)]
  rfl
theorem readFloe_n {N n p F : Nat} {fo : Option Nat} {b B k c f : Nat → Int32} {un : Int32} (hN : 1000 ≤ N) (hn : n ≤ 150) (hb : ∀ i, i < n → b i = B i) (hp : p ≤ n) (hf : okP n fo) (hF : F < 5) : T_X2_readFloe N (nI n) (nI p) (pf fo) b (nI F) un k c f = some (nI (c3e B n fo p 5 35 60).1, pf (c3e B n fo p 5 35 60).2, nI (F + 1), nI 0, upd k F (nI (c3a B n fo p 5).1), upd c F (nI (c3b B n fo p 5 35).1), upd f F (nI (c3c B n fo p 5 35 60).1)) := by
  obtain ⟨⟨a1, a2, a3⟩, ⟨b1, b2, b3⟩, ⟨c1, c2, c3⟩, -⟩ := c3_ok (B := B) (m1 := 5) (m2 := 35) (m3 := 60) hp hf
  have ta := takeNumber_n (N := N) (mx := 5) hN hn hb hp (by omega) hf
  have tb := takeNumber_n (N := N) (mx := 35) hN hn hb a2 (by omega) a3
  have tc := takeNumber_n (N := N) (mx := 60) hN hn hb b2 (by omega) b3
  have te := takeEnd_n (N := N) hN hn hb c2 c3
  rw [T_X2_readFloe, l5, l35, l60, ta]
  simp only [Option.bind_some, lt']
  rw [show tkN B n fo p 5 = c3a B n fo p 5 from rfl, tb]
  simp only [Option.bind_some]
  rw [show tkN B n (c3a B n fo p 5).2.2 (c3a B n fo p 5).2.1 35 = c3b B n fo p 5 35 from rfl, tc]
  simp only [Option.bind_some]
  rw [show tkN B n (c3b B n fo p 5 35).2.2 (c3b B n fo p 5 35).2.1 60 = c3c B n fo p 5 35 60 from rfl, te]
  simp only [Option.bind_some]
  rw [T_X1_addFloe, obN (by omega) (by omega), obN (by omega) (by omega), obN (by omega) (by omega), nI_clamp (by omega), nI_1]
  rfl
theorem readsWind_n {N n p : Nat} {rn : Int32} {b B RW : Nat → Int32} (hN : 1000 ≤ N) (hn : n ≤ 150) (hb : ∀ i, i < n → b i = B i) (hp : p ≤ n) :
    ∃ rn' RW', T_X4_readsWind N (nI n) (nI p) rn b RW = some (match w3N B n p 11 3 3 with | .inl q => (nI 0, nI q, rn', RW') | .inr w => (nI 1, nI w.2.2.2, rn', upd (upd RW (2 * w.1) (nI w.2.1)) (2 * w.1 + 1) (nI w.2.2.1))) := by
  unfold w3N
  have na := number4_n (N := N) (mx := 11) (rn := rn) hN hn hb hp (by omega)
  cases h1 : nmN B n p 11 with
  | inl r =>
    rw [h1] at na
    refine ⟨rn, RW, ?_⟩
    rw [T_X4_readsWind]; simp (disch := omega) only [l0, l1, l2, l3, l4, l5, l6, l7, l8, l9, l10, l11, l12, l30, l35, l36, l60, l99, l127, l150, l999, nI_eq, nI_leI, nI_ltI, nI_1, nI_add, pk_mul, obN, nI_clamp, lt', jn, Option.bind_some, inW, inF, inC, inK, fl4, cl4, wi3, T_X3_isFirstOrSecond, badE, fullE, noE, T_X3_refuseBad, T_X3_refuseFull, T_X3_refuseNo, reduceIte, Nat.reduceEqDiff, Nat.reduceLeDiff, Nat.reduceMul, Nat.reduceAdd, Nat.reduceSub, and_true, true_and, na]
  | inr a =>
    rw [h1] at na
    have a1 := nmR (v := a.1) (p' := a.2) h1 hp
    have nb := number4_n (N := N) (mx := 3) (rn := nI a.1) hN hn hb a1.2.2 (by omega)
    cases h2 : nmN B n a.2 3 with
    | inl r =>
      rw [h2] at nb
      refine ⟨nI a.1, RW, ?_⟩
      rw [T_X4_readsWind]; simp (disch := omega) only [l0, l1, l2, l3, l4, l5, l6, l7, l8, l9, l10, l11, l12, l30, l35, l36, l60, l99, l127, l150, l999, nI_eq, nI_leI, nI_ltI, nI_1, nI_add, pk_mul, obN, nI_clamp, lt', jn, Option.bind_some, inW, inF, inC, inK, fl4, cl4, wi3, T_X3_isFirstOrSecond, badE, fullE, noE, T_X3_refuseBad, T_X3_refuseFull, T_X3_refuseNo, reduceIte, Nat.reduceEqDiff, Nat.reduceLeDiff, Nat.reduceMul, Nat.reduceAdd, Nat.reduceSub, and_true, true_and, na, nb, h2]
    | inr c =>
      rw [h2] at nb
      have c1 := nmR (v := c.1) (p' := c.2) h2 a1.2.2
      have nc := number4_n (N := N) (mx := 3) (rn := nI c.1) hN hn hb c1.2.2 (by omega)
      have hw : a.1 ≤ 11 := a1.1
      cases h3 : nmN B n c.2 3 with
      | inl r =>
        rw [h3] at nc
        refine ⟨nI c.1, upd RW (2 * a.1) (nI c.1), ?_⟩
        rw [T_X4_readsWind]; simp (disch := omega) only [l0, l1, l2, l3, l4, l5, l6, l7, l8, l9, l10, l11, l12, l30, l35, l36, l60, l99, l127, l150, l999, nI_eq, nI_leI, nI_ltI, nI_1, nI_add, pk_mul, obN, nI_clamp, lt', jn, Option.bind_some, inW, inF, inC, inK, fl4, cl4, wi3, T_X3_isFirstOrSecond, badE, fullE, noE, T_X3_refuseBad, T_X3_refuseFull, T_X3_refuseNo, reduceIte, Nat.reduceEqDiff, Nat.reduceLeDiff, Nat.reduceMul, Nat.reduceAdd, Nat.reduceSub, and_true, true_and, na, nb, nc, h2, h3]
      | inr d =>
        rw [h3] at nc
        have d1 := nmR (v := d.1) (p' := d.2) h3 c1.2.2
        have ne := ends4_n (N := N) hN hn hb d1.2.2
        cases h4 : enN B n d.2 with
        | inl r =>
          rw [h4] at ne
          refine ⟨nI d.1, upd (upd RW (2 * a.1) (nI c.1)) (2 * a.1 + 1) (nI d.1), ?_⟩
          rw [T_X4_readsWind]; simp (disch := omega) only [l0, l1, l2, l3, l4, l5, l6, l7, l8, l9, l10, l11, l12, l30, l35, l36, l60, l99, l127, l150, l999, nI_eq, nI_leI, nI_ltI, nI_1, nI_add, pk_mul, obN, nI_clamp, lt', jn, Option.bind_some, inW, inF, inC, inK, fl4, cl4, wi3, T_X3_isFirstOrSecond, badE, fullE, noE, T_X3_refuseBad, T_X3_refuseFull, T_X3_refuseNo, reduceIte, Nat.reduceEqDiff, Nat.reduceLeDiff, Nat.reduceMul, Nat.reduceAdd, Nat.reduceSub, and_true, true_and, na, nb, nc, ne, h2, h3, h4]
        | inr e =>
          rw [h4] at ne
          refine ⟨nI d.1, upd (upd RW (2 * a.1) (nI c.1)) (2 * a.1 + 1) (nI d.1), ?_⟩
          rw [T_X4_readsWind]; simp (disch := omega) only [l0, l1, l2, l3, l4, l5, l6, l7, l8, l9, l10, l11, l12, l30, l35, l36, l60, l99, l127, l150, l999, nI_eq, nI_leI, nI_ltI, nI_1, nI_add, pk_mul, obN, nI_clamp, lt', jn, Option.bind_some, inW, inF, inC, inK, fl4, cl4, wi3, T_X3_isFirstOrSecond, badE, fullE, noE, T_X3_refuseBad, T_X3_refuseFull, T_X3_refuseNo, reduceIte, Nat.reduceEqDiff, Nat.reduceLeDiff, Nat.reduceMul, Nat.reduceAdd, Nat.reduceSub, and_true, true_and, na, nb, nc, ne, h2, h3, h4]
theorem floe_L {N n p F J : Nat} {rn : Int32} {b B RF : Nat → Int32} (hN : 1000 ≤ N) (hn : n ≤ 150) (hb : ∀ i, i < n → b i = B i) (hp : p ≤ n) (hF : F < 5) (K : Int32 → Int32 → (Nat → Int32) → Option (Int32 × Int32 × Int32 × Int32 × (Nat → Int32))) (hJ : 4 ≤ J) :
    ∃ rn' RF', T_X4_readsFloe_L2 N (nI n) (nI F) b K J (nI 0) (nI p) rn RF = (match nmN B n p 5 with
      | .inl q => some (nI 0, nI q, nI F, rn', RF')
      | .inr a => match nmN B n a.2 35 with
        | .inl q => some (nI 0, nI q, nI F, rn', RF')
        | .inr c => match nmN B n c.2 60 with
          | .inl q => some (nI 0, nI q, nI F, rn', RF')
          | .inr d => K (nI d.2) (nI d.1) (upd (upd (upd RF (3 * F) (nI a.1)) (3 * F + 1) (nI c.1)) (3 * F + 2) (nI d.1))) := by
  obtain ⟨j, rfl⟩ : ∃ j, J = j + 1 + 1 + 1 + 1 := ⟨J - 4, by omega⟩
  have na := number4_n (N := N) (mx := 5) (rn := rn) hN hn hb hp (by omega)
  cases h1 : nmN B n p 5 with
  | inl r =>
    rw [h1] at na
    refine ⟨rn, RF, ?_⟩
    rw [T_X4_readsFloe_L2]; simp (disch := omega) only [l0, l1, l2, l3, l4, l5, l6, l7, l8, l9, l10, l11, l12, l30, l35, l36, l60, l99, l127, l150, l999, nI_eq, nI_leI, nI_ltI, nI_1, nI_add, pk_mul, obN, nI_clamp, lt', jn, Option.bind_some, inW, inF, inC, inK, fl4, cl4, wi3, T_X3_isFirstOrSecond, badE, fullE, noE, T_X3_refuseBad, T_X3_refuseFull, T_X3_refuseNo, reduceIte, Nat.reduceEqDiff, Nat.reduceLeDiff, Nat.reduceMul, Nat.reduceAdd, Nat.reduceSub, and_true, true_and, na]
  | inr a =>
    rw [h1] at na
    have a1 := nmR (v := a.1) (p' := a.2) h1 hp
    have nb := number4_n (N := N) (mx := 35) (rn := nI a.1) hN hn hb a1.2.2 (by omega)
    simp only
    cases h2 : nmN B n a.2 35 with
    | inl r =>
      rw [h2] at nb
      refine ⟨nI a.1, upd RF (3 * F) (nI a.1), ?_⟩
      rw [T_X4_readsFloe_L2]; simp (disch := omega) only [l0, l1, l2, l3, l4, l5, l6, l7, l8, l9, l10, l11, l12, l30, l35, l36, l60, l99, l127, l150, l999, nI_eq, nI_leI, nI_ltI, nI_1, nI_add, pk_mul, obN, nI_clamp, lt', jn, Option.bind_some, inW, inF, inC, inK, fl4, cl4, wi3, T_X3_isFirstOrSecond, badE, fullE, noE, T_X3_refuseBad, T_X3_refuseFull, T_X3_refuseNo, reduceIte, Nat.reduceEqDiff, Nat.reduceLeDiff, Nat.reduceMul, Nat.reduceAdd, Nat.reduceSub, and_true, true_and, na, Nat.add_zero]
      rw [T_X4_readsFloe_L2]; simp (disch := omega) only [l0, l1, l2, l3, l4, l5, l6, l7, l8, l9, l10, l11, l12, l30, l35, l36, l60, l99, l127, l150, l999, nI_eq, nI_leI, nI_ltI, nI_1, nI_add, pk_mul, obN, nI_clamp, lt', jn, Option.bind_some, inW, inF, inC, inK, fl4, cl4, wi3, T_X3_isFirstOrSecond, badE, fullE, noE, T_X3_refuseBad, T_X3_refuseFull, T_X3_refuseNo, reduceIte, Nat.reduceEqDiff, Nat.reduceLeDiff, Nat.reduceMul, Nat.reduceAdd, Nat.reduceSub, and_true, true_and, nb, Nat.zero_add]
    | inr c =>
      rw [h2] at nb
      have c1 := nmR (v := c.1) (p' := c.2) h2 a1.2.2
      have nc := number4_n (N := N) (mx := 60) (rn := nI c.1) hN hn hb c1.2.2 (by omega)
      simp only
      cases h3 : nmN B n c.2 60 with
      | inl r =>
        rw [h3] at nc
        refine ⟨nI c.1, upd (upd RF (3 * F) (nI a.1)) (3 * F + 1) (nI c.1), ?_⟩
        rw [T_X4_readsFloe_L2]; simp (disch := omega) only [l0, l1, l2, l3, l4, l5, l6, l7, l8, l9, l10, l11, l12, l30, l35, l36, l60, l99, l127, l150, l999, nI_eq, nI_leI, nI_ltI, nI_1, nI_add, pk_mul, obN, nI_clamp, lt', jn, Option.bind_some, inW, inF, inC, inK, fl4, cl4, wi3, T_X3_isFirstOrSecond, badE, fullE, noE, T_X3_refuseBad, T_X3_refuseFull, T_X3_refuseNo, reduceIte, Nat.reduceEqDiff, Nat.reduceLeDiff, Nat.reduceMul, Nat.reduceAdd, Nat.reduceSub, and_true, true_and, na, Nat.add_zero]
        rw [T_X4_readsFloe_L2]; simp (disch := omega) only [l0, l1, l2, l3, l4, l5, l6, l7, l8, l9, l10, l11, l12, l30, l35, l36, l60, l99, l127, l150, l999, nI_eq, nI_leI, nI_ltI, nI_1, nI_add, pk_mul, obN, nI_clamp, lt', jn, Option.bind_some, inW, inF, inC, inK, fl4, cl4, wi3, T_X3_isFirstOrSecond, badE, fullE, noE, T_X3_refuseBad, T_X3_refuseFull, T_X3_refuseNo, reduceIte, Nat.reduceEqDiff, Nat.reduceLeDiff, Nat.reduceMul, Nat.reduceAdd, Nat.reduceSub, and_true, true_and, nb, Nat.zero_add]
        rw [T_X4_readsFloe_L2]; simp (disch := omega) only [l0, l1, l2, l3, l4, l5, l6, l7, l8, l9, l10, l11, l12, l30, l35, l36, l60, l99, l127, l150, l999, nI_eq, nI_leI, nI_ltI, nI_1, nI_add, pk_mul, obN, nI_clamp, lt', jn, Option.bind_some, inW, inF, inC, inK, fl4, cl4, wi3, T_X3_isFirstOrSecond, badE, fullE, noE, T_X3_refuseBad, T_X3_refuseFull, T_X3_refuseNo, reduceIte, Nat.reduceEqDiff, Nat.reduceLeDiff, Nat.reduceMul, Nat.reduceAdd, Nat.reduceSub, and_true, true_and, nc]
      | inr d =>
        rw [h3] at nc
        have d1 := nmR (v := d.1) (p' := d.2) h3 c1.2.2
        refine ⟨rn, RF, ?_⟩
        rw [T_X4_readsFloe_L2]; simp (disch := omega) only [l0, l1, l2, l3, l4, l5, l6, l7, l8, l9, l10, l11, l12, l30, l35, l36, l60, l99, l127, l150, l999, nI_eq, nI_leI, nI_ltI, nI_1, nI_add, pk_mul, obN, nI_clamp, lt', jn, Option.bind_some, inW, inF, inC, inK, fl4, cl4, wi3, T_X3_isFirstOrSecond, badE, fullE, noE, T_X3_refuseBad, T_X3_refuseFull, T_X3_refuseNo, reduceIte, Nat.reduceEqDiff, Nat.reduceLeDiff, Nat.reduceMul, Nat.reduceAdd, Nat.reduceSub, and_true, true_and, na, Nat.add_zero]
        rw [T_X4_readsFloe_L2]; simp (disch := omega) only [l0, l1, l2, l3, l4, l5, l6, l7, l8, l9, l10, l11, l12, l30, l35, l36, l60, l99, l127, l150, l999, nI_eq, nI_leI, nI_ltI, nI_1, nI_add, pk_mul, obN, nI_clamp, lt', jn, Option.bind_some, inW, inF, inC, inK, fl4, cl4, wi3, T_X3_isFirstOrSecond, badE, fullE, noE, T_X3_refuseBad, T_X3_refuseFull, T_X3_refuseNo, reduceIte, Nat.reduceEqDiff, Nat.reduceLeDiff, Nat.reduceMul, Nat.reduceAdd, Nat.reduceSub, and_true, true_and, nb, Nat.zero_add]
        rw [T_X4_readsFloe_L2]; simp (disch := omega) only [l0, l1, l2, l3, l4, l5, l6, l7, l8, l9, l10, l11, l12, l30, l35, l36, l60, l99, l127, l150, l999, nI_eq, nI_leI, nI_ltI, nI_1, nI_add, pk_mul, obN, nI_clamp, lt', jn, Option.bind_some, inW, inF, inC, inK, fl4, cl4, wi3, T_X3_isFirstOrSecond, badE, fullE, noE, T_X3_refuseBad, T_X3_refuseFull, T_X3_refuseNo, reduceIte, Nat.reduceEqDiff, Nat.reduceLeDiff, Nat.reduceMul, Nat.reduceAdd, Nat.reduceSub, and_true, true_and, nc]
        rw [T_X4_readsFloe_L2]; simp (disch := omega) only [l0, l1, l2, l3, l4, l5, l6, l7, l8, l9, l10, l11, l12, l30, l35, l36, l60, l99, l127, l150, l999, nI_eq, nI_leI, nI_ltI, nI_1, nI_add, pk_mul, obN, nI_clamp, lt', jn, Option.bind_some, inW, inF, inC, inK, fl4, cl4, wi3, T_X3_isFirstOrSecond, badE, fullE, noE, T_X3_refuseBad, T_X3_refuseFull, T_X3_refuseNo, reduceIte, Nat.reduceEqDiff, Nat.reduceLeDiff, Nat.reduceMul, Nat.reduceAdd, Nat.reduceSub, and_true, true_and, Nat.le_refl]
theorem readsFloe_n {N n p F : Nat} {rn : Int32} {b B RF : Nat → Int32} (hN : 1000 ≤ N) (hn : n ≤ 150) (hb : ∀ i, i < n → b i = B i) (hp : p ≤ n) (hF : F < 5) :
    ∃ mm rn' RF', T_X4_readsFloe N (nI n) (nI p) (nI F) rn b RF = some (match w3N B n p 5 35 60 with | .inl q => (nI 0, nI q, mm, rn', RF') | .inr w => (nI 1, nI w.2.2.2, nI (F + 1), rn', upd (upd (upd RF (3 * F) (nI w.1)) (3 * F + 1) (nI w.2.1)) (3 * F + 2) (nI w.2.2.1))) := by
  obtain ⟨rn', RF', e⟩ := floe_L (rn := rn) (RF := RF) hN hn hb hp hF (fun (z42 : Int32) (z43 : Int32) (z44 : Nat → Int32) => (Option.bind (T_X4_ends N (nI n) z42 b) fun u50 => (some (u50.1, u50.2, nI F + 1, z43, z44)))) (show 4 ≤ N by omega)
  rw [T_X4_readsFloe]
  simp only [l0]
  rw [e]
  unfold w3N
  cases h1 : nmN B n p 5 with
  | inl r => exact ⟨_, _, _, rfl⟩
  | inr a =>
    have a1 := nmR (v := a.1) (p' := a.2) h1 hp
    simp only
    cases h2 : nmN B n a.2 35 with
    | inl r => exact ⟨_, _, _, rfl⟩
    | inr c =>
      have c1 := nmR (v := c.1) (p' := c.2) h2 a1.2.2
      simp only
      cases h3 : nmN B n c.2 60 with
      | inl r => exact ⟨_, _, _, rfl⟩
      | inr d =>
        have d1 := nmR (v := d.1) (p' := d.2) h3 c1.2.2
        have ne := ends4_n (N := N) hN hn hb d1.2.2
        simp only
        rw [ne]
        cases h4 : enN B n d.2 with
        | inl r => exact ⟨_, _, _, rfl⟩
        | inr e =>
          refine ⟨nI F, nI d.1, RF, ?_⟩
          simp only [Option.bind_some, nI_1]
/-- an item: where it ends, what it tells (a wind, or a floe), or its fault -/
def ieN (B : Nat → Int32) (n p F : Nat) : Nat ⊕ (Bool × (Nat × Nat × Nat × Nat)) :=
  if wdB B n 1 p then (match w3N B n (p + 4) 11 3 3 with | .inl q => .inl q | .inr w => .inr (true, w))
  else if wdB B n 2 p then (if F < 5 then (match w3N B n (p + 4) 5 35 60 with | .inl q => .inl q | .inr w => .inr (false, w)) else .inl p)
  else .inl p
theorem nm_ok {B : Nat → Int32} {n p m1 m2 m3 q : Nat} (h : w3N B n p m1 m2 m3 = .inl q) (hp : p ≤ n) : q ≤ n := by
  have h2 := c3_l h
  have h3 := (c3_ok (B := B) (m1 := m1) (m2 := m2) (m3 := m3) hp (show okP n none from trivial)).2.2.2.2
  rw [h2] at h3
  exact h3
theorem wd4 {B : Nat → Int32} {n p i : Nat} (h : wdB B n i p = true) (hp : p ≤ n) : p + lenS i ≤ n := by
  unfold wdB at h
  rw [Bool.and_eq_true, decide_eq_true_eq] at h
  have := rnN_le (B := B) (lo := 97) (hi := 122) hp
  omega
theorem item3_n {N n p F : Nat} {b B w g k c f : Nat → Int32} {un : Int32} (hN : 1000 ≤ N) (hn : n ≤ 150) (hb : ∀ i, i < n → b i = B i) (hp : p ≤ n) (hF : F ≤ 5) :
    match ieN B n p F with
    | .inl q => q ≤ n ∧ ∃ pl fl un' w' g' k' c' f', pl ≤ n ∧ T_X2_readItem N (nI n) (nI p) (-nI 1) b (nI F) un w g k c f = some (nI pl, nI q, fl, un', w', g', k', c', f')
    | .inr (true, v) => T_X2_readItem N (nI n) (nI p) (-nI 1) b (nI F) un w g k c f = some (nI v.2.2.2, -nI 1, nI F, nI 0, upd w v.1 (nI v.2.1), upd g v.1 (nI v.2.2.1), k, c, f) ∧ v.1 ≤ 11 ∧ v.2.1 ≤ 3 ∧ v.2.2.1 ≤ 3 ∧ p < v.2.2.2 ∧ v.2.2.2 ≤ n
    | .inr (false, v) => T_X2_readItem N (nI n) (nI p) (-nI 1) b (nI F) un w g k c f = some (nI v.2.2.2, -nI 1, nI (F + 1), nI 0, w, g, upd k F (nI v.1), upd c F (nI v.2.1), upd f F (nI v.2.2.1)) ∧ F < 5 ∧ v.1 ≤ 5 ∧ v.2.1 ≤ 35 ∧ v.2.2.1 ≤ 60 ∧ p < v.2.2.2 ∧ v.2.2.2 ≤ n := by
  have tw := takeWord_n (N := N) (i := 1) hN hn hb hp (by omega)
  have tf := takeWord_n (N := N) (i := 2) hN hn hb hp (by omega)
  unfold ieN
  cases h1 : wdB B n 1 p with
  | true =>
    have hp4 : p + 4 ≤ n := wd4 h1 hp
    have rw' := readWind_n (N := N) (fo := none) (w := w) (g := g) (un := un) hN hn hb hp4 trivial
    have c3 := c3_ok (B := B) (m1 := 11) (m2 := 3) (m3 := 3) hp4 (show okP n none from trivial)
    rw [if_pos rfl]
    rw [h1, if_pos rfl, show p + lenS 1 = p + 4 from rfl] at tw
    cases h2 : w3N B n (p + 4) 11 3 3 with
    | inl q =>
      refine ⟨nm_ok h2 hp4, (c3e B n none (p + 4) 11 3 3).1, nI F, nI 0, upd w (c3a B n none (p + 4) 11).1 (nI (c3b B n none (p + 4) 11 3).1), upd g (c3a B n none (p + 4) 11).1 (nI (c3c B n none (p + 4) 11 3 3).1), k, c, f, c3.2.2.2.1, ?_⟩
      rw [c3_l h2] at rw'
      rw [T_X2_readItem, tw]
      simp only [Option.bind_some]
      rw [if_neg (by decide), show (-nI 1 : Int32) = pf none from rfl, rw']
      rfl
    | inr v =>
      obtain ⟨e1, e2, e3, e4, e5, e6, e7, e8, e9⟩ := c3_r (v1 := v.1) (v2 := v.2.1) (v3 := v.2.2.1) (p4 := v.2.2.2) h2 hp4
      refine ⟨?_, e5, e6, e7, by omega, e9⟩
      rw [e1, e2, e3, e4] at rw'
      rw [T_X2_readItem, tw]
      simp only [Option.bind_some]
      rw [if_neg (by decide), show (-nI 1 : Int32) = pf none from rfl, rw']
      rfl
  | false =>
    rw [h1] at tw
    rw [if_neg (by decide)]
    by_cases hF5 : F < 5
    · have hF6 : ¬ 5 ≤ F := by omega
      cases h2 : wdB B n 2 p with
      | true =>
        have hp4 : p + 4 ≤ n := wd4 h2 hp
        have rw' := readFloe_n (N := N) (fo := none) (k := k) (c := c) (f := f) (un := un) hN hn hb hp4 trivial hF5
        have c3 := c3_ok (B := B) (m1 := 5) (m2 := 35) (m3 := 60) hp4 (show okP n none from trivial)
        rw [if_pos rfl, if_pos hF5]
        rw [h2, if_pos rfl, show p + lenS 2 = p + 4 from rfl] at tf
        have go : T_X2_readItem N (nI n) (nI p) (-nI 1) b (nI F) un w g k c f = some (nI (c3e B n none (p + 4) 5 35 60).1, pf (c3e B n none (p + 4) 5 35 60).2, nI (F + 1), nI 0, w, g, upd k F (nI (c3a B n none (p + 4) 5).1), upd c F (nI (c3b B n none (p + 4) 5 35).1), upd f F (nI (c3c B n none (p + 4) 5 35 60).1)) := by
          rw [T_X2_readItem, tw]
          simp only [Option.bind_some, Bool.false_eq_true, if_false, jn]
          rw [if_pos (show nI 0 = 0 from rfl), l5, if_neg (by rw [nI_leI (by omega) (by omega)]; exact hF6), tf]
          simp only [Option.bind_some]
          rw [if_neg (by decide), show (-nI 1 : Int32) = pf none from rfl, rw']
          rfl
        rw [go]
        cases h3 : w3N B n (p + 4) 5 35 60 with
        | inl q =>
          rw [c3_l h3]
          exact ⟨nm_ok h3 hp4, _, _, _, _, _, _, _, _, c3.2.2.2.1, rfl⟩
        | inr v =>
          obtain ⟨e1, e2, e3, e4, e5, e6, e7, e8, e9⟩ := c3_r (v1 := v.1) (v2 := v.2.1) (v3 := v.2.2.1) (p4 := v.2.2.2) h3 hp4
          rw [e1, e2, e3, e4]
          exact ⟨rfl, hF5, e5, e6, e7, by omega, e9⟩
      | false =>
        rw [if_neg (by decide)]
        rw [h2] at tf
        refine ⟨hp, p, nI F, un, w, g, k, c, f, hp, ?_⟩
        rw [T_X2_readItem, tw]
        simp only [Option.bind_some, Bool.false_eq_true, if_false, jn]
        rw [if_pos (show nI 0 = 0 from rfl), l5, if_neg (by rw [nI_leI (by omega) (by omega)]; exact hF6), tf]
        simp only [Option.bind_some, Bool.false_eq_true, if_false]
        rw [if_pos (show nI 0 = 0 from rfl)]
        rfl
    · have hF6 : 5 ≤ F := by omega
      have go : T_X2_readItem N (nI n) (nI p) (-nI 1) b (nI F) un w g k c f = some (nI p, nI p, nI F, un, w, g, k, c, f) := by
        rw [T_X2_readItem, tw]
        simp only [Option.bind_some, Bool.false_eq_true, if_false, jn]
        rw [if_pos (show nI 0 = 0 from rfl), l5, if_pos (by rw [nI_leI (by omega) (by omega)]; exact hF6)]
        rfl
      rw [go]
      cases h2 : wdB B n 2 p with
      | true => rw [if_pos rfl, if_neg hF5]; exact ⟨hp, _, _, _, _, _, _, _, _, hp, rfl⟩
      | false => rw [if_neg (by decide)]; exact ⟨hp, _, _, _, _, _, _, _, _, hp, rfl⟩
theorem item4_n {N n p F : Nat} {b B RF RW : Nat → Int32} {rn : Int32} (hN : 1000 ≤ N) (hn : n ≤ 150) (hb : ∀ i, i < n → b i = B i) (hp : p ≤ n) (hF : F ≤ 5) :
    ∃ mm rn' RF' RW', T_X4_readsItem N (nI n) (nI p) (nI F) rn b RF RW = some (match ieN B n p F with
    | .inl q => (nI 0, nI q, mm, rn', RF', RW')
    | .inr (true, v) => (nI 1, nI v.2.2.2, nI F, rn', RF, upd (upd RW (2 * v.1) (nI v.2.1)) (2 * v.1 + 1) (nI v.2.2.1))
    | .inr (false, v) => (nI 1, nI v.2.2.2, nI (F + 1), rn', upd (upd (upd RF (3 * F) (nI v.1)) (3 * F + 1) (nI v.2.1)) (3 * F + 2) (nI v.2.2.1), RW)) := by
  have wh := wordHere_n (N := N) hN hn hb hp
  have n1 : -nI 1 < nI 1 := by decide
  have n2 : 0 < 1 := by omega
  have n4 : ¬ 2 < 1 := by omega
  have n5 : ¬ F < 5 → F = 5 := fun h => by omega
  have n6 : F < 5 → ¬ F = 5 := fun h => by omega
  unfold ieN
  cases h0 : wdB B n 0 p with
  | true =>
    have h1 : wdB B n 1 p = false := by
      have h := h0
      rw [wdE0] at h
      cases h1 : wdB B n 1 p with
      | false => rfl
      | true => rw [wdE1] at h1; omega
    have h2 : wdB B n 2 p = false := by
      have h := h0
      rw [wdE0] at h
      cases h2 : wdB B n 2 p with
      | false => rfl
      | true => rw [wdE2] at h2; omega
    rw [h0, if_pos rfl] at wh
    rw [h1, h2, if_neg (by decide), if_neg (by decide)]
    refine ⟨nI F, rn, RF, RW, ?_⟩
    rw [T_X4_readsItem, wh]
    simp (disch := omega) only [l0, l1, l2, l3, l4, l5, l6, l7, l8, l9, l10, l11, l12, l30, l35, l36, l60, l99, l127, l150, l999, nI_eq, nI_leI, nI_ltI, nI_1, nI_add, pk_mul, obN, nI_clamp, lt', jn, Option.bind_some, inW, inF, inC, inK, fl4, cl4, wi3, T_X3_isFirstOrSecond, badE, fullE, noE, T_X3_refuseBad, T_X3_refuseFull, T_X3_refuseNo, reduceIte, Nat.reduceEqDiff, Nat.reduceLeDiff, Nat.reduceMul, Nat.reduceAdd, Nat.reduceSub, and_true, true_and, n2]
  | false =>
    rw [h0, if_neg (by decide)] at wh
    cases h1 : wdB B n 1 p with
    | true =>
      rw [h1, if_pos rfl] at wh
      have hp4 : p + 4 ≤ n := wd4 h1 hp
      obtain ⟨rn', RW', e⟩ := readsWind_n (N := N) (rn := rn) (RW := RW) hN hn hb hp4
      rw [if_pos rfl]
      refine ⟨nI F, rn', RF, RW', ?_⟩
      rw [T_X4_readsItem, wh]
      simp (disch := omega) only [l0, l1, l2, l3, l4, l5, l6, l7, l8, l9, l10, l11, l12, l30, l35, l36, l60, l99, l127, l150, l999, nI_eq, nI_leI, nI_ltI, nI_1, nI_add, pk_mul, obN, nI_clamp, lt', jn, Option.bind_some, inW, inF, inC, inK, fl4, cl4, wi3, T_X3_isFirstOrSecond, badE, fullE, noE, T_X3_refuseBad, T_X3_refuseFull, T_X3_refuseNo, reduceIte, Nat.reduceEqDiff, Nat.reduceLeDiff, Nat.reduceMul, Nat.reduceAdd, Nat.reduceSub, and_true, true_and, Nat.lt_irrefl, e]
      cases h2 : w3N B n (p + 4) 11 3 3 with
      | inl q => rfl
      | inr v => rfl
    | false =>
      rw [h1, if_neg (by decide)] at wh
      rw [if_neg (by decide)]
      cases h2 : wdB B n 2 p with
      | true =>
        rw [h2, if_pos rfl] at wh
        have hp4 : p + 4 ≤ n := wd4 h2 hp
        rw [if_pos rfl]
        by_cases hF5 : F < 5
        · rw [if_pos hF5]
          obtain ⟨mm, rn', RF', e⟩ := readsFloe_n (N := N) (rn := rn) (RF := RF) hN hn hb hp4 hF5
          refine ⟨mm, rn', RF', RW, ?_⟩
          rw [T_X4_readsItem, wh]
          have n7 := n6 hF5
          simp (disch := omega) only [l0, l1, l2, l3, l4, l5, l6, l7, l8, l9, l10, l11, l12, l30, l35, l36, l60, l99, l127, l150, l999, nI_eq, nI_leI, nI_ltI, nI_1, nI_add, pk_mul, obN, nI_clamp, lt', jn, Option.bind_some, inW, inF, inC, inK, fl4, cl4, wi3, T_X3_isFirstOrSecond, badE, fullE, noE, T_X3_refuseBad, T_X3_refuseFull, T_X3_refuseNo, reduceIte, Nat.reduceEqDiff, Nat.reduceLeDiff, Nat.reduceMul, Nat.reduceAdd, Nat.reduceSub, and_true, true_and, n4, n7, e]
          cases h3 : w3N B n (p + 4) 5 35 60 with
          | inl q => rfl
          | inr v => rfl
        · obtain rfl : F = 5 := by omega
          rw [if_neg hF5]
          refine ⟨nI 5, rn, RF, RW, ?_⟩
          rw [T_X4_readsItem, wh]
          simp (disch := omega) only [l0, l1, l2, l3, l4, l5, l6, l7, l8, l9, l10, l11, l12, l30, l35, l36, l60, l99, l127, l150, l999, nI_eq, nI_leI, nI_ltI, nI_1, nI_add, pk_mul, obN, nI_clamp, lt', jn, Option.bind_some, inW, inF, inC, inK, fl4, cl4, wi3, T_X3_isFirstOrSecond, badE, fullE, noE, T_X3_refuseBad, T_X3_refuseFull, T_X3_refuseNo, reduceIte, Nat.reduceEqDiff, Nat.reduceLeDiff, Nat.reduceMul, Nat.reduceAdd, Nat.reduceSub, and_true, true_and, n4]
      | false =>
        rw [h2, if_neg (by decide)] at wh
        rw [if_neg (by decide)]
        refine ⟨nI F, rn, RF, RW, ?_⟩
        rw [T_X4_readsItem, wh]
        simp (disch := omega) only [l0, l1, l2, l3, l4, l5, l6, l7, l8, l9, l10, l11, l12, l30, l35, l36, l60, l99, l127, l150, l999, nI_eq, nI_leI, nI_ltI, nI_1, nI_add, pk_mul, obN, nI_clamp, lt', jn, Option.bind_some, inW, inF, inC, inK, fl4, cl4, wi3, T_X3_isFirstOrSecond, badE, fullE, noE, T_X3_refuseBad, T_X3_refuseFull, T_X3_refuseNo, reduceIte, Nat.reduceEqDiff, Nat.reduceLeDiff, Nat.reduceMul, Nat.reduceAdd, Nat.reduceSub, and_true, true_and, n1]
