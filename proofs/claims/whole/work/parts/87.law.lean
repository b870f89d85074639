/-! the law: what stands at its start -/
theorem tb {w : Cond} {i : Nat} (h : tables_1[i]? = some w) : w ∈ lw_tbl := List.mem_append_right _ (List.mem_of_getElem? h)
theorem str_n {s : State} {args : Array Value} {k N : Nat} {tx : String} {byt : List Int32} {A : Nat → Prop} (hN : N < 2 ^ 31) (hA : ∀ a : Nat, a < s.heap.size → ¬ A a)
    (h1 : (Cond.stringRef "FrozenIn$Text" k tx).before args s = true)
    (h2 : (Cond.exactly (.string "FrozenIn$Text" k) "java/lang/String").before args s = true)
    (h3 : (Cond.eq (.field (.string "FrozenIn$Text" k) "java/lang/String" "coder" "B") (.int 0)).before args s = true)
    (h4 : (Cond.arrayOf (.field (.string "FrozenIn$Text" k) "java/lang/String" "value" "[B") .byte).before args s = true)
    (h5 : (Cond.eq (.length (.field (.string "FrozenIn$Text" k) "java/lang/String" "value" "[B")) (.int (Int32.ofNat N))).before args s = true)
    (h6 : ∀ j, j < N → (Cond.eq (.elem (.field (.string "FrozenIn$Text" k) "java/lang/String" "value" "[B") (.int (Int32.ofNat j))) (.int (byt.getD j 0))).before args s = true) :
    ∃ a v, vk_R "FrozenIn$Text" k tx a s ∧ va_O "java/lang/String" a A s s.heap ∧ va_OF "java/lang/String" "coder" "B" (.int 0) a A s s.heap ∧ va_OF "java/lang/String" "value" "[B" (.ref v) a A s s.heap ∧ va_T .byte v N (fun j => .int (byt.getD j 0)) A s s.heap ∧ (Term.string "FrozenIn$Text" k).eval args s none [] s = some (.ref a) := by
  obtain ⟨a, c, cell, kc, q1, -⟩ := Cond.exactly_spec (args := args) (first := s) (o := none) (s := s) (idx := []) h2
  obtain ⟨v, e1, e2⟩ := va_Tof (f := fun j => .int (byt.getD j 0)) hN h4 (va_eqt h5) (fun j hj => va_eqt (h6 j hj)) hA
  exact ⟨a, v, vk_R.of h1 q1, va_Oof h2 q1 hA, vk_OFof q1 (va_eqt h3) hA, vk_OFof q1 e1 hA, e2, q1⟩
theorem ne_n {s : State} {args : Array Value} {t u : Term} {a b : Nat} (h : (Cond.not (Cond.eq t u)).before args s = true) (ht : t.eval args s none [] s = some (.ref a)) (hu : u.eval args s none [] s = some (.ref b)) : a ≠ b := by
  rintro rfl
  simp [Cond.before, Cond.holds, Cond.value, ht, hu] at h
set_option maxRecDepth 100000 in
theorem start_S {p : Program} {s : State} {m : MethodId} {meth : Method} {c : Code} {b L : Nat} {xs : Nat → Int32} (C0 : lw_At p s m meth c b L xs) : ∃ adK adV t0, SS adK adV t0 (fun q : Nat => s.heap.size ≤ q) s s.heap ∧ KR adK s := by
  obtain ⟨hx, hb, hr, hml, hown, hts, hX, hbl, hlocks, hgv⟩ := C0
  have hs := flat_of_before _ hgv
  have hA : ∀ a : Nat, a < s.heap.size → ¬ (fun q : Nat => s.heap.size ≤ q) a := fun a ha => Nat.not_le.mpr ha
  obtain ⟨a0, v0, r0, x0, y0, z0, w0, q0⟩ := str_n (k := 35) (N := 3) (tx := "sea") (byt := [115, 101, 97]) (by decide) hA (hts _ (tb (i := 217) (by decide +kernel))) (hs _ (by decide +kernel)) (hs _ (by decide +kernel)) (hs _ (by decide +kernel)) (hs _ (by decide +kernel)) (fun j hj => by
    rcases (show j = 0 ∨ j = 1 ∨ j = 2 by omega) with rfl | rfl | rfl
    · exact hs _ (by decide +kernel)
    · exact hs _ (by decide +kernel)
    · exact hs _ (by decide +kernel))
  obtain ⟨a1, v1, r1, x1, y1, z1, w1, q1⟩ := str_n (k := 57) (N := 4) (tx := "wind") (byt := [119, 105, 110, 100]) (by decide) hA (hts _ (tb (i := 295) (by decide +kernel))) (hs _ (by decide +kernel)) (hs _ (by decide +kernel)) (hs _ (by decide +kernel)) (hs _ (by decide +kernel)) (fun j hj => by
    rcases (show j = 0 ∨ j = 1 ∨ j = 2 ∨ j = 3 by omega) with rfl | rfl | rfl | rfl
    · exact hs _ (by decide +kernel)
    · exact hs _ (by decide +kernel)
    · exact hs _ (by decide +kernel)
    · exact hs _ (by decide +kernel))
  obtain ⟨a2, v2, r2, x2, y2, z2, w2, q2⟩ := str_n (k := 65) (N := 4) (tx := "floe") (byt := [102, 108, 111, 101]) (by decide) hA (hts _ (tb (i := 301) (by decide +kernel))) (hs _ (by decide +kernel)) (hs _ (by decide +kernel)) (hs _ (by decide +kernel)) (hs _ (by decide +kernel)) (fun j hj => by
    rcases (show j = 0 ∨ j = 1 ∨ j = 2 ∨ j = 3 by omega) with rfl | rfl | rfl | rfl
    · exact hs _ (by decide +kernel)
    · exact hs _ (by decide +kernel)
    · exact hs _ (by decide +kernel)
    · exact hs _ (by decide +kernel))
  have n01 := ne_n (hs (Cond.not (Cond.eq (.string "FrozenIn$Text" 35) (.string "FrozenIn$Text" 57))) (by decide +kernel)) q0 q1
  have n02 := ne_n (hs (Cond.not (Cond.eq (.string "FrozenIn$Text" 35) (.string "FrozenIn$Text" 65))) (by decide +kernel)) q0 q2
  have n12 := ne_n (hs (Cond.not (Cond.eq (.string "FrozenIn$Text" 57) (.string "FrozenIn$Text" 65))) (by decide +kernel)) q1 q2
  obtain ⟨v, e1, e2⟩ := Cond.isRef_spec (args := #[Value.ref b]) (first := s) (o := none) (s := s) (idx := []) (hs (Cond.isRef (.static "jdk/internal/util/Preconditions" "SIOOBE_FORMATTER" "Ljava/util/function/BiFunction;")) (by decide +kernel))
  have zc := va_Zof (C := "java/lang/String") (n := "COMPACT_STRINGS") (d := "Z") (hts _ (tb (i := 231) (by decide +kernel))) (hts _ (tb (i := 6) (by decide +kernel))) (va_eqi (z := 1) (hs _ (by decide +kernel))) hA
  have zf := va_Zof (C := "jdk/internal/util/Preconditions") (n := "SIOOBE_FORMATTER") (d := "Ljava/util/function/BiFunction;") (hts _ (tb (i := 251) (by decide +kernel))) (hts _ (tb (i := 8) (by decide +kernel))) e1 hA
  obtain ⟨t0, rfl⟩ : ∃ t0, v = va_rf t0 := by
    cases v with
    | null => exact ⟨none, rfl⟩
    | ref a => exact ⟨some a, rfl⟩
    | _ => cases e2
  refine ⟨fun i => if i = 0 then a0 else if i = 1 then a1 else a2, fun i => if i = 0 then v0 else if i = 1 then v1 else v2, t0, ⟨⟨?_, ?_⟩, zc, zf⟩, r0, r1, r2⟩
  · intro i hi
    rcases (show i = 0 ∨ i = 1 ∨ i = 2 by omega) with rfl | rfl | rfl
    · exact ⟨x0, y0, z0, w0⟩
    · exact ⟨x1, y1, z1, w1⟩
    · exact ⟨x2, y2, z2, w2⟩
  · intro i j hi hj h
    rcases (show i = 0 ∨ i = 1 ∨ i = 2 by omega) with rfl | rfl | rfl <;> rcases (show j = 0 ∨ j = 1 ∨ j = 2 by omega) with rfl | rfl | rfl
    · rfl
    · exact absurd h n01
    · exact absurd h n02
    · exact absurd h.symm n01
    · rfl
    · exact absurd h n12
    · exact absurd h.symm n02
    · exact absurd h.symm n12
    · rfl
set_option maxRecDepth 100000 in
theorem start_K {p : Program} {s : State} {m : MethodId} {meth : Method} {c : Code} {b L : Nat} {xs : Nat → Int32} (C0 : lw_At p s m meth c b L xs) : ∃ (D : va_G) (cyI cyJ cyS : ClassId), KK D (tyS cyI cyJ cyS) s := by
  obtain ⟨hx, hb, hr, hml, hown, hts, hX, hbl, hlocks, hgv⟩ := C0
  obtain ⟨c0, iS0, k0⟩ := u_known (C := RX1) (T := TX1) (N := 13) (n := 13) hts inX1 (hts (.instantiable RX1 13) (tb (i := 22) (by decide +kernel)))
  obtain ⟨c1, iS1, k1⟩ := u_known (C := RX2) (T := TX2) (N := 4) (n := 4) hts inX2 (hts (.instantiable RX2 4) (tb (i := 84) (by decide +kernel)))
  obtain ⟨c2, iS2, k2⟩ := u_known (C := RX3) (T := TX3) (N := 12) (n := 12) hts inX3 (hts (.instantiable RX3 12) (tb (i := 14) (by decide +kernel)))
  obtain ⟨c3, iS3, k3⟩ := u_known (C := RX4) (T := TX4) (N := 30) (n := 30) hts inX4 (hts (.instantiable RX4 30) (tb (i := 595) (by decide +kernel)))
  obtain ⟨cI, kI, pI, i1, i2, i3⟩ := Cond.arrayClass_spec (args := #[Value.ref b]) (first := s) (o := none) (s := s) (idx := []) (hts (Cond.arrayClass .int) (tb (i := 81) (by decide +kernel)))
  obtain ⟨cJ, kJ, pJ, j1, j2, j3⟩ := Cond.arrayClass_spec (args := #[Value.ref b]) (first := s) (o := none) (s := s) (idx := []) (hts (Cond.arrayClass .long) (tb (i := 140) (by decide +kernel)))
  have hAO := hts (Cond.arrayOver (.object "FrozenIn$Sea")) (tb (i := 82) (by decide +kernel))
  obtain ⟨pS, cS', kS, o1, -, o2, o3, o4⟩ := Cond.arrayOver_spec (args := #[Value.ref b]) (first := s) (o := none) (s := s) (idx := []) hAO
  refine ⟨(fun k => if k = 0 then c0 else if k = 1 then c1 else if k = 2 then c2 else c3, fun k => if k = 0 then iS0 else if k = 1 then iS1 else if k = 2 then iS2 else iS3), cI, cJ, cS', ⟨?_, ?_⟩, va_Nw.of rfl (hts (.methodLinkNest RX3 25 yX2_init "FrozenIn") (tb (i := 85) (by decide +kernel))), va_Nw.of rfl (hts (.methodLinkNest RX1 74 yX3_isOut "FrozenIn") (tb (i := 351) (by decide +kernel))), va_AO.of hAO⟩
  · intro k q hq
    match k, hq with
    | 0, hq => cases hq; exact k0
    | 1, hq => cases hq; exact k1
    | 2, hq => cases hq; exact k2
    | 3, hq => cases hq; exact k3
    | k + 4, hq => simp at hq
  · intro k q hq
    match k, hq with
    | 0, hq => cases hq; exact ⟨fun n z => ⟨fun k h => (by cases h), kI, i2, pI, i3⟩, i1⟩
    | 1, hq => cases hq; exact ⟨fun n z => ⟨fun k h => (by cases h), kJ, j2, pJ, j3⟩, j1⟩
    | 2, hq => cases hq; exact ⟨fun n z => ⟨fun k h => (by cases h), kS, o2, pS, o3⟩, kS, pS, o2, o3, o1, o4⟩
    | k + 3, hq => simp [tyS] at hq
set_option maxHeartbeats 4000000 in
set_option maxRecDepth 100000 in
/-- THE LAW'S LOOP: at its head, with i calls behind, class and reference agree -/
theorem law_loop {p : Program} {l : Launch} {e : Env} {s : State} {m : MethodId} {below : List Frame} {meth : Method} {c : Code} {bs Ls : Nat} {xs : Nat → Int32} (hL : Ls ≤ 4096) (C0 : lw_At p s m meth c bs Ls xs) (D : va_G) (cyI cyJ cyS : ClassId) (hKK : KK D (tyS cyI cyJ cyS) s) (adK adV : Nat → Nat) (t0 : Option Nat) (hSS : SS adK adV t0 (fun q : Nat => s.heap.size ≤ q) s s.heap) (hKR : KR adK s) (a a_now a_spare a_text am : Nat → Nat) :
    ∀ (n i : Nat), i ≤ 512 → 513 ≤ i + n → ∀ (x : FIV) (y : MV) (gI : Nat → Option Nat) (Z : va_W) (H : Heap) (locs : List Loc) (ls : Array Slot), REL x y → ZR cyI x gI Z → va_P D vwCl (wB cyI cyJ cyS a a_now a_spare a_text am gI x y) H → va_P D vwCl Z H → va_D (fun q : Nat => s.heap.size ≤ q) (wB cyI cyJ cyS a a_now a_spare a_text am gI x y ++ Z) → va_S (fun q : Nat => s.heap.size ≤ q) s.heap H locs → lv_has ls 4 [(0, .ref bs), (1, .ref (a 0)), (2, .ref (am 0)), (3, .int (nI (8 * i)))] → W p l e room_1 s m #[Value.ref bs] below meth c H locs (43 + 9 * i) (1456 + 194 * i) (lw_Z below #[Value.ref bs] s) (F0 m 18 ls []) := by
  obtain ⟨hx, hb, hr, hml, hown0, hts0, hX, hbl, hlocks, hgv⟩ := id C0
  have hA : ∀ q : Nat, s.heap.size ≤ q → (fun q : Nat => s.heap.size ≤ q) q := fun _ h => h
  have hbA : ¬ (fun q : Nat => s.heap.size ≤ q) bs := Nat.not_le.mpr hbl
  intro n
  induction n with
  | zero =>
    intro i h1 h2
    exact absurd h2 (by omega)
  | succ n ih =>
    intro i hi hin x y gI Z H locs ls hrel hZR hP hPZ hD hS hl
    refine lv_iload_n hx hb dL_law_18 rfl (lv_at hl 3 rfl) ?_
    refine lv_aload_n hx hb dL_law_19 rfl (lv_at hl 0 rfl) ?_
    refine va_slen hx hb hX hbl hbA hS dL_law_20 ?_
    refine lv_bipush (v := nI 8) hx hb dL_law_21 (by decide) ?_
    refine lv_isub hx hb dL_law_23 ?_
    refine lv_icmp_gt (tgt := 1134) hx hb dL_law_24 (by decide) (fun _ => ?_) (fun hgt => ?_)
    · refine lv_iconst (v := 1) hx hb dL_law_1134 (by decide) ?_
      refine va_forget (fun q hq => hS.2.2 q hq) ?_
      refine W.widen (k := 600000) (n := 7302250) (by omega) (by omega) ?_
      exact lw_ret hx hb hr hlocks dL_law_1135
    · have hle : 8 * i + 8 ≤ Ls := by
        rw [Int32.lt_iff_toInt_lt, show Int32.ofNat Ls = nI Ls from rfl, pk_sub_toInt (by omega) (by omega), nI_toInt (by omega)] at hgt
        omega
      have hi0 : vp_in (nI (8 * i)) Ls := vp_in_nI (by omega) (by omega)
      have hik : ∀ k, k < 8 → vp_in (nI (8 * i) + nI k) Ls := fun k hk => by rw [nI_add]; exact vp_in_nI (by omega) (by omega)
      have J : ∀ (x' : FIV) (y' : MV) (gI' : Nat → Option Nat) (Z' : va_W) (H' : Heap) (locs' : List Loc) (ls' : Array Slot), REL x' y' → ZR cyI x' gI' Z' → va_P D vwCl (wB cyI cyJ cyS a a_now a_spare a_text am gI' x' y') H' → va_P D vwCl Z' H' → va_D (fun q : Nat => s.heap.size ≤ q) (wB cyI cyJ cyS a a_now a_spare a_text am gI' x' y' ++ Z') → va_S (fun q : Nat => s.heap.size ≤ q) s.heap H' locs' → lv_has ls' 4 [(0, .ref bs), (1, .ref (a 0)), (2, .ref (am 0)), (3, .int (nI (8 * i)))] → W p l e room_1 s m #[Value.ref bs] below meth c H' locs' ((43 + 9 * i) + 9) ((1456 + 194 * i) + 194) (lw_Z below #[Value.ref bs] s) (F0 m 1128 ls' []) := by
        intro x' y' gI' Z' H' locs' ls' hrel' hZR' hP' hPZ' hD' hS' hl'
        refine lv_iinc (v := nI (8 * (i + 1))) (lv' := [(3, .int (nI (8 * (i + 1)))), (0, .ref bs), (1, .ref (a 0)), (2, .ref (am 0))]) hx hb dL_law_1128 hl' (k := 3) rfl (by rw [show Int32.ofInt 8 = nI 8 from by decide, nI_add]; rfl) (by decide) rfl (fun ls2 hl2 => ?_)
        refine lv_goto (tgt := 18) hx hb dL_law_1131 (by decide) ?_
        rw [show 43 + 9 * i + 9 = 43 + 9 * (i + 1) by omega, show 1456 + 194 * i + 194 = 1456 + 194 * (i + 1) by omega]
        exact ih (i + 1) (by omega) (by omega) x' y' gI' Z' H' locs' ls2 hrel' hZR' hP' hPZ' hD' hS' (lv_sub hl2 [1, 2, 3, 0] rfl)
      refine lv_aload_n hx hb dL_law_27 rfl (lv_at hl 0 rfl) ?_
      refine lv_iload_n hx hb dL_law_28 rfl (lv_at hl 3 rfl) ?_
      refine va_sld hx hb hX hbl hbA hS hi0 dL_law_29 ?_
      refine lv_bipush (v := 31) hx hb dL_law_30 (by decide) ?_
      refine lv_iand hx hb dL_law_32 ?_
      obtain ⟨j, hj, ej⟩ := pk_andE (xs (nI (8 * i)).toNatClampNeg) (m := 31) 5 (by decide)
      rw [ej]
      match j, hj with
      | 0, _ =>
        refine lv_tableIn (off := 143) (tgt := 176) hx hb dL_law_33 (by decide) (by decide) (by decide) (by decide) ?_
        exact law_c0 C0 D cyI cyJ cyS hKK 1000 (Nat.le_refl 1000) a a_now a_spare a_text am x y hrel gI Z hZR H locs (43 + 9 * i) (1456 + 194 * i) (nI (8 * i)) (by omega) (by omega) hi0 (hik 1 (by omega)) (hik 2 (by omega)) (hik 3 (by omega)) (hik 4 (by omega)) (hik 5 (by omega)) (hik 6 (by omega)) (hik 7 (by omega)) ls hP hPZ hD hS hl J
      | 1, _ =>
        refine lv_tableIn (off := 166) (tgt := 199) hx hb dL_law_33 (by decide) (by decide) (by decide) (by decide) ?_
        exact law_c1 C0 D cyI cyJ cyS hKK 1000 (Nat.le_refl 1000) a a_now a_spare a_text am x y hrel gI Z hZR H locs (43 + 9 * i) (1456 + 194 * i) (nI (8 * i)) (by omega) (by omega) hi0 (hik 1 (by omega)) (hik 2 (by omega)) (hik 3 (by omega)) (hik 4 (by omega)) (hik 5 (by omega)) (hik 6 (by omega)) (hik 7 (by omega)) ls hP hPZ hD hS hl J
      | 2, _ =>
        refine lv_tableIn (off := 209) (tgt := 242) hx hb dL_law_33 (by decide) (by decide) (by decide) (by decide) ?_
        exact law_c2 C0 D cyI cyJ cyS hKK 1000 (Nat.le_refl 1000) a a_now a_spare a_text am x y hrel gI Z hZR H locs (43 + 9 * i) (1456 + 194 * i) (nI (8 * i)) (by omega) (by omega) hi0 (hik 1 (by omega)) (hik 2 (by omega)) (hik 3 (by omega)) (hik 4 (by omega)) (hik 5 (by omega)) (hik 6 (by omega)) (hik 7 (by omega)) ls hP hPZ hD hS hl J
      | 3, _ =>
        refine lv_tableIn (off := 252) (tgt := 285) hx hb dL_law_33 (by decide) (by decide) (by decide) (by decide) ?_
        exact law_c3 C0 D cyI cyJ cyS hKK 1000 (Nat.le_refl 1000) a a_now a_spare a_text am x y hrel gI Z hZR H locs (43 + 9 * i) (1456 + 194 * i) (nI (8 * i)) (by omega) (by omega) hi0 (hik 1 (by omega)) (hik 2 (by omega)) (hik 3 (by omega)) (hik 4 (by omega)) (hik 5 (by omega)) (hik 6 (by omega)) (hik 7 (by omega)) ls hP hPZ hD hS hl J
      | 4, _ =>
        refine lv_tableIn (off := 275) (tgt := 308) hx hb dL_law_33 (by decide) (by decide) (by decide) (by decide) ?_
        exact law_c4 C0 D cyI cyJ cyS hKK 1000 (Nat.le_refl 1000) a a_now a_spare a_text am x y hrel gI Z hZR H locs (43 + 9 * i) (1456 + 194 * i) (nI (8 * i)) (by omega) (by omega) hi0 (hik 1 (by omega)) (hik 2 (by omega)) (hik 3 (by omega)) (hik 4 (by omega)) (hik 5 (by omega)) (hik 6 (by omega)) (hik 7 (by omega)) ls hP hPZ hD hS hl J
      | 5, _ =>
        refine lv_tableIn (off := 288) (tgt := 321) hx hb dL_law_33 (by decide) (by decide) (by decide) (by decide) ?_
        exact law_c5 C0 D cyI cyJ cyS hKK 1000 (Nat.le_refl 1000) a a_now a_spare a_text am x y hrel gI Z hZR H locs (43 + 9 * i) (1456 + 194 * i) (nI (8 * i)) (by omega) (by omega) hi0 (hik 1 (by omega)) (hik 2 (by omega)) (hik 3 (by omega)) (hik 4 (by omega)) (hik 5 (by omega)) (hik 6 (by omega)) (hik 7 (by omega)) ls hP hPZ hD hS hl adK adV t0 hSS hKR J
      | 6, _ =>
        refine lv_tableIn (off := 301) (tgt := 334) hx hb dL_law_33 (by decide) (by decide) (by decide) (by decide) ?_
        exact law_c6 C0 D cyI cyJ cyS hKK 1000 (Nat.le_refl 1000) a a_now a_spare a_text am x y hrel gI Z hZR H locs (43 + 9 * i) (1456 + 194 * i) (nI (8 * i)) (by omega) (by omega) hi0 (hik 1 (by omega)) (hik 2 (by omega)) (hik 3 (by omega)) (hik 4 (by omega)) (hik 5 (by omega)) (hik 6 (by omega)) (hik 7 (by omega)) ls hP hPZ hD hS hl J
      | 7, _ =>
        refine lv_tableIn (off := 324) (tgt := 357) hx hb dL_law_33 (by decide) (by decide) (by decide) (by decide) ?_
        exact law_c7 C0 D cyI cyJ cyS hKK 1000 (Nat.le_refl 1000) a a_now a_spare a_text am x y hrel gI Z hZR H locs (43 + 9 * i) (1456 + 194 * i) (nI (8 * i)) (by omega) (by omega) hi0 (hik 1 (by omega)) (hik 2 (by omega)) (hik 3 (by omega)) (hik 4 (by omega)) (hik 5 (by omega)) (hik 6 (by omega)) (hik 7 (by omega)) ls hP hPZ hD hS hl J
      | 8, _ =>
        refine lv_tableIn (off := 357) (tgt := 390) hx hb dL_law_33 (by decide) (by decide) (by decide) (by decide) ?_
        exact law_c8 C0 D cyI cyJ cyS hKK 1000 (Nat.le_refl 1000) a a_now a_spare a_text am x y hrel gI Z hZR H locs (43 + 9 * i) (1456 + 194 * i) (nI (8 * i)) (by omega) (by omega) hi0 (hik 1 (by omega)) (hik 2 (by omega)) (hik 3 (by omega)) (hik 4 (by omega)) (hik 5 (by omega)) (hik 6 (by omega)) (hik 7 (by omega)) ls hP hPZ hD hS hl J
      | 9, _ =>
        refine lv_tableIn (off := 390) (tgt := 423) hx hb dL_law_33 (by decide) (by decide) (by decide) (by decide) ?_
        exact law_c9 C0 D cyI cyJ cyS hKK 1000 (Nat.le_refl 1000) a a_now a_spare a_text am x y hrel gI Z hZR H locs (43 + 9 * i) (1456 + 194 * i) (nI (8 * i)) (by omega) (by omega) hi0 (hik 1 (by omega)) (hik 2 (by omega)) (hik 3 (by omega)) (hik 4 (by omega)) (hik 5 (by omega)) (hik 6 (by omega)) (hik 7 (by omega)) ls hP hPZ hD hS hl J
      | 10, _ =>
        refine lv_tableIn (off := 403) (tgt := 436) hx hb dL_law_33 (by decide) (by decide) (by decide) (by decide) ?_
        exact law_c10 C0 D cyI cyJ cyS hKK 1000 (Nat.le_refl 1000) a a_now a_spare a_text am x y hrel gI Z hZR H locs (43 + 9 * i) (1456 + 194 * i) (nI (8 * i)) (by omega) (by omega) hi0 (hik 1 (by omega)) (hik 2 (by omega)) (hik 3 (by omega)) (hik 4 (by omega)) (hik 5 (by omega)) (hik 6 (by omega)) (hik 7 (by omega)) ls hP hPZ hD hS hl J
      | 11, _ =>
        refine lv_tableIn (off := 436) (tgt := 469) hx hb dL_law_33 (by decide) (by decide) (by decide) (by decide) ?_
        exact law_c11 C0 D cyI cyJ cyS hKK 1000 (Nat.le_refl 1000) a a_now a_spare a_text am x y hrel gI Z hZR H locs (43 + 9 * i) (1456 + 194 * i) (nI (8 * i)) (by omega) (by omega) hi0 (hik 1 (by omega)) (hik 2 (by omega)) (hik 3 (by omega)) (hik 4 (by omega)) (hik 5 (by omega)) (hik 6 (by omega)) (hik 7 (by omega)) ls hP hPZ hD hS hl J
      | 12, _ =>
        refine lv_tableIn (off := 469) (tgt := 502) hx hb dL_law_33 (by decide) (by decide) (by decide) (by decide) ?_
        exact law_c12 C0 D cyI cyJ cyS hKK 1000 (Nat.le_refl 1000) a a_now a_spare a_text am x y hrel gI Z hZR H locs (43 + 9 * i) (1456 + 194 * i) (nI (8 * i)) (by omega) (by omega) hi0 (hik 1 (by omega)) (hik 2 (by omega)) (hik 3 (by omega)) (hik 4 (by omega)) (hik 5 (by omega)) (hik 6 (by omega)) (hik 7 (by omega)) ls hP hPZ hD hS hl J
      | 13, _ =>
        refine lv_tableIn (off := 492) (tgt := 525) hx hb dL_law_33 (by decide) (by decide) (by decide) (by decide) ?_
        exact law_c13 C0 D cyI cyJ cyS hKK 1000 (Nat.le_refl 1000) a a_now a_spare a_text am x y hrel gI Z hZR H locs (43 + 9 * i) (1456 + 194 * i) (nI (8 * i)) (by omega) (by omega) hi0 (hik 1 (by omega)) (hik 2 (by omega)) (hik 3 (by omega)) (hik 4 (by omega)) (hik 5 (by omega)) (hik 6 (by omega)) (hik 7 (by omega)) ls hP hPZ hD hS hl J
      | 14, _ =>
        refine lv_tableIn (off := 515) (tgt := 548) hx hb dL_law_33 (by decide) (by decide) (by decide) (by decide) ?_
        exact law_c14 C0 D cyI cyJ cyS hKK 1000 (Nat.le_refl 1000) a a_now a_spare a_text am x y hrel gI Z hZR H locs (43 + 9 * i) (1456 + 194 * i) (nI (8 * i)) (by omega) (by omega) hi0 (hik 1 (by omega)) (hik 2 (by omega)) (hik 3 (by omega)) (hik 4 (by omega)) (hik 5 (by omega)) (hik 6 (by omega)) (hik 7 (by omega)) ls hP hPZ hD hS hl J
      | 15, _ =>
        refine lv_tableIn (off := 548) (tgt := 581) hx hb dL_law_33 (by decide) (by decide) (by decide) (by decide) ?_
        exact law_c15 C0 D cyI cyJ cyS hKK 1000 (Nat.le_refl 1000) a a_now a_spare a_text am x y hrel gI Z hZR H locs (43 + 9 * i) (1456 + 194 * i) (nI (8 * i)) (by omega) (by omega) hi0 (hik 1 (by omega)) (hik 2 (by omega)) (hik 3 (by omega)) (hik 4 (by omega)) (hik 5 (by omega)) (hik 6 (by omega)) (hik 7 (by omega)) ls hP hPZ hD hS hl J
      | 16, _ =>
        refine lv_tableIn (off := 591) (tgt := 624) hx hb dL_law_33 (by decide) (by decide) (by decide) (by decide) ?_
        exact law_c16 C0 D cyI cyJ cyS hKK 1000 (Nat.le_refl 1000) a a_now a_spare a_text am x y hrel gI Z hZR H locs (43 + 9 * i) (1456 + 194 * i) (nI (8 * i)) (by omega) (by omega) hi0 (hik 1 (by omega)) (hik 2 (by omega)) (hik 3 (by omega)) (hik 4 (by omega)) (hik 5 (by omega)) (hik 6 (by omega)) (hik 7 (by omega)) ls hP hPZ hD hS hl J
      | 17, _ =>
        refine lv_tableIn (off := 624) (tgt := 657) hx hb dL_law_33 (by decide) (by decide) (by decide) (by decide) ?_
        exact law_c17 C0 D cyI cyJ cyS hKK 1000 (Nat.le_refl 1000) a a_now a_spare a_text am x y hrel gI Z hZR H locs (43 + 9 * i) (1456 + 194 * i) (nI (8 * i)) (by omega) (by omega) hi0 (hik 1 (by omega)) (hik 2 (by omega)) (hik 3 (by omega)) (hik 4 (by omega)) (hik 5 (by omega)) (hik 6 (by omega)) (hik 7 (by omega)) ls hP hPZ hD hS hl J
      | 18, _ =>
        refine lv_tableIn (off := 667) (tgt := 700) hx hb dL_law_33 (by decide) (by decide) (by decide) (by decide) ?_
        exact law_c18 C0 D cyI cyJ cyS hKK 1000 (Nat.le_refl 1000) a a_now a_spare a_text am x y hrel gI Z hZR H locs (43 + 9 * i) (1456 + 194 * i) (nI (8 * i)) (by omega) (by omega) hi0 (hik 1 (by omega)) (hik 2 (by omega)) (hik 3 (by omega)) (hik 4 (by omega)) (hik 5 (by omega)) (hik 6 (by omega)) (hik 7 (by omega)) ls hP hPZ hD hS hl J
      | 19, _ =>
        refine lv_tableIn (off := 690) (tgt := 723) hx hb dL_law_33 (by decide) (by decide) (by decide) (by decide) ?_
        exact law_c19 C0 D cyI cyJ cyS hKK 1000 (Nat.le_refl 1000) a a_now a_spare a_text am x y hrel gI Z hZR H locs (43 + 9 * i) (1456 + 194 * i) (nI (8 * i)) (by omega) (by omega) hi0 (hik 1 (by omega)) (hik 2 (by omega)) (hik 3 (by omega)) (hik 4 (by omega)) (hik 5 (by omega)) (hik 6 (by omega)) (hik 7 (by omega)) ls hP hPZ hD hS hl J
      | 20, _ =>
        refine lv_tableIn (off := 777) (tgt := 810) hx hb dL_law_33 (by decide) (by decide) (by decide) (by decide) ?_
        exact law_c20 C0 D cyI cyJ cyS hKK 1000 (Nat.le_refl 1000) a a_now a_spare a_text am x y hrel gI Z hZR H locs (43 + 9 * i) (1456 + 194 * i) (nI (8 * i)) (by omega) (by omega) hi0 (hik 1 (by omega)) (hik 2 (by omega)) (hik 3 (by omega)) (hik 4 (by omega)) (hik 5 (by omega)) (hik 6 (by omega)) (hik 7 (by omega)) ls hP hPZ hD hS hl J
      | 21, _ =>
        refine lv_tableIn (off := 800) (tgt := 833) hx hb dL_law_33 (by decide) (by decide) (by decide) (by decide) ?_
        exact law_c21 C0 D cyI cyJ cyS hKK 1000 (Nat.le_refl 1000) a a_now a_spare a_text am x y hrel gI Z hZR H locs (43 + 9 * i) (1456 + 194 * i) (nI (8 * i)) (by omega) (by omega) hi0 (hik 1 (by omega)) (hik 2 (by omega)) (hik 3 (by omega)) (hik 4 (by omega)) (hik 5 (by omega)) (hik 6 (by omega)) (hik 7 (by omega)) ls hP hPZ hD hS hl J
      | 22, _ =>
        refine lv_tableIn (off := 823) (tgt := 856) hx hb dL_law_33 (by decide) (by decide) (by decide) (by decide) ?_
        exact law_c22 C0 D cyI cyJ cyS hKK 1000 (Nat.le_refl 1000) a a_now a_spare a_text am x y hrel gI Z hZR H locs (43 + 9 * i) (1456 + 194 * i) (nI (8 * i)) (by omega) (by omega) hi0 (hik 1 (by omega)) (hik 2 (by omega)) (hik 3 (by omega)) (hik 4 (by omega)) (hik 5 (by omega)) (hik 6 (by omega)) (hik 7 (by omega)) ls hP hPZ hD hS hl J
      | 23, _ =>
        refine lv_tableIn (off := 846) (tgt := 879) hx hb dL_law_33 (by decide) (by decide) (by decide) (by decide) ?_
        exact law_c23 C0 D cyI cyJ cyS hKK 1000 (Nat.le_refl 1000) a a_now a_spare a_text am x y hrel gI Z hZR H locs (43 + 9 * i) (1456 + 194 * i) (nI (8 * i)) (by omega) (by omega) hi0 (hik 1 (by omega)) (hik 2 (by omega)) (hik 3 (by omega)) (hik 4 (by omega)) (hik 5 (by omega)) (hik 6 (by omega)) (hik 7 (by omega)) ls hP hPZ hD hS hl J
      | 24, _ =>
        refine lv_tableIn (off := 889) (tgt := 922) hx hb dL_law_33 (by decide) (by decide) (by decide) (by decide) ?_
        exact law_c24 C0 D cyI cyJ cyS hKK 1000 (Nat.le_refl 1000) a a_now a_spare a_text am x y hrel gI Z hZR H locs (43 + 9 * i) (1456 + 194 * i) (nI (8 * i)) (by omega) (by omega) hi0 (hik 1 (by omega)) (hik 2 (by omega)) (hik 3 (by omega)) (hik 4 (by omega)) (hik 5 (by omega)) (hik 6 (by omega)) (hik 7 (by omega)) ls hP hPZ hD hS hl J
      | 25, _ =>
        refine lv_tableIn (off := 932) (tgt := 965) hx hb dL_law_33 (by decide) (by decide) (by decide) (by decide) ?_
        exact law_c25 C0 D cyI cyJ cyS hKK 1000 (Nat.le_refl 1000) a a_now a_spare a_text am x y hrel gI Z hZR H locs (43 + 9 * i) (1456 + 194 * i) (nI (8 * i)) (by omega) (by omega) hi0 (hik 1 (by omega)) (hik 2 (by omega)) (hik 3 (by omega)) (hik 4 (by omega)) (hik 5 (by omega)) (hik 6 (by omega)) (hik 7 (by omega)) ls hP hPZ hD hS hl J
      | 26, _ =>
        refine lv_tableIn (off := 965) (tgt := 998) hx hb dL_law_33 (by decide) (by decide) (by decide) (by decide) ?_
        exact law_c26 C0 D cyI cyJ cyS hKK 1000 (Nat.le_refl 1000) a a_now a_spare a_text am x y hrel gI Z hZR H locs (43 + 9 * i) (1456 + 194 * i) (nI (8 * i)) (by omega) (by omega) hi0 (hik 1 (by omega)) (hik 2 (by omega)) (hik 3 (by omega)) (hik 4 (by omega)) (hik 5 (by omega)) (hik 6 (by omega)) (hik 7 (by omega)) ls hP hPZ hD hS hl J
      | 27, _ =>
        refine lv_tableIn (off := 989) (tgt := 1022) hx hb dL_law_33 (by decide) (by decide) (by decide) (by decide) ?_
        exact law_c27 C0 D cyI cyJ cyS hKK 1000 (Nat.le_refl 1000) a a_now a_spare a_text am x y hrel gI Z hZR H locs (43 + 9 * i) (1456 + 194 * i) (nI (8 * i)) (by omega) (by omega) hi0 (hik 1 (by omega)) (hik 2 (by omega)) (hik 3 (by omega)) (hik 4 (by omega)) (hik 5 (by omega)) (hik 6 (by omega)) (hik 7 (by omega)) ls hP hPZ hD hS hl J
      | 28, _ =>
        refine lv_tableIn (off := 1012) (tgt := 1045) hx hb dL_law_33 (by decide) (by decide) (by decide) (by decide) ?_
        exact law_c28 C0 D cyI cyJ cyS hKK 1000 (Nat.le_refl 1000) a a_now a_spare a_text am x y hrel gI Z hZR H locs (43 + 9 * i) (1456 + 194 * i) (nI (8 * i)) (by omega) (by omega) hi0 (hik 1 (by omega)) (hik 2 (by omega)) (hik 3 (by omega)) (hik 4 (by omega)) (hik 5 (by omega)) (hik 6 (by omega)) (hik 7 (by omega)) ls hP hPZ hD hS hl J
      | 29, _ =>
        refine lv_tableIn (off := 1035) (tgt := 1068) hx hb dL_law_33 (by decide) (by decide) (by decide) (by decide) ?_
        exact law_c29 C0 D cyI cyJ cyS hKK 1000 (Nat.le_refl 1000) a a_now a_spare a_text am x y hrel gI Z hZR H locs (43 + 9 * i) (1456 + 194 * i) (nI (8 * i)) (by omega) (by omega) hi0 (hik 1 (by omega)) (hik 2 (by omega)) (hik 3 (by omega)) (hik 4 (by omega)) (hik 5 (by omega)) (hik 6 (by omega)) (hik 7 (by omega)) ls hP hPZ hD hS hl J
      | 30, _ =>
        refine lv_tableIn (off := 1058) (tgt := 1091) hx hb dL_law_33 (by decide) (by decide) (by decide) (by decide) ?_
        exact law_c30 C0 D cyI cyJ cyS hKK 1000 (Nat.le_refl 1000) a a_now a_spare a_text am x y hrel gI Z hZR H locs (43 + 9 * i) (1456 + 194 * i) (nI (8 * i)) (by omega) (by omega) hi0 (hik 1 (by omega)) (hik 2 (by omega)) (hik 3 (by omega)) (hik 4 (by omega)) (hik 5 (by omega)) (hik 6 (by omega)) (hik 7 (by omega)) ls hP hPZ hD hS hl J
      | 31, _ =>
        refine lv_tableIn (off := 1081) (tgt := 1114) hx hb dL_law_33 (by decide) (by decide) (by decide) (by decide) ?_
        exact law_c31 C0 D cyI cyJ cyS hKK 1000 (Nat.le_refl 1000) a a_now a_spare a_text am x y hrel gI Z hZR H locs (43 + 9 * i) (1456 + 194 * i) (nI (8 * i)) (by omega) (by omega) hi0 (hik 1 (by omega)) (hik 2 (by omega)) (hik 3 (by omega)) (hik 4 (by omega)) (hik 5 (by omega)) (hik 6 (by omega)) (hik 7 (by omega)) ls hP hPZ hD hS hl J
      | k + 32, hj => exact absurd hj (by omega)
/-- the values at the start -/
def x00 (f1 : Nat → Int32) : FIV := (0, (fun _ => 0), f1, 0, (fun _ => 0), (fun _ => 0), (fun _ => 0), 0, (fun _ => 0), 0, (fun _ => 0), 0, (fun _ => 0), 0, (fun _ => 0), f1, 0, (fun _ => 0), (fun _ => 0), (fun _ => 0), 0, (fun _ => 0), 0, (fun _ => 0), 0, (fun _ => 0), (fun _ => 0), 0, 0, 0, (fun _ => 0), (fun _ => 0), (fun _ => 0), 0, 1, 0, 0, 0, none, none)
def y00 (w g : Nat → Int32) : MV := ((fun _ => 0), 0, 0, 0, 0, w, g, (fun _ => 0), (fun _ => 0), (fun _ => 0), (fun _ => 0), (fun _ => 0), (fun _ => 0), (fun _ => 0), (fun _ => 0), 0, 0, 0, 0, (fun _ => 0), (fun _ => 0), 0, (fun _ => 0), 0, (fun _ => 0), 0, 1, (fun _ => 0), (fun _ => 0), 0)
theorem rel00 {f1 w g : Nat → Int32} (h1 : ∀ i, i < 12 → f1 i = 1) (h2 : ∀ i, i < 12 → w i = 0) (h3 : ∀ i, i < 12 → g i = 1) : REL (x00 f1) (y00 w g) := by
  have nz : ∀ {P : Nat → Prop} (k : Nat), k < 0 → P k := fun _ h => absurd h (Nat.not_lt_zero _)
  exact ⟨⟨mkS 0 0 0 0 0 (fun _ => 0) (fun _ => 1) (fun _ => 0) (fun _ => 0) (fun _ => 0) (fun _ => 0) (fun _ => 0) (fun _ => 0),
      ⟨Nat.zero_le _, Nat.zero_le _, Nat.zero_le _, Nat.zero_le _, Nat.zero_le _, fun _ _ => Nat.zero_le _, fun _ _ => (by decide : 1 ≤ 3), nz, nz, nz, nz, nz, nz⟩,
      ⟨⟨rfl, rfl, rfl, rfl, rfl⟩, fun _ _ => rfl, h1, nz, nz, nz, nz, nz, nz⟩,
      ⟨⟨rfl, rfl, rfl, rfl, rfl⟩, h2, h3, nz, nz, nz, nz, nz, nz⟩⟩, ⟨0, Nat.zero_le _, rfl, rfl, nz⟩, ⟨rfl, rfl⟩, ⟨rfl, rfl, rfl⟩, rfl, rfl⟩
theorem gS_law_X3_init : GoodIn lw_tbl wsX3_init := fun w hw => ⟨wsL_law_in w (ggL_law_X3_init w hw).1, (ggL_law_X3_init w hw).2⟩
theorem gS_law_X4_init : GoodIn lw_tbl wsX4_init := fun w hw => ⟨wsL_law_in w (ggL_law_X4_init w hw).1, (ggL_law_X4_init w hw).2⟩
set_option maxHeartbeats 4000000 in
set_option maxRecDepth 100000 in
/-- THE LAW, from its entry -/
theorem whole_start {p : Program} {e : Env} {s : State} {m : MethodId} {below : List Frame} {meth : Method} {c : Code} (l : Launch) (hflags : l.flags = flags0) {b L : Nat} {xs : Nat → Int32} (hL : L ≤ 4096) (C0 : lw_At p s m meth c b L xs) : W p l e room_1 s m #[Value.ref b] below meth c s.heap [] 0 0 (lw_Z below #[Value.ref b] s) (entryFrame m ([Value.ref b] : List Value).toArray 4) := by
  obtain ⟨hx, hb, hr, hml, hown0, hts, hX, hbl, hlocks, hgv⟩ := id C0
  have hown : s.vm.findClass RL = some m.cls := hown0
  obtain ⟨D, cyI, cyJ, cyS, hKK⟩ := start_K C0
  obtain ⟨adK, adV, t0, hSS, hKR⟩ := start_S C0
  have hK := hKK.1
  have hA : ∀ q : Nat, s.heap.size ≤ q → (fun q : Nat => s.heap.size ≤ q) q := fun _ h => h
  have hS : va_S (fun q : Nat => s.heap.size ≤ q) s.heap s.heap [] := va_S.rf
  have hP : va_P D vwCl [] s.heap := fun k q h => by simp at h
  have hD : va_D (fun q : Nat => s.heap.size ≤ q) [] := ⟨fun i j p q h => by simp at h, fun k q h => by simp at h⟩
  obtain ⟨f1, hf1, df1⟩ := fill_i 1000 (Nat.le_refl 1000) (fun _ => 0) 1
  obtain ⟨bw, hb0, db0⟩ := begin_i 1000 (Nat.le_refl 1000) 0 0 0 0 0 (fun _ => 0) (fun _ => 0) 0
  have hl := lv_entry ([.ref b]) (n := 4) (Nat.le_of_ble_eq_true rfl)
  rw [lg_entry_eq]
  generalize (lg_sl ([.ref b]) ++ List.replicate (4 - (lg_sl ([.ref b])).length) Slot.unset).toArray = ls at hl ⊢
  have hl : lv_has ls 4 [(0, .ref b)] := hl
  refine va_new (ci := 2) (fs := [.null, .null, .null, .null, .null, .null, .null, .long 0, .long 0, .int 0, .int 0, .int 0]) (C := RX3) (T := TX3) (N := 12) hx hb hts inX3 tyX3 tyX3_ok hown (hts (Cond.classLink RL 7 RX3) (tb (i := 13) (by decide +kernel))) (hts (Cond.instantiable RX3 12) (tb (i := 14) (by decide +kernel))) (hts (Cond.initialized RX3) (tb (i := 1) (by decide +kernel))) hK hP hD hS hA rfl (fun j hj => by rcases (show j = 0 ∨ j = 1 ∨ j = 2 ∨ j = 3 ∨ j = 4 ∨ j = 5 ∨ j = 6 ∨ j = 7 ∨ j = 8 ∨ j = 9 ∨ j = 10 ∨ j = 11 by omega) with rfl | rfl | rfl | rfl | rfl | rfl | rfl | rfl | rfl | rfl | rfl | rfl <;> rfl) (Nat.le_of_ble_eq_true rfl) (Nat.le_of_ble_eq_true rfl) dL_law_0 (fun q3 H hP hD hS => ?_)
  have hP : va_P D vwCl [(q3, .inr (2, [.null, .null, .null, .null, .null, .null, .null, .long 0, .long 0, .int 0, .int 0, .int 0]))] H := hP
  have hD : va_D (fun q : Nat => s.heap.size ≤ q) [(q3, .inr (2, [.null, .null, .null, .null, .null, .null, .null, .long 0, .long 0, .int 0, .int 0, .int 0]))] := hD
  refine W.widen (k := 1) (n := 12) (by omega) (by omega) ?_
  refine lv_dup hx hb dL_law_3 rfl ?_
  have hFc := va_free (wc := [(q3, .inr (2, [.null, .null, .null, .null, .null, .null, .null, .long 0, .long 0, .int 0, .int 0, .int 0]))]) hD hS hA [0] rfl
  refine va_callv (va_runI (As := []) (rest := [.ref q3]) ⟨hx, hb, hml, hown, hts⟩ (c_X3_init l D cyI cyJ cyS 1000 q3 f1 hf1 H.size) (cwI 0 hts gS_law_X3_init rfl rfl rfl (hts (Cond.initialized RX3) (tb (i := 1) (by decide +kernel))) (hts (Cond.methodLink RL 9 yX3_init) (tb (i := 15) (by decide +kernel))) (hts (Cond.instanceMethod yX3_init) (tb (i := 16) (by decide +kernel))) rfl (by decide +kernel) ⟨(Nat.le_of_ble_eq_true rfl), (Nat.le_of_ble_eq_true rfl)⟩) (preW_S hP hD hKK) rfl rfl hl.1 rfl (lv_room (Nat.le_of_ble_eq_true rfl)) dL_law_4 ⟨(Nat.le_of_ble_eq_true rfl), (Nat.le_of_ble_eq_true rfl)⟩) hS (fun q _ h => hFc q h) hFc (fun u3 t3 H1 L1 ht hvm hw hB hz1 hk1 hS => ?_)
  have hwa : u3.1 0 = q3 := hw
  subst hwa
  obtain ⟨hP, hD⟩ := kw_J (wc := [(u3.1 0, .inr (2, [.null, .null, .null, .null, .null, .null, .null, .long 0, .long 0, .int 0, .int 0, .int 0]))]) (wr := []) (w1 := [oX3 u3.1 u3.2.1 u3.2.2.1 u3.2.2.2 0 1 0 0 0, oX1 u3.2.1 0 0 0 0 0, rI cyI (u3.2.1 1) 12 (fun _ => 0), rI cyI (u3.2.1 2) 12 f1, rI cyI (u3.2.1 3) 5 (fun _ => 0), rI cyI (u3.2.1 4) 5 (fun _ => 0), rI cyI (u3.2.1 5) 5 (fun _ => 0), rI cyI (u3.2.1 6) 12 (fun _ => 0), rI cyI (u3.2.1 7) 42 (fun _ => 0), rI cyI (u3.2.1 8) 88 (fun _ => 0), oX1 u3.2.2.1 0 0 0 0 0, rI cyI (u3.2.2.1 1) 12 (fun _ => 0), rI cyI (u3.2.2.1 2) 12 f1, rI cyI (u3.2.2.1 3) 5 (fun _ => 0), rI cyI (u3.2.2.1 4) 5 (fun _ => 0), rI cyI (u3.2.2.1 5) 5 (fun _ => 0), rI cyI (u3.2.2.1 6) 12 (fun _ => 0), rI cyI (u3.2.2.1 7) 42 (fun _ => 0), rI cyI (u3.2.2.1 8) 88 (fun _ => 0), rS cyS (u3.1 1) 2 (fun _ => none), oX2 u3.2.2.2 0 0 0, rI cyI (u3.2.2.2 1) 150 (fun _ => 0), rJ cyJ (u3.1 2) 36 (fun _ => 0), rJ cyJ (u3.1 3) 36 (fun _ => 0), rI cyI (u3.1 4) 12 (fun _ => 0)]) (ws' := [oX3 u3.1 u3.2.1 u3.2.2.1 u3.2.2.2 0 1 0 0 0, oX1 u3.2.1 0 0 0 0 0, rI cyI (u3.2.1 1) 12 (fun _ => 0), rI cyI (u3.2.1 2) 12 f1, rI cyI (u3.2.1 3) 5 (fun _ => 0), rI cyI (u3.2.1 4) 5 (fun _ => 0), rI cyI (u3.2.1 5) 5 (fun _ => 0), rI cyI (u3.2.1 6) 12 (fun _ => 0), rI cyI (u3.2.1 7) 42 (fun _ => 0), rI cyI (u3.2.1 8) 88 (fun _ => 0), oX1 u3.2.2.1 0 0 0 0 0, rI cyI (u3.2.2.1 1) 12 (fun _ => 0), rI cyI (u3.2.2.1 2) 12 f1, rI cyI (u3.2.2.1 3) 5 (fun _ => 0), rI cyI (u3.2.2.1 4) 5 (fun _ => 0), rI cyI (u3.2.2.1 5) 5 (fun _ => 0), rI cyI (u3.2.2.1 6) 12 (fun _ => 0), rI cyI (u3.2.2.1 7) 42 (fun _ => 0), rI cyI (u3.2.2.1 8) 88 (fun _ => 0), rS cyS (u3.1 1) 2 (fun _ => none), oX2 u3.2.2.2 0 0 0, rI cyI (u3.2.2.2 1) 150 (fun _ => 0), rJ cyJ (u3.1 2) 36 (fun _ => 0), rJ cyJ (u3.1 3) 36 (fun _ => 0), rI cyI (u3.1 4) 12 (fun _ => 0)]) hP hD [0] [] [0, 1, 2, 3, 4, 5, 6, 7, 8, 9, 10, 11, 12, 13, 14, 15, 16, 17, 18, 19, 20, 21, 22, 23, 24] rfl rfl (by decide) (by decide) rfl (by decide) hk1 hFc ht hB
  have hP : va_P D vwCl [oX3 u3.1 u3.2.1 u3.2.2.1 u3.2.2.2 0 1 0 0 0, oX1 u3.2.1 0 0 0 0 0, rI cyI (u3.2.1 1) 12 (fun _ => 0), rI cyI (u3.2.1 2) 12 f1, rI cyI (u3.2.1 3) 5 (fun _ => 0), rI cyI (u3.2.1 4) 5 (fun _ => 0), rI cyI (u3.2.1 5) 5 (fun _ => 0), rI cyI (u3.2.1 6) 12 (fun _ => 0), rI cyI (u3.2.1 7) 42 (fun _ => 0), rI cyI (u3.2.1 8) 88 (fun _ => 0), oX1 u3.2.2.1 0 0 0 0 0, rI cyI (u3.2.2.1 1) 12 (fun _ => 0), rI cyI (u3.2.2.1 2) 12 f1, rI cyI (u3.2.2.1 3) 5 (fun _ => 0), rI cyI (u3.2.2.1 4) 5 (fun _ => 0), rI cyI (u3.2.2.1 5) 5 (fun _ => 0), rI cyI (u3.2.2.1 6) 12 (fun _ => 0), rI cyI (u3.2.2.1 7) 42 (fun _ => 0), rI cyI (u3.2.2.1 8) 88 (fun _ => 0), rS cyS (u3.1 1) 2 (fun _ => none), oX2 u3.2.2.2 0 0 0, rI cyI (u3.2.2.2 1) 150 (fun _ => 0), rJ cyJ (u3.1 2) 36 (fun _ => 0), rJ cyJ (u3.1 3) 36 (fun _ => 0), rI cyI (u3.1 4) 12 (fun _ => 0)] H1 := hP
  have hD : va_D (fun q : Nat => s.heap.size ≤ q) [oX3 u3.1 u3.2.1 u3.2.2.1 u3.2.2.2 0 1 0 0 0, oX1 u3.2.1 0 0 0 0 0, rI cyI (u3.2.1 1) 12 (fun _ => 0), rI cyI (u3.2.1 2) 12 f1, rI cyI (u3.2.1 3) 5 (fun _ => 0), rI cyI (u3.2.1 4) 5 (fun _ => 0), rI cyI (u3.2.1 5) 5 (fun _ => 0), rI cyI (u3.2.1 6) 12 (fun _ => 0), rI cyI (u3.2.1 7) 42 (fun _ => 0), rI cyI (u3.2.1 8) 88 (fun _ => 0), oX1 u3.2.2.1 0 0 0 0 0, rI cyI (u3.2.2.1 1) 12 (fun _ => 0), rI cyI (u3.2.2.1 2) 12 f1, rI cyI (u3.2.2.1 3) 5 (fun _ => 0), rI cyI (u3.2.2.1 4) 5 (fun _ => 0), rI cyI (u3.2.2.1 5) 5 (fun _ => 0), rI cyI (u3.2.2.1 6) 12 (fun _ => 0), rI cyI (u3.2.2.1 7) 42 (fun _ => 0), rI cyI (u3.2.2.1 8) 88 (fun _ => 0), rS cyS (u3.1 1) 2 (fun _ => none), oX2 u3.2.2.2 0 0 0, rI cyI (u3.2.2.2 1) 150 (fun _ => 0), rJ cyJ (u3.1 2) 36 (fun _ => 0), rJ cyJ (u3.1 3) 36 (fun _ => 0), rI cyI (u3.1 4) 12 (fun _ => 0)] := hD
  refine W.widen (k := 25) (n := 640) (by omega) (by omega) ?_
  refine lv_astore_n (lv' := [(1, .ref (u3.1 0)), (0, .ref b)]) hx hb dL_law_7 rfl hl (by decide) rfl (fun ls hl => ?_)
  refine va_new (ci := 3) (fs := [.null, .int 0, .int 0, .int 0, .int 0, .null, .null, .null, .null, .null, .null, .null, .null, .null, .null, .int 0, .int 0, .int 0, .int 0, .null, .null, .int 0, .null, .int 0, .null, .long 0, .long 0, .null, .null, .long 0]) (C := RX4) (T := TX4) (N := 30) hx hb hts inX4 tyX4 tyX4_ok hown (hts (Cond.classLink RL 10 RX4) (tb (i := 594) (by decide +kernel))) (hts (Cond.instantiable RX4 30) (tb (i := 595) (by decide +kernel))) (hts (Cond.initialized RX4) (tb (i := 5) (by decide +kernel))) hK hP hD hS hA rfl (fun j hj => by rcases (show j = 0 ∨ j = 1 ∨ j = 2 ∨ j = 3 ∨ j = 4 ∨ j = 5 ∨ j = 6 ∨ j = 7 ∨ j = 8 ∨ j = 9 ∨ j = 10 ∨ j = 11 ∨ j = 12 ∨ j = 13 ∨ j = 14 ∨ j = 15 ∨ j = 16 ∨ j = 17 ∨ j = 18 ∨ j = 19 ∨ j = 20 ∨ j = 21 ∨ j = 22 ∨ j = 23 ∨ j = 24 ∨ j = 25 ∨ j = 26 ∨ j = 27 ∨ j = 28 ∨ j = 29 by omega) with rfl | rfl | rfl | rfl | rfl | rfl | rfl | rfl | rfl | rfl | rfl | rfl | rfl | rfl | rfl | rfl | rfl | rfl | rfl | rfl | rfl | rfl | rfl | rfl | rfl | rfl | rfl | rfl | rfl | rfl <;> rfl) (Nat.le_of_ble_eq_true rfl) (Nat.le_of_ble_eq_true rfl) dL_law_8 (fun q4 H2 hP hD hS => ?_)
  have hP : va_P D vwCl [oX3 u3.1 u3.2.1 u3.2.2.1 u3.2.2.2 0 1 0 0 0, oX1 u3.2.1 0 0 0 0 0, rI cyI (u3.2.1 1) 12 (fun _ => 0), rI cyI (u3.2.1 2) 12 f1, rI cyI (u3.2.1 3) 5 (fun _ => 0), rI cyI (u3.2.1 4) 5 (fun _ => 0), rI cyI (u3.2.1 5) 5 (fun _ => 0), rI cyI (u3.2.1 6) 12 (fun _ => 0), rI cyI (u3.2.1 7) 42 (fun _ => 0), rI cyI (u3.2.1 8) 88 (fun _ => 0), oX1 u3.2.2.1 0 0 0 0 0, rI cyI (u3.2.2.1 1) 12 (fun _ => 0), rI cyI (u3.2.2.1 2) 12 f1, rI cyI (u3.2.2.1 3) 5 (fun _ => 0), rI cyI (u3.2.2.1 4) 5 (fun _ => 0), rI cyI (u3.2.2.1 5) 5 (fun _ => 0), rI cyI (u3.2.2.1 6) 12 (fun _ => 0), rI cyI (u3.2.2.1 7) 42 (fun _ => 0), rI cyI (u3.2.2.1 8) 88 (fun _ => 0), rS cyS (u3.1 1) 2 (fun _ => none), oX2 u3.2.2.2 0 0 0, rI cyI (u3.2.2.2 1) 150 (fun _ => 0), rJ cyJ (u3.1 2) 36 (fun _ => 0), rJ cyJ (u3.1 3) 36 (fun _ => 0), rI cyI (u3.1 4) 12 (fun _ => 0), (q4, .inr (3, [.null, .int 0, .int 0, .int 0, .int 0, .null, .null, .null, .null, .null, .null, .null, .null, .null, .null, .int 0, .int 0, .int 0, .int 0, .null, .null, .int 0, .null, .int 0, .null, .long 0, .long 0, .null, .null, .long 0]))] H2 := hP
  have hD : va_D (fun q : Nat => s.heap.size ≤ q) [oX3 u3.1 u3.2.1 u3.2.2.1 u3.2.2.2 0 1 0 0 0, oX1 u3.2.1 0 0 0 0 0, rI cyI (u3.2.1 1) 12 (fun _ => 0), rI cyI (u3.2.1 2) 12 f1, rI cyI (u3.2.1 3) 5 (fun _ => 0), rI cyI (u3.2.1 4) 5 (fun _ => 0), rI cyI (u3.2.1 5) 5 (fun _ => 0), rI cyI (u3.2.1 6) 12 (fun _ => 0), rI cyI (u3.2.1 7) 42 (fun _ => 0), rI cyI (u3.2.1 8) 88 (fun _ => 0), oX1 u3.2.2.1 0 0 0 0 0, rI cyI (u3.2.2.1 1) 12 (fun _ => 0), rI cyI (u3.2.2.1 2) 12 f1, rI cyI (u3.2.2.1 3) 5 (fun _ => 0), rI cyI (u3.2.2.1 4) 5 (fun _ => 0), rI cyI (u3.2.2.1 5) 5 (fun _ => 0), rI cyI (u3.2.2.1 6) 12 (fun _ => 0), rI cyI (u3.2.2.1 7) 42 (fun _ => 0), rI cyI (u3.2.2.1 8) 88 (fun _ => 0), rS cyS (u3.1 1) 2 (fun _ => none), oX2 u3.2.2.2 0 0 0, rI cyI (u3.2.2.2 1) 150 (fun _ => 0), rJ cyJ (u3.1 2) 36 (fun _ => 0), rJ cyJ (u3.1 3) 36 (fun _ => 0), rI cyI (u3.1 4) 12 (fun _ => 0), (q4, .inr (3, [.null, .int 0, .int 0, .int 0, .int 0, .null, .null, .null, .null, .null, .null, .null, .null, .null, .null, .int 0, .int 0, .int 0, .int 0, .null, .null, .int 0, .null, .int 0, .null, .long 0, .long 0, .null, .null, .long 0]))] := hD
  refine W.widen (k := 26) (n := 670) (by omega) (by omega) ?_
  refine lv_dup hx hb dL_law_11 rfl ?_
  have hFc := va_free (wc := [(q4, .inr (3, [.null, .int 0, .int 0, .int 0, .int 0, .null, .null, .null, .null, .null, .null, .null, .null, .null, .null, .int 0, .int 0, .int 0, .int 0, .null, .null, .int 0, .null, .int 0, .null, .long 0, .long 0, .null, .null, .long 0]))]) hD hS hA [25] rfl
  refine va_callv (va_runI (As := []) (rest := [.ref q4]) ⟨hx, hb, hml, hown, hts⟩ (c_X4_init l D cyI cyJ cyS 1000 q4 _ hb0 H2.size) (cwI 0 hts gS_law_X4_init rfl rfl rfl (hts (Cond.initialized RX4) (tb (i := 5) (by decide +kernel))) (hts (Cond.methodLink RL 12 yX4_init) (tb (i := 596) (by decide +kernel))) (hts (Cond.instanceMethod yX4_init) (tb (i := 597) (by decide +kernel))) rfl (by decide +kernel) ⟨(Nat.le_of_ble_eq_true rfl), (Nat.le_of_ble_eq_true rfl)⟩) (preW_S (hP.sub (ws' := [(q4, .inr (3, [.null, .int 0, .int 0, .int 0, .int 0, .null, .null, .null, .null, .null, .null, .null, .null, .null, .null, .int 0, .int 0, .int 0, .int 0, .null, .null, .int 0, .null, .int 0, .null, .long 0, .long 0, .null, .null, .long 0]))]) [25] rfl) (hD.sub (ws' := [(q4, .inr (3, [.null, .int 0, .int 0, .int 0, .int 0, .null, .null, .null, .null, .null, .null, .null, .null, .null, .null, .int 0, .int 0, .int 0, .int 0, .null, .null, .int 0, .null, .int 0, .null, .long 0, .long 0, .null, .null, .long 0]))]) [25] (by decide) rfl) hKK) rfl rfl hl.1 rfl (lv_room (Nat.le_of_ble_eq_true rfl)) dL_law_12 ⟨(Nat.le_of_ble_eq_true rfl), (Nat.le_of_ble_eq_true rfl)⟩) hS (fun q _ h => hFc q h) hFc (fun u4 t4 H3 L3 ht hvm hw hB hz1 hk1 hS => ?_)
  have hwa : u4 0 = q4 := hw
  subst hwa
  obtain ⟨hP, hD⟩ := kw_J (wc := [(u4 0, .inr (3, [.null, .int 0, .int 0, .int 0, .int 0, .null, .null, .null, .null, .null, .null, .null, .null, .null, .null, .int 0, .int 0, .int 0, .int 0, .null, .null, .int 0, .null, .int 0, .null, .long 0, .long 0, .null, .null, .long 0]))]) (wr := [oX3 u3.1 u3.2.1 u3.2.2.1 u3.2.2.2 0 1 0 0 0, oX1 u3.2.1 0 0 0 0 0, rI cyI (u3.2.1 1) 12 (fun _ => 0), rI cyI (u3.2.1 2) 12 f1, rI cyI (u3.2.1 3) 5 (fun _ => 0), rI cyI (u3.2.1 4) 5 (fun _ => 0), rI cyI (u3.2.1 5) 5 (fun _ => 0), rI cyI (u3.2.1 6) 12 (fun _ => 0), rI cyI (u3.2.1 7) 42 (fun _ => 0), rI cyI (u3.2.1 8) 88 (fun _ => 0), oX1 u3.2.2.1 0 0 0 0 0, rI cyI (u3.2.2.1 1) 12 (fun _ => 0), rI cyI (u3.2.2.1 2) 12 f1, rI cyI (u3.2.2.1 3) 5 (fun _ => 0), rI cyI (u3.2.2.1 4) 5 (fun _ => 0), rI cyI (u3.2.2.1 5) 5 (fun _ => 0), rI cyI (u3.2.2.1 6) 12 (fun _ => 0), rI cyI (u3.2.2.1 7) 42 (fun _ => 0), rI cyI (u3.2.2.1 8) 88 (fun _ => 0), rS cyS (u3.1 1) 2 (fun _ => none), oX2 u3.2.2.2 0 0 0, rI cyI (u3.2.2.2 1) 150 (fun _ => 0), rJ cyJ (u3.1 2) 36 (fun _ => 0), rJ cyJ (u3.1 3) 36 (fun _ => 0), rI cyI (u3.1 4) 12 (fun _ => 0)]) (w1 := [oX4 u4 (0, 0, 0, 0, 0, bw.1, bw.2).1 (0, 0, 0, 0, 0, bw.1, bw.2).2.1 (0, 0, 0, 0, 0, bw.1, bw.2).2.2.1 (0, 0, 0, 0, 0, bw.1, bw.2).2.2.2.1 0 0 0 0 0 (0, 0, 0, 0, 0, bw.1, bw.2).2.2.2.2.1 0 1 0, rI cyI (u4 1) 3 (fun _ => 0), rI cyI (u4 2) 12 (0, 0, 0, 0, 0, bw.1, bw.2).2.2.2.2.2.1, rI cyI (u4 3) 12 (0, 0, 0, 0, 0, bw.1, bw.2).2.2.2.2.2.2, rI cyI (u4 4) 5 (fun _ => 0), rI cyI (u4 5) 5 (fun _ => 0), rI cyI (u4 6) 5 (fun _ => 0), rI cyI (u4 7) 4 (fun _ => 0), rI cyI (u4 8) 4 (fun _ => 0), rI cyI (u4 9) 4 (fun _ => 0), rI cyI (u4 10) 42 (fun _ => 0), rI cyI (u4 11) 150 (fun _ => 0), rI cyI (u4 12) 15 (fun _ => 0), rI cyI (u4 13) 24 (fun _ => 0), rI cyI (u4 14) 88 (fun _ => 0), rI cyI (u4 15) 11 (fun _ => 0), rI cyI (u4 16) 400 (fun _ => 0), rI cyI (u4 17) 2 (fun _ => 0)]) (ws' := [oX3 u3.1 u3.2.1 u3.2.2.1 u3.2.2.2 0 1 0 0 0, oX1 u3.2.1 0 0 0 0 0, rI cyI (u3.2.1 1) 12 (fun _ => 0), rI cyI (u3.2.1 2) 12 f1, rI cyI (u3.2.1 3) 5 (fun _ => 0), rI cyI (u3.2.1 4) 5 (fun _ => 0), rI cyI (u3.2.1 5) 5 (fun _ => 0), rI cyI (u3.2.1 6) 12 (fun _ => 0), rI cyI (u3.2.1 7) 42 (fun _ => 0), rI cyI (u3.2.1 8) 88 (fun _ => 0), oX1 u3.2.2.1 0 0 0 0 0, rI cyI (u3.2.2.1 1) 12 (fun _ => 0), rI cyI (u3.2.2.1 2) 12 f1, rI cyI (u3.2.2.1 3) 5 (fun _ => 0), rI cyI (u3.2.2.1 4) 5 (fun _ => 0), rI cyI (u3.2.2.1 5) 5 (fun _ => 0), rI cyI (u3.2.2.1 6) 12 (fun _ => 0), rI cyI (u3.2.2.1 7) 42 (fun _ => 0), rI cyI (u3.2.2.1 8) 88 (fun _ => 0), rS cyS (u3.1 1) 2 (fun _ => none), oX2 u3.2.2.2 0 0 0, rI cyI (u3.2.2.2 1) 150 (fun _ => 0), rJ cyJ (u3.1 2) 36 (fun _ => 0), rJ cyJ (u3.1 3) 36 (fun _ => 0), rI cyI (u3.1 4) 12 (fun _ => 0), oX4 u4 (0, 0, 0, 0, 0, bw.1, bw.2).1 (0, 0, 0, 0, 0, bw.1, bw.2).2.1 (0, 0, 0, 0, 0, bw.1, bw.2).2.2.1 (0, 0, 0, 0, 0, bw.1, bw.2).2.2.2.1 0 0 0 0 0 (0, 0, 0, 0, 0, bw.1, bw.2).2.2.2.2.1 0 1 0, rI cyI (u4 1) 3 (fun _ => 0), rI cyI (u4 2) 12 (0, 0, 0, 0, 0, bw.1, bw.2).2.2.2.2.2.1, rI cyI (u4 3) 12 (0, 0, 0, 0, 0, bw.1, bw.2).2.2.2.2.2.2, rI cyI (u4 4) 5 (fun _ => 0), rI cyI (u4 5) 5 (fun _ => 0), rI cyI (u4 6) 5 (fun _ => 0), rI cyI (u4 7) 4 (fun _ => 0), rI cyI (u4 8) 4 (fun _ => 0), rI cyI (u4 9) 4 (fun _ => 0), rI cyI (u4 10) 42 (fun _ => 0), rI cyI (u4 11) 150 (fun _ => 0), rI cyI (u4 12) 15 (fun _ => 0), rI cyI (u4 13) 24 (fun _ => 0), rI cyI (u4 14) 88 (fun _ => 0), rI cyI (u4 15) 11 (fun _ => 0), rI cyI (u4 16) 400 (fun _ => 0), rI cyI (u4 17) 2 (fun _ => 0)]) hP hD [25] [0, 1, 2, 3, 4, 5, 6, 7, 8, 9, 10, 11, 12, 13, 14, 15, 16, 17, 18, 19, 20, 21, 22, 23, 24] [0, 1, 2, 3, 4, 5, 6, 7, 8, 9, 10, 11, 12, 13, 14, 15, 16, 17, 18, 19, 20, 21, 22, 23, 24, 25, 26, 27, 28, 29, 30, 31, 32, 33, 34, 35, 36, 37, 38, 39, 40, 41, 42] rfl rfl (by decide) (by decide) rfl (by decide) hk1 hFc ht hB
  refine W.widen (k := 43) (n := 1456) (by omega) (by omega) ?_
  refine lv_astore_n (lv' := [(2, .ref (u4 0)), (1, .ref (u3.1 0)), (0, .ref b)]) hx hb dL_law_15 rfl hl (by decide) rfl (fun ls hl => ?_)
  refine lv_iconst (v := 0) hx hb dL_law_16 (by decide) ?_
  refine lv_istore_n (lv' := [(3, .int 0), (2, .ref (u4 0)), (1, .ref (u3.1 0)), (0, .ref b)]) hx hb dL_law_17 rfl hl (by decide) rfl (fun ls hl => ?_)
  exact law_loop hL C0 D cyI cyJ cyS hKK adK adV t0 hSS hKR u3.1 u3.2.1 u3.2.2.1 u3.2.2.2 u4 513 0 (by omega) (by omega) (x00 f1) (y00 bw.1 bw.2) (fun _ => none) [] H3 L3 ls (rel00 df1 (fun i hi => (db0 i hi).1) (fun i hi => (db0 i hi).2)) ⟨fun _ => 0, fun _ => 0, rfl, rfl, rfl⟩ hP (fun k q h => by simp at h) hD hS (lv_sub hl [3, 2, 1, 0] rfl)
set_option maxHeartbeats 4000000 in
theorem lw_walk (l : Launch) (hflags : l.flags = flags0) (b : Addr) (xs : List Int32) : MetFree l x (headSpec (Jvm.Cond.code x code maxLocals ret :: tables_1) room_1) (lw_P b xs) (fun _ _ _ _ _ => True) lw_Q := by
  refine MetFree.of_bodyS (code := code) (maxLocals := maxLocals) (ret := ret) (by decide) ?_ ?_
  · intro args s m h hn
    obtain ⟨meth, c, h1, h2, h3, h4, h5, h6, -, -⟩ := Cond.code_spec hn (atoms_spec (ws := Jvm.Cond.code x code maxLocals ret :: tables_1) h _ List.mem_cons_self)
    exact ⟨meth, c, h1, h2, h3, h4, h5, h6⟩
  · intro p e s m args below meth c s₁ B hml0 hP _
    obtain ⟨rfl, hx, hbd, hgv⟩ := hP
    obtain ⟨scr, harrAt, hlist, hof, hsmall⟩ := hx
    obtain ⟨hcb, hkn, -, -⟩ := State.arrayAt?_spec harrAt
    have hown : s.vm.findClass R_law = some m.cls := findClass_of_methodNamed B.named
    have hts0 : ∀ c ∈ (Jvm.Cond.code x code maxLocals ret :: tables_1), c.before #[Value.ref b] s = true := atoms_spec (ws := Jvm.Cond.code x code maxLocals ret :: tables_1) B.pre
    have hts : ∀ w ∈ lw_tbl, w.before #[Value.ref b] s = true := k2_hts_sels lw_privs (fun w hw => hts0 w (List.mem_cons_of_mem _ hw)) lw_privs_ok
    have hml : c.maxLocals = 4 := B.maxLocals_eq (hts0 _ List.mem_cons_self)
    have X₀ : Stand p l e room_1 s m #[Value.ref b] below meth c s₁ [] 0 0 := Stand.of_body B
    have hh0 : s₁.heap = s.heap := by rw [B.state]; rfl
    have hsz : scr.slots.size = xs.length := by rw [← Array.length_toList, hlist, List.length_map]
    have hval : ∀ j : Nat, j < xs.length → scr.slots[j]? = some (.int (xs.getD j 0)) := fun j hj => by
      rw [← Array.getElem?_toList, hlist]
      simp [hj]
    have hbl : b < s.heap.size := (Array.getElem?_eq_some_iff.mp hcb).1
    have hX : va_X b xs.length (fun j => xs.getD j 0) s s.heap := ⟨scr, hcb, hof, hkn, hsz, hval⟩
    have K : W p l e room_1 s m #[Value.ref b] below meth c s₁.heap [] 0 0 (lw_Z below #[Value.ref b] s) (entryFrame m ([Value.ref b] : List Value).toArray 4) := by
      rw [hh0]
      exact whole_start l hflags hbd ⟨B.exec, B.bytes, B.returns, hml, hown, hts, hX, hbl, B.notSynchronized, hgv⟩
    obtain ⟨t, a1, o, b1, b2, b3⟩ := K s₁ rfl X₀
    exact ⟨t, o, a1, b1, b2, b3⟩
theorem lw_pre_spec {args : Array Value} {s : State} (h : (Jvm.Cond.and given_1 narrow_1).before args s = true) (hr : rest_1_c.before args s = true) : ∃ (b : Addr) (xs : List Int32), lw_P b xs args s := by
  have hs := flat_of_before _ h
  have hq := flat_of_before _ hr
  have hc : (Cond.count 1).before args s = true := hs _ (by decide +kernel)
  have harr : (Cond.arrayOf (.arg 0) .int).before args s = true := hs _ (by decide +kernel)
  have hle : (Cond.le (.length (.arg 0)) (.int 4096)).before args s = true := hs _ (by decide +kernel)
  have hlen : (Cond.isInt (.length (.arg 0))).before args s = true := hq _ (by decide +kernel)
  have hall : (Cond.all (.arg 0) (.isInt (.elem (.arg 0) (.index 0)))).before args s = true := hq _ (by decide +kernel)
  obtain ⟨b, xs, hb, hx⟩ := State.ints_of_pre rfl harr hlen hall
  have hsm : xs.length < 2 ^ 31 := hx.choose_spec.2.2.2
  have hev : (Term.length (.arg 0)).eval args s none [] s = some (.int xs.length.toInt32) := hx.length_eval hb
  have hv := Cond.le_ints hev (show (Term.int 4096).eval args s none [] s = some (.int 4096) from rfl)
  have hd : xs.length.toInt32 ≤ 4096 := by
    simpa [Cond.before, Cond.holds, hv] using hle
  have hN : xs.length ≤ 4096 := (Int32.ofNat_le_ofNat hsm (by decide)).mp (show Int32.ofNat xs.length ≤ Int32.ofNat 4096 from hd)
  exact ⟨b, xs, Cond.one_arg hc (show args[0]? = some (.ref b) from hb), hx, hN, h⟩
theorem lw_comes (l : Launch) (hflags : l.flags = flags0) : Comes l x (Jvm.Cond.code x code maxLocals ret :: tables_1) room_1 (fun tb e args s => Calls_1 tb e args s ∧ rest_1 tb e args s ∧ Pre_1 tb e args s)
    (fun _ _ args s o t => lw_Q args s o t) := by
  intro p e ha hc hk s m args below hf hfit hheap happ hpre
  obtain ⟨b, xs, hP⟩ := lw_pre_spec hpre.2.2 hpre.2.1
  obtain ⟨k, o, h1, h2, h3, hQ⟩ := lw_walk l hflags b xs p e ha hc hk s m args below hf ((Spec.applies_iff_loose hf).mp happ).1 hP trivial
  exact ⟨k, o, h1, h2, h3, hQ⟩
theorem lw_frame {s t : State} {o : Outcome} {args : Array Value} (h : Framed s o t [] 600000 7302250) :
    Framed s o t (fieldLocs frame_1_writes args s ++ arrayLocs frame_1_arrays args s ++ staticLocs frame_1_statics s) 600000 7302250 := h
theorem lw_limb (L : Cond) (hL : ∀ (args : Array Value) (s t : State), L.after args s (.returned (some (.int 1))) t = true) :
    ArmFor flags0 classFile x code maxLocals ret World_1 tables_1 room_1 Calls_1 rest_1 Pre_1
      (fun tb e a s o t => postC L tb e a s o t ∧ Framed s o t (fieldLocs frame_1_writes a s ++ arrayLocs frame_1_arrays a s ++ staticLocs frame_1_statics s) 600000 7302250) := by
  intro l hflags _ _ p e ha hc hk s m args below hf hfit hheap happ hpre
  obtain ⟨k, o, h1, h2, h3, rfl, hF⟩ := lw_comes l hflags p e ha hc hk s m args below hf hfit hheap happ hpre
  exact ⟨k, _, h1, h2, h3, hL args s _, lw_frame hF⟩
theorem i_vc : Claimed_1_1 ∧ Claimed_1_2 := ⟨lw_limb limb_1_1 (fun args s t => by simp [limb_1_1, Cond.after, Cond.holds, Cond.value]), lw_limb limb_1_2 (fun args s t => Cond.after_iff.mpr (by
  first | (rw [show limb_1_2 = Cond.eq .result (.int 1) from rfl, Cond.eq_ints (x := 1) (y := 1) rfl rfl]; simp; done) | (simp [limb_1_2, Cond.value, Term.eval]; done)))⟩
