/-! THE CLAIM OUT OF ONE WALK OF THE LAW'S BODY. Your part is whole_start (and what it stands on); all else here is the same for every law, but numbers. -/
def R_law : String := "FrozenInLaw"
def lw_P (b : Addr) (xs : List Int32) (args : Array Value) (s : State) : Prop := args = #[.ref b] ∧ s.IntsAt b xs ∧ xs.length ≤ 260 ∧ (Jvm.Cond.and given_1 narrow_1).before args s = true
def lw_Q (_ : Array Value) (s : State) (o : Outcome) (t : State) : Prop := o = .returned (some (.int 1)) ∧ Framed s o t [] 600000 7302250
def lw_Z (below : List Frame) (a : Array Value) (s : State) : State → Prop := fun t => ∃ o, t.status = .running ∧ Ended t below o ∧ lw_Q a s o t
/-- the law's own end, with 1 on the stack, nothing written that was there before, its room as the claim has it -/
theorem lw_ret {p : Program} {l : Launch} {e : Env} {s : State} {m : MethodId} {below : List Frame} {meth : Method} {c : Code} {b : Nat} (hx : p.tables.exec = Jvm.exec) (hb : c.code = code) (hr : meth.sig.returnType = ret) (hlocks : meth.locks = false) {pc : Nat} {H : Heap} {ls : Array Slot} (hdg : decode code pc = .ok (.ireturn, 1)) : W p l e room_1 s m #[Value.ref b] below meth c H [] 600000 7302250 (lw_Z below #[Value.ref b] s) (F0 m pc ls [.int 1]) := by
  intro T hT X
  obtain ⟨fs, hret, hrun, hended, hW, hframe⟩ := X.leave (v := some (.int 1)) (hlocks := hlocks) (fun h => by rw [hr] at h; cases h)
  have hmeth' : T.vm.method? m = some meth := X.method'
  refine ⟨T.setFrames fs, ?_, .returned (some (.int 1)), hrun, hended, rfl, ⟨_, rfl⟩, hW, hframe⟩
  jvm_step X.here [X.here.top, hx, hb, hdg, hmeth', hr, ret, narrow_b1]
  (try refine ⟨rfl, ?_⟩); (try refine ⟨rfl, ?_⟩)
  first | (intro acts; rw [hret _ acts rfl rfl rfl]) | rw [hret _ _ rfl rfl rfl]
  exact Steps.refl _
/-- what holds at the law's entry: the machine, the code, the tables' words (any of lw_tbl by 'hts w (by decide +kernel)'), the script of L ints xs at the cell b, what the Statement gives of the start (any of its parts by flat_of_before) -/
def lw_At (p : Program) (s : State) (m : MethodId) (meth : Method) (c : Code) (b L : Nat) (xs : Nat → Int32) : Prop :=
  p.tables.exec = Jvm.exec ∧ c.code = code ∧ meth.sig.returnType = ret ∧ c.maxLocals = 34 ∧ s.vm.findClass R_law = some m.cls ∧ (∀ w ∈ lw_tbl, w.before #[Value.ref b] s = true) ∧ va_X b L xs s s.heap ∧ b < s.heap.size ∧ meth.locks = false ∧ (Jvm.Cond.and given_1 narrow_1).before #[Value.ref b] s = true

theorem tb {w : Cond} {i : Nat} (h : tables_1[i]? = some w) : w ∈ lw_tbl := List.mem_append_right _ (List.mem_of_getElem? h)
set_option maxRecDepth 100000 in
theorem start_K {p : Program} {s : State} {m : MethodId} {meth : Method} {c : Code} {b L : Nat} {xs : Nat → Int32} (C0 : lw_At p s m meth c b L xs) : ∃ (D : va_G) (cyI cyJ cyS : ClassId), KK D (tyS cyI cyJ cyS) s := by
  obtain ⟨hx, hb, hr, hml, hown, hts, hX, hbl, hlocks, hgv⟩ := C0
  obtain ⟨c0, iS0, k0⟩ := u_known (C := RX1) (T := TX1) (N := 13) (n := 13) hts inX1 (hts (.instantiable RX1 13) (tb (i := 17) (by decide +kernel)))
  obtain ⟨c1, iS1, k1⟩ := u_known (C := RX2) (T := TX2) (N := 4) (n := 4) hts inX2 (hts (.instantiable RX2 4) (tb (i := 78) (by decide +kernel)))
  obtain ⟨c2, iS2, k2⟩ := u_known (C := RX3) (T := TX3) (N := 12) (n := 12) hts inX3 (hts (.instantiable RX3 12) (tb (i := 9) (by decide +kernel)))
  obtain ⟨cI, kI, pI, i1, i2, i3⟩ := Cond.arrayClass_spec (args := #[Value.ref b]) (first := s) (o := none) (s := s) (idx := []) (hts (Cond.arrayClass .int) (tb (i := 75) (by decide +kernel)))
  obtain ⟨cJ, kJ, pJ, j1, j2, j3⟩ := Cond.arrayClass_spec (args := #[Value.ref b]) (first := s) (o := none) (s := s) (idx := []) (hts (Cond.arrayClass .long) (tb (i := 131) (by decide +kernel)))
  have hAO := hts (Cond.arrayOver (.object "FrozenIn$Sea")) (tb (i := 76) (by decide +kernel))
  obtain ⟨pS, cS', kS, o1, -, o2, o3, o4⟩ := Cond.arrayOver_spec (args := #[Value.ref b]) (first := s) (o := none) (s := s) (idx := []) hAO
  refine ⟨(fun k => if k = 0 then c0 else if k = 1 then c1 else c2, fun k => if k = 0 then iS0 else if k = 1 then iS1 else iS2), cI, cJ, cS', ⟨?_, ?_⟩, va_Nw.of rfl (hts (.methodLinkNest RX3 25 yX2_init "FrozenIn") (tb (i := 79) (by decide +kernel))), va_Nw.of rfl (hts (.methodLinkNest RX1 74 yX3_isOut "FrozenIn") (tb (i := 178) (by decide +kernel))), va_AO.of hAO⟩
  · intro k q hq
    match k, hq with
    | 0, hq => cases hq; exact k0
    | 1, hq => cases hq; exact k1
    | 2, hq => cases hq; exact k2
    | k + 3, hq => simp at hq
  · intro k q hq
    match k, hq with
    | 0, hq => cases hq; exact ⟨fun n z => ⟨fun k h => (by cases h), kI, i2, pI, i3⟩, i1⟩
    | 1, hq => cases hq; exact ⟨fun n z => ⟨fun k h => (by cases h), kJ, j2, pJ, j3⟩, j1⟩
    | 2, hq => cases hq; exact ⟨fun n z => ⟨fun k h => (by cases h), kS, o2, pS, o3⟩, kS, pS, o2, o3, o1, o4⟩
    | k + 3, hq => simp [tyS] at hq

set_option maxHeartbeats 8000000 in
set_option maxRecDepth 100000 in
theorem lk_seacall {p : Program} {l : Launch} {en : Env} {Rm : Room} {s0 : State} {m : MethodId} {args : Array Value} {below : List Frame} {meth : Method} {co : Code} {cc : ByteArray} {nL : Nat} {Ts : List Cond} (F : CallFix p m co cc nL s0 args Ts RL) {D : va_G} {cyI cyJ cyS : ClassId} (hKK : KK D (tyS cyI cyJ cyS) s0) {A : Nat → Prop} (hA : ∀ q, s0.heap.size ≤ q → A q) {a a_now a_spare a_text : Nat → Nat} {qd : Nat} {dv : Nat → Int32} {H : Heap} {locs : List Loc} {ck sk : Nat} {Q : State → Prop} {pc idx : Nat} {ls : Array Slot} {rest : List Value} {Wi Gi Ki Ce Fd FR NR UR : Nat → Nat} {ab be : Int64} (hG : GoodIn Ts (va_wsS RL idx yL_sea wsL_sea)) (hR : rm_L_sea.frames + 1 ≤ Rm.frames ∧ 8 + (9 + 11) + rm_L_sea.locals ≤ Rm.locals) (hck : ck ≤ Rm.cells ∧ sk ≤ Rm.slots) (hd : decode cc pc = .ok (.invokestatic idx, 3)) (hls : ls.size = nL) (hwt : (rest.map fun v => v.category).sum ≤ 8) {bs Ls : Nat} {xs : Nat → Int32} (hL : Ls ≤ 260) (hX : va_X bs Ls xs s0 s0.heap) (hbl : bs < s0.heap.size) (hbA : ¬ A bs) (hST : ST D cyI cyJ cyS a a_now a_spare a_text qd dv A s0.heap 0 0 0 0 0 Wi Gi Ki Ce Fd FR NR UR none ab be H locs) (F5 : Nat) (hF1 : 1 ≤ F5) (hF5 : F5 ≤ 5) (kont : ∀ (dv1 : Nat → Int32) (mo1 : Nat) (Wi1 Gi1 Ki1 Ce1 Fd1 FR1 NR1 UR1 : Nat → Nat) (ab1 be1 : Int64) (H1 : Heap) (locs1 : List Loc), mo1 ≤ 99 → (∀ i, i < 12 → dv1 (17 + i) = nI (Wi1 i + 4 * Gi1 i)) → dv1 16 = nI mo1 → ST D cyI cyJ cyS a a_now a_spare a_text qd dv1 A s0.heap mo1 F5 0 0 0 Wi1 Gi1 Ki1 Ce1 Fd1 FR1 NR1 UR1 none ab1 be1 H1 locs1 → W p l en Rm s0 m args below meth co H1 locs1 ck sk Q (F0 m (pc + 3) ls (.int (nI 1) :: rest))) : W p l en Rm s0 m args below meth co H locs ck sk Q (F0 m pc ls (.ref qd :: .int (nI F5) :: .ref bs :: .ref (a 0) :: rest)) := by
  obtain ⟨x, gI, Z, hCR, ⟨z0, z1, hZ, hg0, hg1⟩, hP, hPZ, hD, hS⟩ := hST
  have hv0 : x_img0 x = none := hCR.2.2.1
  have hv1 : x_img1 x = none := hCR.2.2.2.1
  have hZ0 : Z = [] := by rw [hZ, hv0, hv1]; rfl
  rw [hZ0, List.append_nil] at hD
  have hX1 : va_X bs Ls xs s0 H := hX.kept (hS.2.1 bs hbl hbA)
  have hb1 : bs < H.size := Nat.lt_of_lt_of_le hbl hS.1
  have hFc := va_free (wc := (wB cyI cyJ cyS a a_now a_spare a_text gI qd dv x)) hD hS hA [0, 1, 2, 3, 4, 5, 6, 7, 8, 9, 10, 11, 12, 13, 14, 15, 16, 17, 18, 19, 20, 21, 22, 23, 24, 25] rfl
  refine va_calli (va_runS (As := [.ref (a 0), .ref bs, .int (nI F5), .ref qd]) (rest := rest) F (c_L_sea l D cyI cyJ cyS a a_now a_spare a_text qd dv x gI bs Ls xs hL F5 hF1 hF5 hCR (by rw [hg0, hv0]; rfl) (by rw [hg1, hv1]; rfl) H.size) (va_cwS 4 F.2.2.2.2 hG rfl rfl rfl (by decide +kernel) hR) (preSea_S hP hD hKK hX1 hb1 (fun h => hbA (hFc bs h))) rfl rfl hls rfl (lv_room hwt) hd hck) hS (fun q _ h => hFc q h) hFc (fun r u t H1 L1 ht hvm hw hB hz1 hk1 hS => ?_)
  obtain ⟨hr1, mo1, Wi1, Gi1, Ki1, Ce1, Fd1, FR1, NR1, UR1, ab1, be1, hmo1, hdW, hd16, hCR1, hu0, hu1⟩ := hw
  have hP1 := hB.1
  rw [ht] at hP1
  have hD1 := hB.2.weaken (fun k q _ h => hFc q.1 h)
  have hw0 : x_img0 u.1 = none := hCR1.2.2.1
  have hw1 : x_img1 u.1 = none := hCR1.2.2.2.1
  rw [hr1]
  exact kont u.2.1 mo1 Wi1 Gi1 Ki1 Ce1 Fd1 FR1 NR1 UR1 ab1 be1 H1 L1 hmo1 hdW hd16 ⟨u.1, u.2.2, [], hCR1, ⟨fun _ => 0, fun _ => 0, by rw [hw0, hw1]; rfl, by rw [hw0, hu0]; rfl, by rw [hw1, hu1]; rfl⟩, hP1, fun k q h => by simp at h, by rw [List.append_nil]; exact hD1, hS⟩

set_option maxHeartbeats 8000000 in
set_option maxRecDepth 100000 in
theorem law_loop {p : Program} {l : Launch} {en : Env} {s0 : State} {m : MethodId} {args : Array Value} {below : List Frame} {meth : Method} {co : Code} (F : CallFix p m co cL_law 34 s0 args wsL_law RL) {D : va_G} {cyI cyJ cyS : ClassId} (hKK : KK D (tyS cyI cyJ cyS) s0) {A : Nat → Prop} (hA : ∀ q, s0.heap.size ≤ q → A q) {a a_now a_spare a_text : Nat → Nat} {qd : Nat} {dv : Nat → Int32} {bs Ls : Nat} {xs : Nat → Int32} (hL : Ls ≤ 260) (hX : va_X bs Ls xs s0 s0.heap) (hbl : bs < s0.heap.size) (hbA : ¬ A bs) {Q : State → Prop} {mo nf : Nat} {Wi Gi Ki FR NR : Nat → Nat} (hdv : ∀ i, i < 12 → dv (17 + i) = nI (Wi i + 4 * Gi i)) {ck sk : Nat} (hck : ck + 81 ≤ room_1.cells ∧ sk + 1746 ≤ room_1.slots) (hnf1 : 1 ≤ nf) (hmo9 : mo ≤ 99) (kont : ∀ (un : Nat) (Ce Fd UR : Nat → Nat) (I : Option SeaN) (ab be : Int64) (H1 : Heap) (locs1 : List Loc) (ls1 : Array Slot), ST D cyI cyJ cyS a a_now a_spare a_text qd dv A s0.heap (mo + 9) nf 0 0 un Wi Gi Ki Ce Fd FR NR UR I ab be H1 locs1 → lv_has ls1 34 [(0, .ref bs), (1, .ref ((a 0))), (2, .ref qd), (3, .int (nI nf)), (4, .int (nI (mo + 9)))] → W p l en room_1 s0 m args below meth co H1 locs1 (ck + 81) (sk + 1746) Q (F0 m 1729 ls1 [])) : ∀ (d k un : Nat) (Ce Fd UR : Nat → Nat) (I : Option SeaN) (ab be : Int64) (H : Heap) (locs : List Loc) (ls : Array Slot), k + d = 9 → ST D cyI cyJ cyS a a_now a_spare a_text qd dv A s0.heap (mo + k) nf 0 0 un Wi Gi Ki Ce Fd FR NR UR I ab be H locs → lv_has ls 34 [(0, .ref bs), (1, .ref ((a 0))), (2, .ref qd), (3, .int (nI nf)), (4, .int (nI (mo + k))), (5, .int (nI k))] → W p l en room_1 s0 m args below meth co H locs (ck + 9 * k) (sk + 194 * k) Q (F0 m 47 ls []) := by
  obtain ⟨hx, hb, hml, hown, hts⟩ := id F
  intro d
  induction d with
  | zero =>
    intro k un Ce Fd UR I ab be H locs ls hkn hST hl
    obtain rfl : k = 9 := by omega
    refine lv_iload hx hb dL_law_47 (lv_at hl 5 rfl) ?_
    refine lv_bipush (v := nI 9) hx hb dL_law_49 (by decide) ?_
    refine lv_icmp_ge (tgt := 1729) hx hb dL_law_51 (by decide) (fun _ => ?_) (fun cz => absurd (Int32.le_refl _) cz)
    exact kont _ _ _ _ _ _ _ _ _ _ hST (lv_sub hl [0, 1, 2, 3, 4] rfl)
  | succ d ih =>
    intro k un Ce Fd UR I ab be H locs ls hkn hST hl
    refine lv_iload hx hb dL_law_47 (lv_at hl 5 rfl) ?_
    refine lv_bipush (v := nI 9) hx hb dL_law_49 (by decide) ?_
    refine lv_icmp_ge (tgt := 1729) hx hb dL_law_51 (by decide) (fun cz => absurd cz (show ¬ (nI 9 ≤ nI k) by rw [nI_leI (by omega) (by omega)]; omega)) (fun _ => ?_)
    refine law_turn F hKK hA hL hX hbl hbA hdv ⟨by omega, by omega⟩ (by omega) hnf1 (by omega) hST (lv_sub hl [0, 1, 2, 3, 4, 5] rfl) (fun u4 Ce4 Fd4 UR4 I4 ab4 be4 H1 L1 ls1 hST hl => ?_)
    have h := ih (k + 1) u4 Ce4 Fd4 UR4 (some I4) ab4 be4 H1 L1 ls1 (by omega) hST hl
    rw [show ck + 9 * (k + 1) = ck + 9 * k + 9 by omega, show sk + 194 * (k + 1) = sk + 194 * k + 194 by omega] at h
    exact h

set_option maxHeartbeats 8000000 in
set_option maxRecDepth 100000 in
theorem law_end {p : Program} {l : Launch} {en : Env} {s0 : State} {m : MethodId} {args : Array Value} {below : List Frame} {meth : Method} {co : Code} (F : CallFix p m co cL_law 34 s0 args wsL_law RL) {D : va_G} {cyI cyJ cyS : ClassId} (hKK : KK D (tyS cyI cyJ cyS) s0) {A : Nat → Prop} (hA : ∀ q, s0.heap.size ≤ q → A q) {a a_now a_spare a_text : Nat → Nat} {qd : Nat} {dv : Nat → Int32} {bs Ls : Nat} {xs : Nat → Int32} (hL : Ls ≤ 260) (hX : va_X bs Ls xs s0 s0.heap) (hbl : bs < s0.heap.size) (hbA : ¬ A bs) {Q : State → Prop} {mo nf un : Nat} {Wi Gi Ki Ce Fd FR NR UR : Nat → Nat} {I : Option SeaN} {ab be : Int64} {H : Heap} {locs : List Loc} {ck sk : Nat} {ls : Array Slot} (hck : ck ≤ room_1.cells ∧ sk ≤ room_1.slots) (hST : ST D cyI cyJ cyS a a_now a_spare a_text qd dv A s0.heap mo nf 0 0 un Wi Gi Ki Ce Fd FR NR UR I ab be H locs) (hl : lv_has ls 34 [(0, .ref bs), (1, .ref ((a 0))), (2, .ref qd), (3, .int (nI nf)), (4, .int (nI mo))]) (kont : ∀ (H1 : Heap) (locs1 : List Loc) (ls1 : Array Slot), ST D cyI cyJ cyS a a_now a_spare a_text qd dv A s0.heap mo nf 0 0 un Wi Gi Ki Ce Fd FR NR UR I ab be H1 locs1 → W p l en room_1 s0 m args below meth co H1 locs1 ck sk Q (F0 m 1769 ls1 (.int (nI 1) :: []))) : W p l en room_1 s0 m args below meth co H locs ck sk Q (F0 m 1729 ls []) := by
  obtain ⟨hx, hb, hml, hown, hts⟩ := id F
  refine lv_aload_n hx hb dL_law_1729 rfl (lv_at hl 1 rfl) ?_
  refine lv_iconst (v := nI 1) hx hb dL_law_1730 (by decide) ?_
  refine lk_count1 F hKK hA gL_law_X3_count ⟨(Nat.le_of_ble_eq_true rfl), (Nat.le_of_ble_eq_true rfl)⟩ hck dL_law_1731 hl.1 (Nat.le_of_ble_eq_true rfl) hST  (fun H locs hST => ?_)
  refine lv_iload hx hb dL_law_1734 (lv_at hl 4 rfl) ?_
  refine lv_icmp_ne (tgt := 1768) hx hb dL_law_1736 (by decide) (fun cz => absurd rfl cz) (fun _ => ?_)
  refine lv_aload_n hx hb dL_law_1739 rfl (lv_at hl 1 rfl) ?_
  refine lv_iconst (v := nI 0) hx hb dL_law_1740 (by decide) ?_
  refine lk_count0 F hKK hA gL_law_X3_count ⟨(Nat.le_of_ble_eq_true rfl), (Nat.le_of_ble_eq_true rfl)⟩ hck dL_law_1741 hl.1 (Nat.le_of_ble_eq_true rfl) hST  (fun H locs hST => ?_)
  refine lv_iload_n hx hb dL_law_1744 rfl (lv_at hl 3 rfl) ?_
  refine lv_icmp_ne (tgt := 1768) hx hb dL_law_1745 (by decide) (fun cz => absurd rfl cz) (fun _ => ?_)
  refine lv_aload_n hx hb dL_law_1748 rfl (lv_at hl 1 rfl) ?_
  refine lv_iconst (v := nI 3) hx hb dL_law_1749 (by decide) ?_
  refine lk_count3 F hKK hA gL_law_X3_count ⟨(Nat.le_of_ble_eq_true rfl), (Nat.le_of_ble_eq_true rfl)⟩ hck dL_law_1750 hl.1 (Nat.le_of_ble_eq_true rfl) hST  (fun H locs hST => ?_)
  refine lv_if_ne (tgt := 1768) hx hb dL_law_1753 (by decide) (fun cz => absurd (rfl : nI 0 = 0) cz) (fun _ => ?_)
  refine lv_aload_n hx hb dL_law_1756 rfl (lv_at hl 1 rfl) ?_
  refine lv_iconst (v := nI 4) hx hb dL_law_1757 (by decide) ?_
  refine lk_count4 F hKK hA gL_law_X3_count ⟨(Nat.le_of_ble_eq_true rfl), (Nat.le_of_ble_eq_true rfl)⟩ hck dL_law_1758 hl.1 (Nat.le_of_ble_eq_true rfl) hST  (fun H locs hST => ?_)
  refine lv_if_ne (tgt := 1768) hx hb dL_law_1761 (by decide) (fun cz => absurd (rfl : nI 0 = 0) cz) (fun _ => ?_)
  refine lv_iconst (v := nI 1) hx hb dL_law_1764 (by decide) ?_
  refine lv_goto (tgt := 1769) hx hb dL_law_1765 (by decide) ?_
  exact kont _ _ _ hST
