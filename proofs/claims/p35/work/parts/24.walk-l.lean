/-! the walks of what the law itself calls -/
def T_L_low (N : Nat) (p0 : Int32) (p1 : Int32) : Option Int32 :=
  (nz p1 (some ((p0 &&& 2147483647) - (p0 &&& 2147483647) / p1 * p1)))
abbrev rm_L_low : Room := { frames := 0, cells := 0, slots := 0, locals := 0 }
set_option maxHeartbeats 4000000 in
set_option maxRecDepth 100000 in
theorem c_L_low (l : Launch) (N : Nat) (p0 : Int32) (p1 : Int32) (R0 : Int32) (hT : T_L_low N p0 p1 = some R0) : Met l yL_low wsL_low rm_L_low (va_Pc [.int p0, .int p1] (fun _ => True)) (vp_Si (fun r => r = R0)) 0 0 (fun _ => False) := by
  refine Met.ofW (cc := cL_low) (maxL := 2) (ret := (some .int)) (by decide) rfl ?_
  intro p e s m args below meth c s₁ B hml hv
  obtain ⟨rfl, -⟩ := hv
  have hx := B.exec
  have hb := B.bytes
  have hr := B.returns
  have hts := atoms_spec (ws := wsL_low) B.pre
  have hown : s.vm.findClass RL = some m.cls := findClass_of_methodNamed B.named
  have hlocks := B.notSynchronized
  have hl := lv_entry [.int p0, .int p1] (n := 2) (Nat.le_of_ble_eq_true rfl)
  rw [lg_entry_eq]
  generalize (lg_sl [.int p0, .int p1] ++ List.replicate (2 - (lg_sl [.int p0, .int p1]).length) Slot.unset).toArray = ls at hl ⊢
  have hl : lv_has ls 2 [(0, .int p0), (1, .int p1)] := hl
  unfold T_L_low at hT
  refine lv_iload_n hx hb dL_low_0 rfl (lv_at hl 0 rfl) ?_
  refine lv_ldc (v := 2147483647) hx hb hown (hts (Cond.constant RL 7 (2147483647)) (List.mem_of_getElem? (i := 1) rfl)) dL_low_1 ?_
  refine lv_iand hx hb dL_low_3 ?_
  refine lv_iload_n hx hb dL_low_4 rfl (lv_at hl 1 rfl) ?_
  obtain ⟨hn2, h1⟩ := nz_e hT
  refine lv_irem hx hb dL_low_5 hn2 ?_
  exact W.iret (v := (p0 &&& 2147483647) - (p0 &&& 2147483647) / p1 * p1) hx hb hr (fun t ht hW => ⟨(p0 &&& 2147483647) - (p0 &&& 2147483647) / p1 * p1, rfl, (Option.some.inj h1), ht⟩) (fun q hq => by cases hq) dL_low_6
def T_L_way (p0 : Int32) (p1 : Int32) (p2 : Int32) : Int32 :=
  (jn (fun (x1 : Int32) => (jn (fun (x6 : Int32) => (x6 - x6 / 4 * 4)) fun j7 => (jn (j7 x1) fun j11 => (if p0 = 4 then (if (p1 - p1 / 3 * 3) = 0 then (j7 (x1 + 2)) else j11) else j11)))) fun j2 => (jn (j2 (p2 + (p1 - p1 / 2 * 2))) fun j21 => (if p0 = 2 then j21 else (if p0 = 4 then j21 else (j2 p2)))))
abbrev rm_L_way : Room := { frames := 0, cells := 0, slots := 0, locals := 0 }
set_option maxHeartbeats 4000000 in
set_option maxRecDepth 100000 in
theorem c_L_way (l : Launch) (p0 : Int32) (p1 : Int32) (p2 : Int32) (R0 : Int32) (hT : T_L_way p0 p1 p2 = R0) : Met l yL_way wsL_way rm_L_way (va_Pc [.int p0, .int p1, .int p2] (fun _ => True)) (vp_Si (fun r => r = R0)) 0 0 (fun _ => False) := by
  refine Met.ofW (cc := cL_way) (maxL := 4) (ret := (some .int)) (by decide) rfl ?_
  intro p e s m args below meth c s₁ B hml hv
  obtain ⟨rfl, -⟩ := hv
  have hx := B.exec
  have hb := B.bytes
  have hr := B.returns
  have hts := atoms_spec (ws := wsL_way) B.pre
  have hown : s.vm.findClass RL = some m.cls := findClass_of_methodNamed B.named
  have hlocks := B.notSynchronized
  have hl := lv_entry [.int p0, .int p1, .int p2] (n := 4) (Nat.le_of_ble_eq_true rfl)
  rw [lg_entry_eq]
  generalize (lg_sl [.int p0, .int p1, .int p2] ++ List.replicate (4 - (lg_sl [.int p0, .int p1, .int p2]).length) Slot.unset).toArray = ls at hl ⊢
  have hl : lv_has ls 4 [(0, .int p0), (1, .int p1), (2, .int p2)] := hl
  unfold T_L_way at hT
  refine lv_iload_n hx hb dL_way_0 rfl (lv_at hl 0 rfl) ?_
  refine lv_iconst (v := 2) hx hb dL_way_1 (by decide) ?_
  obtain ⟨j2, hj3, h4⟩ := jn_e hT
  have Jj2 : ∀ (x1 : Int32) (ls : Array Slot), j2 x1 = R0 → lv_has ls 4 [(0, .int p0), (1, .int p1)] → W p l e (headSpec wsL_way rm_L_way).room s m ([.int p0, .int p1, .int p2] : List Value).toArray below meth c s.heap [] 0 0 (MQ below (vp_Si (fun r => r = R0)) ([.int p0, .int p1, .int p2] : List Value).toArray s 0 0 (fun _ => False)) (F0 m 19 ls [.int x1]) := by
    intro x1 ls h5 hl
    rw [hj3] at h5
    refine lv_istore_n (lv' := [(3, .int x1), (0, .int p0), (1, .int p1)]) hx hb dL_way_19 rfl hl (by decide) rfl (fun ls hl => ?_)
    refine lv_iload_n hx hb dL_way_20 rfl (lv_at hl 1 rfl) ?_
    refine lv_iconst (v := 4) hx hb dL_way_21 (by decide) ?_
    obtain ⟨j7, hj8, h9⟩ := jn_e h5
    have Jj7 : ∀ (x6 : Int32) (ls : Array Slot), j7 x6 = R0 → lv_has ls 4 [] → W p l e (headSpec wsL_way rm_L_way).room s m ([.int p0, .int p1, .int p2] : List Value).toArray below meth c s.heap [] 0 0 (MQ below (vp_Si (fun r => r = R0)) ([.int p0, .int p1, .int p2] : List Value).toArray s 0 0 (fun _ => False)) (F0 m 38 ls [.int x6]) := by
      intro x6 ls h10 hl
      rw [hj8] at h10
      refine lv_iconst (v := 4) hx hb dL_way_38 (by decide) ?_
      refine lv_irem hx hb dL_way_39 (by decide) ?_
      exact W.iret (v := x6 - x6 / 4 * 4) hx hb hr (fun t ht hW => ⟨x6 - x6 / 4 * 4, rfl, (h10), ht⟩) (fun q hq => by cases hq) dL_way_40
    obtain ⟨j11, hj12, h13⟩ := jn_e h9
    have Jj11 : ∀ (ls : Array Slot), j11 = R0 → lv_has ls 4 [(3, .int x1)] → W p l e (headSpec wsL_way rm_L_way).room s m ([.int p0, .int p1, .int p2] : List Value).toArray below meth c s.heap [] 0 0 (MQ below (vp_Si (fun r => r = R0)) ([.int p0, .int p1, .int p2] : List Value).toArray s 0 0 (fun _ => False)) (F0 m 37 ls []) := by
      intro ls h14 hl
      rw [hj12] at h14
      refine lv_iload_n hx hb dL_way_37 rfl (lv_at hl 0 rfl) ?_
      exact Jj7 x1 _ h14 (lv_sub hl [] rfl)
    refine lv_icmp_ne (tgt := 37) hx hb dL_way_22 (by decide) (fun c15 => ?_) (fun c15 => ?_)
    · have h16 := (if_neg c15).symm.trans h13
      exact Jj11  _ h16 (lv_sub hl [0] rfl)
    · have h17 := (if_pos c15).symm.trans h13
      refine lv_iload_n hx hb dL_way_25 rfl (lv_at hl 2 rfl) ?_
      refine lv_iconst (v := 3) hx hb dL_way_26 (by decide) ?_
      refine lv_irem hx hb dL_way_27 (by decide) ?_
      refine lv_if_ne (tgt := 37) hx hb dL_way_28 (by decide) (fun c18 => ?_) (fun c18 => ?_)
      · have h19 := (if_neg c18).symm.trans h17
        exact Jj11  _ h19 (lv_sub hl [0] rfl)
      · have h20 := (if_pos c18).symm.trans h17
        refine lv_iload_n hx hb dL_way_31 rfl (lv_at hl 0 rfl) ?_
        refine lv_iconst (v := 2) hx hb dL_way_32 (by decide) ?_
        refine lv_iadd hx hb dL_way_33 ?_
        refine lv_goto (tgt := 38) hx hb dL_way_34 (by decide) ?_
        exact Jj7 (x1 + 2) _ h20 (lv_sub hl [] rfl)
  obtain ⟨j21, hj22, h23⟩ := jn_e h4
  have Jj21 : ∀ (ls : Array Slot), j21 = R0 → lv_has ls 4 [(0, .int p0), (1, .int p1), (2, .int p2)] → W p l e (headSpec wsL_way rm_L_way).room s m ([.int p0, .int p1, .int p2] : List Value).toArray below meth c s.heap [] 0 0 (MQ below (vp_Si (fun r => r = R0)) ([.int p0, .int p1, .int p2] : List Value).toArray s 0 0 (fun _ => False)) (F0 m 10 ls []) := by
    intro ls h24 hl
    rw [hj22] at h24
    refine lv_iload_n hx hb dL_way_10 rfl (lv_at hl 2 rfl) ?_
    refine lv_iload_n hx hb dL_way_11 rfl (lv_at hl 1 rfl) ?_
    refine lv_iconst (v := 2) hx hb dL_way_12 (by decide) ?_
    refine lv_irem hx hb dL_way_13 (by decide) ?_
    refine lv_iadd hx hb dL_way_14 ?_
    refine lv_goto (tgt := 19) hx hb dL_way_15 (by decide) ?_
    exact Jj2 (p2 + (p1 - p1 / 2 * 2)) _ h24 (lv_sub hl [0, 1] rfl)
  refine lv_icmp_eq (tgt := 10) hx hb dL_way_2 (by decide) (fun c25 => ?_) (fun c25 => ?_)
  · have h26 := (if_pos c25).symm.trans h23
    exact Jj21  _ h26 (lv_sub hl [0, 1, 2] rfl)
  · have h27 := (if_neg c25).symm.trans h23
    refine lv_iload_n hx hb dL_way_5 rfl (lv_at hl 0 rfl) ?_
    refine lv_iconst (v := 4) hx hb dL_way_6 (by decide) ?_
    refine lv_icmp_ne (tgt := 18) hx hb dL_way_7 (by decide) (fun c28 => ?_) (fun c28 => ?_)
    · have h29 := (if_neg c28).symm.trans h27
      refine lv_iload_n hx hb dL_way_18 rfl (lv_at hl 2 rfl) ?_
      exact Jj2 p2 _ h29 (lv_sub hl [0, 1] rfl)
    · have h30 := (if_pos c28).symm.trans h27
      exact Jj21  _ h30 (lv_sub hl [0, 1, 2] rfl)
def T_L_many (p0 : Int32) (p1 : Int32) (p2 : Int32) : Int32 :=
  (jn 0 fun j1 => (if p1 = 0 then j1 else (jn (jn (fun (x12 : Int32) => (if p0 = 1 then x12 else (if p0 = 5 then (if p2 ≤ 2 then x12 else (x12 - 1)) else 1))) fun j13 => (if p1 = 3 then (j13 2) else (j13 1))) fun j8 => (if p0 = 3 then (if 2 ≤ p2 then j8 else (if p1 = 1 then j1 else j8)) else j8))))
abbrev rm_L_many : Room := { frames := 0, cells := 0, slots := 0, locals := 0 }
set_option maxHeartbeats 4000000 in
set_option maxRecDepth 100000 in
theorem c_L_many (l : Launch) (p0 : Int32) (p1 : Int32) (p2 : Int32) (R0 : Int32) (hT : T_L_many p0 p1 p2 = R0) : Met l yL_many wsL_many rm_L_many (va_Pc [.int p0, .int p1, .int p2] (fun _ => True)) (vp_Si (fun r => r = R0)) 0 0 (fun _ => False) := by
  refine Met.ofW (cc := cL_many) (maxL := 4) (ret := (some .int)) (by decide) rfl ?_
  intro p e s m args below meth c s₁ B hml hv
  obtain ⟨rfl, -⟩ := hv
  have hx := B.exec
  have hb := B.bytes
  have hr := B.returns
  have hts := atoms_spec (ws := wsL_many) B.pre
  have hown : s.vm.findClass RL = some m.cls := findClass_of_methodNamed B.named
  have hlocks := B.notSynchronized
  have hl := lv_entry [.int p0, .int p1, .int p2] (n := 4) (Nat.le_of_ble_eq_true rfl)
  rw [lg_entry_eq]
  generalize (lg_sl [.int p0, .int p1, .int p2] ++ List.replicate (4 - (lg_sl [.int p0, .int p1, .int p2]).length) Slot.unset).toArray = ls at hl ⊢
  have hl : lv_has ls 4 [(0, .int p0), (1, .int p1), (2, .int p2)] := hl
  unfold T_L_many at hT
  refine lv_iload_n hx hb dL_many_0 rfl (lv_at hl 1 rfl) ?_
  obtain ⟨j1, hj2, h3⟩ := jn_e hT
  have Jj1 : ∀ (ls : Array Slot), j1 = R0 → lv_has ls 4 [] → W p l e (headSpec wsL_many rm_L_many).room s m ([.int p0, .int p1, .int p2] : List Value).toArray below meth c s.heap [] 0 0 (MQ below (vp_Si (fun r => r = R0)) ([.int p0, .int p1, .int p2] : List Value).toArray s 0 0 (fun _ => False)) (F0 m 19 ls []) := by
    intro ls h4 hl
    rw [hj2] at h4
    refine lv_iconst (v := 0) hx hb dL_many_19 (by decide) ?_
    exact W.iret (v := 0) hx hb hr (fun t ht hW => ⟨0, rfl, (h4), ht⟩) (fun q hq => by cases hq) dL_many_20
  refine lv_if_eq (tgt := 19) hx hb dL_many_1 (by decide) (fun c5 => ?_) (fun c5 => ?_)
  · have h6 := (if_pos c5).symm.trans h3
    exact Jj1  _ h6 (lv_sub hl [] rfl)
  · have h7 := (if_neg c5).symm.trans h3
    refine lv_iload_n hx hb dL_many_4 rfl (lv_at hl 0 rfl) ?_
    refine lv_iconst (v := 3) hx hb dL_many_5 (by decide) ?_
    obtain ⟨j8, hj9, h10⟩ := jn_e h7
    have Jj8 : ∀ (ls : Array Slot), j8 = R0 → lv_has ls 4 [(0, .int p0), (1, .int p1), (2, .int p2)] → W p l e (headSpec wsL_many rm_L_many).room s m ([.int p0, .int p1, .int p2] : List Value).toArray below meth c s.heap [] 0 0 (MQ below (vp_Si (fun r => r = R0)) ([.int p0, .int p1, .int p2] : List Value).toArray s 0 0 (fun _ => False)) (F0 m 21 ls []) := by
      intro ls h11 hl
      rw [hj9] at h11
      refine lv_iload_n hx hb dL_many_21 rfl (lv_at hl 1 rfl) ?_
      refine lv_iconst (v := 3) hx hb dL_many_22 (by decide) ?_
      obtain ⟨j13, hj14, h15⟩ := jn_e h11
      have Jj13 : ∀ (x12 : Int32) (ls : Array Slot), j13 x12 = R0 → lv_has ls 4 [(0, .int p0), (2, .int p2)] → W p l e (headSpec wsL_many rm_L_many).room s m ([.int p0, .int p1, .int p2] : List Value).toArray below meth c s.heap [] 0 0 (MQ below (vp_Si (fun r => r = R0)) ([.int p0, .int p1, .int p2] : List Value).toArray s 0 0 (fun _ => False)) (F0 m 31 ls [.int x12]) := by
        intro x12 ls h16 hl
        rw [hj14] at h16
        refine lv_istore_n (lv' := [(3, .int x12), (0, .int p0), (2, .int p2)]) hx hb dL_many_31 rfl hl (by decide) rfl (fun ls hl => ?_)
        refine lv_iload_n hx hb dL_many_32 rfl (lv_at hl 1 rfl) ?_
        refine lv_iconst (v := 1) hx hb dL_many_33 (by decide) ?_
        refine lv_icmp_ne (tgt := 41) hx hb dL_many_34 (by decide) (fun c17 => ?_) (fun c17 => ?_)
        · have h18 := (if_neg c17).symm.trans h16
          refine lv_iload_n hx hb dL_many_41 rfl (lv_at hl 1 rfl) ?_
          refine lv_iconst (v := 5) hx hb dL_many_42 (by decide) ?_
          refine lv_icmp_ne (tgt := 61) hx hb dL_many_43 (by decide) (fun c19 => ?_) (fun c19 => ?_)
          · have h20 := (if_neg c19).symm.trans h18
            refine lv_iconst (v := 1) hx hb dL_many_61 (by decide) ?_
            exact W.iret (v := 1) hx hb hr (fun t ht hW => ⟨1, rfl, (h20), ht⟩) (fun q hq => by cases hq) dL_many_62
          · have h21 := (if_pos c19).symm.trans h18
            refine lv_iload_n hx hb dL_many_46 rfl (lv_at hl 2 rfl) ?_
            refine lv_iconst (v := 2) hx hb dL_many_47 (by decide) ?_
            refine lv_icmp_le (tgt := 57) hx hb dL_many_48 (by decide) (fun c22 => ?_) (fun c22 => ?_)
            · have h23 := (if_pos c22).symm.trans h21
              refine lv_iload_n hx hb dL_many_57 rfl (lv_at hl 0 rfl) ?_
              refine lv_goto (tgt := 62) hx hb dL_many_58 (by decide) ?_
              exact W.iret (v := x12) hx hb hr (fun t ht hW => ⟨x12, rfl, (h23), ht⟩) (fun q hq => by cases hq) dL_many_62
            · have h24 := (if_neg c22).symm.trans h21
              refine lv_iload_n hx hb dL_many_51 rfl (lv_at hl 0 rfl) ?_
              refine lv_iconst (v := 1) hx hb dL_many_52 (by decide) ?_
              refine lv_isub hx hb dL_many_53 ?_
              refine lv_goto (tgt := 62) hx hb dL_many_54 (by decide) ?_
              exact W.iret (v := x12 - 1) hx hb hr (fun t ht hW => ⟨x12 - 1, rfl, (h24), ht⟩) (fun q hq => by cases hq) dL_many_62
        · have h25 := (if_pos c17).symm.trans h16
          refine lv_iload_n hx hb dL_many_37 rfl (lv_at hl 0 rfl) ?_
          refine lv_goto (tgt := 62) hx hb dL_many_38 (by decide) ?_
          exact W.iret (v := x12) hx hb hr (fun t ht hW => ⟨x12, rfl, (h25), ht⟩) (fun q hq => by cases hq) dL_many_62
      refine lv_icmp_ne (tgt := 30) hx hb dL_many_23 (by decide) (fun c26 => ?_) (fun c26 => ?_)
      · have h27 := (if_neg c26).symm.trans h15
        refine lv_iconst (v := 1) hx hb dL_many_30 (by decide) ?_
        exact Jj13 1 _ h27 (lv_sub hl [0, 2] rfl)
      · have h28 := (if_pos c26).symm.trans h15
        refine lv_iconst (v := 2) hx hb dL_many_26 (by decide) ?_
        refine lv_goto (tgt := 31) hx hb dL_many_27 (by decide) ?_
        exact Jj13 2 _ h28 (lv_sub hl [0, 2] rfl)
    refine lv_icmp_ne (tgt := 21) hx hb dL_many_6 (by decide) (fun c29 => ?_) (fun c29 => ?_)
    · have h30 := (if_neg c29).symm.trans h10
      exact Jj8  _ h30 (lv_sub hl [0, 1, 2] rfl)
    · have h31 := (if_pos c29).symm.trans h10
      refine lv_iload_n hx hb dL_many_9 rfl (lv_at hl 2 rfl) ?_
      refine lv_iconst (v := 2) hx hb dL_many_10 (by decide) ?_
      refine lv_icmp_ge (tgt := 21) hx hb dL_many_11 (by decide) (fun c32 => ?_) (fun c32 => ?_)
      · have h33 := (if_pos c32).symm.trans h31
        exact Jj8  _ h33 (lv_sub hl [0, 1, 2] rfl)
      · have h34 := (if_neg c32).symm.trans h31
        refine lv_iload_n hx hb dL_many_14 rfl (lv_at hl 1 rfl) ?_
        refine lv_iconst (v := 1) hx hb dL_many_15 (by decide) ?_
        refine lv_icmp_ne (tgt := 21) hx hb dL_many_16 (by decide) (fun c35 => ?_) (fun c35 => ?_)
        · have h36 := (if_neg c35).symm.trans h34
          exact Jj8  _ h36 (lv_sub hl [0, 1, 2] rfl)
        · have h37 := (if_pos c35).symm.trans h34
          exact Jj1  _ h37 (lv_sub hl [] rfl)
def T_L_far (p0 : Int32) (p1 : Int32) : Int32 :=
  (jn (fun (x1 : Int32) => (jn (fun (x6 : Int32) => (x1 + x6)) fun j7 => (if (p0 / 6) ≤ (p1 / 6) then (j7 ((p1 / 6) - (p0 / 6))) else (j7 ((p0 / 6) - (p1 / 6)))))) fun j2 => (if (p0 - p0 / 6 * 6) ≤ (p1 - p1 / 6 * 6) then (j2 ((p1 - p1 / 6 * 6) - (p0 - p0 / 6 * 6))) else (j2 ((p0 - p0 / 6 * 6) - (p1 - p1 / 6 * 6)))))
abbrev rm_L_far : Room := { frames := 0, cells := 0, slots := 0, locals := 0 }
set_option maxHeartbeats 4000000 in
set_option maxRecDepth 100000 in
theorem c_L_far (l : Launch) (p0 : Int32) (p1 : Int32) (R0 : Int32) (hT : T_L_far p0 p1 = R0) : Met l yL_far wsL_far rm_L_far (va_Pc [.int p0, .int p1] (fun _ => True)) (vp_Si (fun r => r = R0)) 0 0 (fun _ => False) := by
  refine Met.ofW (cc := cL_far) (maxL := 3) (ret := (some .int)) (by decide) rfl ?_
  intro p e s m args below meth c s₁ B hml hv
  obtain ⟨rfl, -⟩ := hv
  have hx := B.exec
  have hb := B.bytes
  have hr := B.returns
  have hts := atoms_spec (ws := wsL_far) B.pre
  have hown : s.vm.findClass RL = some m.cls := findClass_of_methodNamed B.named
  have hlocks := B.notSynchronized
  have hl := lv_entry [.int p0, .int p1] (n := 3) (Nat.le_of_ble_eq_true rfl)
  rw [lg_entry_eq]
  generalize (lg_sl [.int p0, .int p1] ++ List.replicate (3 - (lg_sl [.int p0, .int p1]).length) Slot.unset).toArray = ls at hl ⊢
  have hl : lv_has ls 3 [(0, .int p0), (1, .int p1)] := hl
  unfold T_L_far at hT
  refine lv_iload_n hx hb dL_far_0 rfl (lv_at hl 0 rfl) ?_
  refine lv_bipush (v := 6) hx hb dL_far_1 (by decide) ?_
  refine lv_irem hx hb dL_far_3 (by decide) ?_
  refine lv_iload_n hx hb dL_far_4 rfl (lv_at hl 1 rfl) ?_
  refine lv_bipush (v := 6) hx hb dL_far_5 (by decide) ?_
  refine lv_irem hx hb dL_far_7 (by decide) ?_
  obtain ⟨j2, hj3, h4⟩ := jn_e hT
  have Jj2 : ∀ (x1 : Int32) (ls : Array Slot), j2 x1 = R0 → lv_has ls 3 [(0, .int p0), (1, .int p1)] → W p l e (headSpec wsL_far rm_L_far).room s m ([.int p0, .int p1] : List Value).toArray below meth c s.heap [] 0 0 (MQ below (vp_Si (fun r => r = R0)) ([.int p0, .int p1] : List Value).toArray s 0 0 (fun _ => False)) (F0 m 32 ls [.int x1]) := by
    intro x1 ls h5 hl
    rw [hj3] at h5
    refine lv_istore_n (lv' := [(2, .int x1), (0, .int p0), (1, .int p1)]) hx hb dL_far_32 rfl hl (by decide) rfl (fun ls hl => ?_)
    refine lv_iload_n hx hb dL_far_33 rfl (lv_at hl 0 rfl) ?_
    refine lv_iload_n hx hb dL_far_34 rfl (lv_at hl 1 rfl) ?_
    refine lv_bipush (v := 6) hx hb dL_far_35 (by decide) ?_
    refine lv_idiv hx hb dL_far_37 (by decide) ?_
    refine lv_iload_n hx hb dL_far_38 rfl (lv_at hl 2 rfl) ?_
    refine lv_bipush (v := 6) hx hb dL_far_39 (by decide) ?_
    refine lv_idiv hx hb dL_far_41 (by decide) ?_
    obtain ⟨j7, hj8, h9⟩ := jn_e h5
    have Jj7 : ∀ (x6 : Int32) (ls : Array Slot), j7 x6 = R0 → lv_has ls 3 [] → W p l e (headSpec wsL_far rm_L_far).room s m ([.int p0, .int p1] : List Value).toArray below meth c s.heap [] 0 0 (MQ below (vp_Si (fun r => r = R0)) ([.int p0, .int p1] : List Value).toArray s 0 0 (fun _ => False)) (F0 m 66 ls [.int x6, .int x1]) := by
      intro x6 ls h10 hl
      rw [hj8] at h10
      refine lv_iadd hx hb dL_far_66 ?_
      exact W.iret (v := x1 + x6) hx hb hr (fun t ht hW => ⟨x1 + x6, rfl, (h10), ht⟩) (fun q hq => by cases hq) dL_far_67
    refine lv_icmp_le (tgt := 57) hx hb dL_far_42 (by decide) (fun c11 => ?_) (fun c11 => ?_)
    · have h12 := (if_pos c11).symm.trans h9
      refine lv_iload_n hx hb dL_far_57 rfl (lv_at hl 2 rfl) ?_
      refine lv_bipush (v := 6) hx hb dL_far_58 (by decide) ?_
      refine lv_idiv hx hb dL_far_60 (by decide) ?_
      refine lv_iload_n hx hb dL_far_61 rfl (lv_at hl 1 rfl) ?_
      refine lv_bipush (v := 6) hx hb dL_far_62 (by decide) ?_
      refine lv_idiv hx hb dL_far_64 (by decide) ?_
      refine lv_isub hx hb dL_far_65 ?_
      exact Jj7 ((p1 / 6) - (p0 / 6)) _ h12 (lv_sub hl [] rfl)
    · have h13 := (if_neg c11).symm.trans h9
      refine lv_iload_n hx hb dL_far_45 rfl (lv_at hl 1 rfl) ?_
      refine lv_bipush (v := 6) hx hb dL_far_46 (by decide) ?_
      refine lv_idiv hx hb dL_far_48 (by decide) ?_
      refine lv_iload_n hx hb dL_far_49 rfl (lv_at hl 2 rfl) ?_
      refine lv_bipush (v := 6) hx hb dL_far_50 (by decide) ?_
      refine lv_idiv hx hb dL_far_52 (by decide) ?_
      refine lv_isub hx hb dL_far_53 ?_
      refine lv_goto (tgt := 66) hx hb dL_far_54 (by decide) ?_
      exact Jj7 ((p0 / 6) - (p1 / 6)) _ h13 (lv_sub hl [] rfl)
  refine lv_icmp_le (tgt := 23) hx hb dL_far_8 (by decide) (fun c14 => ?_) (fun c14 => ?_)
  · have h15 := (if_pos c14).symm.trans h4
    refine lv_iload_n hx hb dL_far_23 rfl (lv_at hl 1 rfl) ?_
    refine lv_bipush (v := 6) hx hb dL_far_24 (by decide) ?_
    refine lv_irem hx hb dL_far_26 (by decide) ?_
    refine lv_iload_n hx hb dL_far_27 rfl (lv_at hl 0 rfl) ?_
    refine lv_bipush (v := 6) hx hb dL_far_28 (by decide) ?_
    refine lv_irem hx hb dL_far_30 (by decide) ?_
    refine lv_isub hx hb dL_far_31 ?_
    exact Jj2 ((p1 - p1 / 6 * 6) - (p0 - p0 / 6 * 6)) _ h15 (lv_sub hl [0, 1] rfl)
  · have h16 := (if_neg c14).symm.trans h4
    refine lv_iload_n hx hb dL_far_11 rfl (lv_at hl 0 rfl) ?_
    refine lv_bipush (v := 6) hx hb dL_far_12 (by decide) ?_
    refine lv_irem hx hb dL_far_14 (by decide) ?_
    refine lv_iload_n hx hb dL_far_15 rfl (lv_at hl 1 rfl) ?_
    refine lv_bipush (v := 6) hx hb dL_far_16 (by decide) ?_
    refine lv_irem hx hb dL_far_18 (by decide) ?_
    refine lv_isub hx hb dL_far_19 ?_
    refine lv_goto (tgt := 32) hx hb dL_far_20 (by decide) ?_
    exact Jj2 ((p0 - p0 / 6 * 6) - (p1 - p1 / 6 * 6)) _ h16 (lv_sub hl [0, 1] rfl)
def T_L_drifts (p0 : Int32) (p1 : Int32) (p2 : Int32) (p3 : Int32) (p4 : Int32) : Int32 :=
  (lt' (p1 / 6) fun x1 => (lt' (p1 - p1 / 6 * 6) fun x3 => (lt' (T_L_way p0 p2 p3) fun x5 => (lt' (T_L_many p0 p4 x3) fun x7 => (jn (fun (x9 : Int32) => (lt' (x1 + x9) fun x14 => (jn (fun (x16 : Int32) => (lt' (x3 + x16) fun x21 => (jn (fun (x23 : Int32) => (jn (fun (x28 : Int32) => ((6 * x23) + x28)) fun j29 => (if x21 ≤ 5 then (if 0 ≤ x21 then (j29 x21) else (j29 0)) else (j29 5)))) fun j24 => (if x14 ≤ 5 then (if 0 ≤ x14 then (j24 x14) else (j24 0)) else (j24 5))))) fun j17 => (if x5 = 0 then (j17 x7) else (if x5 = 2 then (j17 (0 - x7)) else (j17 0)))))) fun j10 => (if x5 = 1 then (j10 x7) else (if x5 = 3 then (j10 (0 - x7)) else (j10 0))))))))
abbrev rm_L_drifts : Room := { frames := 1, cells := 0, slots := 0, locals := 23 }
set_option maxHeartbeats 4000000 in
set_option maxRecDepth 100000 in
theorem c_L_drifts (l : Launch) (p0 : Int32) (p1 : Int32) (p2 : Int32) (p3 : Int32) (p4 : Int32) (R0 : Int32) (hT : T_L_drifts p0 p1 p2 p3 p4 = R0) : Met l yL_drifts wsL_drifts rm_L_drifts (va_Pc [.int p0, .int p1, .int p2, .int p3, .int p4] (fun _ => True)) (vp_Si (fun r => r = R0)) 0 0 (fun _ => False) := by
  refine Met.ofW (cc := cL_drifts) (maxL := 9) (ret := (some .int)) (by decide) rfl ?_
  intro p e s m args below meth c s₁ B hml hv
  obtain ⟨rfl, -⟩ := hv
  have hx := B.exec
  have hb := B.bytes
  have hr := B.returns
  have hts := atoms_spec (ws := wsL_drifts) B.pre
  have hown : s.vm.findClass RL = some m.cls := findClass_of_methodNamed B.named
  have hlocks := B.notSynchronized
  have hl := lv_entry [.int p0, .int p1, .int p2, .int p3, .int p4] (n := 9) (Nat.le_of_ble_eq_true rfl)
  rw [lg_entry_eq]
  generalize (lg_sl [.int p0, .int p1, .int p2, .int p3, .int p4] ++ List.replicate (9 - (lg_sl [.int p0, .int p1, .int p2, .int p3, .int p4]).length) Slot.unset).toArray = ls at hl ⊢
  have hl : lv_has ls 9 [(0, .int p0), (1, .int p1), (2, .int p2), (3, .int p3), (4, .int p4)] := hl
  unfold T_L_drifts at hT
  refine lv_iload_n hx hb dL_drifts_0 rfl (lv_at hl 1 rfl) ?_
  refine lv_bipush (v := 6) hx hb dL_drifts_1 (by decide) ?_
  refine lv_idiv hx hb dL_drifts_3 (by decide) ?_
  obtain ⟨x1, ex1, h2⟩ := lt_e hT
  refine lv_nm ex1 ?_
  refine lv_istore (lv' := [(5, .int x1), (0, .int p0), (1, .int p1), (2, .int p2), (3, .int p3), (4, .int p4)]) hx hb dL_drifts_4 hl (by decide) rfl (fun ls hl => ?_)
  refine lv_iload_n hx hb dL_drifts_6 rfl (lv_at hl 2 rfl) ?_
  refine lv_bipush (v := 6) hx hb dL_drifts_7 (by decide) ?_
  refine lv_irem hx hb dL_drifts_9 (by decide) ?_
  obtain ⟨x3, ex3, h4⟩ := lt_e h2
  refine lv_nm ex3 ?_
  refine lv_istore (lv' := [(6, .int x3), (5, .int x1), (0, .int p0), (1, .int p1), (2, .int p2), (3, .int p3), (4, .int p4)]) hx hb dL_drifts_10 hl (by decide) rfl (fun ls hl => ?_)
  refine lv_iload_n hx hb dL_drifts_12 rfl (lv_at hl 2 rfl) ?_
  refine lv_iload_n hx hb dL_drifts_13 rfl (lv_at hl 4 rfl) ?_
  refine lv_iload_n hx hb dL_drifts_14 rfl (lv_at hl 5 rfl) ?_
  refine kc_I (W.runS (As := [.int p0, .int p2, .int p3]) (rest := []) ⟨hx, hb, hml, hown, hts⟩ (c_L_way l p0 p2 p3 (T_L_way p0 p2 p3) rfl) (va_cwS 3 hts gL_drifts_L_way rfl rfl rfl (by decide +kernel) ⟨(Nat.le_of_ble_eq_true rfl), (Nat.le_of_ble_eq_true rfl)⟩) preT_S rfl rfl hl.1 rfl (lv_room (Nat.le_of_ble_eq_true rfl)) dL_drifts_15 ⟨Nat.zero_le _, Nat.zero_le _⟩) ?_
  obtain ⟨x5, ex5, h6⟩ := lt_e h4
  refine lv_nm ex5 ?_
  refine lv_istore (lv' := [(7, .int x5), (6, .int x3), (5, .int x1), (0, .int p0), (1, .int p1), (2, .int p2), (3, .int p3), (4, .int p4)]) hx hb dL_drifts_18 hl (by decide) rfl (fun ls hl => ?_)
  refine lv_iload_n hx hb dL_drifts_20 rfl (lv_at hl 3 rfl) ?_
  refine lv_iload hx hb dL_drifts_21 (lv_at hl 7 rfl) ?_
  refine lv_iload hx hb dL_drifts_23 (lv_at hl 1 rfl) ?_
  refine kc_I (W.runS (As := [.int p0, .int p4, .int x3]) (rest := []) ⟨hx, hb, hml, hown, hts⟩ (c_L_many l p0 p4 x3 (T_L_many p0 p4 x3) rfl) (va_cwS 3 hts gL_drifts_L_many rfl rfl rfl (by decide +kernel) ⟨(Nat.le_of_ble_eq_true rfl), (Nat.le_of_ble_eq_true rfl)⟩) preT_S rfl rfl hl.1 rfl (lv_room (Nat.le_of_ble_eq_true rfl)) dL_drifts_25 ⟨Nat.zero_le _, Nat.zero_le _⟩) ?_
  obtain ⟨x7, ex7, h8⟩ := lt_e h6
  refine lv_nm ex7 ?_
  refine lv_istore (lv' := [(8, .int x7), (7, .int x5), (6, .int x3), (5, .int x1), (0, .int p0), (1, .int p1), (2, .int p2), (3, .int p3), (4, .int p4)]) hx hb dL_drifts_28 hl (by decide) rfl (fun ls hl => ?_)
  refine lv_iload hx hb dL_drifts_30 (lv_at hl 3 rfl) ?_
  refine lv_iload hx hb dL_drifts_32 (lv_at hl 1 rfl) ?_
  refine lv_iconst (v := 1) hx hb dL_drifts_34 (by decide) ?_
  obtain ⟨j10, hj11, h12⟩ := jn_e h8
  have Jj10 : ∀ (x9 : Int32) (ls : Array Slot), j10 x9 = R0 → lv_has ls 9 [(6, .int x3), (7, .int x5), (8, .int x7)] → W p l e (headSpec wsL_drifts rm_L_drifts).room s m ([.int p0, .int p1, .int p2, .int p3, .int p4] : List Value).toArray below meth c s.heap [] 0 0 (MQ below (vp_Si (fun r => r = R0)) ([.int p0, .int p1, .int p2, .int p3, .int p4] : List Value).toArray s 0 0 (fun _ => False)) (F0 m 57 ls [.int x9, .int x1]) := by
    intro x9 ls h13 hl
    rw [hj11] at h13
    refine lv_iadd hx hb dL_drifts_57 ?_
    obtain ⟨x14, ex14, h15⟩ := lt_e h13
    refine lv_nm ex14 ?_
    refine lv_istore (lv' := [(5, .int x14), (6, .int x3), (7, .int x5), (8, .int x7)]) hx hb dL_drifts_58 hl (by decide) rfl (fun ls hl => ?_)
    refine lv_iload hx hb dL_drifts_60 (lv_at hl 1 rfl) ?_
    refine lv_iload hx hb dL_drifts_62 (lv_at hl 2 rfl) ?_
    obtain ⟨j17, hj18, h19⟩ := jn_e h15
    have Jj17 : ∀ (x16 : Int32) (ls : Array Slot), j17 x16 = R0 → lv_has ls 9 [(5, .int x14)] → W p l e (headSpec wsL_drifts rm_L_drifts).room s m ([.int p0, .int p1, .int p2, .int p3, .int p4] : List Value).toArray below meth c s.heap [] 0 0 (MQ below (vp_Si (fun r => r = R0)) ([.int p0, .int p1, .int p2, .int p3, .int p4] : List Value).toArray s 0 0 (fun _ => False)) (F0 m 86 ls [.int x16, .int x3]) := by
      intro x16 ls h20 hl
      rw [hj18] at h20
      refine lv_iadd hx hb dL_drifts_86 ?_
      obtain ⟨x21, ex21, h22⟩ := lt_e h20
      refine lv_nm ex21 ?_
      refine lv_istore (lv' := [(6, .int x21), (5, .int x14)]) hx hb dL_drifts_87 hl (by decide) rfl (fun ls hl => ?_)
      refine lv_iload hx hb dL_drifts_89 (lv_at hl 1 rfl) ?_
      refine lv_iconst (v := 5) hx hb dL_drifts_91 (by decide) ?_
      obtain ⟨j24, hj25, h26⟩ := jn_e h22
      have Jj24 : ∀ (x23 : Int32) (ls : Array Slot), j24 x23 = R0 → lv_has ls 9 [(6, .int x21)] → W p l e (headSpec wsL_drifts rm_L_drifts).room s m ([.int p0, .int p1, .int p2, .int p3, .int p4] : List Value).toArray below meth c s.heap [] 0 0 (MQ below (vp_Si (fun r => r = R0)) ([.int p0, .int p1, .int p2, .int p3, .int p4] : List Value).toArray s 0 0 (fun _ => False)) (F0 m 110 ls [.int x23]) := by
        intro x23 ls h27 hl
        rw [hj25] at h27
        refine lv_istore (lv' := [(5, .int x23), (6, .int x21)]) hx hb dL_drifts_110 hl (by decide) rfl (fun ls hl => ?_)
        refine lv_iload hx hb dL_drifts_112 (lv_at hl 1 rfl) ?_
        refine lv_iconst (v := 5) hx hb dL_drifts_114 (by decide) ?_
        obtain ⟨j29, hj30, h31⟩ := jn_e h27
        have Jj29 : ∀ (x28 : Int32) (ls : Array Slot), j29 x28 = R0 → lv_has ls 9 [(5, .int x23)] → W p l e (headSpec wsL_drifts rm_L_drifts).room s m ([.int p0, .int p1, .int p2, .int p3, .int p4] : List Value).toArray below meth c s.heap [] 0 0 (MQ below (vp_Si (fun r => r = R0)) ([.int p0, .int p1, .int p2, .int p3, .int p4] : List Value).toArray s 0 0 (fun _ => False)) (F0 m 133 ls [.int x28]) := by
          intro x28 ls h32 hl
          rw [hj30] at h32
          refine lv_istore (lv' := [(6, .int x28), (5, .int x23)]) hx hb dL_drifts_133 hl (by decide) rfl (fun ls hl => ?_)
          refine lv_bipush (v := 6) hx hb dL_drifts_135 (by decide) ?_
          refine lv_iload hx hb dL_drifts_137 (lv_at hl 1 rfl) ?_
          refine lv_imul hx hb dL_drifts_139 ?_
          refine lv_iload hx hb dL_drifts_140 (lv_at hl 0 rfl) ?_
          refine lv_iadd hx hb dL_drifts_142 ?_
          exact W.iret (v := (6 * x23) + x28) hx hb hr (fun t ht hW => ⟨(6 * x23) + x28, rfl, (h32), ht⟩) (fun q hq => by cases hq) dL_drifts_143
        refine lv_icmp_le (tgt := 122) hx hb dL_drifts_115 (by decide) (fun c33 => ?_) (fun c33 => ?_)
        · have h34 := (if_pos c33).symm.trans h31
          refine lv_iload hx hb dL_drifts_122 (lv_at hl 1 rfl) ?_
          refine lv_if_ge (tgt := 131) hx hb dL_drifts_124 (by decide) (fun c35 => ?_) (fun c35 => ?_)
          · have h36 := (if_pos c35).symm.trans h34
            refine lv_iload hx hb dL_drifts_131 (lv_at hl 1 rfl) ?_
            exact Jj29 x21 _ h36 (lv_sub hl [0] rfl)
          · have h37 := (if_neg c35).symm.trans h34
            refine lv_iconst (v := 0) hx hb dL_drifts_127 (by decide) ?_
            refine lv_goto (tgt := 133) hx hb dL_drifts_128 (by decide) ?_
            exact Jj29 0 _ h37 (lv_sub hl [0] rfl)
        · have h38 := (if_neg c33).symm.trans h31
          refine lv_iconst (v := 5) hx hb dL_drifts_118 (by decide) ?_
          refine lv_goto (tgt := 133) hx hb dL_drifts_119 (by decide) ?_
          exact Jj29 5 _ h38 (lv_sub hl [0] rfl)
      refine lv_icmp_le (tgt := 99) hx hb dL_drifts_92 (by decide) (fun c39 => ?_) (fun c39 => ?_)
      · have h40 := (if_pos c39).symm.trans h26
        refine lv_iload hx hb dL_drifts_99 (lv_at hl 1 rfl) ?_
        refine lv_if_ge (tgt := 108) hx hb dL_drifts_101 (by decide) (fun c41 => ?_) (fun c41 => ?_)
        · have h42 := (if_pos c41).symm.trans h40
          refine lv_iload hx hb dL_drifts_108 (lv_at hl 1 rfl) ?_
          exact Jj24 x14 _ h42 (lv_sub hl [0] rfl)
        · have h43 := (if_neg c41).symm.trans h40
          refine lv_iconst (v := 0) hx hb dL_drifts_104 (by decide) ?_
          refine lv_goto (tgt := 110) hx hb dL_drifts_105 (by decide) ?_
          exact Jj24 0 _ h43 (lv_sub hl [0] rfl)
      · have h44 := (if_neg c39).symm.trans h26
        refine lv_iconst (v := 5) hx hb dL_drifts_95 (by decide) ?_
        refine lv_goto (tgt := 110) hx hb dL_drifts_96 (by decide) ?_
        exact Jj24 5 _ h44 (lv_sub hl [0] rfl)
    refine lv_if_ne (tgt := 72) hx hb dL_drifts_64 (by decide) (fun c45 => ?_) (fun c45 => ?_)
    · have h46 := (if_neg c45).symm.trans h19
      refine lv_iload hx hb dL_drifts_72 (lv_at hl 2 rfl) ?_
      refine lv_iconst (v := 2) hx hb dL_drifts_74 (by decide) ?_
      refine lv_icmp_ne (tgt := 85) hx hb dL_drifts_75 (by decide) (fun c47 => ?_) (fun c47 => ?_)
      · have h48 := (if_neg c47).symm.trans h46
        refine lv_iconst (v := 0) hx hb dL_drifts_85 (by decide) ?_
        exact Jj17 0 _ h48 (lv_sub hl [0] rfl)
      · have h49 := (if_pos c47).symm.trans h46
        refine lv_iconst (v := 0) hx hb dL_drifts_78 (by decide) ?_
        refine lv_iload hx hb dL_drifts_79 (lv_at hl 3 rfl) ?_
        refine lv_isub hx hb dL_drifts_81 ?_
        refine lv_goto (tgt := 86) hx hb dL_drifts_82 (by decide) ?_
        exact Jj17 (0 - x7) _ h49 (lv_sub hl [0] rfl)
    · have h50 := (if_pos c45).symm.trans h19
      refine lv_iload hx hb dL_drifts_67 (lv_at hl 3 rfl) ?_
      refine lv_goto (tgt := 86) hx hb dL_drifts_69 (by decide) ?_
      exact Jj17 x7 _ h50 (lv_sub hl [0] rfl)
  refine lv_icmp_ne (tgt := 43) hx hb dL_drifts_35 (by decide) (fun c51 => ?_) (fun c51 => ?_)
  · have h52 := (if_neg c51).symm.trans h12
    refine lv_iload hx hb dL_drifts_43 (lv_at hl 1 rfl) ?_
    refine lv_iconst (v := 3) hx hb dL_drifts_45 (by decide) ?_
    refine lv_icmp_ne (tgt := 56) hx hb dL_drifts_46 (by decide) (fun c53 => ?_) (fun c53 => ?_)
    · have h54 := (if_neg c53).symm.trans h52
      refine lv_iconst (v := 0) hx hb dL_drifts_56 (by decide) ?_
      exact Jj10 0 _ h54 (lv_sub hl [2, 1, 0] rfl)
    · have h55 := (if_pos c53).symm.trans h52
      refine lv_iconst (v := 0) hx hb dL_drifts_49 (by decide) ?_
      refine lv_iload hx hb dL_drifts_50 (lv_at hl 0 rfl) ?_
      refine lv_isub hx hb dL_drifts_52 ?_
      refine lv_goto (tgt := 57) hx hb dL_drifts_53 (by decide) ?_
      exact Jj10 (0 - x7) _ h55 (lv_sub hl [2, 1, 0] rfl)
  · have h56 := (if_pos c51).symm.trans h12
    refine lv_iload hx hb dL_drifts_38 (lv_at hl 0 rfl) ?_
    refine lv_goto (tgt := 57) hx hb dL_drifts_40 (by decide) ?_
    exact Jj10 x7 _ h56 (lv_sub hl [2, 1, 0] rfl)
def T_L_drift (N : Nat) (n0 : Nat) (gp0 : Nat → Int32) (p1 : Int32) (p2 : Int32) (p3 : Int32) : Option Int32 :=
  (ob (17 + (p3 - p3 / 12 * 12)) n0 (lt' (gp0 (17 + (p3 - p3 / 12 * 12)).toNatClampNeg) fun x3 => (some (T_L_drifts p1 p2 p3 (x3 - x3 / 4 * 4) (x3 / 4)))))
abbrev rm_L_drift : Room := { frames := 2, cells := 0, slots := 0, locals := 51 }
set_option maxHeartbeats 4000000 in
set_option maxRecDepth 100000 in
theorem c_L_drift (l : Launch) (D : va_G) (cyI cyJ cyS : ClassId) (N : Nat) (q0 n0 : Nat) (gp0 : Nat → Int32) (p1 : Int32) (p2 : Int32) (p3 : Int32) (R0 : Int32) (hT : T_L_drift N n0 gp0 p1 p2 p3 = some R0) : Met l yL_drift wsL_drift rm_L_drift (va_Pc [.ref q0, .int p1, .int p2, .int p3] (preR D (tyS cyI cyJ cyS) [rI cyI q0 n0 gp0])) (vp_Si (fun r => r = R0)) 0 0 (fun _ => False) := by
  refine Met.ofW (cc := cL_drift) (maxL := 5) (ret := (some .int)) (by decide) rfl ?_
  intro p e s m args below meth c s₁ B hml hv
  obtain ⟨rfl, hP, hKK⟩ := hv
  have hx := B.exec
  have hb := B.bytes
  have hr := B.returns
  have hts := atoms_spec (ws := wsL_drift) B.pre
  have hown : s.vm.findClass RL = some m.cls := findClass_of_methodNamed B.named
  have hlocks := B.notSynchronized
  have hK := hKK.1
  have hP : va_P D vwCl [rI cyI q0 n0 gp0] s.heap := hP
  have hl := lv_entry [.ref q0, .int p1, .int p2, .int p3] (n := 5) (Nat.le_of_ble_eq_true rfl)
  rw [lg_entry_eq]
  generalize (lg_sl [.ref q0, .int p1, .int p2, .int p3] ++ List.replicate (5 - (lg_sl [.ref q0, .int p1, .int p2, .int p3]).length) Slot.unset).toArray = ls at hl ⊢
  have hl : lv_has ls 5 [(0, .ref q0), (1, .int p1), (2, .int p2), (3, .int p3)] := hl
  unfold T_L_drift at hT
  refine lv_aload_n hx hb dL_drift_0 rfl (lv_at hl 0 rfl) ?_
  refine lv_bipush (v := 17) hx hb dL_drift_1 (by decide) ?_
  refine lv_iload_n hx hb dL_drift_3 rfl (lv_at hl 3 rfl) ?_
  refine lv_bipush (v := 12) hx hb dL_drift_4 (by decide) ?_
  refine lv_irem hx hb dL_drift_6 (by decide) ?_
  refine lv_iadd hx hb dL_drift_7 ?_
  obtain ⟨hi2, h1⟩ := ob_e hT
  refine va_iald hx hb hK hP 0 0 rfl rfl hi2 dL_drift_8 ?_
  obtain ⟨x3, ex3, h4⟩ := lt_e h1
  refine lv_nm ex3 ?_
  refine lv_istore (lv' := [(4, .int x3), (0, .ref q0), (1, .int p1), (2, .int p2), (3, .int p3)]) hx hb dL_drift_9 hl (by decide) rfl (fun ls hl => ?_)
  refine lv_iload_n hx hb dL_drift_11 rfl (lv_at hl 2 rfl) ?_
  refine lv_iload_n hx hb dL_drift_12 rfl (lv_at hl 3 rfl) ?_
  refine lv_iload_n hx hb dL_drift_13 rfl (lv_at hl 4 rfl) ?_
  refine lv_iload hx hb dL_drift_14 (lv_at hl 0 rfl) ?_
  refine lv_iconst (v := 4) hx hb dL_drift_16 (by decide) ?_
  refine lv_irem hx hb dL_drift_17 (by decide) ?_
  refine lv_iload hx hb dL_drift_18 (lv_at hl 0 rfl) ?_
  refine lv_iconst (v := 4) hx hb dL_drift_20 (by decide) ?_
  refine lv_idiv hx hb dL_drift_21 (by decide) ?_
  refine kc_I (W.runS (As := [.int p1, .int p2, .int p3, .int (x3 - x3 / 4 * 4), .int (x3 / 4)]) (rest := []) ⟨hx, hb, hml, hown, hts⟩ (c_L_drifts l p1 p2 p3 (x3 - x3 / 4 * 4) (x3 / 4) (T_L_drifts p1 p2 p3 (x3 - x3 / 4 * 4) (x3 / 4)) rfl) (va_cwS 5 hts gL_drift_L_drifts rfl rfl rfl (by decide +kernel) ⟨(Nat.le_of_ble_eq_true rfl), (Nat.le_of_ble_eq_true rfl)⟩) preT_S rfl rfl hl.1 rfl (lv_room (Nat.le_of_ble_eq_true rfl)) dL_drift_22 ⟨Nat.zero_le _, Nat.zero_le _⟩) ?_
  exact W.iret (v := (T_L_drifts p1 p2 p3 (x3 - x3 / 4 * 4) (x3 / 4))) hx hb hr (fun t ht hW => ⟨(T_L_drifts p1 p2 p3 (x3 - x3 / 4 * 4) (x3 / 4)), rfl, (Option.some.inj h4), ht⟩) (fun q hq => by cases hq) dL_drift_25
