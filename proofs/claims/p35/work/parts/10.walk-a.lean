def T_X0_wayOf (p0 : Int32) (p1 : Int32) (p2 : Int32) : Int32 :=
  (jn (fun (x1 : Int32) => (if p0 = 2 then x1 else (if p0 = 4 then (if (p1 - p1 / 3 * 3) = 0 then ((x1 + 2) - (x1 + 2) / 4 * 4) else x1) else p2))) fun j2 => (if (p1 - p1 / 2 * 2) = 1 then (j2 ((p2 + 1) - (p2 + 1) / 4 * 4)) else (j2 p2)))
abbrev rm_X0_wayOf : Room := { frames := 0, cells := 0, slots := 0, locals := 0 }
set_option maxHeartbeats 4000000 in
set_option maxRecDepth 100000 in
theorem c_X0_wayOf (l : Launch) (p0 : Int32) (p1 : Int32) (p2 : Int32) (R0 : Int32) (hT : T_X0_wayOf p0 p1 p2 = R0) : Met l yX0_wayOf wsX0_wayOf rm_X0_wayOf (va_Pc [.int p0, .int p1, .int p2] (fun _ => True)) (vp_Si (fun r => r = R0)) 0 0 (fun _ => False) := by
  refine Met.ofW (cc := cX0_wayOf) (maxL := 4) (ret := (some .int)) (by decide) rfl ?_
  intro p e s m args below meth c s₁ B hml hv
  obtain ⟨rfl, -⟩ := hv
  have hx := B.exec
  have hb := B.bytes
  have hr := B.returns
  have hts := atoms_spec (ws := wsX0_wayOf) B.pre
  have hown : s.vm.findClass RX0 = some m.cls := findClass_of_methodNamed B.named
  have hlocks := B.notSynchronized
  have hl := lv_entry [.int p0, .int p1, .int p2] (n := 4) (Nat.le_of_ble_eq_true rfl)
  rw [lg_entry_eq]
  generalize (lg_sl [.int p0, .int p1, .int p2] ++ List.replicate (4 - (lg_sl [.int p0, .int p1, .int p2]).length) Slot.unset).toArray = ls at hl ⊢
  have hl : lv_has ls 4 [(0, .int p0), (1, .int p1), (2, .int p2)] := hl
  unfold T_X0_wayOf at hT
  refine lv_iload_n hx hb dX0_wayOf_0 rfl (lv_at hl 1 rfl) ?_
  refine lv_iconst (v := 2) hx hb dX0_wayOf_1 (by decide) ?_
  refine lv_irem hx hb dX0_wayOf_2 (by decide) ?_
  refine lv_iconst (v := 1) hx hb dX0_wayOf_3 (by decide) ?_
  obtain ⟨j2, hj3, h4⟩ := jn_e hT
  have Jj2 : ∀ (x1 : Int32) (ls : Array Slot), j2 x1 = R0 → lv_has ls 4 [(0, .int p0), (1, .int p1), (2, .int p2)] → W p l e (headSpec wsX0_wayOf rm_X0_wayOf).room s m ([.int p0, .int p1, .int p2] : List Value).toArray below meth c s.heap [] 0 0 (MQ below (vp_Si (fun r => r = R0)) ([.int p0, .int p1, .int p2] : List Value).toArray s 0 0 (fun _ => False)) (F0 m 16 ls [.int x1]) := by
    intro x1 ls h5 hl
    rw [hj3] at h5
    refine lv_istore_n (lv' := [(3, .int x1), (0, .int p0), (1, .int p1), (2, .int p2)]) hx hb dX0_wayOf_16 rfl hl (by decide) rfl (fun ls hl => ?_)
    refine lv_iload_n hx hb dX0_wayOf_17 rfl (lv_at hl 1 rfl) ?_
    rcases Decidable.em (p0 = 2) with c6 | c6
    · have h7 := (if_pos c6).symm.trans h5
      refine lv_lookup (tgt := 44) (off := 26) hx hb dX0_wayOf_18 (by decide) (by rw [c6]; rfl) (by decide) ?_
      refine lv_iload_n hx hb dX0_wayOf_44 rfl (lv_at hl 0 rfl) ?_
      exact W.iret (v := x1) hx hb hr (fun t ht hW => ⟨x1, rfl, (h7), ht⟩) (fun q hq => by cases hq) dX0_wayOf_45
    · have h8 := (if_neg c6).symm.trans h5
      rcases Decidable.em (p0 = 4) with c9 | c9
      · have h10 := (if_pos c9).symm.trans h8
        refine lv_lookup (tgt := 46) (off := 28) hx hb dX0_wayOf_18 (by decide) (by rw [c9]; rfl) (by decide) ?_
        refine lv_iload_n hx hb dX0_wayOf_46 rfl (lv_at hl 2 rfl) ?_
        refine lv_iconst (v := 3) hx hb dX0_wayOf_47 (by decide) ?_
        refine lv_irem hx hb dX0_wayOf_48 (by decide) ?_
        refine lv_if_ne (tgt := 60) hx hb dX0_wayOf_49 (by decide) (fun c11 => ?_) (fun c11 => ?_)
        · have h12 := (if_neg c11).symm.trans h10
          refine lv_iload_n hx hb dX0_wayOf_60 rfl (lv_at hl 0 rfl) ?_
          exact W.iret (v := x1) hx hb hr (fun t ht hW => ⟨x1, rfl, (h12), ht⟩) (fun q hq => by cases hq) dX0_wayOf_61
        · have h13 := (if_pos c11).symm.trans h10
          refine lv_iload_n hx hb dX0_wayOf_52 rfl (lv_at hl 0 rfl) ?_
          refine lv_iconst (v := 2) hx hb dX0_wayOf_53 (by decide) ?_
          refine lv_iadd hx hb dX0_wayOf_54 ?_
          refine lv_iconst (v := 4) hx hb dX0_wayOf_55 (by decide) ?_
          refine lv_irem hx hb dX0_wayOf_56 (by decide) ?_
          refine lv_goto (tgt := 61) hx hb dX0_wayOf_57 (by decide) ?_
          exact W.iret (v := (x1 + 2) - (x1 + 2) / 4 * 4) hx hb hr (fun t ht hW => ⟨(x1 + 2) - (x1 + 2) / 4 * 4, rfl, (h13), ht⟩) (fun q hq => by cases hq) dX0_wayOf_61
      · have h14 := (if_neg c9).symm.trans h8
        refine lv_lookup (tgt := 62) (off := 44) hx hb dX0_wayOf_18 (by decide) (by show Op.lookupswitch.offset [(2, 26), (4, 28)] 44 _ = _; rw [lv_osw c6 (k := 2) (a := 2) rfl, lv_osw c9 (k := 4) (a := 4) rfl]; rfl) (by decide) ?_
        refine lv_iload_n hx hb dX0_wayOf_62 rfl (lv_at hl 3 rfl) ?_
        exact W.iret (v := p2) hx hb hr (fun t ht hW => ⟨p2, rfl, (h14), ht⟩) (fun q hq => by cases hq) dX0_wayOf_63
  refine lv_icmp_ne (tgt := 15) hx hb dX0_wayOf_4 (by decide) (fun c15 => ?_) (fun c15 => ?_)
  · have h16 := (if_neg c15).symm.trans h4
    refine lv_iload_n hx hb dX0_wayOf_15 rfl (lv_at hl 2 rfl) ?_
    exact Jj2 p2 _ h16 (lv_sub hl [0, 1, 2] rfl)
  · have h17 := (if_pos c15).symm.trans h4
    refine lv_iload_n hx hb dX0_wayOf_7 rfl (lv_at hl 2 rfl) ?_
    refine lv_iconst (v := 1) hx hb dX0_wayOf_8 (by decide) ?_
    refine lv_iadd hx hb dX0_wayOf_9 ?_
    refine lv_iconst (v := 4) hx hb dX0_wayOf_10 (by decide) ?_
    refine lv_irem hx hb dX0_wayOf_11 (by decide) ?_
    refine lv_goto (tgt := 16) hx hb dX0_wayOf_12 (by decide) ?_
    exact Jj2 ((p2 + 1) - (p2 + 1) / 4 * 4) _ h17 (lv_sub hl [0, 1, 2] rfl)
def T_X0_cellsOf (p0 : Int32) (p1 : Int32) (p2 : Int32) : Int32 :=
  (jn (fun (x1 : Int32) => (jn (fun (x6 : Int32) => (jn x1 fun j11 => (if p0 = 1 then x6 else (if p0 = 2 then j11 else (if p0 = 3 then (jn x1 fun j23 => (if 1 < p2 then j23 else (if 2 ≤ p1 then j23 else 0))) else (if p0 = 4 then j11 else (if p0 = 5 then (jn x6 fun j39 => (if p2 < 3 then j39 else (if x6 ≤ 0 then j39 else (x6 - 1)))) else j11))))))) fun j7 => (if p1 = 3 then (j7 (x1 + 1)) else (j7 x1)))) fun j2 => (if p1 < 1 then (j2 0) else (j2 1)))
abbrev rm_X0_cellsOf : Room := { frames := 0, cells := 0, slots := 0, locals := 0 }
set_option maxHeartbeats 4000000 in
set_option maxRecDepth 100000 in
theorem c_X0_cellsOf (l : Launch) (p0 : Int32) (p1 : Int32) (p2 : Int32) (R0 : Int32) (hT : T_X0_cellsOf p0 p1 p2 = R0) : Met l yX0_cellsOf wsX0_cellsOf rm_X0_cellsOf (va_Pc [.int p0, .int p1, .int p2] (fun _ => True)) (vp_Si (fun r => r = R0)) 0 0 (fun _ => False) := by
  refine Met.ofW (cc := cX0_cellsOf) (maxL := 5) (ret := (some .int)) (by decide) rfl ?_
  intro p e s m args below meth c s₁ B hml hv
  obtain ⟨rfl, -⟩ := hv
  have hx := B.exec
  have hb := B.bytes
  have hr := B.returns
  have hts := atoms_spec (ws := wsX0_cellsOf) B.pre
  have hown : s.vm.findClass RX0 = some m.cls := findClass_of_methodNamed B.named
  have hlocks := B.notSynchronized
  have hl := lv_entry [.int p0, .int p1, .int p2] (n := 5) (Nat.le_of_ble_eq_true rfl)
  rw [lg_entry_eq]
  generalize (lg_sl [.int p0, .int p1, .int p2] ++ List.replicate (5 - (lg_sl [.int p0, .int p1, .int p2]).length) Slot.unset).toArray = ls at hl ⊢
  have hl : lv_has ls 5 [(0, .int p0), (1, .int p1), (2, .int p2)] := hl
  unfold T_X0_cellsOf at hT
  refine lv_iload_n hx hb dX0_cellsOf_0 rfl (lv_at hl 1 rfl) ?_
  refine lv_iconst (v := 1) hx hb dX0_cellsOf_1 (by decide) ?_
  obtain ⟨j2, hj3, h4⟩ := jn_e hT
  have Jj2 : ∀ (x1 : Int32) (ls : Array Slot), j2 x1 = R0 → lv_has ls 5 [(0, .int p0), (1, .int p1), (2, .int p2)] → W p l e (headSpec wsX0_cellsOf rm_X0_cellsOf).room s m ([.int p0, .int p1, .int p2] : List Value).toArray below meth c s.heap [] 0 0 (MQ below (vp_Si (fun r => r = R0)) ([.int p0, .int p1, .int p2] : List Value).toArray s 0 0 (fun _ => False)) (F0 m 10 ls [.int x1]) := by
    intro x1 ls h5 hl
    rw [hj3] at h5
    refine lv_istore_n (lv' := [(3, .int x1), (0, .int p0), (1, .int p1), (2, .int p2)]) hx hb dX0_cellsOf_10 rfl hl (by decide) rfl (fun ls hl => ?_)
    refine lv_iload_n hx hb dX0_cellsOf_11 rfl (lv_at hl 2 rfl) ?_
    refine lv_iconst (v := 3) hx hb dX0_cellsOf_12 (by decide) ?_
    obtain ⟨j7, hj8, h9⟩ := jn_e h5
    have Jj7 : ∀ (x6 : Int32) (ls : Array Slot), j7 x6 = R0 → lv_has ls 5 [(0, .int p0), (1, .int p1), (2, .int p2), (3, .int x1)] → W p l e (headSpec wsX0_cellsOf rm_X0_cellsOf).room s m ([.int p0, .int p1, .int p2] : List Value).toArray below meth c s.heap [] 0 0 (MQ below (vp_Si (fun r => r = R0)) ([.int p0, .int p1, .int p2] : List Value).toArray s 0 0 (fun _ => False)) (F0 m 23 ls [.int x6]) := by
      intro x6 ls h10 hl
      rw [hj8] at h10
      refine lv_istore (lv' := [(4, .int x6), (0, .int p0), (1, .int p1), (2, .int p2), (3, .int x1)]) hx hb dX0_cellsOf_23 hl (by decide) rfl (fun ls hl => ?_)
      refine lv_iload_n hx hb dX0_cellsOf_25 rfl (lv_at hl 1 rfl) ?_
      obtain ⟨j11, hj12, h13⟩ := jn_e h10
      have Jj11 : ∀ (ls : Array Slot), j11 = R0 → lv_has ls 5 [(3, .int x1)] → W p l e (headSpec wsX0_cellsOf rm_X0_cellsOf).room s m ([.int p0, .int p1, .int p2] : List Value).toArray below meth c s.heap [] 0 0 (MQ below (vp_Si (fun r => r = R0)) ([.int p0, .int p1, .int p2] : List Value).toArray s 0 0 (fun _ => False)) (F0 m 99 ls []) := by
        intro ls h14 hl
        rw [hj12] at h14
        refine lv_iload_n hx hb dX0_cellsOf_99 rfl (lv_at hl 0 rfl) ?_
        exact W.iret (v := x1) hx hb hr (fun t ht hW => ⟨x1, rfl, (h14), ht⟩) (fun q hq => by cases hq) dX0_cellsOf_100
      rcases Decidable.em (p0 = 1) with c15 | c15
      · have h16 := (if_pos c15).symm.trans h13
        refine lv_tableIn (tgt := 60) (off := 34) hx hb dX0_cellsOf_26 (by rw [c15]; decide) (by rw [c15]; decide) (by rw [c15]; rfl) (by decide) ?_
        refine lv_iload hx hb dX0_cellsOf_60 (lv_at hl 0 rfl) ?_
        exact W.iret (v := x6) hx hb hr (fun t ht hW => ⟨x6, rfl, (h16), ht⟩) (fun q hq => by cases hq) dX0_cellsOf_62
      · have h17 := (if_neg c15).symm.trans h13
        rcases Decidable.em (p0 = 2) with c18 | c18
        · have h19 := (if_pos c18).symm.trans h17
          refine lv_tableIn (tgt := 99) (off := 73) hx hb dX0_cellsOf_26 (by rw [c18]; decide) (by rw [c18]; decide) (by rw [c18]; rfl) (by decide) ?_
          exact Jj11  _ h19 (lv_sub hl [4] rfl)
        · have h20 := (if_neg c18).symm.trans h17
          rcases Decidable.em (p0 = 3) with c21 | c21
          · have h22 := (if_pos c21).symm.trans h20
            refine lv_tableIn (tgt := 63) (off := 37) hx hb dX0_cellsOf_26 (by rw [c21]; decide) (by rw [c21]; decide) (by rw [c21]; rfl) (by decide) ?_
            refine lv_iload_n hx hb dX0_cellsOf_63 rfl (lv_at hl 3 rfl) ?_
            refine lv_iconst (v := 1) hx hb dX0_cellsOf_64 (by decide) ?_
            obtain ⟨j23, hj24, h25⟩ := jn_e h22
            have Jj23 : ∀ (ls : Array Slot), j23 = R0 → lv_has ls 5 [(3, .int x1)] → W p l e (headSpec wsX0_cellsOf rm_X0_cellsOf).room s m ([.int p0, .int p1, .int p2] : List Value).toArray below meth c s.heap [] 0 0 (MQ below (vp_Si (fun r => r = R0)) ([.int p0, .int p1, .int p2] : List Value).toArray s 0 0 (fun _ => False)) (F0 m 77 ls []) := by
              intro ls h26 hl
              rw [hj24] at h26
              refine lv_iload_n hx hb dX0_cellsOf_77 rfl (lv_at hl 0 rfl) ?_
              exact W.iret (v := x1) hx hb hr (fun t ht hW => ⟨x1, rfl, (h26), ht⟩) (fun q hq => by cases hq) dX0_cellsOf_78
            refine lv_icmp_gt (tgt := 77) hx hb dX0_cellsOf_65 (by decide) (fun c27 => ?_) (fun c27 => ?_)
            · have h28 := (if_pos c27).symm.trans h25
              exact Jj23  _ h28 (lv_sub hl [4] rfl)
            · have h29 := (if_neg c27).symm.trans h25
              refine lv_iload_n hx hb dX0_cellsOf_68 rfl (lv_at hl 2 rfl) ?_
              refine lv_iconst (v := 2) hx hb dX0_cellsOf_69 (by decide) ?_
              refine lv_icmp_ge (tgt := 77) hx hb dX0_cellsOf_70 (by decide) (fun c30 => ?_) (fun c30 => ?_)
              · have h31 := (if_pos c30).symm.trans h29
                exact Jj23  _ h31 (lv_sub hl [4] rfl)
              · have h32 := (if_neg c30).symm.trans h29
                refine lv_iconst (v := 0) hx hb dX0_cellsOf_73 (by decide) ?_
                refine lv_goto (tgt := 78) hx hb dX0_cellsOf_74 (by decide) ?_
                exact W.iret (v := 0) hx hb hr (fun t ht hW => ⟨0, rfl, (h32), ht⟩) (fun q hq => by cases hq) dX0_cellsOf_78
          · have h33 := (if_neg c21).symm.trans h20
            rcases Decidable.em (p0 = 4) with c34 | c34
            · have h35 := (if_pos c34).symm.trans h33
              refine lv_tableIn (tgt := 99) (off := 73) hx hb dX0_cellsOf_26 (by rw [c34]; decide) (by rw [c34]; decide) (by rw [c34]; rfl) (by decide) ?_
              exact Jj11  _ h35 (lv_sub hl [4] rfl)
            · have h36 := (if_neg c34).symm.trans h33
              rcases Decidable.em (p0 = 5) with c37 | c37
              · have h38 := (if_pos c37).symm.trans h36
                refine lv_tableIn (tgt := 79) (off := 53) hx hb dX0_cellsOf_26 (by rw [c37]; decide) (by rw [c37]; decide) (by rw [c37]; rfl) (by decide) ?_
                refine lv_iload_n hx hb dX0_cellsOf_79 rfl (lv_at hl 3 rfl) ?_
                refine lv_iconst (v := 3) hx hb dX0_cellsOf_80 (by decide) ?_
                obtain ⟨j39, hj40, h41⟩ := jn_e h38
                have Jj39 : ∀ (ls : Array Slot), j39 = R0 → lv_has ls 5 [(4, .int x6)] → W p l e (headSpec wsX0_cellsOf rm_X0_cellsOf).room s m ([.int p0, .int p1, .int p2] : List Value).toArray below meth c s.heap [] 0 0 (MQ below (vp_Si (fun r => r = R0)) ([.int p0, .int p1, .int p2] : List Value).toArray s 0 0 (fun _ => False)) (F0 m 96 ls []) := by
                  intro ls h42 hl
                  rw [hj40] at h42
                  refine lv_iload hx hb dX0_cellsOf_96 (lv_at hl 0 rfl) ?_
                  exact W.iret (v := x6) hx hb hr (fun t ht hW => ⟨x6, rfl, (h42), ht⟩) (fun q hq => by cases hq) dX0_cellsOf_98
                refine lv_icmp_lt (tgt := 96) hx hb dX0_cellsOf_81 (by decide) (fun c43 => ?_) (fun c43 => ?_)
                · have h44 := (if_pos c43).symm.trans h41
                  exact Jj39  _ h44 (lv_sub hl [0] rfl)
                · have h45 := (if_neg c43).symm.trans h41
                  refine lv_iload hx hb dX0_cellsOf_84 (lv_at hl 0 rfl) ?_
                  refine lv_if_le (tgt := 96) hx hb dX0_cellsOf_86 (by decide) (fun c46 => ?_) (fun c46 => ?_)
                  · have h47 := (if_pos c46).symm.trans h45
                    exact Jj39  _ h47 (lv_sub hl [0] rfl)
                  · have h48 := (if_neg c46).symm.trans h45
                    refine lv_iload hx hb dX0_cellsOf_89 (lv_at hl 0 rfl) ?_
                    refine lv_iconst (v := 1) hx hb dX0_cellsOf_91 (by decide) ?_
                    refine lv_isub hx hb dX0_cellsOf_92 ?_
                    refine lv_goto (tgt := 98) hx hb dX0_cellsOf_93 (by decide) ?_
                    exact W.iret (v := x6 - 1) hx hb hr (fun t ht hW => ⟨x6 - 1, rfl, (h48), ht⟩) (fun q hq => by cases hq) dX0_cellsOf_98
              · have h49 := (if_neg c37).symm.trans h36
                refine lv_tableOut (tgt := 99) hx hb dX0_cellsOf_26 (by have q0 := lv_neT c15 (k := 1) (a := 1) rfl; have q1 := lv_neT c18 (k := 2) (a := 2) rfl; have q2 := lv_neT c21 (k := 3) (a := 3) rfl; have q3 := lv_neT c34 (k := 4) (a := 4) rfl; have q4 := lv_neT c37 (k := 5) (a := 5) rfl; omega) (by decide) ?_
                exact Jj11  _ h49 (lv_sub hl [4] rfl)
    refine lv_icmp_ne (tgt := 22) hx hb dX0_cellsOf_13 (by decide) (fun c50 => ?_) (fun c50 => ?_)
    · have h51 := (if_neg c50).symm.trans h9
      refine lv_iload_n hx hb dX0_cellsOf_22 rfl (lv_at hl 0 rfl) ?_
      exact Jj7 x1 _ h51 (lv_sub hl [1, 2, 3, 0] rfl)
    · have h52 := (if_pos c50).symm.trans h9
      refine lv_iload_n hx hb dX0_cellsOf_16 rfl (lv_at hl 0 rfl) ?_
      refine lv_iconst (v := 1) hx hb dX0_cellsOf_17 (by decide) ?_
      refine lv_iadd hx hb dX0_cellsOf_18 ?_
      refine lv_goto (tgt := 23) hx hb dX0_cellsOf_19 (by decide) ?_
      exact Jj7 (x1 + 1) _ h52 (lv_sub hl [1, 2, 3, 0] rfl)
  refine lv_icmp_lt (tgt := 9) hx hb dX0_cellsOf_2 (by decide) (fun c53 => ?_) (fun c53 => ?_)
  · have h54 := (if_pos c53).symm.trans h4
    refine lv_iconst (v := 0) hx hb dX0_cellsOf_9 (by decide) ?_
    exact Jj2 0 _ h54 (lv_sub hl [0, 1, 2] rfl)
  · have h55 := (if_neg c53).symm.trans h4
    refine lv_iconst (v := 1) hx hb dX0_cellsOf_5 (by decide) ?_
    refine lv_goto (tgt := 10) hx hb dX0_cellsOf_6 (by decide) ?_
    exact Jj2 1 _ h55 (lv_sub hl [0, 1, 2] rfl)
def T_X0_tracks (p0 : Int32) (p1 : Int32) (p2 : Int32) (p3 : Int32) (p4 : Int32) : Int32 :=
  (lt' (T_X0_cellsOf p0 p3 p4) fun x1 => (if x1 = 0 then 0 else ((4 * x1) + (T_X0_wayOf p0 p1 p2))))
abbrev rm_X0_tracks : Room := { frames := 1, cells := 0, slots := 0, locals := 24 }
set_option maxHeartbeats 4000000 in
set_option maxRecDepth 100000 in
theorem c_X0_tracks (l : Launch) (p0 : Int32) (p1 : Int32) (p2 : Int32) (p3 : Int32) (p4 : Int32) (R0 : Int32) (hT : T_X0_tracks p0 p1 p2 p3 p4 = R0) : Met l yX0_tracks wsX0_tracks rm_X0_tracks (va_Pc [.int p0, .int p1, .int p2, .int p3, .int p4] (fun _ => True)) (vp_Si (fun r => r = R0)) 0 0 (fun _ => False) := by
  refine Met.ofW (cc := cX0_tracks) (maxL := 6) (ret := (some .int)) (by decide) rfl ?_
  intro p e s m args below meth c s₁ B hml hv
  obtain ⟨rfl, -⟩ := hv
  have hx := B.exec
  have hb := B.bytes
  have hr := B.returns
  have hts := atoms_spec (ws := wsX0_tracks) B.pre
  have hown : s.vm.findClass RX0 = some m.cls := findClass_of_methodNamed B.named
  have hlocks := B.notSynchronized
  have hl := lv_entry [.int p0, .int p1, .int p2, .int p3, .int p4] (n := 6) (Nat.le_of_ble_eq_true rfl)
  rw [lg_entry_eq]
  generalize (lg_sl [.int p0, .int p1, .int p2, .int p3, .int p4] ++ List.replicate (6 - (lg_sl [.int p0, .int p1, .int p2, .int p3, .int p4]).length) Slot.unset).toArray = ls at hl ⊢
  have hl : lv_has ls 6 [(0, .int p0), (1, .int p1), (2, .int p2), (3, .int p3), (4, .int p4)] := hl
  unfold T_X0_tracks at hT
  refine lv_iload_n hx hb dX0_tracks_0 rfl (lv_at hl 0 rfl) ?_
  refine lv_iload_n hx hb dX0_tracks_1 rfl (lv_at hl 3 rfl) ?_
  refine lv_iload hx hb dX0_tracks_2 (lv_at hl 4 rfl) ?_
  refine kc_I (W.runS (As := [.int p0, .int p3, .int p4]) (rest := []) ⟨hx, hb, hml, hown, hts⟩ (c_X0_cellsOf l p0 p3 p4 (T_X0_cellsOf p0 p3 p4) rfl) (va_cwS 3 hts gX0_tracks_X0_cellsOf rfl rfl rfl (by decide +kernel) ⟨(Nat.le_of_ble_eq_true rfl), (Nat.le_of_ble_eq_true rfl)⟩) preT_S rfl rfl hl.1 rfl (lv_room (Nat.le_of_ble_eq_true rfl)) dX0_tracks_4 ⟨Nat.zero_le _, Nat.zero_le _⟩) ?_
  obtain ⟨x1, ex1, h2⟩ := lt_e hT
  refine lv_nm ex1 ?_
  refine lv_istore (lv' := [(5, .int x1), (0, .int p0), (1, .int p1), (2, .int p2), (3, .int p3), (4, .int p4)]) hx hb dX0_tracks_7 hl (by decide) rfl (fun ls hl => ?_)
  refine lv_iload hx hb dX0_tracks_9 (lv_at hl 0 rfl) ?_
  refine lv_if_ne (tgt := 18) hx hb dX0_tracks_11 (by decide) (fun c3 => ?_) (fun c3 => ?_)
  · have h4 := (if_neg c3).symm.trans h2
    refine lv_iconst (v := 4) hx hb dX0_tracks_18 (by decide) ?_
    refine lv_iload hx hb dX0_tracks_19 (lv_at hl 0 rfl) ?_
    refine lv_imul hx hb dX0_tracks_21 ?_
    refine lv_iload_n hx hb dX0_tracks_22 rfl (lv_at hl 1 rfl) ?_
    refine lv_iload_n hx hb dX0_tracks_23 rfl (lv_at hl 2 rfl) ?_
    refine lv_iload_n hx hb dX0_tracks_24 rfl (lv_at hl 3 rfl) ?_
    refine kc_I (W.runS (As := [.int p0, .int p1, .int p2]) (rest := [.int (4 * x1)]) ⟨hx, hb, hml, hown, hts⟩ (c_X0_wayOf l p0 p1 p2 (T_X0_wayOf p0 p1 p2) rfl) (va_cwS 3 hts gX0_tracks_X0_wayOf rfl rfl rfl (by decide +kernel) ⟨(Nat.le_of_ble_eq_true rfl), (Nat.le_of_ble_eq_true rfl)⟩) preT_S rfl rfl hl.1 rfl (lv_room (Nat.le_of_ble_eq_true rfl)) dX0_tracks_25 ⟨Nat.zero_le _, Nat.zero_le _⟩) ?_
    refine lv_iadd hx hb dX0_tracks_28 ?_
    exact W.iret (v := (4 * x1) + (T_X0_wayOf p0 p1 p2)) hx hb hr (fun t ht hW => ⟨(4 * x1) + (T_X0_wayOf p0 p1 p2), rfl, (h4), ht⟩) (fun q hq => by cases hq) dX0_tracks_29
  · have h5 := (if_pos c3).symm.trans h2
    refine lv_iconst (v := 0) hx hb dX0_tracks_14 (by decide) ?_
    refine lv_goto (tgt := 29) hx hb dX0_tracks_15 (by decide) ?_
    exact W.iret (v := 0) hx hb hr (fun t ht hW => ⟨0, rfl, (h5), ht⟩) (fun q hq => by cases hq) dX0_tracks_29
def T_X0_cellBy (p0 : Int32) (p1 : Int32) (p2 : Int32) (p3 : Int32) (p4 : Int32) : Int32 :=
  (lt' (p1 / 6) fun x1 => (lt' (p1 - p1 / 6 * 6) fun x3 => (lt' (T_X0_cellsOf p0 p4 x3) fun x5 => (if (T_X0_wayOf p0 p2 p3) = 0 then ((6 * x1) + (if (x3 + x5) < 5 then (x3 + x5) else 5)) else (if (T_X0_wayOf p0 p2 p3) = 1 then ((6 * (if (x1 + x5) < 5 then (x1 + x5) else 5)) + x3) else (if (T_X0_wayOf p0 p2 p3) = 2 then ((6 * x1) + (if 0 < (x3 - x5) then (x3 - x5) else 0)) else ((6 * (if 0 < (x1 - x5) then (x1 - x5) else 0)) + x3)))))))
abbrev rm_X0_cellBy : Room := { frames := 1, cells := 0, slots := 0, locals := 24 }
set_option maxHeartbeats 4000000 in
set_option maxRecDepth 100000 in
theorem c_X0_cellBy (l : Launch) (p0 : Int32) (p1 : Int32) (p2 : Int32) (p3 : Int32) (p4 : Int32) (R0 : Int32) (hT : T_X0_cellBy p0 p1 p2 p3 p4 = R0) : Met l yX0_cellBy wsX0_cellBy rm_X0_cellBy (va_Pc [.int p0, .int p1, .int p2, .int p3, .int p4] (fun _ => True)) (vp_Si (fun r => r = R0)) 0 0 (fun _ => False) := by
  refine Met.ofW (cc := cX0_cellBy) (maxL := 8) (ret := (some .int)) (by decide) rfl ?_
  intro p e s m args below meth c s₁ B hml hv
  obtain ⟨rfl, -⟩ := hv
  have hx := B.exec
  have hb := B.bytes
  have hr := B.returns
  have hts := atoms_spec (ws := wsX0_cellBy) B.pre
  have hown : s.vm.findClass RX0 = some m.cls := findClass_of_methodNamed B.named
  have hlocks := B.notSynchronized
  have hl := lv_entry [.int p0, .int p1, .int p2, .int p3, .int p4] (n := 8) (Nat.le_of_ble_eq_true rfl)
  rw [lg_entry_eq]
  generalize (lg_sl [.int p0, .int p1, .int p2, .int p3, .int p4] ++ List.replicate (8 - (lg_sl [.int p0, .int p1, .int p2, .int p3, .int p4]).length) Slot.unset).toArray = ls at hl ⊢
  have hl : lv_has ls 8 [(0, .int p0), (1, .int p1), (2, .int p2), (3, .int p3), (4, .int p4)] := hl
  unfold T_X0_cellBy at hT
  refine lv_iload_n hx hb dX0_cellBy_0 rfl (lv_at hl 1 rfl) ?_
  refine lv_bipush (v := 6) hx hb dX0_cellBy_1 (by decide) ?_
  refine lv_idiv hx hb dX0_cellBy_3 (by decide) ?_
  obtain ⟨x1, ex1, h2⟩ := lt_e hT
  refine lv_nm ex1 ?_
  refine lv_istore (lv' := [(5, .int x1), (0, .int p0), (1, .int p1), (2, .int p2), (3, .int p3), (4, .int p4)]) hx hb dX0_cellBy_4 hl (by decide) rfl (fun ls hl => ?_)
  refine lv_iload_n hx hb dX0_cellBy_6 rfl (lv_at hl 2 rfl) ?_
  refine lv_bipush (v := 6) hx hb dX0_cellBy_7 (by decide) ?_
  refine lv_irem hx hb dX0_cellBy_9 (by decide) ?_
  obtain ⟨x3, ex3, h4⟩ := lt_e h2
  refine lv_nm ex3 ?_
  refine lv_istore (lv' := [(6, .int x3), (5, .int x1), (0, .int p0), (1, .int p1), (2, .int p2), (3, .int p3), (4, .int p4)]) hx hb dX0_cellBy_10 hl (by decide) rfl (fun ls hl => ?_)
  refine lv_iload_n hx hb dX0_cellBy_12 rfl (lv_at hl 2 rfl) ?_
  refine lv_iload hx hb dX0_cellBy_13 (lv_at hl 6 rfl) ?_
  refine lv_iload hx hb dX0_cellBy_15 (lv_at hl 0 rfl) ?_
  refine kc_I (W.runS (As := [.int p0, .int p4, .int x3]) (rest := []) ⟨hx, hb, hml, hown, hts⟩ (c_X0_cellsOf l p0 p4 x3 (T_X0_cellsOf p0 p4 x3) rfl) (va_cwS 3 hts gX0_cellBy_X0_cellsOf rfl rfl rfl (by decide +kernel) ⟨(Nat.le_of_ble_eq_true rfl), (Nat.le_of_ble_eq_true rfl)⟩) preT_S rfl rfl hl.1 rfl (lv_room (Nat.le_of_ble_eq_true rfl)) dX0_cellBy_17 ⟨Nat.zero_le _, Nat.zero_le _⟩) ?_
  obtain ⟨x5, ex5, h6⟩ := lt_e h4
  refine lv_nm ex5 ?_
  refine lv_istore (lv' := [(7, .int x5), (6, .int x3), (5, .int x1), (0, .int p0), (1, .int p1), (2, .int p2), (3, .int p3), (4, .int p4)]) hx hb dX0_cellBy_20 hl (by decide) rfl (fun ls hl => ?_)
  refine lv_iload_n hx hb dX0_cellBy_22 rfl (lv_at hl 3 rfl) ?_
  refine lv_iload_n hx hb dX0_cellBy_23 rfl (lv_at hl 5 rfl) ?_
  refine lv_iload_n hx hb dX0_cellBy_24 rfl (lv_at hl 6 rfl) ?_
  refine kc_I (W.runS (As := [.int p0, .int p2, .int p3]) (rest := []) ⟨hx, hb, hml, hown, hts⟩ (c_X0_wayOf l p0 p2 p3 (T_X0_wayOf p0 p2 p3) rfl) (va_cwS 3 hts gX0_cellBy_X0_wayOf rfl rfl rfl (by decide +kernel) ⟨(Nat.le_of_ble_eq_true rfl), (Nat.le_of_ble_eq_true rfl)⟩) preT_S rfl rfl hl.1 rfl (lv_room (Nat.le_of_ble_eq_true rfl)) dX0_cellBy_25 ⟨Nat.zero_le _, Nat.zero_le _⟩) ?_
  rcases Decidable.em ((T_X0_wayOf p0 p2 p3) = 0) with c7 | c7
  · have h8 := (if_pos c7).symm.trans h6
    refine lv_tableIn (tgt := 56) (off := 28) hx hb dX0_cellBy_28 (by rw [c7]; decide) (by rw [c7]; decide) (by rw [c7]; rfl) (by decide) ?_
    refine lv_bipush (v := 6) hx hb dX0_cellBy_56 (by decide) ?_
    refine lv_iload hx hb dX0_cellBy_58 (lv_at hl 2 rfl) ?_
    refine lv_imul hx hb dX0_cellBy_60 ?_
    refine lv_iconst (v := 5) hx hb dX0_cellBy_61 (by decide) ?_
    refine lv_iload hx hb dX0_cellBy_62 (lv_at hl 1 rfl) ?_
    refine lv_iload hx hb dX0_cellBy_64 (lv_at hl 0 rfl) ?_
    refine lv_iadd hx hb dX0_cellBy_66 ?_
    refine va_mmin hx hb (hml.trans hl.1.symm) hown (hts (Cond.methodLink RX0 18 Lib.Math.min.name) (List.mem_of_getElem? (i := 1) rfl)) (hts (Cond.static Lib.Math.min.name) (List.mem_of_getElem? (i := 2) rfl)) (hts (Cond.initialized "java/lang/Math") (List.mem_of_getElem? (i := 3) rfl)) (hts (Cond.code Lib.Math.min.name Lib.Math.min.code 2 (some .int)) (List.mem_of_getElem? (i := 4) rfl)) (Nat.le_of_ble_eq_true rfl) (Nat.le_of_ble_eq_true rfl) (Nat.zero_le _) (Nat.zero_le _) dX0_cellBy_67 ?_
    refine lv_iadd hx hb dX0_cellBy_70 ?_
    exact W.iret (v := (6 * x1) + (if (x3 + x5) < 5 then (x3 + x5) else 5)) hx hb hr (fun t ht hW => ⟨(6 * x1) + (if (x3 + x5) < 5 then (x3 + x5) else 5), rfl, (h8), ht⟩) (fun q hq => by cases hq) dX0_cellBy_71
  · have h9 := (if_neg c7).symm.trans h6
    rcases Decidable.em ((T_X0_wayOf p0 p2 p3) = 1) with c10 | c10
    · have h11 := (if_pos c10).symm.trans h9
      refine lv_tableIn (tgt := 72) (off := 44) hx hb dX0_cellBy_28 (by rw [c10]; decide) (by rw [c10]; decide) (by rw [c10]; rfl) (by decide) ?_
      refine lv_bipush (v := 6) hx hb dX0_cellBy_72 (by decide) ?_
      refine lv_iconst (v := 5) hx hb dX0_cellBy_74 (by decide) ?_
      refine lv_iload hx hb dX0_cellBy_75 (lv_at hl 2 rfl) ?_
      refine lv_iload hx hb dX0_cellBy_77 (lv_at hl 0 rfl) ?_
      refine lv_iadd hx hb dX0_cellBy_79 ?_
      refine va_mmin hx hb (hml.trans hl.1.symm) hown (hts (Cond.methodLink RX0 18 Lib.Math.min.name) (List.mem_of_getElem? (i := 1) rfl)) (hts (Cond.static Lib.Math.min.name) (List.mem_of_getElem? (i := 2) rfl)) (hts (Cond.initialized "java/lang/Math") (List.mem_of_getElem? (i := 3) rfl)) (hts (Cond.code Lib.Math.min.name Lib.Math.min.code 2 (some .int)) (List.mem_of_getElem? (i := 4) rfl)) (Nat.le_of_ble_eq_true rfl) (Nat.le_of_ble_eq_true rfl) (Nat.zero_le _) (Nat.zero_le _) dX0_cellBy_80 ?_
      refine lv_imul hx hb dX0_cellBy_83 ?_
      refine lv_iload hx hb dX0_cellBy_84 (lv_at hl 1 rfl) ?_
      refine lv_iadd hx hb dX0_cellBy_86 ?_
      exact W.iret (v := (6 * (if (x1 + x5) < 5 then (x1 + x5) else 5)) + x3) hx hb hr (fun t ht hW => ⟨(6 * (if (x1 + x5) < 5 then (x1 + x5) else 5)) + x3, rfl, (h11), ht⟩) (fun q hq => by cases hq) dX0_cellBy_87
    · have h12 := (if_neg c10).symm.trans h9
      rcases Decidable.em ((T_X0_wayOf p0 p2 p3) = 2) with c13 | c13
      · have h14 := (if_pos c13).symm.trans h12
        refine lv_tableIn (tgt := 88) (off := 60) hx hb dX0_cellBy_28 (by rw [c13]; decide) (by rw [c13]; decide) (by rw [c13]; rfl) (by decide) ?_
        refine lv_bipush (v := 6) hx hb dX0_cellBy_88 (by decide) ?_
        refine lv_iload hx hb dX0_cellBy_90 (lv_at hl 2 rfl) ?_
        refine lv_imul hx hb dX0_cellBy_92 ?_
        refine lv_iconst (v := 0) hx hb dX0_cellBy_93 (by decide) ?_
        refine lv_iload hx hb dX0_cellBy_94 (lv_at hl 1 rfl) ?_
        refine lv_iload hx hb dX0_cellBy_96 (lv_at hl 0 rfl) ?_
        refine lv_isub hx hb dX0_cellBy_98 ?_
        refine va_mmax hx hb (hml.trans hl.1.symm) hown (hts (Cond.methodLink RX0 24 Lib.Math.max.name) (List.mem_of_getElem? (i := 5) rfl)) (hts (Cond.static Lib.Math.max.name) (List.mem_of_getElem? (i := 6) rfl)) (hts (Cond.initialized "java/lang/Math") (List.mem_of_getElem? (i := 3) rfl)) (hts (Cond.code Lib.Math.max.name Lib.Math.max.code 2 (some .int)) (List.mem_of_getElem? (i := 7) rfl)) (Nat.le_of_ble_eq_true rfl) (Nat.le_of_ble_eq_true rfl) (Nat.zero_le _) (Nat.zero_le _) dX0_cellBy_99 ?_
        refine lv_iadd hx hb dX0_cellBy_102 ?_
        exact W.iret (v := (6 * x1) + (if 0 < (x3 - x5) then (x3 - x5) else 0)) hx hb hr (fun t ht hW => ⟨(6 * x1) + (if 0 < (x3 - x5) then (x3 - x5) else 0), rfl, (h14), ht⟩) (fun q hq => by cases hq) dX0_cellBy_103
      · have h15 := (if_neg c13).symm.trans h12
        refine lv_tableOut (tgt := 104) hx hb dX0_cellBy_28 (by have q0 := lv_neT c7 (k := 0) (a := 0) rfl; have q1 := lv_neT c10 (k := 1) (a := 1) rfl; have q2 := lv_neT c13 (k := 2) (a := 2) rfl; omega) (by decide) ?_
        refine lv_bipush (v := 6) hx hb dX0_cellBy_104 (by decide) ?_
        refine lv_iconst (v := 0) hx hb dX0_cellBy_106 (by decide) ?_
        refine lv_iload hx hb dX0_cellBy_107 (lv_at hl 2 rfl) ?_
        refine lv_iload hx hb dX0_cellBy_109 (lv_at hl 0 rfl) ?_
        refine lv_isub hx hb dX0_cellBy_111 ?_
        refine va_mmax hx hb (hml.trans hl.1.symm) hown (hts (Cond.methodLink RX0 24 Lib.Math.max.name) (List.mem_of_getElem? (i := 5) rfl)) (hts (Cond.static Lib.Math.max.name) (List.mem_of_getElem? (i := 6) rfl)) (hts (Cond.initialized "java/lang/Math") (List.mem_of_getElem? (i := 3) rfl)) (hts (Cond.code Lib.Math.max.name Lib.Math.max.code 2 (some .int)) (List.mem_of_getElem? (i := 7) rfl)) (Nat.le_of_ble_eq_true rfl) (Nat.le_of_ble_eq_true rfl) (Nat.zero_le _) (Nat.zero_le _) dX0_cellBy_112 ?_
        refine lv_imul hx hb dX0_cellBy_115 ?_
        refine lv_iload hx hb dX0_cellBy_116 (lv_at hl 1 rfl) ?_
        refine lv_iadd hx hb dX0_cellBy_118 ?_
        exact W.iret (v := (6 * (if 0 < (x1 - x5) then (x1 - x5) else 0)) + x3) hx hb hr (fun t ht hW => ⟨(6 * (if 0 < (x1 - x5) then (x1 - x5) else 0)) + x3, rfl, (h15), ht⟩) (fun q hq => by cases hq) dX0_cellBy_119
def T_X3_within (p0 : Int32) (p1 : Int32) (p2 : Int32) : Int32 :=
  (jn 0 fun j1 => (if p0 < p1 then j1 else (if p2 < p0 then j1 else 1)))
abbrev rm_X3_within : Room := { frames := 0, cells := 0, slots := 0, locals := 0 }
set_option maxHeartbeats 4000000 in
set_option maxRecDepth 100000 in
theorem c_X3_within (l : Launch) (p0 : Int32) (p1 : Int32) (p2 : Int32) (R0 : Int32) (hT : T_X3_within p0 p1 p2 = R0) : Met l yX3_within wsX3_within rm_X3_within (va_Pc [.int p0, .int p1, .int p2] (fun _ => True)) (vp_Si (fun r => r = R0 ∧ nb r)) 0 0 (fun _ => False) := by
  refine Met.ofW (cc := cX3_within) (maxL := 3) (ret := (some .boolean)) (by decide) rfl ?_
  intro p e s m args below meth c s₁ B hml hv
  obtain ⟨rfl, -⟩ := hv
  have hx := B.exec
  have hb := B.bytes
  have hr := B.returns
  have hts := atoms_spec (ws := wsX3_within) B.pre
  have hown : s.vm.findClass RX3 = some m.cls := findClass_of_methodNamed B.named
  have hlocks := B.notSynchronized
  have hl := lv_entry [.int p0, .int p1, .int p2] (n := 3) (Nat.le_of_ble_eq_true rfl)
  rw [lg_entry_eq]
  generalize (lg_sl [.int p0, .int p1, .int p2] ++ List.replicate (3 - (lg_sl [.int p0, .int p1, .int p2]).length) Slot.unset).toArray = ls at hl ⊢
  have hl : lv_has ls 3 [(0, .int p0), (1, .int p1), (2, .int p2)] := hl
  unfold T_X3_within at hT
  refine lv_iload_n hx hb dX3_within_0 rfl (lv_at hl 0 rfl) ?_
  refine lv_iload_n hx hb dX3_within_1 rfl (lv_at hl 1 rfl) ?_
  obtain ⟨j1, hj2, h3⟩ := jn_e hT
  have Jj1 : ∀ (ls : Array Slot), j1 = R0 → lv_has ls 3 [] → W p l e (headSpec wsX3_within rm_X3_within).room s m ([.int p0, .int p1, .int p2] : List Value).toArray below meth c s.heap [] 0 0 (MQ below (vp_Si (fun r => r = R0 ∧ nb r)) ([.int p0, .int p1, .int p2] : List Value).toArray s 0 0 (fun _ => False)) (F0 m 14 ls []) := by
    intro ls h4 hl
    rw [hj2] at h4
    refine lv_iconst (v := 0) hx hb dX3_within_14 (by decide) ?_
    exact W.zret (v := 0) hx hb hr (nb_n nb_0) (fun t ht hW => ⟨0, rfl, ⟨h4, nb_0⟩, ht⟩) (fun q hq => by cases hq) dX3_within_15
  refine lv_icmp_lt (tgt := 14) hx hb dX3_within_2 (by decide) (fun c5 => ?_) (fun c5 => ?_)
  · have h6 := (if_pos c5).symm.trans h3
    exact Jj1  _ h6 (lv_sub hl [] rfl)
  · have h7 := (if_neg c5).symm.trans h3
    refine lv_iload_n hx hb dX3_within_5 rfl (lv_at hl 0 rfl) ?_
    refine lv_iload_n hx hb dX3_within_6 rfl (lv_at hl 2 rfl) ?_
    refine lv_icmp_gt (tgt := 14) hx hb dX3_within_7 (by decide) (fun c8 => ?_) (fun c8 => ?_)
    · have h9 := (if_pos c8).symm.trans h7
      exact Jj1  _ h9 (lv_sub hl [] rfl)
    · have h10 := (if_neg c8).symm.trans h7
      refine lv_iconst (v := 1) hx hb dX3_within_10 (by decide) ?_
      refine lv_goto (tgt := 15) hx hb dX3_within_11 (by decide) ?_
      exact W.zret (v := 1) hx hb hr (nb_n nb_1) (fun t ht hW => ⟨1, rfl, ⟨h10, nb_1⟩, ht⟩) (fun q hq => by cases hq) dX3_within_15
def T_X3_isKind (p0 : Int32) : Int32 :=
  (T_X3_within p0 0 5)
abbrev rm_X3_isKind : Room := { frames := 1, cells := 0, slots := 0, locals := 22 }
set_option maxHeartbeats 4000000 in
set_option maxRecDepth 100000 in
theorem c_X3_isKind (l : Launch) (p0 : Int32) (R0 : Int32) (hT : T_X3_isKind p0 = R0) : Met l yX3_isKind wsX3_isKind rm_X3_isKind (va_Pc [.int p0] (fun _ => True)) (vp_Si (fun r => r = R0 ∧ nb r)) 0 0 (fun _ => False) := by
  refine Met.ofW (cc := cX3_isKind) (maxL := 1) (ret := (some .boolean)) (by decide) rfl ?_
  intro p e s m args below meth c s₁ B hml hv
  obtain ⟨rfl, -⟩ := hv
  have hx := B.exec
  have hb := B.bytes
  have hr := B.returns
  have hts := atoms_spec (ws := wsX3_isKind) B.pre
  have hown : s.vm.findClass RX3 = some m.cls := findClass_of_methodNamed B.named
  have hlocks := B.notSynchronized
  have hl := lv_entry [.int p0] (n := 1) (Nat.le_of_ble_eq_true rfl)
  rw [lg_entry_eq]
  generalize (lg_sl [.int p0] ++ List.replicate (1 - (lg_sl [.int p0]).length) Slot.unset).toArray = ls at hl ⊢
  have hl : lv_has ls 1 [(0, .int p0)] := hl
  unfold T_X3_isKind at hT
  refine lv_iload_n hx hb dX3_isKind_0 rfl (lv_at hl 0 rfl) ?_
  refine lv_iconst (v := 0) hx hb dX3_isKind_1 (by decide) ?_
  refine lv_iconst (v := 5) hx hb dX3_isKind_2 (by decide) ?_
  refine kc_Z (W.runS (As := [.int p0, .int 0, .int 5]) (rest := []) ⟨hx, hb, hml, hown, hts⟩ (c_X3_within l p0 0 5 (T_X3_within p0 0 5) rfl) (va_cwS 3 hts gX3_isKind_X3_within rfl rfl rfl (by decide +kernel) ⟨(Nat.le_of_ble_eq_true rfl), (Nat.le_of_ble_eq_true rfl)⟩) preT_S rfl rfl hl.1 rfl (lv_room (Nat.le_of_ble_eq_true rfl)) dX3_isKind_3 ⟨Nat.zero_le _, Nat.zero_le _⟩) (fun hn1 => ?_)
  exact W.zret (v := (T_X3_within p0 0 5)) hx hb hr (nb_n hn1) (fun t ht hW => ⟨(T_X3_within p0 0 5), rfl, ⟨hT, hn1⟩, ht⟩) (fun q hq => by cases hq) dX3_isKind_6
def T_X3_isCell (p0 : Int32) : Int32 :=
  (T_X3_within p0 0 35)
abbrev rm_X3_isCell : Room := { frames := 1, cells := 0, slots := 0, locals := 22 }
set_option maxHeartbeats 4000000 in
set_option maxRecDepth 100000 in
theorem c_X3_isCell (l : Launch) (p0 : Int32) (R0 : Int32) (hT : T_X3_isCell p0 = R0) : Met l yX3_isCell wsX3_isCell rm_X3_isCell (va_Pc [.int p0] (fun _ => True)) (vp_Si (fun r => r = R0 ∧ nb r)) 0 0 (fun _ => False) := by
  refine Met.ofW (cc := cX3_isCell) (maxL := 1) (ret := (some .boolean)) (by decide) rfl ?_
  intro p e s m args below meth c s₁ B hml hv
  obtain ⟨rfl, -⟩ := hv
  have hx := B.exec
  have hb := B.bytes
  have hr := B.returns
  have hts := atoms_spec (ws := wsX3_isCell) B.pre
  have hown : s.vm.findClass RX3 = some m.cls := findClass_of_methodNamed B.named
  have hlocks := B.notSynchronized
  have hl := lv_entry [.int p0] (n := 1) (Nat.le_of_ble_eq_true rfl)
  rw [lg_entry_eq]
  generalize (lg_sl [.int p0] ++ List.replicate (1 - (lg_sl [.int p0]).length) Slot.unset).toArray = ls at hl ⊢
  have hl : lv_has ls 1 [(0, .int p0)] := hl
  unfold T_X3_isCell at hT
  refine lv_iload_n hx hb dX3_isCell_0 rfl (lv_at hl 0 rfl) ?_
  refine lv_iconst (v := 0) hx hb dX3_isCell_1 (by decide) ?_
  refine lv_bipush (v := 35) hx hb dX3_isCell_2 (by decide) ?_
  refine kc_Z (W.runS (As := [.int p0, .int 0, .int 35]) (rest := []) ⟨hx, hb, hml, hown, hts⟩ (c_X3_within l p0 0 35 (T_X3_within p0 0 35) rfl) (va_cwS 3 hts gX3_isCell_X3_within rfl rfl rfl (by decide +kernel) ⟨(Nat.le_of_ble_eq_true rfl), (Nat.le_of_ble_eq_true rfl)⟩) preT_S rfl rfl hl.1 rfl (lv_room (Nat.le_of_ble_eq_true rfl)) dX3_isCell_4 ⟨Nat.zero_le _, Nat.zero_le _⟩) (fun hn1 => ?_)
  exact W.zret (v := (T_X3_within p0 0 35)) hx hb hr (nb_n hn1) (fun t ht hW => ⟨(T_X3_within p0 0 35), rfl, ⟨hT, hn1⟩, ht⟩) (fun q hq => by cases hq) dX3_isCell_7
def T_X3_isWind (p0 : Int32) (p1 : Int32) : Int32 :=
  (jn 0 fun j2 => (if (T_X3_within p0 0 3) = 0 then j2 else (if (T_X3_within p1 0 3) = 0 then j2 else 1)))
abbrev rm_X3_isWind : Room := { frames := 1, cells := 0, slots := 0, locals := 22 }
set_option maxHeartbeats 4000000 in
set_option maxRecDepth 100000 in
theorem c_X3_isWind (l : Launch) (p0 : Int32) (p1 : Int32) (R0 : Int32) (hT : T_X3_isWind p0 p1 = R0) : Met l yX3_isWind wsX3_isWind rm_X3_isWind (va_Pc [.int p0, .int p1] (fun _ => True)) (vp_Si (fun r => r = R0 ∧ nb r)) 0 0 (fun _ => False) := by
  refine Met.ofW (cc := cX3_isWind) (maxL := 2) (ret := (some .boolean)) (by decide) rfl ?_
  intro p e s m args below meth c s₁ B hml hv
  obtain ⟨rfl, -⟩ := hv
  have hx := B.exec
  have hb := B.bytes
  have hr := B.returns
  have hts := atoms_spec (ws := wsX3_isWind) B.pre
  have hown : s.vm.findClass RX3 = some m.cls := findClass_of_methodNamed B.named
  have hlocks := B.notSynchronized
  have hl := lv_entry [.int p0, .int p1] (n := 2) (Nat.le_of_ble_eq_true rfl)
  rw [lg_entry_eq]
  generalize (lg_sl [.int p0, .int p1] ++ List.replicate (2 - (lg_sl [.int p0, .int p1]).length) Slot.unset).toArray = ls at hl ⊢
  have hl : lv_has ls 2 [(0, .int p0), (1, .int p1)] := hl
  unfold T_X3_isWind at hT
  refine lv_iload_n hx hb dX3_isWind_0 rfl (lv_at hl 0 rfl) ?_
  refine lv_iconst (v := 0) hx hb dX3_isWind_1 (by decide) ?_
  refine lv_iconst (v := 3) hx hb dX3_isWind_2 (by decide) ?_
  refine kc_Z (W.runS (As := [.int p0, .int 0, .int 3]) (rest := []) ⟨hx, hb, hml, hown, hts⟩ (c_X3_within l p0 0 3 (T_X3_within p0 0 3) rfl) (va_cwS 3 hts gX3_isWind_X3_within rfl rfl rfl (by decide +kernel) ⟨(Nat.le_of_ble_eq_true rfl), (Nat.le_of_ble_eq_true rfl)⟩) preT_S rfl rfl hl.1 rfl (lv_room (Nat.le_of_ble_eq_true rfl)) dX3_isWind_3 ⟨Nat.zero_le _, Nat.zero_le _⟩) (fun hn1 => ?_)
  obtain ⟨j2, hj3, h4⟩ := jn_e hT
  have Jj2 : ∀ (ls : Array Slot), j2 = R0 → lv_has ls 2 [] → W p l e (headSpec wsX3_isWind rm_X3_isWind).room s m ([.int p0, .int p1] : List Value).toArray below meth c s.heap [] 0 0 (MQ below (vp_Si (fun r => r = R0 ∧ nb r)) ([.int p0, .int p1] : List Value).toArray s 0 0 (fun _ => False)) (F0 m 22 ls []) := by
    intro ls h5 hl
    rw [hj3] at h5
    refine lv_iconst (v := 0) hx hb dX3_isWind_22 (by decide) ?_
    exact W.zret (v := 0) hx hb hr (nb_n nb_0) (fun t ht hW => ⟨0, rfl, ⟨h5, nb_0⟩, ht⟩) (fun q hq => by cases hq) dX3_isWind_23
  refine lv_if_eq (tgt := 22) hx hb dX3_isWind_6 (by decide) (fun c6 => ?_) (fun c6 => ?_)
  · have h7 := (if_pos c6).symm.trans h4
    exact Jj2  _ h7 (lv_sub hl [] rfl)
  · have h8 := (if_neg c6).symm.trans h4
    refine lv_iload_n hx hb dX3_isWind_9 rfl (lv_at hl 1 rfl) ?_
    refine lv_iconst (v := 0) hx hb dX3_isWind_10 (by decide) ?_
    refine lv_iconst (v := 3) hx hb dX3_isWind_11 (by decide) ?_
    refine kc_Z (W.runS (As := [.int p1, .int 0, .int 3]) (rest := []) ⟨hx, hb, hml, hown, hts⟩ (c_X3_within l p1 0 3 (T_X3_within p1 0 3) rfl) (va_cwS 3 hts gX3_isWind_X3_within rfl rfl rfl (by decide +kernel) ⟨(Nat.le_of_ble_eq_true rfl), (Nat.le_of_ble_eq_true rfl)⟩) preT_S rfl rfl hl.1 rfl (lv_room (Nat.le_of_ble_eq_true rfl)) dX3_isWind_12 ⟨Nat.zero_le _, Nat.zero_le _⟩) (fun hn9 => ?_)
    refine lv_if_eq (tgt := 22) hx hb dX3_isWind_15 (by decide) (fun c10 => ?_) (fun c10 => ?_)
    · have h11 := (if_pos c10).symm.trans h8
      exact Jj2  _ h11 (lv_sub hl [] rfl)
    · have h12 := (if_neg c10).symm.trans h8
      refine lv_iconst (v := 1) hx hb dX3_isWind_18 (by decide) ?_
      refine lv_goto (tgt := 23) hx hb dX3_isWind_19 (by decide) ?_
      exact W.zret (v := 1) hx hb hr (nb_n nb_1) (fun t ht hW => ⟨1, rfl, ⟨h12, nb_1⟩, ht⟩) (fun q hq => by cases hq) dX3_isWind_23
def T_X3_isFirstOrSecond (p0 : Int32) : Int32 :=
  (T_X3_within p0 0 1)
abbrev rm_X3_isFirstOrSecond : Room := { frames := 1, cells := 0, slots := 0, locals := 22 }
set_option maxHeartbeats 4000000 in
set_option maxRecDepth 100000 in
theorem c_X3_isFirstOrSecond (l : Launch) (p0 : Int32) (R0 : Int32) (hT : T_X3_isFirstOrSecond p0 = R0) : Met l yX3_isFirstOrSecond wsX3_isFirstOrSecond rm_X3_isFirstOrSecond (va_Pc [.int p0] (fun _ => True)) (vp_Si (fun r => r = R0 ∧ nb r)) 0 0 (fun _ => False) := by
  refine Met.ofW (cc := cX3_isFirstOrSecond) (maxL := 1) (ret := (some .boolean)) (by decide) rfl ?_
  intro p e s m args below meth c s₁ B hml hv
  obtain ⟨rfl, -⟩ := hv
  have hx := B.exec
  have hb := B.bytes
  have hr := B.returns
  have hts := atoms_spec (ws := wsX3_isFirstOrSecond) B.pre
  have hown : s.vm.findClass RX3 = some m.cls := findClass_of_methodNamed B.named
  have hlocks := B.notSynchronized
  have hl := lv_entry [.int p0] (n := 1) (Nat.le_of_ble_eq_true rfl)
  rw [lg_entry_eq]
  generalize (lg_sl [.int p0] ++ List.replicate (1 - (lg_sl [.int p0]).length) Slot.unset).toArray = ls at hl ⊢
  have hl : lv_has ls 1 [(0, .int p0)] := hl
  unfold T_X3_isFirstOrSecond at hT
  refine lv_iload_n hx hb dX3_isFirstOrSecond_0 rfl (lv_at hl 0 rfl) ?_
  refine lv_iconst (v := 0) hx hb dX3_isFirstOrSecond_1 (by decide) ?_
  refine lv_iconst (v := 1) hx hb dX3_isFirstOrSecond_2 (by decide) ?_
  refine kc_Z (W.runS (As := [.int p0, .int 0, .int 1]) (rest := []) ⟨hx, hb, hml, hown, hts⟩ (c_X3_within l p0 0 1 (T_X3_within p0 0 1) rfl) (va_cwS 3 hts gX3_isFirstOrSecond_X3_within rfl rfl rfl (by decide +kernel) ⟨(Nat.le_of_ble_eq_true rfl), (Nat.le_of_ble_eq_true rfl)⟩) preT_S rfl rfl hl.1 rfl (lv_room (Nat.le_of_ble_eq_true rfl)) dX3_isFirstOrSecond_3 ⟨Nat.zero_le _, Nat.zero_le _⟩) (fun hn1 => ?_)
  exact W.zret (v := (T_X3_within p0 0 1)) hx hb hr (nb_n hn1) (fun t ht hW => ⟨(T_X3_within p0 0 1), rfl, ⟨hT, hn1⟩, ht⟩) (fun q hq => by cases hq) dX3_isFirstOrSecond_6
def T_X3_isOut (p0 : Int32) : Int32 :=
  (if (p0 - p0 / 6 * 6) = 5 then 1 else 0)
abbrev rm_X3_isOut : Room := { frames := 0, cells := 0, slots := 0, locals := 0 }
set_option maxHeartbeats 4000000 in
set_option maxRecDepth 100000 in
theorem c_X3_isOut (l : Launch) (p0 : Int32) (R0 : Int32) (hT : T_X3_isOut p0 = R0) : Met l yX3_isOut wsX3_isOut rm_X3_isOut (va_Pc [.int p0] (fun _ => True)) (vp_Si (fun r => r = R0 ∧ nb r)) 0 0 (fun _ => False) := by
  refine Met.ofW (cc := cX3_isOut) (maxL := 1) (ret := (some .boolean)) (by decide) rfl ?_
  intro p e s m args below meth c s₁ B hml hv
  obtain ⟨rfl, -⟩ := hv
  have hx := B.exec
  have hb := B.bytes
  have hr := B.returns
  have hts := atoms_spec (ws := wsX3_isOut) B.pre
  have hown : s.vm.findClass RX3 = some m.cls := findClass_of_methodNamed B.named
  have hlocks := B.notSynchronized
  have hl := lv_entry [.int p0] (n := 1) (Nat.le_of_ble_eq_true rfl)
  rw [lg_entry_eq]
  generalize (lg_sl [.int p0] ++ List.replicate (1 - (lg_sl [.int p0]).length) Slot.unset).toArray = ls at hl ⊢
  have hl : lv_has ls 1 [(0, .int p0)] := hl
  unfold T_X3_isOut at hT
  refine lv_iload_n hx hb dX3_isOut_0 rfl (lv_at hl 0 rfl) ?_
  refine lv_bipush (v := 6) hx hb dX3_isOut_1 (by decide) ?_
  refine lv_irem hx hb dX3_isOut_3 (by decide) ?_
  refine lv_iconst (v := 5) hx hb dX3_isOut_4 (by decide) ?_
  refine lv_icmp_ne (tgt := 12) hx hb dX3_isOut_5 (by decide) (fun c1 => ?_) (fun c1 => ?_)
  · have h2 := (if_neg c1).symm.trans hT
    refine lv_iconst (v := 0) hx hb dX3_isOut_12 (by decide) ?_
    exact W.zret (v := 0) hx hb hr (nb_n nb_0) (fun t ht hW => ⟨0, rfl, ⟨h2, nb_0⟩, ht⟩) (fun q hq => by cases hq) dX3_isOut_13
  · have h3 := (if_pos c1).symm.trans hT
    refine lv_iconst (v := 1) hx hb dX3_isOut_8 (by decide) ?_
    refine lv_goto (tgt := 13) hx hb dX3_isOut_9 (by decide) ?_
    exact W.zret (v := 1) hx hb hr (nb_n nb_1) (fun t ht hW => ⟨1, rfl, ⟨h3, nb_1⟩, ht⟩) (fun q hq => by cases hq) dX3_isOut_13
def T_X3_far (p0 : Int32) (p1 : Int32) : Int32 :=
  ((if 0 ≤ ((p0 / 6) - (p1 / 6)) then ((p0 / 6) - (p1 / 6)) else 0 - ((p0 / 6) - (p1 / 6))) + (if 0 ≤ ((p0 - p0 / 6 * 6) - (p1 - p1 / 6 * 6)) then ((p0 - p0 / 6 * 6) - (p1 - p1 / 6 * 6)) else 0 - ((p0 - p0 / 6 * 6) - (p1 - p1 / 6 * 6))))
abbrev rm_X3_far : Room := { frames := 1, cells := 0, slots := 0, locals := 21 }
set_option maxHeartbeats 4000000 in
set_option maxRecDepth 100000 in
theorem c_X3_far (l : Launch) (p0 : Int32) (p1 : Int32) (R0 : Int32) (hT : T_X3_far p0 p1 = R0) : Met l yX3_far wsX3_far rm_X3_far (va_Pc [.int p0, .int p1] (fun _ => True)) (vp_Si (fun r => r = R0)) 0 0 (fun _ => False) := by
  refine Met.ofW (cc := cX3_far) (maxL := 2) (ret := (some .int)) (by decide) rfl ?_
  intro p e s m args below meth c s₁ B hml hv
  obtain ⟨rfl, -⟩ := hv
  have hx := B.exec
  have hb := B.bytes
  have hr := B.returns
  have hts := atoms_spec (ws := wsX3_far) B.pre
  have hown : s.vm.findClass RX3 = some m.cls := findClass_of_methodNamed B.named
  have hlocks := B.notSynchronized
  have hl := lv_entry [.int p0, .int p1] (n := 2) (Nat.le_of_ble_eq_true rfl)
  rw [lg_entry_eq]
  generalize (lg_sl [.int p0, .int p1] ++ List.replicate (2 - (lg_sl [.int p0, .int p1]).length) Slot.unset).toArray = ls at hl ⊢
  have hl : lv_has ls 2 [(0, .int p0), (1, .int p1)] := hl
  unfold T_X3_far at hT
  refine lv_iload_n hx hb dX3_far_0 rfl (lv_at hl 0 rfl) ?_
  refine lv_bipush (v := 6) hx hb dX3_far_1 (by decide) ?_
  refine lv_idiv hx hb dX3_far_3 (by decide) ?_
  refine lv_iload_n hx hb dX3_far_4 rfl (lv_at hl 1 rfl) ?_
  refine lv_bipush (v := 6) hx hb dX3_far_5 (by decide) ?_
  refine lv_idiv hx hb dX3_far_7 (by decide) ?_
  refine lv_isub hx hb dX3_far_8 ?_
  refine va_mabs hx hb (hml.trans hl.1.symm) hown (hts (Cond.methodLink RX3 247 Lib.Math.abs.name) (List.mem_of_getElem? (i := 1) rfl)) (hts (Cond.static Lib.Math.abs.name) (List.mem_of_getElem? (i := 2) rfl)) (hts (Cond.initialized "java/lang/Math") (List.mem_of_getElem? (i := 3) rfl)) (hts (Cond.code Lib.Math.abs.name Lib.Math.abs.code 1 (some .int)) (List.mem_of_getElem? (i := 4) rfl)) (Nat.le_of_ble_eq_true rfl) (Nat.le_of_ble_eq_true rfl) (Nat.zero_le _) (Nat.zero_le _) dX3_far_9 ?_
  refine lv_iload_n hx hb dX3_far_12 rfl (lv_at hl 0 rfl) ?_
  refine lv_bipush (v := 6) hx hb dX3_far_13 (by decide) ?_
  refine lv_irem hx hb dX3_far_15 (by decide) ?_
  refine lv_iload_n hx hb dX3_far_16 rfl (lv_at hl 1 rfl) ?_
  refine lv_bipush (v := 6) hx hb dX3_far_17 (by decide) ?_
  refine lv_irem hx hb dX3_far_19 (by decide) ?_
  refine lv_isub hx hb dX3_far_20 ?_
  refine va_mabs hx hb (hml.trans hl.1.symm) hown (hts (Cond.methodLink RX3 247 Lib.Math.abs.name) (List.mem_of_getElem? (i := 1) rfl)) (hts (Cond.static Lib.Math.abs.name) (List.mem_of_getElem? (i := 2) rfl)) (hts (Cond.initialized "java/lang/Math") (List.mem_of_getElem? (i := 3) rfl)) (hts (Cond.code Lib.Math.abs.name Lib.Math.abs.code 1 (some .int)) (List.mem_of_getElem? (i := 4) rfl)) (Nat.le_of_ble_eq_true rfl) (Nat.le_of_ble_eq_true rfl) (Nat.zero_le _) (Nat.zero_le _) dX3_far_21 ?_
  refine lv_iadd hx hb dX3_far_24 ?_
  exact W.iret (v := (if 0 ≤ ((p0 / 6) - (p1 / 6)) then ((p0 / 6) - (p1 / 6)) else 0 - ((p0 / 6) - (p1 / 6))) + (if 0 ≤ ((p0 - p0 / 6 * 6) - (p1 - p1 / 6 * 6)) then ((p0 - p0 / 6 * 6) - (p1 - p1 / 6 * 6)) else 0 - ((p0 - p0 / 6 * 6) - (p1 - p1 / 6 * 6)))) hx hb hr (fun t ht hW => ⟨(if 0 ≤ ((p0 / 6) - (p1 / 6)) then ((p0 / 6) - (p1 / 6)) else 0 - ((p0 / 6) - (p1 / 6))) + (if 0 ≤ ((p0 - p0 / 6 * 6) - (p1 - p1 / 6 * 6)) then ((p0 - p0 / 6 * 6) - (p1 - p1 / 6 * 6)) else 0 - ((p0 - p0 / 6 * 6) - (p1 - p1 / 6 * 6))), rfl, (hT), ht⟩) (fun q hq => by cases hq) dX3_far_25
def T_X3_dogMonths (p0 : Int32) : Int32 :=
  (((p0 + 2) - 1) / 2)
abbrev rm_X3_dogMonths : Room := { frames := 0, cells := 0, slots := 0, locals := 0 }
set_option maxHeartbeats 4000000 in
set_option maxRecDepth 100000 in
theorem c_X3_dogMonths (l : Launch) (p0 : Int32) (R0 : Int32) (hT : T_X3_dogMonths p0 = R0) : Met l yX3_dogMonths wsX3_dogMonths rm_X3_dogMonths (va_Pc [.int p0] (fun _ => True)) (vp_Si (fun r => r = R0)) 0 0 (fun _ => False) := by
  refine Met.ofW (cc := cX3_dogMonths) (maxL := 1) (ret := (some .int)) (by decide) rfl ?_
  intro p e s m args below meth c s₁ B hml hv
  obtain ⟨rfl, -⟩ := hv
  have hx := B.exec
  have hb := B.bytes
  have hr := B.returns
  have hts := atoms_spec (ws := wsX3_dogMonths) B.pre
  have hown : s.vm.findClass RX3 = some m.cls := findClass_of_methodNamed B.named
  have hlocks := B.notSynchronized
  have hl := lv_entry [.int p0] (n := 1) (Nat.le_of_ble_eq_true rfl)
  rw [lg_entry_eq]
  generalize (lg_sl [.int p0] ++ List.replicate (1 - (lg_sl [.int p0]).length) Slot.unset).toArray = ls at hl ⊢
  have hl : lv_has ls 1 [(0, .int p0)] := hl
  unfold T_X3_dogMonths at hT
  refine lv_iload_n hx hb dX3_dogMonths_0 rfl (lv_at hl 0 rfl) ?_
  refine lv_iconst (v := 2) hx hb dX3_dogMonths_1 (by decide) ?_
  refine lv_iadd hx hb dX3_dogMonths_2 ?_
  refine lv_iconst (v := 1) hx hb dX3_dogMonths_3 (by decide) ?_
  refine lv_isub hx hb dX3_dogMonths_4 ?_
  refine lv_iconst (v := 2) hx hb dX3_dogMonths_5 (by decide) ?_
  refine lv_idiv hx hb dX3_dogMonths_6 (by decide) ?_
  exact W.iret (v := ((p0 + 2) - 1) / 2) hx hb hr (fun t ht hW => ⟨((p0 + 2) - 1) / 2, rfl, (hT), ht⟩) (fun q hq => by cases hq) dX3_dogMonths_7
def T_X3_commonDivisor_L9 (N : Nat)  (k45 : Int64 → Option Int64) : Nat → Int64 → Int64 → Int32 → Option Int64
  | 0, _, _, _ => none
  | n + 1, x1, x2, x3 => (if 128 ≤ x3 then (k45 x1) else (if (lg_cmp x2 0) = 0 then (k45 x1) else (nz x2 (lt' (x1 - x1 / x2 * x2) fun x16 => (lt' (x3 + 1) fun x18 => (T_X3_commonDivisor_L9 N k45 n x2 x16 x18))))))
theorem T_X3_commonDivisor_L9_s (N : Nat)  (k45 : Int64 → Option Int64) (n : Nat) (x1 : Int64) (x2 : Int64) (x3 : Int32) : T_X3_commonDivisor_L9 N  k45 (n + 1) x1 x2 x3 = (if 128 ≤ x3 then (k45 x1) else (if (lg_cmp x2 0) = 0 then (k45 x1) else (nz x2 (lt' (x1 - x1 / x2 * x2) fun x16 => (lt' (x3 + 1) fun x18 => (T_X3_commonDivisor_L9 N k45 n x2 x16 x18)))))) := rfl
def T_X3_commonDivisor (N : Nat) (p0 : Int64) (p2 : Int64) : Option Int64 :=
  (T_X3_commonDivisor_L9 N (fun (x20 : Int64) => (some x20)) N p0 p2 0)
abbrev rm_X3_commonDivisor : Room := { frames := 0, cells := 0, slots := 0, locals := 0 }
set_option maxHeartbeats 4000000 in
set_option maxRecDepth 100000 in
theorem c_X3_commonDivisor (l : Launch) (N : Nat) (p0 : Int64) (p2 : Int64) (R0 : Int64) (hT : T_X3_commonDivisor N p0 p2 = some R0) : Met l yX3_commonDivisor wsX3_commonDivisor rm_X3_commonDivisor (va_Pc [.long p0, .long p2] (fun _ => True)) (vp_Sl (fun r => r = R0)) 0 0 (fun _ => False) := by
  refine Met.ofW (cc := cX3_commonDivisor) (maxL := 11) (ret := (some .long)) (by decide) rfl ?_
  intro p e s m args below meth c s₁ B hml hv
  obtain ⟨rfl, -⟩ := hv
  have hx := B.exec
  have hb := B.bytes
  have hr := B.returns
  have hts := atoms_spec (ws := wsX3_commonDivisor) B.pre
  have hown : s.vm.findClass RX3 = some m.cls := findClass_of_methodNamed B.named
  have hlocks := B.notSynchronized
  have hl := lv_entry [.long p0, .long p2] (n := 11) (Nat.le_of_ble_eq_true rfl)
  rw [lg_entry_eq]
  generalize (lg_sl [.long p0, .long p2] ++ List.replicate (11 - (lg_sl [.long p0, .long p2]).length) Slot.unset).toArray = ls at hl ⊢
  have hl : lv_has ls 11 [(0, .long p0), (2, .long p2)] := hl
  have L9 : ∀ (k45 : Int64 → Option Int64) (hk45 : ∀ (x4 : Int64) (ls : Array Slot), k45 x4 = some R0 → lv_has ls 11 [(4, .long x4)] → W p l e (headSpec wsX3_commonDivisor rm_X3_commonDivisor).room s m ([.long p0, .long p2] : List Value).toArray below meth c s.heap [] 0 0 (MQ below (vp_Sl (fun r => r = R0)) ([.long p0, .long p2] : List Value).toArray s 0 0 (fun _ => False)) (F0 m 45 ls [])) (n : Nat), ∀ (x1 : Int64) (x2 : Int64) (x3 : Int32) (ls : Array Slot), T_X3_commonDivisor_L9 N k45 n x1 x2 x3 = some R0 → lv_has ls 11 [(4, .long x1), (6, .long x2), (8, .int x3)] → W p l e (headSpec wsX3_commonDivisor rm_X3_commonDivisor).room s m ([.long p0, .long p2] : List Value).toArray below meth c s.heap [] 0 0 (MQ below (vp_Sl (fun r => r = R0)) ([.long p0, .long p2] : List Value).toArray s 0 0 (fun _ => False)) (F0 m 9 ls []) := by
    intro k45 hk45 n
    induction n with
    | zero => intro _ _ _ _ h; exact absurd h (fun z => by cases z)
    | succ n ih =>
      intro x1 x2 x3 ls h5 hl
      rw [T_X3_commonDivisor_L9_s] at h5
      refine lv_iload hx hb dX3_commonDivisor_9 (lv_at hl 2 rfl) ?_
      refine lv_sipush (v := 128) hx hb dX3_commonDivisor_11 (by decide) ?_
      refine lv_icmp_ge (tgt := 45) hx hb dX3_commonDivisor_14 (by decide) (fun c8 => ?_) (fun c8 => ?_)
      · have h9 := (if_pos c8).symm.trans h5
        exact hk45 x1 _ h9 (lv_sub hl [0] rfl)
      · have h10 := (if_neg c8).symm.trans h5
        refine lv_lload hx hb dX3_commonDivisor_17 (lv_at hl 1 rfl) ?_
        refine lv_lconst (v := 0) hx hb dX3_commonDivisor_19 (by decide) ?_
        refine W.lcmp hx hb dX3_commonDivisor_20 ?_
        refine lv_if_eq (tgt := 45) hx hb dX3_commonDivisor_21 (by decide) (fun c11 => ?_) (fun c11 => ?_)
        · have h12 := (if_pos c11).symm.trans h10
          exact hk45 x1 _ h12 (lv_sub hl [0] rfl)
        · have h13 := (if_neg c11).symm.trans h10
          refine lv_lload hx hb dX3_commonDivisor_24 (lv_at hl 0 rfl) ?_
          refine lv_lload hx hb dX3_commonDivisor_26 (lv_at hl 1 rfl) ?_
          obtain ⟨hn15, h14⟩ := nz_e h13
          refine lv_lrem hx hb dX3_commonDivisor_28 hn15 ?_
          obtain ⟨x16, ex16, h17⟩ := lt_e h14
          refine lv_nml ex16 ?_
          refine lv_lstore (lv' := [(9, .long x16), (4, .long x1), (6, .long x2), (8, .int x3)]) hx hb dX3_commonDivisor_29 hl (by decide) rfl (fun ls hl => ?_)
          refine lv_lload hx hb dX3_commonDivisor_31 (lv_at hl 2 rfl) ?_
          refine lv_lstore (lv' := [(4, .long x2), (9, .long x16), (6, .long x2), (8, .int x3)]) hx hb dX3_commonDivisor_33 hl (by decide) rfl (fun ls hl => ?_)
          refine lv_lload hx hb dX3_commonDivisor_35 (lv_at hl 1 rfl) ?_
          refine lv_lstore (lv' := [(6, .long x16), (4, .long x2), (9, .long x16), (8, .int x3)]) hx hb dX3_commonDivisor_37 hl (by decide) rfl (fun ls hl => ?_)
          obtain ⟨x18, ex18, h19⟩ := lt_e h17
          refine lv_iinc (v := x18) (lv' := [(8, .int x18), (6, .long x16), (4, .long x2), (9, .long x16)]) hx hb dX3_commonDivisor_39 hl (k := 3) rfl (by rw [ex18]; rfl) (by decide) rfl (fun ls hl => ?_)
          refine lv_goto (tgt := 9) hx hb dX3_commonDivisor_42 (by decide) ?_
          exact ih x2 x16 x18 _ h19 (lv_sub hl [2, 1, 0] rfl)
  unfold T_X3_commonDivisor at hT
  refine lv_lload_n hx hb dX3_commonDivisor_0 rfl (lv_at hl 0 rfl) ?_
  refine lv_lstore (lv' := [(4, .long p0), (0, .long p0), (2, .long p2)]) hx hb dX3_commonDivisor_1 hl (by decide) rfl (fun ls hl => ?_)
  refine lv_lload_n hx hb dX3_commonDivisor_3 rfl (lv_at hl 2 rfl) ?_
  refine lv_lstore (lv' := [(6, .long p2), (4, .long p0), (0, .long p0), (2, .long p2)]) hx hb dX3_commonDivisor_4 hl (by decide) rfl (fun ls hl => ?_)
  refine lv_iconst (v := 0) hx hb dX3_commonDivisor_6 (by decide) ?_
  refine lv_istore (lv' := [(8, .int 0), (6, .long p2), (4, .long p0), (0, .long p0), (2, .long p2)]) hx hb dX3_commonDivisor_7 hl (by decide) rfl (fun ls hl => ?_)
  refine L9 _ (fun x20 ls h21 hl => ?_) N p0 p2 0 _ hT (lv_sub hl [2, 1, 0] rfl)
  refine lv_lload hx hb dX3_commonDivisor_45 (lv_at hl 0 rfl) ?_
  exact W.lret (v := x20) hx hb hr (fun t ht hW => ⟨x20, rfl, (Option.some.inj h21), ht⟩) (fun q hq => by cases hq) dX3_commonDivisor_47
def T_J7_fill_d0a16_L6 (N : Nat) (p1 : Int64) (y5 : Int32) (n0 : Nat)  : Nat → Int32 → (Nat → Int64) → Option ((Nat → Int64))
  | 0, _, _ => none
  | n + 1, x3, z4 => (if y5 ≤ x3 then (some z4) else (ob x3 n0 (lt' (x3 + 1) fun x16 => (T_J7_fill_d0a16_L6 N p1 y5 n0 n x16 (vp_updL z4 x3.toNatClampNeg p1)))))
theorem T_J7_fill_d0a16_L6_s (N : Nat) (p1 : Int64) (y5 : Int32) (n0 : Nat)  (n : Nat) (x3 : Int32) (z4 : Nat → Int64) : T_J7_fill_d0a16_L6 N p1 y5 n0  (n + 1) x3 z4 = (if y5 ≤ x3 then (some z4) else (ob x3 n0 (lt' (x3 + 1) fun x16 => (T_J7_fill_d0a16_L6 N p1 y5 n0 n x16 (vp_updL z4 x3.toNatClampNeg p1))))) := rfl
def T_J7_fill_d0a16 (N : Nat) (n0 : Nat) (gp0 : Nat → Int64) (p1 : Int64) : Option (Nat → Int64) :=
  (lt' (Int32.ofNat n0) fun x1 => (T_J7_fill_d0a16_L6 N p1 x1 n0 N 0 gp0))
abbrev rm_J7_fill_d0a16 : Room := { frames := 0, cells := 0, slots := 0, locals := 0 }
set_option maxHeartbeats 4000000 in
set_option maxRecDepth 100000 in
theorem c_J7_fill_d0a16 (l : Launch) (D : va_G) (cyI cyJ cyS : ClassId) (N : Nat) (q0 n0 : Nat) (gp0 : Nat → Int64) (p1 : Int64) (sz : Nat) (R0 : (Nat → Int64)) (hT : T_J7_fill_d0a16 N n0 gp0 p1 = some R0) : Met l yJ7_fill_d0a16 wsJ7_fill_d0a16 rm_J7_fill_d0a16 (va_Pc [.ref q0, .long p1] (preW D (tyS cyI cyJ cyS) [rJ cyJ q0 n0 gp0] sz)) (va_Qv (fun (_ : Unit) => True) (fun _ t => va_P D vwCl [rJ cyJ q0 n0 R0] t.heap ∧ va_D (va_A [rJ cyJ q0 n0 gp0] sz) [rJ cyJ q0 n0 R0]) (va_A [rJ cyJ q0 n0 gp0] sz)) 0 0 (va_A [rJ cyJ q0 n0 gp0] sz) := by
  refine Met.ofW (cc := cJ7_fill_d0a16) (maxL := 5) (ret := none) (by decide) rfl ?_
  intro p e s m args below meth c s₁ B hml hv
  obtain ⟨rfl, hsz, hP, hKK, hD0⟩ := hv
  have hx := B.exec
  have hb := B.bytes
  have hr := B.returns
  have hts := atoms_spec (ws := wsJ7_fill_d0a16) B.pre
  have hown : s.vm.findClass RJ7 = some m.cls := findClass_of_methodNamed B.named
  have hlocks := B.notSynchronized
  have hK := hKK.1
  subst hsz
  have hD := hD0.self (sz := s.heap.size)
  generalize hAe : va_A [rJ cyJ q0 n0 gp0] s.heap.size = A at hD ⊢
  have hA : ∀ q : Nat, s.heap.size ≤ q → A q := fun q h => by rw [← hAe]; exact Or.inr h
  have hS : va_S A s.heap s.heap [] := va_S.rf
  have hP : va_P D vwCl [rJ cyJ q0 n0 gp0] s.heap := hP
  have hl := lv_entry [.ref q0, .long p1] (n := 5) (Nat.le_of_ble_eq_true rfl)
  rw [lg_entry_eq]
  generalize (lg_sl [.ref q0, .long p1] ++ List.replicate (5 - (lg_sl [.ref q0, .long p1]).length) Slot.unset).toArray = ls at hl ⊢
  have hl : lv_has ls 5 [(0, .ref q0), (1, .long p1)] := hl
  have L6 : ∀ (y5 : Int32) (n : Nat), ∀ (x3 : Int32) (z4 : Nat → Int64) (H : Heap) (locs : List Loc) (ls : Array Slot), T_J7_fill_d0a16_L6 N p1 y5 n0 n x3 z4 = some R0 → va_P D vwCl [rJ cyJ q0 n0 z4] H → va_D A [rJ cyJ q0 n0 z4] → va_S A s.heap H locs → lv_has ls 5 [(0, .ref q0), (1, .long p1), (3, .int x3), (4, .int y5)] → W p l e (headSpec wsJ7_fill_d0a16 rm_J7_fill_d0a16).room s m ([.ref q0, .long p1] : List Value).toArray below meth c H locs 0 0 (MQ below (va_Qv (fun (_ : Unit) => True) (fun _ t => va_P D vwCl [rJ cyJ q0 n0 R0] t.heap ∧ va_D A [rJ cyJ q0 n0 R0]) A) ([.ref q0, .long p1] : List Value).toArray s 0 0 A) (F0 m 6 ls []) := by
    intro y5 n
    induction n with
    | zero => intro _ _ _ _ _ h; exact absurd h (fun z => by cases z)
    | succ n ih =>
      intro x3 z4 H7 L8 ls h6 hP hD hS hl
      rw [T_J7_fill_d0a16_L6_s] at h6
      refine lv_iload_n hx hb dJ7_fill_d0a16_6 rfl (lv_at hl 2 rfl) ?_
      refine lv_iload hx hb dJ7_fill_d0a16_7 (lv_at hl 3 rfl) ?_
      refine lv_icmp_ge (tgt := 22) hx hb dJ7_fill_d0a16_9 (by decide) (fun c9 => ?_) (fun c9 => ?_)
      · have h10 := (if_pos c9).symm.trans h6
        rw [← Option.some.inj h10]
        exact W.vret hx hb hr (fun t ht hW => ⟨⟨(), rfl, trivial, ⟨by rw [ht]; exact hP, hD⟩⟩, hS.F ht⟩) hS.2.2 dJ7_fill_d0a16_22
      · have h11 := (if_neg c9).symm.trans h6
        refine lv_aload_n hx hb dJ7_fill_d0a16_12 rfl (lv_at hl 0 rfl) ?_
        refine lv_iload_n hx hb dJ7_fill_d0a16_13 rfl (lv_at hl 2 rfl) ?_
        refine lv_lload_n hx hb dJ7_fill_d0a16_14 rfl (lv_at hl 1 rfl) ?_
        obtain ⟨hi13, h12⟩ := ob_e h11
        refine va_last hx hb hK hP hD hS 0 1 rfl rfl hi13 dJ7_fill_d0a16_15 (fun H14 L15 hP hD hS => ?_)
        have hP : va_P D vwCl [rJ cyJ q0 n0 (vp_updL z4 x3.toNatClampNeg p1)] H14 := hP
        have hD : va_D A [rJ cyJ q0 n0 (vp_updL z4 x3.toNatClampNeg p1)] := hD
        obtain ⟨x16, ex16, h17⟩ := lt_e h12
        refine lv_iinc (v := x16) (lv' := [(3, .int x16), (0, .ref q0), (1, .long p1), (4, .int y5)]) hx hb dJ7_fill_d0a16_16 hl (k := 2) rfl (by rw [ex16]; rfl) (by decide) rfl (fun ls hl => ?_)
        refine lv_goto (tgt := 6) hx hb dJ7_fill_d0a16_19 (by decide) ?_
        exact ih x16 (vp_updL z4 x3.toNatClampNeg p1) _ _ _ h17 hP hD hS (lv_sub hl [1, 2, 0, 3] rfl)
  unfold T_J7_fill_d0a16 at hT
  refine lv_iconst (v := 0) hx hb dJ7_fill_d0a16_0 (by decide) ?_
  refine lv_istore_n (lv' := [(3, .int 0), (0, .ref q0), (1, .long p1)]) hx hb dJ7_fill_d0a16_1 rfl hl (by decide) rfl (fun ls hl => ?_)
  refine lv_aload_n hx hb dJ7_fill_d0a16_2 rfl (lv_at hl 1 rfl) ?_
  refine va_alen (v := Int32.ofNat n0) hx hb hK hP 0 1 rfl rfl rfl dJ7_fill_d0a16_3 ?_
  obtain ⟨x1, ex1, h2⟩ := lt_e hT
  refine lv_nm ex1 ?_
  refine lv_istore (lv' := [(4, .int x1), (3, .int 0), (0, .ref q0), (1, .long p1)]) hx hb dJ7_fill_d0a16_4 hl (by decide) rfl (fun ls hl => ?_)
  refine L6 x1 N 0 gp0 _ _ _ h2 hP hD hS (lv_sub hl [2, 3, 1, 0] rfl)
def T_J7_fill_53178_L5 (N : Nat) (p1 : Int32) (y5 : Int32) (n0 : Nat)  : Nat → Int32 → (Nat → Int32) → Option ((Nat → Int32))
  | 0, _, _ => none
  | n + 1, x3, z4 => (if y5 ≤ x3 then (some z4) else (ob x3 n0 (lt' (x3 + 1) fun x16 => (T_J7_fill_53178_L5 N p1 y5 n0 n x16 (upd z4 x3.toNatClampNeg p1)))))
theorem T_J7_fill_53178_L5_s (N : Nat) (p1 : Int32) (y5 : Int32) (n0 : Nat)  (n : Nat) (x3 : Int32) (z4 : Nat → Int32) : T_J7_fill_53178_L5 N p1 y5 n0  (n + 1) x3 z4 = (if y5 ≤ x3 then (some z4) else (ob x3 n0 (lt' (x3 + 1) fun x16 => (T_J7_fill_53178_L5 N p1 y5 n0 n x16 (upd z4 x3.toNatClampNeg p1))))) := rfl
def T_J7_fill_53178 (N : Nat) (n0 : Nat) (gp0 : Nat → Int32) (p1 : Int32) : Option (Nat → Int32) :=
  (lt' (Int32.ofNat n0) fun x1 => (T_J7_fill_53178_L5 N p1 x1 n0 N 0 gp0))
abbrev rm_J7_fill_53178 : Room := { frames := 0, cells := 0, slots := 0, locals := 0 }
set_option maxHeartbeats 4000000 in
set_option maxRecDepth 100000 in
theorem c_J7_fill_53178 (l : Launch) (D : va_G) (cyI cyJ cyS : ClassId) (N : Nat) (q0 n0 : Nat) (gp0 : Nat → Int32) (p1 : Int32) (sz : Nat) (R0 : (Nat → Int32)) (hT : T_J7_fill_53178 N n0 gp0 p1 = some R0) : Met l yJ7_fill_53178 wsJ7_fill_53178 rm_J7_fill_53178 (va_Pc [.ref q0, .int p1] (preW D (tyS cyI cyJ cyS) [rI cyI q0 n0 gp0] sz)) (va_Qv (fun (_ : Unit) => True) (fun _ t => va_P D vwCl [rI cyI q0 n0 R0] t.heap ∧ va_D (va_A [rI cyI q0 n0 gp0] sz) [rI cyI q0 n0 R0]) (va_A [rI cyI q0 n0 gp0] sz)) 0 0 (va_A [rI cyI q0 n0 gp0] sz) := by
  refine Met.ofW (cc := cJ7_fill_53178) (maxL := 4) (ret := none) (by decide) rfl ?_
  intro p e s m args below meth c s₁ B hml hv
  obtain ⟨rfl, hsz, hP, hKK, hD0⟩ := hv
  have hx := B.exec
  have hb := B.bytes
  have hr := B.returns
  have hts := atoms_spec (ws := wsJ7_fill_53178) B.pre
  have hown : s.vm.findClass RJ7 = some m.cls := findClass_of_methodNamed B.named
  have hlocks := B.notSynchronized
  have hK := hKK.1
  subst hsz
  have hD := hD0.self (sz := s.heap.size)
  generalize hAe : va_A [rI cyI q0 n0 gp0] s.heap.size = A at hD ⊢
  have hA : ∀ q : Nat, s.heap.size ≤ q → A q := fun q h => by rw [← hAe]; exact Or.inr h
  have hS : va_S A s.heap s.heap [] := va_S.rf
  have hP : va_P D vwCl [rI cyI q0 n0 gp0] s.heap := hP
  have hl := lv_entry [.ref q0, .int p1] (n := 4) (Nat.le_of_ble_eq_true rfl)
  rw [lg_entry_eq]
  generalize (lg_sl [.ref q0, .int p1] ++ List.replicate (4 - (lg_sl [.ref q0, .int p1]).length) Slot.unset).toArray = ls at hl ⊢
  have hl : lv_has ls 4 [(0, .ref q0), (1, .int p1)] := hl
  have L5 : ∀ (y5 : Int32) (n : Nat), ∀ (x3 : Int32) (z4 : Nat → Int32) (H : Heap) (locs : List Loc) (ls : Array Slot), T_J7_fill_53178_L5 N p1 y5 n0 n x3 z4 = some R0 → va_P D vwCl [rI cyI q0 n0 z4] H → va_D A [rI cyI q0 n0 z4] → va_S A s.heap H locs → lv_has ls 4 [(0, .ref q0), (1, .int p1), (2, .int x3), (3, .int y5)] → W p l e (headSpec wsJ7_fill_53178 rm_J7_fill_53178).room s m ([.ref q0, .int p1] : List Value).toArray below meth c H locs 0 0 (MQ below (va_Qv (fun (_ : Unit) => True) (fun _ t => va_P D vwCl [rI cyI q0 n0 R0] t.heap ∧ va_D A [rI cyI q0 n0 R0]) A) ([.ref q0, .int p1] : List Value).toArray s 0 0 A) (F0 m 5 ls []) := by
    intro y5 n
    induction n with
    | zero => intro _ _ _ _ _ h; exact absurd h (fun z => by cases z)
    | succ n ih =>
      intro x3 z4 H7 L8 ls h6 hP hD hS hl
      rw [T_J7_fill_53178_L5_s] at h6
      refine lv_iload_n hx hb dJ7_fill_53178_5 rfl (lv_at hl 2 rfl) ?_
      refine lv_iload_n hx hb dJ7_fill_53178_6 rfl (lv_at hl 3 rfl) ?_
      refine lv_icmp_ge (tgt := 20) hx hb dJ7_fill_53178_7 (by decide) (fun c9 => ?_) (fun c9 => ?_)
      · have h10 := (if_pos c9).symm.trans h6
        rw [← Option.some.inj h10]
        exact W.vret hx hb hr (fun t ht hW => ⟨⟨(), rfl, trivial, ⟨by rw [ht]; exact hP, hD⟩⟩, hS.F ht⟩) hS.2.2 dJ7_fill_53178_20
      · have h11 := (if_neg c9).symm.trans h6
        refine lv_aload_n hx hb dJ7_fill_53178_10 rfl (lv_at hl 0 rfl) ?_
        refine lv_iload_n hx hb dJ7_fill_53178_11 rfl (lv_at hl 2 rfl) ?_
        refine lv_iload_n hx hb dJ7_fill_53178_12 rfl (lv_at hl 1 rfl) ?_
        obtain ⟨hi13, h12⟩ := ob_e h11
        refine va_iast hx hb hK hP hD hS 0 0 rfl rfl hi13 dJ7_fill_53178_13 (fun H14 L15 hP hD hS => ?_)
        have hP : va_P D vwCl [rI cyI q0 n0 (upd z4 x3.toNatClampNeg p1)] H14 := hP
        have hD : va_D A [rI cyI q0 n0 (upd z4 x3.toNatClampNeg p1)] := hD
        obtain ⟨x16, ex16, h17⟩ := lt_e h12
        refine lv_iinc (v := x16) (lv' := [(2, .int x16), (0, .ref q0), (1, .int p1), (3, .int y5)]) hx hb dJ7_fill_53178_14 hl (k := 2) rfl (by rw [ex16]; rfl) (by decide) rfl (fun ls hl => ?_)
        refine lv_goto (tgt := 5) hx hb dJ7_fill_53178_17 (by decide) ?_
        exact ih x16 (upd z4 x3.toNatClampNeg p1) _ _ _ h17 hP hD hS (lv_sub hl [1, 2, 0, 3] rfl)
  unfold T_J7_fill_53178 at hT
  refine lv_iconst (v := 0) hx hb dJ7_fill_53178_0 (by decide) ?_
  refine lv_istore_n (lv' := [(2, .int 0), (0, .ref q0), (1, .int p1)]) hx hb dJ7_fill_53178_1 rfl hl (by decide) rfl (fun ls hl => ?_)
  refine lv_aload_n hx hb dJ7_fill_53178_2 rfl (lv_at hl 1 rfl) ?_
  refine va_alen (v := Int32.ofNat n0) hx hb hK hP 0 0 rfl rfl rfl dJ7_fill_53178_3 ?_
  obtain ⟨x1, ex1, h2⟩ := lt_e hT
  refine lv_nm ex1 ?_
  refine lv_istore_n (lv' := [(3, .int x1), (2, .int 0), (0, .ref q0), (1, .int p1)]) hx hb dJ7_fill_53178_4 rfl hl (by decide) rfl (fun ls hl => ?_)
  refine L5 x1 N 0 gp0 _ _ _ h2 hP hD hS (lv_sub hl [2, 3, 1, 0] rfl)
