/-! the law tells a sea -/
abbrev rm_L_sea : Room := { frames := 3, cells := 0, slots := 0, locals := 67 }

set_option maxHeartbeats 8000000 in
set_option maxRecDepth 100000 in
theorem se_a {p : Program} {l : Launch} {en : Env} {s0 : State} {m : MethodId} {args : Array Value} {below : List Frame} {meth : Method} {co : Code} (F : CallFix p m co cL_sea 9 s0 args wsL_sea RL) {D : va_G} {cyI cyJ cyS : ClassId} (hKK : KK D (tyS cyI cyJ cyS) s0) {A : Nat → Prop} (hA : ∀ q, s0.heap.size ≤ q → A q) {a a_now a_spare a_text : Nat → Nat} {qd : Nat} {bs Ls : Nat} {xs : Nat → Int32} (hL : Ls ≤ 260) (hX : va_X bs Ls xs s0 s0.heap) (hbl : bs < s0.heap.size) (hbA : ¬ A bs) {Q : State → Prop} {F5 : Nat} (hF1 : 1 ≤ F5) (hF5 : F5 ≤ 5) {dv : Nat → Int32} {mo : Nat} {Wi Gi Ki Ce Fd FR NR UR : Nat → Nat} {ab be : Int64} {H : Heap} {locs : List Loc} {ls : Array Slot} (hck : 0 ≤ (headSpec wsL_sea rm_L_sea).room.cells ∧ 0 ≤ (headSpec wsL_sea rm_L_sea).room.slots) (hST : ST D cyI cyJ cyS a a_now a_spare a_text qd dv A s0.heap mo 0 0 0 0 Wi Gi Ki Ce Fd FR NR UR none ab be H locs) (hl : lv_has ls 9 [(0, .ref ((a 0))), (1, .ref bs), (2, .int (nI F5)), (3, .ref qd)]) (kont : ∀ (dv1 : Nat → Int32) (mo1 : Nat) (hmo1 : mo1 ≤ 99) (hd16 : dv1 16 = nI mo1) (H1 : Heap) (locs1 : List Loc) (ls1 : Array Slot), ST D cyI cyJ cyS a a_now a_spare a_text qd dv1 A s0.heap mo1 0 0 0 0 ((fun _ => 0)) ((fun _ => 1)) ((fun _ => 0)) ((fun _ => 0)) ((fun _ => 0)) ((fun _ => 0)) ((fun _ => 0)) ((fun _ => 0)) none ab be H1 locs1 → lv_has ls1 9 [(0, .ref ((a 0))), (1, .ref bs), (2, .int (nI F5)), (3, .ref qd), (4, .int (nI 1))] → W p l en (headSpec wsL_sea rm_L_sea).room s0 m args below meth co H1 locs1 0 0 Q (F0 m 37 ls1 [])) : W p l en (headSpec wsL_sea rm_L_sea).room s0 m args below meth co H locs 0 0 Q (F0 m 0 ls []) := by
  obtain ⟨hx, hb, hml, hown, hts⟩ := id F
  refine lv_aload_n hx hb dL_sea_0 rfl (lv_at hl 3 rfl) ?_
  refine lv_bipush (v := nI 15) hx hb dL_sea_1 (by decide) ?_
  refine lv_iload_n hx hb dL_sea_3 rfl (lv_at hl 2 rfl) ?_
  refine lk_dput F hKK hA dL_sea_4 15 (by omega) (nI F5) hST (fun H locs hST => ?_)
  refine lv_aload_n hx hb dL_sea_5 rfl (lv_at hl 3 rfl) ?_
  refine lv_bipush (v := nI 16) hx hb dL_sea_6 (by decide) ?_
  refine lv_aload_n hx hb dL_sea_8 rfl (lv_at hl 1 rfl) ?_
  refine lv_iconst (v := nI 0) hx hb dL_sea_9 (by decide) ?_
  refine lk_cell F hKK hA gL_sea_L_cell ⟨(Nat.le_of_ble_eq_true rfl), (Nat.le_of_ble_eq_true rfl)⟩ hck dL_sea_10 hl.1 (Nat.le_of_ble_eq_true rfl) hL hX hbl hbA hST 0 (by omega) (fun x6 => ?_)
  refine lv_bipush (v := nI 100) hx hb dL_sea_13 (by decide) ?_
  refine lk_low F gL_sea_L_low ⟨(Nat.le_of_ble_eq_true rfl), (Nat.le_of_ble_eq_true rfl)⟩ hck dL_sea_15 hl.1 (Nat.le_of_ble_eq_true rfl) _ 100 (by omega) (by omega) (fun j hj => ?_)
  refine lk_dput F hKK hA dL_sea_18 16 (by omega) (nI j) hST (fun H locs hST => ?_)
  refine lv_aload_n hx hb dL_sea_19 rfl (lv_at hl 0 rfl) ?_
  refine lv_aload_n hx hb dL_sea_20 rfl (lv_at hl 3 rfl) ?_
  refine lv_bipush (v := nI 16) hx hb dL_sea_21 (by decide) ?_
  refine lk_dget F hKK hA dL_sea_23 16 (by omega) hST ?_
  refine lv_nm (show nI j = (upd (upd dv 15 (nI F5)) 16 (nI j)) 16 from pk_us.symm) ?_
  refine lk_sea F hKK hA gL_sea_X3_sea ⟨(Nat.le_of_ble_eq_true rfl), (Nat.le_of_ble_eq_true rfl)⟩ hck dL_sea_24 hl.1 (Nat.le_of_ble_eq_true rfl) hST j (by omega) (fun H locs hST => ?_)
  refine lv_if_lt (tgt := 34) hx hb dL_sea_27 (by decide) (fun cz => absurd cz (by decide : ¬ (nI 0 < 0))) (fun _ => ?_)
  refine lv_iconst (v := nI 1) hx hb dL_sea_30 (by decide) ?_
  refine lv_goto (tgt := 35) hx hb dL_sea_31 (by decide) ?_
  refine lv_istore (lv' := [(4, .int (nI 1)), (0, .ref ((a 0))), (1, .ref bs), (2, .int (nI F5)), (3, .ref qd)]) hx hb dL_sea_35 hl (by decide) rfl (fun ls hl => ?_)
  exact kont _ j (by omega) pk_us _ _ _ hST (lv_sub hl [1, 2, 3, 4, 0] rfl)

set_option maxHeartbeats 8000000 in
set_option maxRecDepth 100000 in
theorem se_b {p : Program} {l : Launch} {en : Env} {s0 : State} {m : MethodId} {args : Array Value} {below : List Frame} {meth : Method} {co : Code} (F : CallFix p m co cL_sea 9 s0 args wsL_sea RL) {D : va_G} {cyI cyJ cyS : ClassId} (hKK : KK D (tyS cyI cyJ cyS) s0) {A : Nat → Prop} (hA : ∀ q, s0.heap.size ≤ q → A q) {a a_now a_spare a_text : Nat → Nat} {qd : Nat} {bs Ls : Nat} {xs : Nat → Int32} (hL : Ls ≤ 260) (hX : va_X bs Ls xs s0 s0.heap) (hbl : bs < s0.heap.size) (hbA : ¬ A bs) {Q : State → Prop} {F5 : Nat} (hF1 : 1 ≤ F5) (hF5 : F5 ≤ 5) {mo : Nat} {Ki Ce Fd FR NR UR : Nat → Nat} {ab be : Int64} (hck : 0 ≤ (headSpec wsL_sea rm_L_sea).room.cells ∧ 0 ≤ (headSpec wsL_sea rm_L_sea).room.slots) (kont : ∀ (dv : Nat → Int32) (Wi Gi : Nat → Nat) (H1 : Heap) (locs1 : List Loc) (ls1 : Array Slot), (∀ i, i < 12 → dv (17 + i) = nI (Wi i + 4 * Gi i)) → dv 16 = nI mo → ST D cyI cyJ cyS a a_now a_spare a_text qd dv A s0.heap mo 0 0 0 0 Wi Gi Ki Ce Fd FR NR UR none ab be H1 locs1 → lv_has ls1 9 [(0, .ref ((a 0))), (1, .ref bs), (2, .int (nI F5)), (3, .ref qd), (4, .int (nI 1))] → W p l en (headSpec wsL_sea rm_L_sea).room s0 m args below meth co H1 locs1 0 0 Q (F0 m 147 ls1 [])) : ∀ (d k : Nat) (dv : Nat → Int32) (Wi Gi : Nat → Nat) (H : Heap) (locs : List Loc) (ls : Array Slot), k + d = 12 → (∀ i, i < k → dv (17 + i) = nI (Wi i + 4 * Gi i)) → dv 16 = nI mo → (∀ i, k ≤ i → i < 12 → Wi i = 0 ∧ Gi i = 1) → ST D cyI cyJ cyS a a_now a_spare a_text qd dv A s0.heap mo 0 0 0 0 Wi Gi Ki Ce Fd FR NR UR none ab be H locs → lv_has ls 9 [(0, .ref ((a 0))), (1, .ref bs), (2, .int (nI F5)), (3, .ref qd), (4, .int (nI 1)), (5, .int (nI k))] → W p l en (headSpec wsL_sea rm_L_sea).room s0 m args below meth co H locs 0 0 Q (F0 m 40 ls []) := by
  obtain ⟨hx, hb, hml, hown, hts⟩ := id F
  intro d
  induction d with
  | zero =>
    intro k dv Wi Gi H locs ls hkn hdk hd16 hWG hST hl
    refine lv_iload hx hb dL_sea_40 (lv_at hl 5 rfl) ?_
    refine lv_bipush (v := nI 12) hx hb dL_sea_42 (by decide) ?_
    refine lv_icmp_ge (tgt := 147) hx hb dL_sea_44 (by decide) (fun _ => ?_) (fun cz => absurd (show nI 12 ≤ nI k by rw [nI_leI (by omega) (by omega)]; omega) cz)
    exact kont _ _ _ _ _ _ (fun i hi => hdk i (by omega)) hd16 hST (lv_sub hl [0, 1, 2, 3, 4] rfl)
  | succ d ih =>
    intro k dv Wi Gi H locs ls hkn hdk hd16 hWG hST hl
    obtain ⟨hmo, hnf, hun, hW, hG, hK5, hC35, hD99⟩ := ST_ok hST
    have wg := hWG k (Nat.le_refl _) (by omega)
    have hw0 := wg.1
    have hg1 := wg.2
    refine lv_iload hx hb dL_sea_40 (lv_at hl 5 rfl) ?_
    refine lv_bipush (v := nI 12) hx hb dL_sea_42 (by decide) ?_
    refine lv_icmp_ge (tgt := 147) hx hb dL_sea_44 (by decide) (fun cz => absurd cz (show ¬ (nI 12 ≤ nI k) by rw [nI_leI (by omega) (by omega)]; omega)) (fun _ => ?_)
    refine lv_aload_n hx hb dL_sea_47 rfl (lv_at hl 1 rfl) ?_
    refine lv_iconst (v := nI 1) hx hb dL_sea_48 (by decide) ?_
    refine lv_iload hx hb dL_sea_49 (lv_at hl 5 rfl) ?_
    refine lv_bipush (v := nI 6) hx hb dL_sea_51 (by decide) ?_
    refine lv_idiv hx hb dL_sea_53 (by decide) ?_
    refine lv_nm (pk_div (a := k) (d := 6) (by omega) (by omega) (by omega)).symm ?_
    refine lv_iadd hx hb dL_sea_54 ?_
    refine lv_nm (nI_add 1 (k / 6)).symm ?_
    refine lk_cell F hKK hA gL_sea_L_cell ⟨(Nat.le_of_ble_eq_true rfl), (Nat.le_of_ble_eq_true rfl)⟩ hck dL_sea_55 hl.1 (Nat.le_of_ble_eq_true rfl) hL hX hbl hbA hST (1 + (k / 6)) (by omega) (fun x6 => ?_)
    refine lv_iconst (v := nI 4) hx hb dL_sea_58 (by decide) ?_
    refine lv_iload hx hb dL_sea_59 (lv_at hl 5 rfl) ?_
    refine lv_bipush (v := nI 6) hx hb dL_sea_61 (by decide) ?_
    refine lv_irem hx hb dL_sea_63 (by decide) ?_
    refine lv_nm (pk_rem (a := k) (d := 6) (by omega) (by omega) (by omega)).symm ?_
    refine lv_imul hx hb dL_sea_64 ?_
    refine lv_nm (pk_mul 4 (k % 6)).symm ?_
    refine lv_ishr hx hb dL_sea_65 ?_
    obtain ⟨v6, hv6⟩ : ∃ z : Int32, z = x6 >>> (nI (4 * (k % 6)) &&& 31) := ⟨_, rfl⟩
    refine lv_nm (show v6 = x6 >>> ((nI (4 * (k % 6))) &&& 31) from hv6) ?_
    refine lv_istore (lv' := [(6, .int v6), (0, .ref ((a 0))), (1, .ref bs), (2, .int (nI F5)), (3, .ref qd), (4, .int (nI 1)), (5, .int (nI k))]) hx hb dL_sea_66 hl (by decide) rfl (fun ls hl => ?_)
    refine lv_iload hx hb dL_sea_68 (lv_at hl 0 rfl) ?_
    refine lv_iconst (v := nI 3) hx hb dL_sea_70 (by decide) ?_
    refine lk_low F gL_sea_L_low ⟨(Nat.le_of_ble_eq_true rfl), (Nat.le_of_ble_eq_true rfl)⟩ hck dL_sea_71 hl.1 (Nat.le_of_ble_eq_true rfl) _ 3 (by omega) (by omega) (fun j hj => ?_)
    have J : ∀ w : Nat, w ≤ 3 → W p l en (headSpec wsL_sea rm_L_sea).room s0 m args below meth co H locs 0 0 Q (F0 m 89 ls (.int (nI w) :: [])) := by
      intro w hw
      refine lv_istore (lv' := [(7, .int (nI w)), (6, .int v6), (0, .ref ((a 0))), (1, .ref bs), (2, .int (nI F5)), (3, .ref qd), (4, .int (nI 1)), (5, .int (nI k))]) hx hb dL_sea_89 hl (by decide) rfl (fun ls hl => ?_)
      refine lv_iload hx hb dL_sea_91 (lv_at hl 1 rfl) ?_
      refine lv_iconst (v := nI 1) hx hb dL_sea_93 (by decide) ?_
      refine lv_ishr hx hb dL_sea_94 ?_
      refine lv_iconst (v := nI 4) hx hb dL_sea_95 (by decide) ?_
      refine lk_low F gL_sea_L_low ⟨(Nat.le_of_ble_eq_true rfl), (Nat.le_of_ble_eq_true rfl)⟩ hck dL_sea_96 hl.1 (Nat.le_of_ble_eq_true rfl) _ 4 (by omega) (by omega) (fun sg hsg => ?_)
      refine lv_istore (lv' := [(8, .int (nI sg)), (7, .int (nI w)), (6, .int v6), (0, .ref ((a 0))), (1, .ref bs), (2, .int (nI F5)), (3, .ref qd), (4, .int (nI 1)), (5, .int (nI k))]) hx hb dL_sea_99 hl (by decide) rfl (fun ls hl => ?_)
      refine lv_aload_n hx hb dL_sea_101 rfl (lv_at hl 6 rfl) ?_
      refine lv_bipush (v := nI 17) hx hb dL_sea_102 (by decide) ?_
      refine lv_iload hx hb dL_sea_104 (lv_at hl 8 rfl) ?_
      refine lv_iadd hx hb dL_sea_106 ?_
      refine lv_nm (nI_add 17 k).symm ?_
      refine lv_iload hx hb dL_sea_107 (lv_at hl 1 rfl) ?_
      refine lv_iconst (v := nI 4) hx hb dL_sea_109 (by decide) ?_
      refine lv_iload hx hb dL_sea_110 (lv_at hl 0 rfl) ?_
      refine lv_imul hx hb dL_sea_112 ?_
      refine lv_nm (pk_mul 4 sg).symm ?_
      refine lv_iadd hx hb dL_sea_113 ?_
      refine lv_nm (nI_add w (4 * sg)).symm ?_
      refine lk_dput F hKK hA dL_sea_114 (17 + k) (by omega) (nI (w + (4 * sg))) hST (fun H locs hST => ?_)
      refine lv_iload hx hb dL_sea_115 (lv_at hl 7 rfl) ?_
      refine lv_if_eq (tgt := 138) hx hb dL_sea_117 (by decide) (fun cz => absurd cz (show ¬ (nI 1 = nI 0) by rw [nI_eq (by omega) (by omega)]; omega)) (fun _ => ?_)
      refine lv_aload_n hx hb dL_sea_120 rfl (lv_at hl 3 rfl) ?_
      refine lv_iload hx hb dL_sea_121 (lv_at hl 8 rfl) ?_
      refine lv_iload hx hb dL_sea_123 (lv_at hl 1 rfl) ?_
      refine lv_iload hx hb dL_sea_125 (lv_at hl 0 rfl) ?_
      refine lk_wind F hKK hA gL_sea_X3_wind ⟨(Nat.le_of_ble_eq_true rfl), (Nat.le_of_ble_eq_true rfl)⟩ hck dL_sea_127 hl.1 (Nat.le_of_ble_eq_true rfl) hST k w sg (by omega) (by omega) (by omega) (fun H locs hST => ?_)
      refine lv_iconst (v := nI 1) hx hb dL_sea_130 (by decide) ?_
      refine lv_icmp_ne (tgt := 138) hx hb dL_sea_131 (by decide) (fun cz => absurd (show nI (10 * Wi k + Gi k) = nI 1 by rw [hw0, hg1]) cz) (fun _ => ?_)
      refine lv_iconst (v := nI 1) hx hb dL_sea_134 (by decide) ?_
      refine lv_goto (tgt := 139) hx hb dL_sea_135 (by decide) ?_
      refine lv_istore (lv' := [(4, .int (nI 1)), (8, .int (nI sg)), (7, .int (nI w)), (6, .int v6), (0, .ref ((a 0))), (1, .ref bs), (2, .int (nI F5)), (3, .ref qd), (5, .int (nI k))]) hx hb dL_sea_139 hl (by decide) rfl (fun ls hl => ?_)
      refine lv_iinc (v := nI (k + 1)) (lv' := [(5, .int (nI (k + 1))), (4, .int (nI 1)), (8, .int (nI sg)), (7, .int (nI w)), (6, .int v6), (0, .ref ((a 0))), (1, .ref bs), (2, .int (nI F5)), (3, .ref qd)]) hx hb dL_sea_141 hl (k := 8) rfl (by rw [show Int32.ofInt 1 = nI 1 from by decide, nI_add]) (by decide) rfl (fun ls hl => ?_)
      refine lv_goto (tgt := 40) hx hb dL_sea_144 (by decide) ?_
      refine ih (k + 1) _ _ _ _ _ _ (by omega) (fun i hi => ?_) ?_ (fun i h1 h2 => ?_) hST (lv_sub hl [5, 6, 7, 8, 1, 0] rfl)
      · by_cases e : i = k
        · subst e; rw [pk_us, upn_s, upn_s]
        · rw [pk_un (by omega), upn_n e, upn_n e]; exact hdk i (by omega)
      · rw [pk_un (by omega)]; exact hd16
      · rw [upn_n (by omega), upn_n (by omega)]; exact hWG i (by omega) h2
    refine lv_if_ne (tgt := 88) hx hb dL_sea_74 (by decide) (fun cj => ?_) (fun cf => ?_)
    · skip
      refine lv_iconst (v := nI 0) hx hb dL_sea_88 (by decide) ?_
      exact J 0 (by omega)
    · skip
      refine lv_iload hx hb dL_sea_77 (lv_at hl 0 rfl) ?_
      refine lv_iconst (v := nI 2) hx hb dL_sea_79 (by decide) ?_
      refine lv_ishr hx hb dL_sea_80 ?_
      refine lv_iconst (v := nI 4) hx hb dL_sea_81 (by decide) ?_
      refine lk_low F gL_sea_L_low ⟨(Nat.le_of_ble_eq_true rfl), (Nat.le_of_ble_eq_true rfl)⟩ hck dL_sea_82 hl.1 (Nat.le_of_ble_eq_true rfl) _ 4 (by omega) (by omega) (fun w hw => ?_)
      refine lv_goto (tgt := 89) hx hb dL_sea_85 (by decide) ?_
      exact J w (by omega)

set_option maxHeartbeats 8000000 in
set_option maxRecDepth 100000 in
theorem se_c {p : Program} {l : Launch} {en : Env} {s0 : State} {m : MethodId} {args : Array Value} {below : List Frame} {meth : Method} {co : Code} (F : CallFix p m co cL_sea 9 s0 args wsL_sea RL) {D : va_G} {cyI cyJ cyS : ClassId} (hKK : KK D (tyS cyI cyJ cyS) s0) {A : Nat → Prop} (hA : ∀ q, s0.heap.size ≤ q → A q) {a a_now a_spare a_text : Nat → Nat} {qd : Nat} {bs Ls : Nat} {xs : Nat → Int32} (hL : Ls ≤ 260) (hX : va_X bs Ls xs s0 s0.heap) (hbl : bs < s0.heap.size) (hbA : ¬ A bs) {Q : State → Prop} {F5 : Nat} (hF1 : 1 ≤ F5) (hF5 : F5 ≤ 5) {mo : Nat} {Wi Gi FR NR UR : Nat → Nat} {ab be : Int64} (hck : 0 ≤ (headSpec wsL_sea rm_L_sea).room.cells ∧ 0 ≤ (headSpec wsL_sea rm_L_sea).room.slots) (kont : ∀ (dv : Nat → Int32) (Ki Ce Fd : Nat → Nat) (H1 : Heap) (locs1 : List Loc) (ls1 : Array Slot), (∀ i, i < 12 → dv (17 + i) = nI (Wi i + 4 * Gi i)) → dv 16 = nI mo → ST D cyI cyJ cyS a a_now a_spare a_text qd dv A s0.heap mo F5 0 0 0 Wi Gi Ki Ce Fd FR NR UR none ab be H1 locs1 → lv_has ls1 9 [(0, .ref ((a 0))), (1, .ref bs), (2, .int (nI F5)), (3, .ref qd), (4, .int (nI 1))] → W p l en (headSpec wsL_sea rm_L_sea).room s0 m args below meth co H1 locs1 0 0 Q (F0 m 270 ls1 [])) : ∀ (d k : Nat) (dv : Nat → Int32) (Ki Ce Fd : Nat → Nat) (H : Heap) (locs : List Loc) (ls : Array Slot), k + d = F5 → (∀ i, i < 12 → dv (17 + i) = nI (Wi i + 4 * Gi i)) → dv 16 = nI mo → ST D cyI cyJ cyS a a_now a_spare a_text qd dv A s0.heap mo k 0 0 0 Wi Gi Ki Ce Fd FR NR UR none ab be H locs → lv_has ls 9 [(0, .ref ((a 0))), (1, .ref bs), (2, .int (nI F5)), (3, .ref qd), (4, .int (nI 1)), (5, .int (nI k))] → W p l en (headSpec wsL_sea rm_L_sea).room s0 m args below meth co H locs 0 0 Q (F0 m 150 ls []) := by
  obtain ⟨hx, hb, hml, hown, hts⟩ := id F
  intro d
  induction d with
  | zero =>
    intro k dv Ki Ce Fd H locs ls hkn hdW hd16 hST hl
    obtain rfl : k = F5 := by omega
    refine lv_iload hx hb dL_sea_150 (lv_at hl 5 rfl) ?_
    refine lv_iload_n hx hb dL_sea_152 rfl (lv_at hl 2 rfl) ?_
    refine lv_icmp_ge (tgt := 270) hx hb dL_sea_153 (by decide) (fun _ => ?_) (fun cz => absurd (show nI k ≤ nI k by rw [nI_leI (by omega) (by omega)]; omega) cz)
    exact kont _ _ _ _ _ _ _ hdW hd16 hST (lv_sub hl [0, 1, 2, 3, 4] rfl)
  | succ d ih =>
    intro k dv Ki Ce Fd H locs ls hkn hdW hd16 hST hl
    refine lv_iload hx hb dL_sea_150 (lv_at hl 5 rfl) ?_
    refine lv_iload_n hx hb dL_sea_152 rfl (lv_at hl 2 rfl) ?_
    refine lv_icmp_ge (tgt := 270) hx hb dL_sea_153 (by decide) (fun cz => absurd cz (show ¬ (nI F5 ≤ nI k) by rw [nI_leI (by omega) (by omega)]; omega)) (fun _ => ?_)
    refine lv_aload_n hx hb dL_sea_156 rfl (lv_at hl 1 rfl) ?_
    refine lv_iconst (v := nI 3) hx hb dL_sea_157 (by decide) ?_
    refine lv_iload hx hb dL_sea_158 (lv_at hl 5 rfl) ?_
    refine lv_iadd hx hb dL_sea_160 ?_
    refine lv_nm (nI_add 3 k).symm ?_
    refine lk_cell F hKK hA gL_sea_L_cell ⟨(Nat.le_of_ble_eq_true rfl), (Nat.le_of_ble_eq_true rfl)⟩ hck dL_sea_161 hl.1 (Nat.le_of_ble_eq_true rfl) hL hX hbl hbA hST (3 + k) (by omega) (fun x6 => ?_)
    refine lv_istore (lv' := [(6, .int x6), (0, .ref ((a 0))), (1, .ref bs), (2, .int (nI F5)), (3, .ref qd), (4, .int (nI 1)), (5, .int (nI k))]) hx hb dL_sea_164 hl (by decide) rfl (fun ls hl => ?_)
    refine lv_aload_n hx hb dL_sea_166 rfl (lv_at hl 4 rfl) ?_
    refine lv_iload hx hb dL_sea_167 (lv_at hl 6 rfl) ?_
    refine lv_iload hx hb dL_sea_169 (lv_at hl 0 rfl) ?_
    refine lv_bipush (v := nI 6) hx hb dL_sea_171 (by decide) ?_
    refine lk_low F gL_sea_L_low ⟨(Nat.le_of_ble_eq_true rfl), (Nat.le_of_ble_eq_true rfl)⟩ hck dL_sea_173 hl.1 (Nat.le_of_ble_eq_true rfl) _ 6 (by omega) (by omega) (fun k1 hk1 => ?_)
    refine lk_dput F hKK hA dL_sea_176 k (by omega) (nI k1) hST (fun H locs hST => ?_)
    refine lv_aload_n hx hb dL_sea_177 rfl (lv_at hl 4 rfl) ?_
    refine lv_iconst (v := nI 5) hx hb dL_sea_178 (by decide) ?_
    refine lv_iload hx hb dL_sea_179 (lv_at hl 6 rfl) ?_
    refine lv_iadd hx hb dL_sea_181 ?_
    refine lv_nm (nI_add 5 k).symm ?_
    refine lv_iload hx hb dL_sea_182 (lv_at hl 0 rfl) ?_
    refine lv_iconst (v := nI 4) hx hb dL_sea_184 (by decide) ?_
    refine lv_ishr hx hb dL_sea_185 ?_
    refine lv_bipush (v := nI 36) hx hb dL_sea_186 (by decide) ?_
    refine lk_low F gL_sea_L_low ⟨(Nat.le_of_ble_eq_true rfl), (Nat.le_of_ble_eq_true rfl)⟩ hck dL_sea_188 hl.1 (Nat.le_of_ble_eq_true rfl) _ 36 (by omega) (by omega) (fun c1 hc1 => ?_)
    refine lk_dput F hKK hA dL_sea_191 (5 + k) (by omega) (nI c1) hST (fun H locs hST => ?_)
    refine lv_aload_n hx hb dL_sea_192 rfl (lv_at hl 4 rfl) ?_
    refine lv_bipush (v := nI 10) hx hb dL_sea_193 (by decide) ?_
    refine lv_iload hx hb dL_sea_195 (lv_at hl 6 rfl) ?_
    refine lv_iadd hx hb dL_sea_197 ?_
    refine lv_nm (nI_add 10 k).symm ?_
    refine lv_iload hx hb dL_sea_198 (lv_at hl 0 rfl) ?_
    refine lv_bipush (v := nI 11) hx hb dL_sea_200 (by decide) ?_
    refine lv_ishr hx hb dL_sea_202 ?_
    refine lv_iload hx hb dL_sea_203 (lv_at hl 0 rfl) ?_
    refine lv_bipush (v := nI 18) hx hb dL_sea_205 (by decide) ?_
    refine lv_ishr hx hb dL_sea_207 ?_
    refine lv_iconst (v := nI 2) hx hb dL_sea_208 (by decide) ?_
    refine lk_low F gL_sea_L_low ⟨(Nat.le_of_ble_eq_true rfl), (Nat.le_of_ble_eq_true rfl)⟩ hck dL_sea_209 hl.1 (Nat.le_of_ble_eq_true rfl) _ 2 (by omega) (by omega) (fun j hj => ?_)
    have J : ∀ n : Nat, 1 ≤ n → n ≤ 61 → W p l en (headSpec wsL_sea rm_L_sea).room s0 m args below meth co H locs 0 0 Q (F0 m 222 ls (.int (nI n) :: .int (x6 >>> ((nI 11) &&& 31)) :: .int (nI (10 + k)) :: .ref qd :: [])) := by
      intro n hn1 hn61
      refine lk_low F gL_sea_L_low ⟨(Nat.le_of_ble_eq_true rfl), (Nat.le_of_ble_eq_true rfl)⟩ hck dL_sea_222 hl.1 (Nat.le_of_ble_eq_true rfl) _ n (by omega) (by omega) (fun f1 hf1 => ?_)
      refine lk_dput F hKK hA dL_sea_225 (10 + k) (by omega) (nI f1) hST (fun H locs hST => ?_)
      refine lv_iload hx hb dL_sea_226 (lv_at hl 5 rfl) ?_
      refine lv_if_eq (tgt := 261) hx hb dL_sea_228 (by decide) (fun cz => absurd cz (show ¬ (nI 1 = nI 0) by rw [nI_eq (by omega) (by omega)]; omega)) (fun _ => ?_)
      refine lv_aload_n hx hb dL_sea_231 rfl (lv_at hl 1 rfl) ?_
      refine lv_aload_n hx hb dL_sea_232 rfl (lv_at hl 4 rfl) ?_
      refine lv_iload hx hb dL_sea_233 (lv_at hl 6 rfl) ?_
      refine lk_dget F hKK hA dL_sea_235 k (by omega) hST ?_
      refine lv_nm (show nI k1 = (upd (upd (upd dv k (nI k1)) (5 + k) (nI c1)) (10 + k) (nI f1)) k from (by rw [pk_un (by omega), pk_un (by omega), pk_us])) ?_
      refine lv_aload_n hx hb dL_sea_236 rfl (lv_at hl 4 rfl) ?_
      refine lv_iconst (v := nI 5) hx hb dL_sea_237 (by decide) ?_
      refine lv_iload hx hb dL_sea_238 (lv_at hl 6 rfl) ?_
      refine lv_iadd hx hb dL_sea_240 ?_
      refine lv_nm (nI_add 5 k).symm ?_
      refine lk_dget F hKK hA dL_sea_241 (5 + k) (by omega) hST ?_
      refine lv_nm (show nI c1 = (upd (upd (upd dv k (nI k1)) (5 + k) (nI c1)) (10 + k) (nI f1)) (5 + k) from (by rw [pk_un (by omega), pk_us])) ?_
      refine lv_aload_n hx hb dL_sea_242 rfl (lv_at hl 4 rfl) ?_
      refine lv_bipush (v := nI 10) hx hb dL_sea_243 (by decide) ?_
      refine lv_iload hx hb dL_sea_245 (lv_at hl 6 rfl) ?_
      refine lv_iadd hx hb dL_sea_247 ?_
      refine lv_nm (nI_add 10 k).symm ?_
      refine lk_dget F hKK hA dL_sea_248 (10 + k) (by omega) hST ?_
      refine lv_nm (show nI f1 = (upd (upd (upd dv k (nI k1)) (5 + k) (nI c1)) (10 + k) (nI f1)) (10 + k) from pk_us.symm) ?_
      refine lk_floe F hKK hA gL_sea_X3_floe ⟨(Nat.le_of_ble_eq_true rfl), (Nat.le_of_ble_eq_true rfl)⟩ hck dL_sea_249 hl.1 (Nat.le_of_ble_eq_true rfl) hST k1 c1 f1 (by omega) (by omega) (by omega) (by omega) (fun H locs hST => ?_)
      refine lv_iload hx hb dL_sea_252 (lv_at hl 6 rfl) ?_
      refine lv_icmp_ne (tgt := 261) hx hb dL_sea_254 (by decide) (fun cz => absurd rfl cz) (fun _ => ?_)
      refine lv_iconst (v := nI 1) hx hb dL_sea_257 (by decide) ?_
      refine lv_goto (tgt := 262) hx hb dL_sea_258 (by decide) ?_
      refine lv_istore (lv' := [(4, .int (nI 1)), (6, .int x6), (0, .ref ((a 0))), (1, .ref bs), (2, .int (nI F5)), (3, .ref qd), (5, .int (nI k))]) hx hb dL_sea_262 hl (by decide) rfl (fun ls hl => ?_)
      refine lv_iinc (v := nI (k + 1)) (lv' := [(5, .int (nI (k + 1))), (4, .int (nI 1)), (6, .int x6), (0, .ref ((a 0))), (1, .ref bs), (2, .int (nI F5)), (3, .ref qd)]) hx hb dL_sea_264 hl (k := 6) rfl (by rw [show Int32.ofInt 1 = nI 1 from by decide, nI_add]) (by decide) rfl (fun ls hl => ?_)
      refine lv_goto (tgt := 150) hx hb dL_sea_267 (by decide) ?_
      refine ih (k + 1) _ _ _ _ _ _ _ (by omega) (fun i hi => ?_) ?_ hST (lv_sub hl [3, 4, 5, 6, 1, 0] rfl)
      · rw [pk_un (by omega), pk_un (by omega), pk_un (by omega)]; exact hdW i hi
      · rw [pk_un (by omega), pk_un (by omega), pk_un (by omega)]; exact hd16
    refine lv_if_ne (tgt := 220) hx hb dL_sea_212 (by decide) (fun cj => ?_) (fun cf => ?_)
    · skip
      refine lv_bipush (v := nI 12) hx hb dL_sea_220 (by decide) ?_
      exact J 12 (by omega) (by omega)
    · skip
      refine lv_bipush (v := nI 61) hx hb dL_sea_215 (by decide) ?_
      refine lv_goto (tgt := 222) hx hb dL_sea_217 (by decide) ?_
      exact J 61 (by omega) (by omega)

set_option maxHeartbeats 8000000 in
set_option maxRecDepth 100000 in
theorem se_all {p : Program} {l : Launch} {en : Env} {s0 : State} {m : MethodId} {args : Array Value} {below : List Frame} {meth : Method} {co : Code} (F : CallFix p m co cL_sea 9 s0 args wsL_sea RL) {D : va_G} {cyI cyJ cyS : ClassId} (hKK : KK D (tyS cyI cyJ cyS) s0) {A : Nat → Prop} (hA : ∀ q, s0.heap.size ≤ q → A q) {a a_now a_spare a_text : Nat → Nat} {qd : Nat} {bs Ls : Nat} {xs : Nat → Int32} (hL : Ls ≤ 260) (hX : va_X bs Ls xs s0 s0.heap) (hbl : bs < s0.heap.size) (hbA : ¬ A bs) {Q : State → Prop} {F5 : Nat} (hF1 : 1 ≤ F5) (hF5 : F5 ≤ 5) {dv : Nat → Int32} {mo : Nat} {Wi Gi Ki Ce Fd FR NR UR : Nat → Nat} {ab be : Int64} {H : Heap} {locs : List Loc} {ls : Array Slot} (hck : 0 ≤ (headSpec wsL_sea rm_L_sea).room.cells ∧ 0 ≤ (headSpec wsL_sea rm_L_sea).room.slots) (hST : ST D cyI cyJ cyS a a_now a_spare a_text qd dv A s0.heap mo 0 0 0 0 Wi Gi Ki Ce Fd FR NR UR none ab be H locs) (hl : lv_has ls 9 [(0, .ref ((a 0))), (1, .ref bs), (2, .int (nI F5)), (3, .ref qd)]) (kont : ∀ (dv1 : Nat → Int32) (mo1 : Nat) (Wi Gi Ki Ce Fd : Nat → Nat) (H1 : Heap) (locs1 : List Loc) (ls1 : Array Slot), mo1 ≤ 99 → (∀ i, i < 12 → dv1 (17 + i) = nI (Wi i + 4 * Gi i)) → dv1 16 = nI mo1 → ST D cyI cyJ cyS a a_now a_spare a_text qd dv1 A s0.heap mo1 F5 0 0 0 Wi Gi Ki Ce Fd ((fun _ => 0)) ((fun _ => 0)) ((fun _ => 0)) none ab be H1 locs1 → lv_has ls1 9 [(0, .ref ((a 0))), (1, .ref bs), (2, .int (nI F5)), (3, .ref qd), (4, .int (nI 1))] → W p l en (headSpec wsL_sea rm_L_sea).room s0 m args below meth co H1 locs1 0 0 Q (F0 m 270 ls1 [])) : W p l en (headSpec wsL_sea rm_L_sea).room s0 m args below meth co H locs 0 0 Q (F0 m 0 ls []) := by
  obtain ⟨hx, hb, hml, hown, hts⟩ := id F
  refine se_a F hKK hA hL hX hbl hbA hF1 hF5 hck hST hl (fun dv1 mo1 hmo1 hd16 H1 L1 ls1 hST hl => ?_)
  refine lv_iconst (v := nI 0) hx hb dL_sea_37 (by decide) ?_
  refine lv_istore (lv' := [(5, .int (nI 0)), (0, .ref ((a 0))), (1, .ref bs), (2, .int (nI F5)), (3, .ref qd), (4, .int (nI 1))]) hx hb dL_sea_38 hl (by decide) rfl (fun ls hl => ?_)
  refine se_b F hKK hA hL hX hbl hbA hF1 hF5 hck (fun dv2 Wi Gi H1 L1 ls1 hdW hd16 hST hl => ?_) 12 0 _ _ _ _ _ _ (by omega) (fun i hi => absurd hi (Nat.not_lt_zero i)) hd16 (fun i _ _ => ⟨rfl, rfl⟩) hST (lv_sub hl [1, 2, 3, 4, 5, 0] rfl)
  refine lv_iconst (v := nI 0) hx hb dL_sea_147 (by decide) ?_
  refine lv_istore (lv' := [(5, .int (nI 0)), (0, .ref ((a 0))), (1, .ref bs), (2, .int (nI F5)), (3, .ref qd), (4, .int (nI 1))]) hx hb dL_sea_148 hl (by decide) rfl (fun ls hl => ?_)
  exact se_c F hKK hA hL hX hbl hbA hF1 hF5 hck (fun dv3 Ki Ce Fd H1 L1 ls1 hdW hd16 hST hl => kont _ _ _ _ _ _ _ _ _ _ hmo1 hdW hd16 hST hl) F5 0 _ _ _ _ _ _ _ (by omega) hdW hd16 hST (lv_sub hl [1, 2, 3, 4, 5, 0] rfl)

/-- what the told sea is -/
def SEA (F5 : Nat) (u : FIV × (Nat → Int32) × (Nat → Option Nat)) : Prop := ∃ (mo : Nat) (Wi Gi Ki Ce Fd FR NR UR : Nat → Nat) (ab be : Int64), mo ≤ 99 ∧ (∀ i, i < 12 → u.2.1 (17 + i) = nI (Wi i + 4 * Gi i)) ∧ u.2.1 16 = nI mo ∧ CR (mkS mo F5 0 0 0 Wi Gi Ki Ce Fd FR NR UR) none ab be u.1 ∧ u.2.2 0 = none ∧ u.2.2 1 = none
def preSea (D : va_G) (tys : List (ClassId × FieldType)) (ws : va_W) (sz bs Ls : Nat) (xs : Nat → Int32) : State → Prop := fun U => preW D tys ws sz U ∧ preX bs Ls xs U ∧ ¬ va_A ws sz bs
theorem preSea_S {s : State} {H : Heap} {D : va_G} {tys : List (ClassId × FieldType)} {wc : va_W} {As : List Value} {A : Nat → Prop} {bs Ls : Nat} {xs : Nat → Int32} (hP : va_P D vwCl wc H) (hD : va_D A wc) (hK : KK D tys s) (hX : va_X bs Ls xs s H) (hb : bs < H.size) (hn : ¬ va_A wc H.size bs) : PreS s H (va_Pc As (preSea D tys wc H.size bs Ls xs)) As :=
  ⟨fun a U g mk q => ⟨q.1, ((preW_S (As := As) hP hD hK).1 a U g mk ⟨q.1, q.2.1⟩).2, ((preX_S (As := As) hX hb).1 a U g mk ⟨q.1, q.2.2.1⟩).2, q.2.2.2⟩,
   fun U hU hW => ⟨rfl, ((preW_S (As := As) hP hD hK).2 U hU hW).2, ((preX_S (As := As) hX hb).2 U hU hW).2, hn⟩⟩
theorem nb_1' : nb (nI 1) := Or.inr rfl
set_option maxHeartbeats 8000000 in
set_option maxRecDepth 100000 in
theorem c_L_sea (l : Launch) (D : va_G) (cyI cyJ cyS : ClassId) (a a_now a_spare a_text : Nat → Nat) (qd : Nat) (dv : Nat → Int32) (x : FIV) (gI : Nat → Option Nat) (bs Ls : Nat) (xs : Nat → Int32) (hL : Ls ≤ 260) (F5 : Nat) (hF1 : 1 ≤ F5) (hF5 : F5 ≤ 5) {Wi Gi Ki Ce Fd FR NR UR : Nat → Nat} {ab be : Int64} (hCR : CR (mkS 0 0 0 0 0 Wi Gi Ki Ce Fd FR NR UR) none ab be x) (hg0 : gI 0 = none) (hg1 : gI 1 = none) (sz : Nat) : Met l yL_sea wsL_sea rm_L_sea (va_Pc [.ref (a 0), .ref bs, .int (nI F5), .ref qd] (preSea D (tyS cyI cyJ cyS) (wB cyI cyJ cyS a a_now a_spare a_text gI qd dv x) sz bs Ls xs)) (va_Qi (fun (r : Int32) (u : FIV × (Nat → Int32) × (Nat → Option Nat)) => r = nI 1 ∧ SEA F5 u) (fun u t => va_P D vwCl (wB cyI cyJ cyS a a_now a_spare a_text u.2.2 qd u.2.1 u.1) t.heap ∧ va_D (va_A (wB cyI cyJ cyS a a_now a_spare a_text gI qd dv x) sz) (wB cyI cyJ cyS a a_now a_spare a_text u.2.2 qd u.2.1 u.1)) (va_A (wB cyI cyJ cyS a a_now a_spare a_text gI qd dv x) sz)) 0 0 (va_A (wB cyI cyJ cyS a a_now a_spare a_text gI qd dv x) sz) := by
  refine Met.ofW (cc := cL_sea) (maxL := 9) (ret := (some .boolean)) (by decide) rfl ?_
  intro p e s m args below meth c s₁ B hml hv
  obtain ⟨rfl, ⟨hsz, hP, hKK, hD0⟩, ⟨hX, hbl⟩, hbA⟩ := hv
  have hx := B.exec
  have hb := B.bytes
  have hr := B.returns
  have hts := atoms_spec (ws := wsL_sea) B.pre
  have hown : s.vm.findClass RL = some m.cls := findClass_of_methodNamed B.named
  have hlocks := B.notSynchronized
  subst hsz
  have hD := hD0.self (sz := s.heap.size)
  generalize hAe : va_A (wB cyI cyJ cyS a a_now a_spare a_text gI qd dv x) s.heap.size = A at hD hbA ⊢
  have hA : ∀ q : Nat, s.heap.size ≤ q → A q := fun q h => by rw [← hAe]; exact Or.inr h
  have hS : va_S A s.heap s.heap [] := va_S.rf
  have hl := lv_entry [.ref (a 0), .ref bs, .int (nI F5), .ref qd] (n := 9) (Nat.le_of_ble_eq_true rfl)
  rw [lg_entry_eq]
  generalize (lg_sl [.ref (a 0), .ref bs, .int (nI F5), .ref qd] ++ List.replicate (9 - (lg_sl [.ref (a 0), .ref bs, .int (nI F5), .ref qd]).length) Slot.unset).toArray = ls at hl ⊢
  have hl : lv_has ls 9 [(0, .ref (a 0)), (1, .ref bs), (2, .int (nI F5)), (3, .ref qd)] := hl
  have hv0 : x_img0 x = none := hCR.2.2.1
  have hv1 : x_img1 x = none := hCR.2.2.2.1
  refine se_all (args := ([.ref (a 0), .ref bs, .int (nI F5), .ref qd] : List Value).toArray) ⟨hx, hb, hml, hown, hts⟩ hKK hA hL hX hbl hbA hF1 hF5 ⟨Nat.zero_le _, Nat.zero_le _⟩ (dv := dv) ⟨x, gI, [], hCR, ⟨fun _ => 0, fun _ => 0, by rw [hv0, hv1]; rfl, by rw [hv0, hg0]; rfl, by rw [hv1, hg1]; rfl⟩, hP, fun k q h => by simp at h, by rw [List.append_nil]; exact hD, hS⟩ hl (fun dv1 mo1 Wi1 Gi1 Ki1 Ce1 Fd1 H1 L1 ls1 hmo1 hdW hd16 hST hl => ?_)
  obtain ⟨x1, gI1, Z1, hCR1, ⟨z0, z1, hZ, hg0', hg1'⟩, hP1, hPZ1, hD1, hS1⟩ := hST
  have hw0 : x_img0 x1 = none := hCR1.2.2.1
  have hw1 : x_img1 x1 = none := hCR1.2.2.2.1
  have hZ0 : Z1 = [] := by rw [hZ, hw0, hw1]; rfl
  rw [hZ0, List.append_nil] at hD1
  refine lv_iload hx hb dL_sea_270 (lv_at hl 4 rfl) ?_
  exact W.zret (v := nI 1) hx hb hr (nb_n nb_1') (fun t ht hW => ⟨⟨nI 1, (x1, dv1, gI1), rfl, ⟨rfl, mo1, Wi1, Gi1, Ki1, Ce1, Fd1, _, _, _, _, _, hmo1, hdW, hd16, hCR1, by show gI1 0 = none; rw [hg0', hw0]; rfl, by show gI1 1 = none; rw [hg1', hw1]; rfl⟩, ⟨by rw [ht]; exact hP1, hD1⟩⟩, hS1.F ht⟩) hS1.2.2 dL_sea_272
