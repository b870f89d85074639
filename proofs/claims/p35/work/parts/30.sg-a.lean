/-! the law's turn, segment by segment -/
theorem ku_top {u mo : Nat} {C F Q : Nat → Nat} : kuN u mo C F Q (11 * kept u) = mo ∧ ∀ f, f < 5 → kuN u mo C F Q (11 * kept u + 1 + f) = C f ∧ kuN u mo C F Q (11 * kept u + 6 + f) = F f := by
  refine ⟨?_, fun f hf => ⟨?_, ?_⟩⟩
  · rw [kuN, if_neg (by omega), if_pos rfl]
  · rw [kuN, if_neg (by omega), if_neg (by omega), if_pos (by omega), show 11 * kept u + 1 + f - (11 * kept u + 1) = f by omega]
  · rw [kuN, if_neg (by omega), if_neg (by omega), if_neg (by omega), show 11 * kept u + 6 + f - (11 * kept u + 6) = f by omega]
theorem outN_pos {C : Nat → Nat} {f : Nat} (h : C f % 6 = 5) : ∀ n, f < n → 1 ≤ outN C n
  | 0, hf => absurd hf (Nat.not_lt_zero f)
  | n + 1, hf => by
    rw [outN]
    by_cases e : f = n
    · subst e; rw [if_pos h]; omega
    · have := outN_pos h n (by omega); omega
theorem not_lt_m1 {n : Nat} (h : n < 2 ^ 31) : ¬ nI n < (-1) := fun c => nI_pos h (Int32.lt_trans c (by decide))
theorem lgc_eq {x y : Int64} (h : x = y) : lg_cmp x y = 0 := by subst h; simp [lg_cmp]
set_option maxHeartbeats 4000000 in
theorem lk_image {p : Program} {l : Launch} {en : Env} {Rm : Room} {s0 : State} {m : MethodId} {args : Array Value} {below : List Frame} {meth : Method} {co : Code} {cc : ByteArray} {nL : Nat} {Ts : List Cond} {own : String} (F : CallFix p m co cc nL s0 args Ts own) {D : va_G} {cyI cyJ cyS : ClassId} (hKK : KK D (tyS cyI cyJ cyS) s0) {A : Nat → Prop} (hA : ∀ q, s0.heap.size ≤ q → A q) {a a_now a_spare a_text : Nat → Nat} {qd : Nat} {dv : Nat → Int32} {H : Heap} {locs : List Loc} {ck sk : Nat} {Q : State → Prop} {pc idx : Nat} {ls : Array Slot} {rest : List Value} {mo nf fo no un : Nat} {Wi Gi Ki Ce Fd FR NR UR : Nat → Nat} {I : Option SeaN} {ab be : Int64} (hG : GoodIn Ts (wsV own idx RX3 yX3_image wsX3_image)) (hR : rm_X3_image_new.frames + 1 ≤ Rm.frames ∧ 8 + (2 + 11) + rm_X3_image_new.locals ≤ Rm.locals) (hR2 : rm_X3_image_old.frames + 1 ≤ Rm.frames ∧ 8 + (2 + 11) + rm_X3_image_old.locals ≤ Rm.locals) (hck : ck + 9 ≤ Rm.cells ∧ sk + 194 ≤ Rm.slots) (hd : decode cc pc = .ok (.invokevirtual idx, 3)) (hls : ls.size = nL) (hwt : (rest.map fun v => v.category).sum ≤ 8) (hST : ST D cyI cyJ cyS a a_now a_spare a_text qd dv A s0.heap mo nf fo no un Wi Gi Ki Ce Fd FR NR UR I ab be H locs) (kont : ∀ (H1 : Heap) (locs1 : List Loc), ST D cyI cyJ cyS a a_now a_spare a_text qd dv A s0.heap mo nf fo no un Wi Gi Ki Ce Fd FR NR UR (some (mkS mo nf fo no un Wi Gi Ki Ce Fd FR NR UR)) ab be H1 locs1 → W p l en Rm s0 m args below meth co H1 locs1 (ck + 9) (sk + 194) Q (F0 m (pc + 3) ls (.int 1 :: rest))) : W p l en Rm s0 m args below meth co H locs ck sk Q (F0 m pc ls (.int 0 :: .ref (a 0) :: rest)) := by
  cases I with
  | none => exact lk_image_new F hKK hA hG hR hck hd hls hwt hST kont
  | some T => exact lk_image_old F hKK hA hG hR2 ⟨by omega, by omega⟩ hd hls hwt hST (fun H1 L1 h => W.widen (k := ck + 9) (n := sk + 194) (by omega) (by omega) (kont H1 L1 h))

set_option maxHeartbeats 8000000 in
set_option maxRecDepth 100000 in
theorem sg1 {p : Program} {l : Launch} {en : Env} {s0 : State} {m : MethodId} {args : Array Value} {below : List Frame} {meth : Method} {co : Code} (F : CallFix p m co cL_law 34 s0 args wsL_law RL) {D : va_G} {cyI cyJ cyS : ClassId} (hKK : KK D (tyS cyI cyJ cyS) s0) {A : Nat → Prop} (hA : ∀ q, s0.heap.size ≤ q → A q) {a a_now a_spare a_text : Nat → Nat} {qd : Nat} {dv : Nat → Int32} {bs Ls : Nat} {xs : Nat → Int32} (hL : Ls ≤ 260) (hX : va_X bs Ls xs s0 s0.heap) (hbl : bs < s0.heap.size) (hbA : ¬ A bs) {Q : State → Prop} {mo nf un : Nat} {Wi Gi Ki Ce Fd FR NR UR : Nat → Nat} {I : Option SeaN} {ab be : Int64} {n : Nat} {H : Heap} {locs : List Loc} {ck sk : Nat} {ls : Array Slot} (hck : ck + 9 ≤ room_1.cells ∧ sk + 194 ≤ room_1.slots) (hn : n < 9) (hnf1 : 1 ≤ nf) (hST : ST D cyI cyJ cyS a a_now a_spare a_text qd dv A s0.heap mo nf 0 0 un Wi Gi Ki Ce Fd FR NR UR I ab be H locs) (hl : lv_has ls 34 [(0, .ref bs), (1, .ref ((a 0))), (2, .ref qd), (3, .int (nI nf)), (4, .int (nI mo)), (5, .int (nI n))]) (kont : ∀ (x6 : Int32) (f g : Nat) (hf : f < nf) (hge : g = (f + 1) % nf) (hg : g < nf) (H1 : Heap) (locs1 : List Loc) (ls1 : Array Slot), ST D cyI cyJ cyS a a_now a_spare a_text qd dv A s0.heap mo nf 0 0 un Wi Gi Ki Ce Fd FR NR UR (some (mkS mo nf 0 0 un Wi Gi Ki Ce Fd FR NR UR)) ab be H1 locs1 → lv_has ls1 34 [(0, .ref bs), (1, .ref ((a 0))), (2, .ref qd), (3, .int (nI nf)), (4, .int (nI mo)), (5, .int (nI n)), (6, .int x6), (7, .int (nI f)), (8, .int (nI g)), (9, .int (nI un)), (10, .int (nI mo)), (11, .int (nI (Ce f))), (12, .int (nI (Fd f))), (13, .int (nI 1))] → W p l en room_1 s0 m args below meth co H1 locs1 (ck + 9) (sk + 194) Q (F0 m 188 ls1 [])) : W p l en room_1 s0 m args below meth co H locs ck sk Q (F0 m 54 ls []) := by
  obtain ⟨hx, hb, hml, hown, hts⟩ := id F
  have hck0 : ck ≤ room_1.cells ∧ sk ≤ room_1.slots := ⟨by omega, by omega⟩
  obtain ⟨hmo, hnf, hun, hW, hG, hK5, hC35, hD99⟩ := ST_ok hST
  refine lv_aload_n hx hb dL_law_54 rfl (lv_at hl 0 rfl) ?_
  refine lv_bipush (v := nI 10) hx hb dL_law_55 (by decide) ?_
  refine lv_iload hx hb dL_law_57 (lv_at hl 5 rfl) ?_
  refine lv_iadd hx hb dL_law_59 ?_
  refine lv_nm (nI_add 10 n).symm ?_
  refine lk_cell F hKK hA gL_law_L_cell ⟨(Nat.le_of_ble_eq_true rfl), (Nat.le_of_ble_eq_true rfl)⟩ hck0 dL_law_60 hl.1 (Nat.le_of_ble_eq_true rfl) hL hX hbl hbA hST (10 + n) (by omega) (fun x6 => ?_)
  refine lv_istore (lv' := [(6, .int x6), (0, .ref bs), (1, .ref ((a 0))), (2, .ref qd), (3, .int (nI nf)), (4, .int (nI mo)), (5, .int (nI n))]) hx hb dL_law_63 hl (by decide) rfl (fun ls hl => ?_)
  refine lv_iload hx hb dL_law_65 (lv_at hl 0 rfl) ?_
  refine lv_iload_n hx hb dL_law_67 rfl (lv_at hl 4 rfl) ?_
  refine lk_low F gL_law_L_low ⟨(Nat.le_of_ble_eq_true rfl), (Nat.le_of_ble_eq_true rfl)⟩ hck0 dL_law_68 hl.1 (Nat.le_of_ble_eq_true rfl) _ nf (by omega) (by omega) (fun f hf => ?_)
  refine lv_istore (lv' := [(7, .int (nI f)), (6, .int x6), (0, .ref bs), (1, .ref ((a 0))), (2, .ref qd), (3, .int (nI nf)), (4, .int (nI mo)), (5, .int (nI n))]) hx hb dL_law_71 hl (by decide) rfl (fun ls hl => ?_)
  refine lv_iload hx hb dL_law_73 (lv_at hl 0 rfl) ?_
  refine lv_iconst (v := nI 1) hx hb dL_law_75 (by decide) ?_
  refine lv_iadd hx hb dL_law_76 ?_
  refine lv_nm (nI_add f 1).symm ?_
  refine lv_iload_n hx hb dL_law_77 rfl (lv_at hl 5 rfl) ?_
  refine lv_irem hx hb dL_law_78 (show ¬ nI nf = nI 0 by rw [nI_eq (by omega) (by omega)]; omega) ?_
  refine lv_nm (pk_rem (a := (f + 1)) (d := nf) (by omega) (by omega) (by omega)).symm ?_
  obtain ⟨g, hge⟩ : ∃ g, g = (f + 1) % nf := ⟨_, rfl⟩
  have hg : g < nf := by rw [hge]; exact Nat.mod_lt _ (by omega)
  have c35 := hC35 f hf
  have d99 := hD99 f hf
  have k5 := hK5 f hf
  refine lv_nm (show nI g = nI ((f + 1) % nf) from (congrArg nI hge)) ?_
  refine lv_istore (lv' := [(8, .int (nI g)), (7, .int (nI f)), (6, .int x6), (0, .ref bs), (1, .ref ((a 0))), (2, .ref qd), (3, .int (nI nf)), (4, .int (nI mo)), (5, .int (nI n))]) hx hb dL_law_79 hl (by decide) rfl (fun ls hl => ?_)
  refine lv_aload_n hx hb dL_law_81 rfl (lv_at hl 4 rfl) ?_
  refine lv_iconst (v := nI 5) hx hb dL_law_82 (by decide) ?_
  refine lk_count5 F hKK hA gL_law_X3_count ⟨(Nat.le_of_ble_eq_true rfl), (Nat.le_of_ble_eq_true rfl)⟩ hck0 dL_law_83 hl.1 (Nat.le_of_ble_eq_true rfl) hST  (fun H locs hST => ?_)
  refine lv_istore (lv' := [(9, .int (nI un)), (8, .int (nI g)), (7, .int (nI f)), (6, .int x6), (0, .ref bs), (1, .ref ((a 0))), (2, .ref qd), (3, .int (nI nf)), (4, .int (nI mo)), (5, .int (nI n))]) hx hb dL_law_86 hl (by decide) rfl (fun ls hl => ?_)
  refine lv_aload_n hx hb dL_law_88 rfl (lv_at hl 5 rfl) ?_
  refine lv_iconst (v := nI 1) hx hb dL_law_89 (by decide) ?_
  refine lk_count1 F hKK hA gL_law_X3_count ⟨(Nat.le_of_ble_eq_true rfl), (Nat.le_of_ble_eq_true rfl)⟩ hck0 dL_law_90 hl.1 (Nat.le_of_ble_eq_true rfl) hST  (fun H locs hST => ?_)
  refine lv_istore (lv' := [(10, .int (nI mo)), (9, .int (nI un)), (8, .int (nI g)), (7, .int (nI f)), (6, .int x6), (0, .ref bs), (1, .ref ((a 0))), (2, .ref qd), (3, .int (nI nf)), (4, .int (nI mo)), (5, .int (nI n))]) hx hb dL_law_93 hl (by decide) rfl (fun ls hl => ?_)
  refine lv_aload_n hx hb dL_law_95 rfl (lv_at hl 6 rfl) ?_
  refine lv_iload hx hb dL_law_96 (lv_at hl 3 rfl) ?_
  refine lv_iconst (v := nI 1) hx hb dL_law_98 (by decide) ?_
  refine lk_of1 F hKK hA gL_law_X3_of ⟨(Nat.le_of_ble_eq_true rfl), (Nat.le_of_ble_eq_true rfl)⟩ hck0 dL_law_99 hl.1 (Nat.le_of_ble_eq_true rfl) hST f hf (fun H locs hST => ?_)
  refine lv_istore (lv' := [(11, .int (nI (Ce f))), (10, .int (nI mo)), (9, .int (nI un)), (8, .int (nI g)), (7, .int (nI f)), (6, .int x6), (0, .ref bs), (1, .ref ((a 0))), (2, .ref qd), (3, .int (nI nf)), (4, .int (nI mo)), (5, .int (nI n))]) hx hb dL_law_102 hl (by decide) rfl (fun ls hl => ?_)
  refine lv_aload_n hx hb dL_law_104 rfl (lv_at hl 7 rfl) ?_
  refine lv_iload hx hb dL_law_105 (lv_at hl 4 rfl) ?_
  refine lv_iconst (v := nI 2) hx hb dL_law_107 (by decide) ?_
  refine lk_of2 F hKK hA gL_law_X3_of ⟨(Nat.le_of_ble_eq_true rfl), (Nat.le_of_ble_eq_true rfl)⟩ hck0 dL_law_108 hl.1 (Nat.le_of_ble_eq_true rfl) hST f hf (fun H locs hST => ?_)
  refine lv_istore (lv' := [(12, .int (nI (Fd f))), (11, .int (nI (Ce f))), (10, .int (nI mo)), (9, .int (nI un)), (8, .int (nI g)), (7, .int (nI f)), (6, .int x6), (0, .ref bs), (1, .ref ((a 0))), (2, .ref qd), (3, .int (nI nf)), (4, .int (nI mo)), (5, .int (nI n))]) hx hb dL_law_111 hl (by decide) rfl (fun ls hl => ?_)
  refine lv_aload_n hx hb dL_law_113 rfl (lv_at hl 8 rfl) ?_
  refine lv_iconst (v := nI 0) hx hb dL_law_114 (by decide) ?_
  refine lk_image F hKK hA gL_law_X3_image ⟨(Nat.le_of_ble_eq_true rfl), (Nat.le_of_ble_eq_true rfl)⟩ ⟨(Nat.le_of_ble_eq_true rfl), (Nat.le_of_ble_eq_true rfl)⟩ hck dL_law_115 hl.1 (Nat.le_of_ble_eq_true rfl) hST (fun H locs hST => ?_)
  skip
  refine lv_iconst (v := nI 1) hx hb dL_law_118 (by decide) ?_
  refine lv_icmp_ne (tgt := 185) hx hb dL_law_119 (by decide) (fun cz => absurd rfl cz) (fun _ => ?_)
  refine lv_iload hx hb dL_law_122 (lv_at hl 2 rfl) ?_
  refine lv_iload hx hb dL_law_124 (lv_at hl 11 rfl) ?_
  refine lv_icmp_ne (tgt := 185) hx hb dL_law_126 (by decide) (fun cz => absurd rfl cz) (fun _ => ?_)
  refine lv_iload hx hb dL_law_129 (lv_at hl 1 rfl) ?_
  refine lv_if_lt (tgt := 185) hx hb dL_law_131 (by decide) (fun cz => absurd cz (show ¬ (nI (Ce f) < nI 0) by rw [nI_ltI (by omega) (by omega)]; omega)) (fun _ => ?_)
  refine lv_iload hx hb dL_law_134 (lv_at hl 1 rfl) ?_
  refine lv_bipush (v := nI 36) hx hb dL_law_136 (by decide) ?_
  refine lv_icmp_ge (tgt := 185) hx hb dL_law_138 (by decide) (fun cz => absurd cz (show ¬ (nI 36 ≤ nI (Ce f)) by rw [nI_leI (by omega) (by omega)]; omega)) (fun _ => ?_)
  refine lv_iload hx hb dL_law_141 (lv_at hl 0 rfl) ?_
  refine lv_if_lt (tgt := 185) hx hb dL_law_143 (by decide) (fun cz => absurd cz (show ¬ (nI (Fd f) < nI 0) by rw [nI_ltI (by omega) (by omega)]; omega)) (fun _ => ?_)
  refine lv_iload hx hb dL_law_146 (lv_at hl 0 rfl) ?_
  refine lv_bipush (v := nI 100) hx hb dL_law_148 (by decide) ?_
  refine lv_icmp_ge (tgt := 185) hx hb dL_law_150 (by decide) (fun cz => absurd cz (show ¬ (nI 100 ≤ nI (Fd f)) by rw [nI_leI (by omega) (by omega)]; omega)) (fun _ => ?_)
  refine lv_aload_n hx hb dL_law_153 rfl (lv_at hl 8 rfl) ?_
  refine lv_iload hx hb dL_law_154 (lv_at hl 5 rfl) ?_
  refine lv_iconst (v := nI 0) hx hb dL_law_156 (by decide) ?_
  refine lk_then F hKK hA gL_law_X3_then ⟨(Nat.le_of_ble_eq_true rfl), (Nat.le_of_ble_eq_true rfl)⟩ hck dL_law_157 hl.1 (Nat.le_of_ble_eq_true rfl) hST f 0 hf (by omega) (fun H locs hST => ?_)
  refine lv_iload hx hb dL_law_160 (lv_at hl 1 rfl) ?_
  refine lv_icmp_ne (tgt := 185) hx hb dL_law_162 (by decide) (fun cz => absurd (show nI (Ce f) = nI (Ce f) from rfl) cz) (fun _ => ?_)
  refine lv_iload hx hb dL_law_165 (lv_at hl 1 rfl) ?_
  refine lv_aload_n hx hb dL_law_167 rfl (lv_at hl 8 rfl) ?_
  refine lv_iload hx hb dL_law_168 (lv_at hl 5 rfl) ?_
  refine lv_iconst (v := nI 1) hx hb dL_law_170 (by decide) ?_
  refine lk_then F hKK hA gL_law_X3_then ⟨(Nat.le_of_ble_eq_true rfl), (Nat.le_of_ble_eq_true rfl)⟩ hck dL_law_171 hl.1 (Nat.le_of_ble_eq_true rfl) hST f 1 hf (by omega) (fun H locs hST => ?_)
  have r1 : runN Wi Gi (Ki f) (Ce f) mo 1 ≤ 35 := runN_le hW hG k5 c35 1
  have f2 : farN (Ce f) (runN Wi Gi (Ki f) (Ce f) mo 1) ≤ 2 := (it_far (m := mo + 0) hW hG k5 c35).1
  refine lk_far F gL_law_L_far ⟨(Nat.le_of_ble_eq_true rfl), (Nat.le_of_ble_eq_true rfl)⟩ hck dL_law_174 hl.1 (Nat.le_of_ble_eq_true rfl) (Ce f) (runN Wi Gi (Ki f) (Ce f) mo 1) (by omega) (by omega) ?_
  refine lv_iconst (v := nI 2) hx hb dL_law_177 (by decide) ?_
  refine lv_icmp_gt (tgt := 185) hx hb dL_law_178 (by decide) (fun cz => absurd cz (show ¬ (nI 2 < nI (farN (Ce f) (runN Wi Gi (Ki f) (Ce f) mo 1))) by rw [nI_ltI (by omega) (by omega)]; omega)) (fun _ => ?_)
  refine lv_iconst (v := nI 1) hx hb dL_law_181 (by decide) ?_
  refine lv_goto (tgt := 186) hx hb dL_law_182 (by decide) ?_
  refine lv_istore (lv' := [(13, .int (nI 1)), (12, .int (nI (Fd f))), (11, .int (nI (Ce f))), (10, .int (nI mo)), (9, .int (nI un)), (8, .int (nI g)), (7, .int (nI f)), (6, .int x6), (0, .ref bs), (1, .ref ((a 0))), (2, .ref qd), (3, .int (nI nf)), (4, .int (nI mo)), (5, .int (nI n))]) hx hb dL_law_186 hl (by decide) rfl (fun ls hl => ?_)
  exact kont x6 f g hf hge hg _ _ _ hST (lv_sub hl [8, 9, 10, 11, 12, 13, 7, 6, 5, 4, 3, 2, 1, 0] rfl)

set_option maxHeartbeats 8000000 in
set_option maxRecDepth 100000 in
theorem sg2 {p : Program} {l : Launch} {en : Env} {s0 : State} {m : MethodId} {args : Array Value} {below : List Frame} {meth : Method} {co : Code} (F : CallFix p m co cL_law 34 s0 args wsL_law RL) {D : va_G} {cyI cyJ cyS : ClassId} (hKK : KK D (tyS cyI cyJ cyS) s0) {A : Nat → Prop} (hA : ∀ q, s0.heap.size ≤ q → A q) {a a_now a_spare a_text : Nat → Nat} {qd : Nat} {dv : Nat → Int32} {bs Ls : Nat} {xs : Nat → Int32} (hL : Ls ≤ 260) (hX : va_X bs Ls xs s0 s0.heap) (hbl : bs < s0.heap.size) (hbA : ¬ A bs) {Q : State → Prop} {mo nf un : Nat} {Wi Gi Ki Ce Fd FR NR UR : Nat → Nat} {ab be : Int64} {n : Nat} (x6 : Int32) {f g : Nat} (hf : f < nf) (hge : g = (f + 1) % nf) (hg : g < nf) {H : Heap} {locs : List Loc} {ck sk : Nat} {ls : Array Slot} (hck : ck ≤ room_1.cells ∧ sk ≤ room_1.slots) (hmo9 : mo ≤ 110) (hST : ST D cyI cyJ cyS a a_now a_spare a_text qd dv A s0.heap mo nf 0 0 un Wi Gi Ki Ce Fd FR NR UR (some (mkS mo nf 0 0 un Wi Gi Ki Ce Fd FR NR UR)) ab be H locs) (hl : lv_has ls 34 [(0, .ref bs), (1, .ref ((a 0))), (2, .ref qd), (3, .int (nI nf)), (4, .int (nI mo)), (5, .int (nI n)), (6, .int x6), (7, .int (nI f)), (8, .int (nI g)), (9, .int (nI un)), (10, .int (nI mo)), (11, .int (nI (Ce f))), (12, .int (nI (Fd f))), (13, .int (nI 1))]) (kont : ∀ (q : Nat) (hq1 : 1 ≤ q) (hq : q ≤ 20) (H1 : Heap) (locs1 : List Loc) (ls1 : Array Slot), ST D cyI cyJ cyS a a_now a_spare a_text qd dv A s0.heap mo nf 0 0 ((kept un)) Wi Gi Ki Ce Fd FR NR ((kuN un mo Ce Fd UR)) (some (mkS mo nf 0 0 un Wi Gi Ki Ce Fd FR NR UR)) ab be H1 locs1 → lv_has ls1 34 [(0, .ref bs), (1, .ref ((a 0))), (2, .ref qd), (3, .int (nI nf)), (4, .int (nI mo)), (5, .int (nI n)), (6, .int x6), (7, .int (nI f)), (8, .int (nI g)), (9, .int (nI un)), (10, .int (nI mo)), (11, .int (nI (Ce f))), (12, .int (nI (Fd f))), (13, .int (nI 1)), (14, .int (nI q)), (15, .int (nI (runN Wi Gi (Ki f) (Ce f) mo q)))] → W p l en room_1 s0 m args below meth co H1 locs1 ck sk Q (F0 m 304 ls1 [])) : W p l en room_1 s0 m args below meth co H locs ck sk Q (F0 m 188 ls []) := by
  obtain ⟨hx, hb, hml, hown, hts⟩ := id F
  obtain ⟨hmo, hnf, hun, hW, hG, hK5, hC35, hD99⟩ := ST_ok hST
  have c35 := hC35 f hf
  have d99 := hD99 f hf
  have k5 := hK5 f hf
  refine lv_iconst (v := nI 1) hx hb dL_law_188 (by decide) ?_
  refine lv_iload hx hb dL_law_189 (lv_at hl 6 rfl) ?_
  refine lv_iconst (v := nI 3) hx hb dL_law_191 (by decide) ?_
  refine lv_ishr hx hb dL_law_192 ?_
  refine lv_bipush (v := nI 20) hx hb dL_law_193 (by decide) ?_
  refine lk_low F gL_law_L_low ⟨(Nat.le_of_ble_eq_true rfl), (Nat.le_of_ble_eq_true rfl)⟩ hck dL_law_195 hl.1 (Nat.le_of_ble_eq_true rfl) _ 20 (by omega) (by omega) (fun j hj => ?_)
  refine lv_iadd hx hb dL_law_198 ?_
  refine lv_nm (nI_add 1 j).symm ?_
  obtain ⟨q, hqe⟩ : ∃ q, q = 1 + j := ⟨_, rfl⟩
  refine lv_nm (show nI q = nI (1 + j) from (congrArg nI hqe)) ?_
  refine lv_istore (lv' := [(14, .int (nI q)), (0, .ref bs), (1, .ref ((a 0))), (2, .ref qd), (3, .int (nI nf)), (4, .int (nI mo)), (5, .int (nI n)), (6, .int x6), (7, .int (nI f)), (8, .int (nI g)), (9, .int (nI un)), (10, .int (nI mo)), (11, .int (nI (Ce f))), (12, .int (nI (Fd f))), (13, .int (nI 1))]) hx hb dL_law_199 hl (by decide) rfl (fun ls hl => ?_)
  refine lv_aload_n hx hb dL_law_201 rfl (lv_at hl 2 rfl) ?_
  refine lv_iload hx hb dL_law_202 (lv_at hl 8 rfl) ?_
  refine lv_iload hx hb dL_law_204 (lv_at hl 0 rfl) ?_
  refine lk_then F hKK hA gL_law_X3_then ⟨(Nat.le_of_ble_eq_true rfl), (Nat.le_of_ble_eq_true rfl)⟩ hck dL_law_206 hl.1 (Nat.le_of_ble_eq_true rfl) hST f q hf (by omega) (fun H locs hST => ?_)
  refine lv_istore (lv' := [(15, .int (nI (runN Wi Gi (Ki f) (Ce f) mo q))), (14, .int (nI q)), (0, .ref bs), (1, .ref ((a 0))), (2, .ref qd), (3, .int (nI nf)), (4, .int (nI mo)), (5, .int (nI n)), (6, .int x6), (7, .int (nI f)), (8, .int (nI g)), (9, .int (nI un)), (10, .int (nI mo)), (11, .int (nI (Ce f))), (12, .int (nI (Fd f))), (13, .int (nI 1))]) hx hb dL_law_209 hl (by decide) rfl (fun ls hl => ?_)
  refine lv_iload hx hb dL_law_211 (lv_at hl 15 rfl) ?_
  refine lv_if_eq (tgt := 301) hx hb dL_law_213 (by decide) (fun cz => absurd cz (show ¬ (nI 1 = nI 0) by rw [nI_eq (by omega) (by omega)]; omega)) (fun _ => ?_)
  refine lv_aload_n hx hb dL_law_216 rfl (lv_at hl 3 rfl) ?_
  refine lv_iload hx hb dL_law_217 (lv_at hl 1 rfl) ?_
  refine lk_month F hKK hA gL_law_X3_month ⟨(Nat.le_of_ble_eq_true rfl), (Nat.le_of_ble_eq_true rfl)⟩ hck dL_law_219 hl.1 (Nat.le_of_ble_eq_true rfl) hST q (by omega) (by omega) (by omega) (fun H locs hST => ?_)
  refine lv_if_lt (tgt := 301) hx hb dL_law_222 (by decide) (fun cz => absurd cz (nI_pos (Nat.lt_of_le_of_lt (outN_le _ _) (by omega)))) (fun _ => ?_)
  refine lv_aload_n hx hb dL_law_225 rfl (lv_at hl 3 rfl) ?_
  refine lv_iconst (v := nI 1) hx hb dL_law_226 (by decide) ?_
  refine lk_count1 F hKK hA gL_law_X3_count ⟨(Nat.le_of_ble_eq_true rfl), (Nat.le_of_ble_eq_true rfl)⟩ hck dL_law_227 hl.1 (Nat.le_of_ble_eq_true rfl) hST  (fun H locs hST => ?_)
  refine lv_iload hx hb dL_law_230 (lv_at hl 12 rfl) ?_
  refine lv_iload hx hb dL_law_232 (lv_at hl 1 rfl) ?_
  refine lv_iadd hx hb dL_law_234 ?_
  refine lv_nm (nI_add mo q).symm ?_
  refine lv_icmp_ne (tgt := 301) hx hb dL_law_235 (by decide) (fun cz => absurd rfl cz) (fun _ => ?_)
  refine lv_aload_n hx hb dL_law_238 rfl (lv_at hl 3 rfl) ?_
  refine lv_iload hx hb dL_law_239 (lv_at hl 9 rfl) ?_
  refine lv_iconst (v := nI 1) hx hb dL_law_241 (by decide) ?_
  refine lk_of1 F hKK hA gL_law_X3_of ⟨(Nat.le_of_ble_eq_true rfl), (Nat.le_of_ble_eq_true rfl)⟩ hck dL_law_242 hl.1 (Nat.le_of_ble_eq_true rfl) hST f hf (fun H locs hST => ?_)
  refine lv_iload hx hb dL_law_245 (lv_at hl 0 rfl) ?_
  refine lv_icmp_ne (tgt := 301) hx hb dL_law_247 (by decide) (fun cz => absurd rfl cz) (fun _ => ?_)
  refine lv_aload_n hx hb dL_law_250 rfl (lv_at hl 3 rfl) ?_
  refine lv_iload hx hb dL_law_251 (lv_at hl 9 rfl) ?_
  refine lv_iconst (v := nI 2) hx hb dL_law_253 (by decide) ?_
  refine lk_of2 F hKK hA gL_law_X3_of ⟨(Nat.le_of_ble_eq_true rfl), (Nat.le_of_ble_eq_true rfl)⟩ hck dL_law_254 hl.1 (Nat.le_of_ble_eq_true rfl) hST f hf (fun H locs hST => ?_)
  refine lv_iload hx hb dL_law_257 (lv_at hl 14 rfl) ?_
  refine lv_iload hx hb dL_law_259 (lv_at hl 1 rfl) ?_
  have J : W p l en room_1 s0 m args below meth co H locs ck sk Q (F0 m 273 ls (.int (nI (Fd f - q)) :: .int (nI (Fd f - q)) :: [])) := by
    refine lv_icmp_ne (tgt := 301) hx hb dL_law_273 (by decide) (fun cz => absurd rfl cz) (fun _ => ?_)
    refine lv_aload_n hx hb dL_law_276 rfl (lv_at hl 3 rfl) ?_
    refine lk_undo F hKK hA gL_law_X3_undo ⟨(Nat.le_of_ble_eq_true rfl), (Nat.le_of_ble_eq_true rfl)⟩ hck dL_law_277 hl.1 (Nat.le_of_ble_eq_true rfl) hST (kept un) mo Ce Fd rfl ku_top.1 (fun f hf => ku_top.2 f (by omega)) (fun H locs hST => ?_)
    refine lv_iload hx hb dL_law_280 (lv_at hl 12 rfl) ?_
    refine lv_icmp_ne (tgt := 301) hx hb dL_law_282 (by decide) (fun cz => absurd rfl cz) (fun _ => ?_)
    refine lv_aload_n hx hb dL_law_285 rfl (lv_at hl 3 rfl) ?_
    refine lv_iload hx hb dL_law_286 (lv_at hl 9 rfl) ?_
    refine lv_iconst (v := nI 1) hx hb dL_law_288 (by decide) ?_
    refine lk_of1 F hKK hA gL_law_X3_of ⟨(Nat.le_of_ble_eq_true rfl), (Nat.le_of_ble_eq_true rfl)⟩ hck dL_law_289 hl.1 (Nat.le_of_ble_eq_true rfl) hST f hf (fun H locs hST => ?_)
    refine lv_iload hx hb dL_law_292 (lv_at hl 13 rfl) ?_
    refine lv_icmp_ne (tgt := 301) hx hb dL_law_294 (by decide) (fun cz => absurd rfl cz) (fun _ => ?_)
    refine lv_iconst (v := nI 1) hx hb dL_law_297 (by decide) ?_
    refine lv_goto (tgt := 302) hx hb dL_law_298 (by decide) ?_
    refine lv_istore (lv' := [(13, .int (nI 1)), (15, .int (nI (runN Wi Gi (Ki f) (Ce f) mo q))), (14, .int (nI q)), (0, .ref bs), (1, .ref ((a 0))), (2, .ref qd), (3, .int (nI nf)), (4, .int (nI mo)), (5, .int (nI n)), (6, .int x6), (7, .int (nI f)), (8, .int (nI g)), (9, .int (nI un)), (10, .int (nI mo)), (11, .int (nI (Ce f))), (12, .int (nI (Fd f)))]) hx hb dL_law_302 hl (by decide) rfl (fun ls hl => ?_)
    exact kont q (by omega) (by omega) _ _ _ hST (lv_sub hl [3, 4, 5, 6, 7, 8, 9, 10, 11, 12, 13, 14, 15, 0, 2, 1] rfl)
  refine lv_icmp_le (tgt := 272) hx hb dL_law_261 (by decide) (fun cj => ?_) (fun cf => ?_)
  · skip
    have cj : nI (Fd f) ≤ nI q := cj
    rw [nI_leI (by omega) (by omega)] at cj
    refine lv_iconst (v := nI 0) hx hb dL_law_272 (by decide) ?_
    rw [show nI 0 = nI (Fd f - q) from congrArg nI (by omega)]
    exact J
  · skip
    have cf : ¬ (nI (Fd f) ≤ nI q) := cf
    rw [nI_leI (by omega) (by omega)] at cf
    refine lv_iload hx hb dL_law_264 (lv_at hl 14 rfl) ?_
    refine lv_iload hx hb dL_law_266 (lv_at hl 1 rfl) ?_
    refine lv_isub hx hb dL_law_268 ?_
    refine lv_nm (pk_sub (a := (Fd f)) (b := q) (by omega)).symm ?_
    refine lv_goto (tgt := 273) hx hb dL_law_269 (by decide) ?_
    exact J
