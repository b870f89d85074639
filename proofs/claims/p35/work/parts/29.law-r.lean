/-! the helpers of the law as rows -/
set_option maxHeartbeats 4000000 in
set_option maxRecDepth 100000 in
theorem lk_low {p : Program} {l : Launch} {en : Env} {Rm : Room} {s0 : State} {m : MethodId} {args : Array Value} {below : List Frame} {meth : Method} {co : Code} {cc : ByteArray} {nL : Nat} {Ts : List Cond} (F : CallFix p m co cc nL s0 args Ts RL) {H : Heap} {locs : List Loc} {ck sk : Nat} {Q : State → Prop} {pc idx : Nat} {ls : Array Slot} {rest : List Value} (hG : GoodIn Ts (va_wsS RL idx yL_low wsL_low)) (hR : rm_L_low.frames + 1 ≤ Rm.frames ∧ 8 + (2 + 11) + rm_L_low.locals ≤ Rm.locals) (hck : ck ≤ Rm.cells ∧ sk ≤ Rm.slots) (hd : decode cc pc = .ok (.invokestatic idx, 3)) (hls : ls.size = nL) (hwt : (rest.map fun v => v.category).sum ≤ 8) (v : Int32) (n : Nat) (h0 : 0 < n) (hn : n < 2 ^ 31)  (kont : ∀ (j : Nat), j < n → W p l en Rm s0 m args below meth co H locs ck sk Q (F0 m (pc + 3) ls (.int (nI j) :: rest))) : W p l en Rm s0 m args below meth co H locs ck sk Q (F0 m pc ls (.int (nI n) :: .int v :: rest)) := by
  obtain ⟨j, hj, e⟩ := low_n v h0 hn
  exact kc_I (W.runS (As := [.int v, .int (nI n)]) (rest := rest) F (c_L_low l 1000 v (nI n) (nI j) e) (va_cwS 2 F.2.2.2.2 hG rfl rfl rfl (by decide +kernel) hR) preT_S rfl rfl hls rfl (lv_room hwt) hd hck) (kont j hj)

set_option maxHeartbeats 4000000 in
set_option maxRecDepth 100000 in
theorem lk_far {p : Program} {l : Launch} {en : Env} {Rm : Room} {s0 : State} {m : MethodId} {args : Array Value} {below : List Frame} {meth : Method} {co : Code} {cc : ByteArray} {nL : Nat} {Ts : List Cond} (F : CallFix p m co cc nL s0 args Ts RL) {H : Heap} {locs : List Loc} {ck sk : Nat} {Q : State → Prop} {pc idx : Nat} {ls : Array Slot} {rest : List Value} (hG : GoodIn Ts (va_wsS RL idx yL_far wsL_far)) (hR : rm_L_far.frames + 1 ≤ Rm.frames ∧ 8 + (3 + 11) + rm_L_far.locals ≤ Rm.locals) (hck : ck ≤ Rm.cells ∧ sk ≤ Rm.slots) (hd : decode cc pc = .ok (.invokestatic idx, 3)) (hls : ls.size = nL) (hwt : (rest.map fun v => v.category).sum ≤ 8) (x y : Nat) (hx : x ≤ 35) (hy : y ≤ 35)  (kont : W p l en Rm s0 m args below meth co H locs ck sk Q (F0 m (pc + 3) ls (.int (nI (farN x y)) :: rest))) : W p l en Rm s0 m args below meth co H locs ck sk Q (F0 m pc ls (.int (nI y) :: .int (nI x) :: rest)) := by
  exact kc_I (W.runS (As := [.int (nI x), .int (nI y)]) (rest := rest) F (c_L_far l (nI x) (nI y) (nI (farN x y)) (lfar_all x (by omega) y (by omega))) (va_cwS 2 F.2.2.2.2 hG rfl rfl rfl (by decide +kernel) hR) preT_S rfl rfl hls rfl (lv_room hwt) hd hck) kont

set_option maxHeartbeats 4000000 in
set_option maxRecDepth 100000 in
theorem lk_way {p : Program} {l : Launch} {en : Env} {Rm : Room} {s0 : State} {m : MethodId} {args : Array Value} {below : List Frame} {meth : Method} {co : Code} {cc : ByteArray} {nL : Nat} {Ts : List Cond} (F : CallFix p m co cc nL s0 args Ts RL) {H : Heap} {locs : List Loc} {ck sk : Nat} {Q : State → Prop} {pc idx : Nat} {ls : Array Slot} {rest : List Value} (hG : GoodIn Ts (va_wsS RL idx yL_way wsL_way)) (hR : rm_L_way.frames + 1 ≤ Rm.frames ∧ 8 + (4 + 11) + rm_L_way.locals ≤ Rm.locals) (hck : ck ≤ Rm.cells ∧ sk ≤ Rm.slots) (hd : decode cc pc = .ok (.invokestatic idx, 3)) (hls : ls.size = nL) (hwt : (rest.map fun v => v.category).sum ≤ 8) (k q w : Nat) (hk : k ≤ 5) (hq : q < 2 ^ 30) (hw : w ≤ 3)  (kont : W p l en Rm s0 m args below meth co H locs ck sk Q (F0 m (pc + 3) ls (.int (nI (wayN k q w)) :: rest))) : W p l en Rm s0 m args below meth co H locs ck sk Q (F0 m pc ls (.int (nI w) :: .int (nI q) :: .int (nI k) :: rest)) := by
  exact kc_I (W.runS (As := [.int (nI k), .int (nI q), .int (nI w)]) (rest := rest) F (c_L_way l (nI k) (nI q) (nI w) (nI (wayN k q w)) (lway_n hk hq hw)) (va_cwS 3 F.2.2.2.2 hG rfl rfl rfl (by decide +kernel) hR) preT_S rfl rfl hls rfl (lv_room hwt) hd hck) kont

set_option maxHeartbeats 4000000 in
set_option maxRecDepth 100000 in
theorem lk_many {p : Program} {l : Launch} {en : Env} {Rm : Room} {s0 : State} {m : MethodId} {args : Array Value} {below : List Frame} {meth : Method} {co : Code} {cc : ByteArray} {nL : Nat} {Ts : List Cond} (F : CallFix p m co cc nL s0 args Ts RL) {H : Heap} {locs : List Loc} {ck sk : Nat} {Q : State → Prop} {pc idx : Nat} {ls : Array Slot} {rest : List Value} (hG : GoodIn Ts (va_wsS RL idx yL_many wsL_many)) (hR : rm_L_many.frames + 1 ≤ Rm.frames ∧ 8 + (4 + 11) + rm_L_many.locals ≤ Rm.locals) (hck : ck ≤ Rm.cells ∧ sk ≤ Rm.slots) (hd : decode cc pc = .ok (.invokestatic idx, 3)) (hls : ls.size = nL) (hwt : (rest.map fun v => v.category).sum ≤ 8) (k t c : Nat) (hk : k ≤ 5) (ht : t ≤ 3) (hc : c ≤ 5)  (kont : W p l en Rm s0 m args below meth co H locs ck sk Q (F0 m (pc + 3) ls (.int (nI (stN k t c)) :: rest))) : W p l en Rm s0 m args below meth co H locs ck sk Q (F0 m pc ls (.int (nI c) :: .int (nI t) :: .int (nI k) :: rest)) := by
  exact kc_I (W.runS (As := [.int (nI k), .int (nI t), .int (nI c)]) (rest := rest) F (c_L_many l (nI k) (nI t) (nI c) (nI (stN k t c)) (lmany_all k (by omega) t (by omega) c (by omega))) (va_cwS 3 F.2.2.2.2 hG rfl rfl rfl (by decide +kernel) hR) preT_S rfl rfl hls rfl (lv_room hwt) hd hck) kont

theorem ST_ok {s0 : State} {D : va_G} {cyI cyJ cyS : ClassId} {a a_now a_spare a_text : Nat → Nat} {qd : Nat} {dv : Nat → Int32} {A : Nat → Prop} {mo nf fo no un : Nat} {Wi Gi Ki Ce Fd FR NR UR : Nat → Nat} {I : Option SeaN} {ab be : Int64} {H : Heap} {locs : List Loc} (h : ST D cyI cyJ cyS a a_now a_spare a_text qd dv A s0.heap mo nf fo no un Wi Gi Ki Ce Fd FR NR UR I ab be H locs) :
    mo ≤ 999 ∧ nf ≤ 5 ∧ un ≤ 8 ∧ (∀ i, i < 12 → Wi i ≤ 3) ∧ (∀ i, i < 12 → Gi i ≤ 3) ∧ (∀ f, f < nf → Ki f ≤ 5) ∧ (∀ f, f < nf → Ce f ≤ 35) ∧ ∀ f, f < nf → Fd f ≤ 99 := by
  obtain ⟨x, gI, Z, hCR, hZR, hP, hPZ, hD, hS⟩ := h
  obtain ⟨o0, o1, o2, o3, o4, o5, o6, o7, o8, o9, -⟩ := hCR.1
  exact ⟨o0, o1, o4, o5, o6, o7, o8, o9⟩
theorem ST_S {s0 : State} {D : va_G} {cyI cyJ cyS : ClassId} {a a_now a_spare a_text : Nat → Nat} {qd : Nat} {dv : Nat → Int32} {A : Nat → Prop} {mo nf fo no un : Nat} {Wi Gi Ki Ce Fd FR NR UR : Nat → Nat} {I : Option SeaN} {ab be : Int64} {H : Heap} {locs : List Loc} (h : ST D cyI cyJ cyS a a_now a_spare a_text qd dv A s0.heap mo nf fo no un Wi Gi Ki Ce Fd FR NR UR I ab be H locs) : va_S A s0.heap H locs := by
  obtain ⟨x, gI, Z, hCR, hZR, hP, hPZ, hD, hS⟩ := h
  exact hS

set_option maxHeartbeats 4000000 in
set_option maxRecDepth 100000 in
theorem lk_dget {p : Program} {l : Launch} {en : Env} {Rm : Room} {s0 : State} {m : MethodId} {args : Array Value} {below : List Frame} {meth : Method} {co : Code} {cc : ByteArray} {nL : Nat} {Ts : List Cond} (F : CallFix p m co cc nL s0 args Ts RL) {D : va_G} {cyI cyJ cyS : ClassId} (hKK : KK D (tyS cyI cyJ cyS) s0) {A : Nat → Prop} (hA : ∀ q, s0.heap.size ≤ q → A q) {a a_now a_spare a_text : Nat → Nat} {qd : Nat} {dv : Nat → Int32} {H : Heap} {locs : List Loc} {ck sk : Nat} {Q : State → Prop} {pc : Nat} {ls : Array Slot} {rest : List Value} {mo nf fo no un : Nat} {Wi Gi Ki Ce Fd FR NR UR : Nat → Nat} {I : Option SeaN} {ab be : Int64} (hd : decode cc pc = .ok (.iaload, 1)) (i : Nat) (hi : i < 29) (hST : ST D cyI cyJ cyS a a_now a_spare a_text qd dv A s0.heap mo nf fo no un Wi Gi Ki Ce Fd FR NR UR I ab be H locs) (kont : W p l en Rm s0 m args below meth co H locs ck sk Q (F0 m (pc + 1) ls (.int (dv i) :: rest))) : W p l en Rm s0 m args below meth co H locs ck sk Q (F0 m pc ls (.int (nI i) :: .ref qd :: rest)) := by
  obtain ⟨x, gI, Z, hCR, hZR, hP, hPZ, hD, hS⟩ := hST
  have hK := hKK.1
  have hP : va_P D vwCl [oX3 a a_now a_spare a_text (x_above x) (x_below x) (x_bads x) (x_nos x) (x_fulls x), oX1 a_now (xn_month x) (xn_floes x) (xn_founds x) (xn_notes x) (xn_undos x), rI cyI (a_now 1) 12 (xn_ways x), rI cyI (a_now 2) 12 (xn_strengths x), rI cyI (a_now 3) 5 (xn_kinds x), rI cyI (a_now 4) 5 (xn_cells x), rI cyI (a_now 5) 5 (xn_foods x), rI cyI (a_now 6) 12 (xn_foundRows x), rI cyI (a_now 7) 42 (xn_noteRows x), rI cyI (a_now 8) 88 (xn_undoRows x), oX1 a_spare (xs_month x) (xs_floes x) (xs_founds x) (xs_notes x) (xs_undos x), rI cyI (a_spare 1) 12 (xs_ways x), rI cyI (a_spare 2) 12 (xs_strengths x), rI cyI (a_spare 3) 5 (xs_kinds x), rI cyI (a_spare 4) 5 (xs_cells x), rI cyI (a_spare 5) 5 (xs_foods x), rI cyI (a_spare 6) 12 (xs_foundRows x), rI cyI (a_spare 7) 42 (xs_noteRows x), rI cyI (a_spare 8) 88 (xs_undoRows x), rS cyS (a 1) 2 gI, oX2 a_text (xt_length x) (xt_place x) (xt_fault x), rI cyI (a_text 1) 150 (xt_bytes x), rJ cyJ (a 2) 36 (x_odds x), rJ cyJ (a 3) 36 (x_nextOdds x), rI cyI (a 4) 12 (x_gains x), rI cyI qd 29 dv] H := hP
  have hD : va_D A ([oX3 a a_now a_spare a_text (x_above x) (x_below x) (x_bads x) (x_nos x) (x_fulls x), oX1 a_now (xn_month x) (xn_floes x) (xn_founds x) (xn_notes x) (xn_undos x), rI cyI (a_now 1) 12 (xn_ways x), rI cyI (a_now 2) 12 (xn_strengths x), rI cyI (a_now 3) 5 (xn_kinds x), rI cyI (a_now 4) 5 (xn_cells x), rI cyI (a_now 5) 5 (xn_foods x), rI cyI (a_now 6) 12 (xn_foundRows x), rI cyI (a_now 7) 42 (xn_noteRows x), rI cyI (a_now 8) 88 (xn_undoRows x), oX1 a_spare (xs_month x) (xs_floes x) (xs_founds x) (xs_notes x) (xs_undos x), rI cyI (a_spare 1) 12 (xs_ways x), rI cyI (a_spare 2) 12 (xs_strengths x), rI cyI (a_spare 3) 5 (xs_kinds x), rI cyI (a_spare 4) 5 (xs_cells x), rI cyI (a_spare 5) 5 (xs_foods x), rI cyI (a_spare 6) 12 (xs_foundRows x), rI cyI (a_spare 7) 42 (xs_noteRows x), rI cyI (a_spare 8) 88 (xs_undoRows x), rS cyS (a 1) 2 gI, oX2 a_text (xt_length x) (xt_place x) (xt_fault x), rI cyI (a_text 1) 150 (xt_bytes x), rJ cyJ (a 2) 36 (x_odds x), rJ cyJ (a 3) 36 (x_nextOdds x), rI cyI (a 4) 12 (x_gains x), rI cyI qd 29 dv] ++ Z) := hD
  have e : dv i = dv (nI i).toNatClampNeg := by rw [nI_clamp (by omega)]
  rw [e] at kont
  exact va_iald F.1 F.2.1 hK hP 25 0 rfl rfl (nI_in hi (by omega)) hd kont

set_option maxHeartbeats 4000000 in
set_option maxRecDepth 100000 in
theorem lk_dput {p : Program} {l : Launch} {en : Env} {Rm : Room} {s0 : State} {m : MethodId} {args : Array Value} {below : List Frame} {meth : Method} {co : Code} {cc : ByteArray} {nL : Nat} {Ts : List Cond} (F : CallFix p m co cc nL s0 args Ts RL) {D : va_G} {cyI cyJ cyS : ClassId} (hKK : KK D (tyS cyI cyJ cyS) s0) {A : Nat → Prop} (hA : ∀ q, s0.heap.size ≤ q → A q) {a a_now a_spare a_text : Nat → Nat} {qd : Nat} {dv : Nat → Int32} {H : Heap} {locs : List Loc} {ck sk : Nat} {Q : State → Prop} {pc : Nat} {ls : Array Slot} {rest : List Value} {mo nf fo no un : Nat} {Wi Gi Ki Ce Fd FR NR UR : Nat → Nat} {ab be : Int64} (hd : decode cc pc = .ok (.iastore, 1)) (i : Nat) (hi : i < 29) (v : Int32) (hST : ST D cyI cyJ cyS a a_now a_spare a_text qd dv A s0.heap mo nf fo no un Wi Gi Ki Ce Fd FR NR UR none ab be H locs) (kont : ∀ (H1 : Heap) (locs1 : List Loc), ST D cyI cyJ cyS a a_now a_spare a_text qd (upd dv i v) A s0.heap mo nf fo no un Wi Gi Ki Ce Fd FR NR UR none ab be H1 locs1 → W p l en Rm s0 m args below meth co H1 locs1 ck sk Q (F0 m (pc + 1) ls rest)) : W p l en Rm s0 m args below meth co H locs ck sk Q (F0 m pc ls (.int v :: .int (nI i) :: .ref qd :: rest)) := by
  obtain ⟨x, gI, Z, hCR, hZR, hP, hPZ, hD, hS⟩ := hST
  have hK := hKK.1
  have hv0 : x_img0 x = none := hCR.2.2.1
  have hv1 : x_img1 x = none := hCR.2.2.2.1
  obtain ⟨z0, z1, hZ, hg0, hg1⟩ := hZR
  have hZ0 : Z = [] := by rw [hZ, hv0, hv1]; rfl
  rw [hZ0] at hD hPZ
  have hP : va_P D vwCl [oX3 a a_now a_spare a_text (x_above x) (x_below x) (x_bads x) (x_nos x) (x_fulls x), oX1 a_now (xn_month x) (xn_floes x) (xn_founds x) (xn_notes x) (xn_undos x), rI cyI (a_now 1) 12 (xn_ways x), rI cyI (a_now 2) 12 (xn_strengths x), rI cyI (a_now 3) 5 (xn_kinds x), rI cyI (a_now 4) 5 (xn_cells x), rI cyI (a_now 5) 5 (xn_foods x), rI cyI (a_now 6) 12 (xn_foundRows x), rI cyI (a_now 7) 42 (xn_noteRows x), rI cyI (a_now 8) 88 (xn_undoRows x), oX1 a_spare (xs_month x) (xs_floes x) (xs_founds x) (xs_notes x) (xs_undos x), rI cyI (a_spare 1) 12 (xs_ways x), rI cyI (a_spare 2) 12 (xs_strengths x), rI cyI (a_spare 3) 5 (xs_kinds x), rI cyI (a_spare 4) 5 (xs_cells x), rI cyI (a_spare 5) 5 (xs_foods x), rI cyI (a_spare 6) 12 (xs_foundRows x), rI cyI (a_spare 7) 42 (xs_noteRows x), rI cyI (a_spare 8) 88 (xs_undoRows x), rS cyS (a 1) 2 gI, oX2 a_text (xt_length x) (xt_place x) (xt_fault x), rI cyI (a_text 1) 150 (xt_bytes x), rJ cyJ (a 2) 36 (x_odds x), rJ cyJ (a 3) 36 (x_nextOdds x), rI cyI (a 4) 12 (x_gains x), rI cyI qd 29 dv] H := hP
  have hD : va_D A [oX3 a a_now a_spare a_text (x_above x) (x_below x) (x_bads x) (x_nos x) (x_fulls x), oX1 a_now (xn_month x) (xn_floes x) (xn_founds x) (xn_notes x) (xn_undos x), rI cyI (a_now 1) 12 (xn_ways x), rI cyI (a_now 2) 12 (xn_strengths x), rI cyI (a_now 3) 5 (xn_kinds x), rI cyI (a_now 4) 5 (xn_cells x), rI cyI (a_now 5) 5 (xn_foods x), rI cyI (a_now 6) 12 (xn_foundRows x), rI cyI (a_now 7) 42 (xn_noteRows x), rI cyI (a_now 8) 88 (xn_undoRows x), oX1 a_spare (xs_month x) (xs_floes x) (xs_founds x) (xs_notes x) (xs_undos x), rI cyI (a_spare 1) 12 (xs_ways x), rI cyI (a_spare 2) 12 (xs_strengths x), rI cyI (a_spare 3) 5 (xs_kinds x), rI cyI (a_spare 4) 5 (xs_cells x), rI cyI (a_spare 5) 5 (xs_foods x), rI cyI (a_spare 6) 12 (xs_foundRows x), rI cyI (a_spare 7) 42 (xs_noteRows x), rI cyI (a_spare 8) 88 (xs_undoRows x), rS cyS (a 1) 2 gI, oX2 a_text (xt_length x) (xt_place x) (xt_fault x), rI cyI (a_text 1) 150 (xt_bytes x), rJ cyJ (a 2) 36 (x_odds x), rJ cyJ (a 3) 36 (x_nextOdds x), rI cyI (a 4) 12 (x_gains x), rI cyI qd 29 dv] := by rw [List.append_nil] at hD; exact hD
  refine va_iast F.1 F.2.1 hK hP hD hS 25 0 rfl rfl (nI_in hi (by omega)) hd (fun H1 L1 hP hD hS => ?_)
  rw [nI_clamp (by omega)] at hP hD
  exact kont H1 L1 ⟨x, gI, [], hCR, ⟨z0, z1, by rw [hv0, hv1]; rfl, hg0, hg1⟩, hP, fun k q h => by simp at h, by rw [List.append_nil]; exact hD, hS⟩

abbrev rm_L_cell : Room := { frames := 0, cells := 0, slots := 0, locals := 0 }
def preX (bs Ls : Nat) (xs : Nat → Int32) : State → Prop := fun U => va_X bs Ls xs U U.heap ∧ bs < U.heap.size
theorem preX_S {s : State} {H : Heap} {As : List Value} {bs Ls : Nat} {xs : Nat → Int32} (hX : va_X bs Ls xs s H) (hb : bs < H.size) : PreS s H (va_Pc As (preX bs Ls xs)) As := ⟨fun a U g mk q => ⟨q.1, va_X.moved (u := U) (U := U.calling g mk a) (Vm.Alike.refl U.vm) q.2.1, q.2.2⟩, fun U hU hW => ⟨rfl, by unfold preX; rw [hU]; exact ⟨va_X.moved hW.alike hX, hb⟩⟩⟩
set_option maxHeartbeats 4000000 in
set_option maxRecDepth 100000 in
theorem c_L_cell (l : Launch) (bs Ls : Nat) (xs : Nat → Int32) (hL : Ls ≤ 260) (j : Nat) (hj : j < 2 ^ 30) : Met l yL_cell wsL_cell rm_L_cell (va_Pc [.ref bs, .int (nI j)] (preX bs Ls xs)) (vp_Si (fun _ => True)) 0 0 (fun _ => False) := by
  refine Met.ofW (cc := cL_cell) (maxL := 2) (ret := (some .int)) (by decide) rfl ?_
  intro p e s m args below meth c s₁ B hml hv
  obtain ⟨rfl, hX, hbl⟩ := hv
  have hx := B.exec
  have hb := B.bytes
  have hr := B.returns
  have hts := atoms_spec (ws := wsL_cell) B.pre
  have hown : s.vm.findClass RL = some m.cls := findClass_of_methodNamed B.named
  have hlocks := B.notSynchronized
  have hS : va_S (fun _ => False) s.heap s.heap [] := va_S.rf
  have hl := lv_entry [.ref bs, .int (nI j)] (n := 2) (Nat.le_of_ble_eq_true rfl)
  rw [lg_entry_eq]
  generalize (lg_sl [.ref bs, .int (nI j)] ++ List.replicate (2 - (lg_sl [.ref bs, .int (nI j)]).length) Slot.unset).toArray = ls at hl ⊢
  have hl : lv_has ls 2 [(0, .ref bs), (1, .int (nI j))] := hl
  refine lv_iload_n hx hb dL_cell_0 rfl (lv_at hl 1 rfl) ?_
  refine lv_aload_n hx hb dL_cell_1 rfl (lv_at hl 0 rfl) ?_
  refine va_slen hx hb hX hbl (fun h => h) hS dL_cell_2 ?_
  refine lv_icmp_ge (tgt := 12) hx hb dL_cell_3 (by decide) (fun _ => ?_) (fun hlt => ?_)
  · refine lv_ldc (v := 40503) hx hb hown (hts (Cond.constant RL 8 (40503)) (List.mem_of_getElem? (i := 1) rfl)) dL_cell_12 ?_
    refine lv_iload_n hx hb dL_cell_14 rfl (lv_at hl 1 rfl) ?_
    refine lv_imul hx hb dL_cell_15 ?_
    refine lv_sipush (v := 977) hx hb dL_cell_16 (by decide) ?_
    refine lv_iadd hx hb dL_cell_19 ?_
    exact W.iret (v := 40503 * nI j + 977) hx hb hr (fun t ht hW => ⟨40503 * nI j + 977, rfl, trivial, ht⟩) (fun q hq => by cases hq) dL_cell_20
  · have hjl : j < Ls := by
      rw [show Int32.ofNat Ls = nI Ls from rfl, nI_leI (by omega) (by omega)] at hlt
      omega
    refine lv_aload_n hx hb dL_cell_6 rfl (lv_at hl 0 rfl) ?_
    refine lv_iload_n hx hb dL_cell_7 rfl (lv_at hl 1 rfl) ?_
    refine va_sld hx hb hX hbl (fun h => h) hS (nI_in hjl (by omega)) dL_cell_8 ?_
    refine lv_goto (tgt := 20) hx hb dL_cell_9 (by decide) ?_
    exact W.iret (v := xs (nI j).toNatClampNeg) hx hb hr (fun t ht hW => ⟨xs (nI j).toNatClampNeg, rfl, trivial, ht⟩) (fun q hq => by cases hq) dL_cell_20
set_option maxHeartbeats 4000000 in
set_option maxRecDepth 100000 in
theorem lk_cell {p : Program} {l : Launch} {en : Env} {Rm : Room} {s0 : State} {m : MethodId} {args : Array Value} {below : List Frame} {meth : Method} {co : Code} {cc : ByteArray} {nL : Nat} {Ts : List Cond} (F : CallFix p m co cc nL s0 args Ts RL) {D : va_G} {cyI cyJ cyS : ClassId} (hKK : KK D (tyS cyI cyJ cyS) s0) {A : Nat → Prop} (hA : ∀ q, s0.heap.size ≤ q → A q) {a a_now a_spare a_text : Nat → Nat} {qd : Nat} {dv : Nat → Int32} {H : Heap} {locs : List Loc} {ck sk : Nat} {Q : State → Prop} {pc idx : Nat} {ls : Array Slot} {rest : List Value} {mo nf fo no un : Nat} {Wi Gi Ki Ce Fd FR NR UR : Nat → Nat} {I : Option SeaN} {ab be : Int64} (hG : GoodIn Ts (va_wsS RL idx yL_cell wsL_cell)) (hR : rm_L_cell.frames + 1 ≤ Rm.frames ∧ 8 + (2 + 11) + rm_L_cell.locals ≤ Rm.locals) (hck : ck ≤ Rm.cells ∧ sk ≤ Rm.slots) (hd : decode cc pc = .ok (.invokestatic idx, 3)) (hls : ls.size = nL) (hwt : (rest.map fun v => v.category).sum ≤ 8) {bs Ls : Nat} {xs : Nat → Int32} (hL : Ls ≤ 260) (hX : va_X bs Ls xs s0 s0.heap) (hbl : bs < s0.heap.size) (hbA : ¬ A bs) (hST : ST D cyI cyJ cyS a a_now a_spare a_text qd dv A s0.heap mo nf fo no un Wi Gi Ki Ce Fd FR NR UR I ab be H locs) (j : Nat) (hj : j < 2 ^ 30) (kont : ∀ v : Int32, W p l en Rm s0 m args below meth co H locs ck sk Q (F0 m (pc + 3) ls (.int v :: rest))) : W p l en Rm s0 m args below meth co H locs ck sk Q (F0 m pc ls (.int (nI j) :: .ref bs :: rest)) := by
  have hS := ST_S hST
  have hX1 : va_X bs Ls xs s0 H := hX.kept (hS.2.1 bs hbl hbA)
  have hb1 : bs < H.size := Nat.lt_of_lt_of_le hbl hS.1
  exact vp_callSi (W.runS (As := [.ref bs, .int (nI j)]) (rest := rest) F (c_L_cell l bs Ls xs hL j hj) (va_cwS 2 F.2.2.2.2 hG rfl rfl rfl (by decide +kernel) hR) (preX_S hX1 hb1) rfl rfl hls rfl (lv_room hwt) hd hck) (fun v _ => kont v)
set_option maxHeartbeats 4000000 in
set_option maxRecDepth 100000 in
theorem lk_drift {p : Program} {l : Launch} {en : Env} {Rm : Room} {s0 : State} {m : MethodId} {args : Array Value} {below : List Frame} {meth : Method} {co : Code} {cc : ByteArray} {nL : Nat} {Ts : List Cond} (F : CallFix p m co cc nL s0 args Ts RL) {D : va_G} {cyI cyJ cyS : ClassId} (hKK : KK D (tyS cyI cyJ cyS) s0) {A : Nat → Prop} (hA : ∀ q, s0.heap.size ≤ q → A q) {a a_now a_spare a_text : Nat → Nat} {qd : Nat} {dv : Nat → Int32} {H : Heap} {locs : List Loc} {ck sk : Nat} {Q : State → Prop} {pc idx : Nat} {ls : Array Slot} {rest : List Value} {mo nf fo no un : Nat} {Wi Gi Ki Ce Fd FR NR UR : Nat → Nat} {I : Option SeaN} {ab be : Int64} (hG : GoodIn Ts (va_wsS RL idx yL_drift wsL_drift)) (hR : rm_L_drift.frames + 1 ≤ Rm.frames ∧ 8 + (5 + 11) + rm_L_drift.locals ≤ Rm.locals) (hck : ck ≤ Rm.cells ∧ sk ≤ Rm.slots) (hd : decode cc pc = .ok (.invokestatic idx, 3)) (hls : ls.size = nL) (hwt : (rest.map fun v => v.category).sum ≤ 8) (hST : ST D cyI cyJ cyS a a_now a_spare a_text qd dv A s0.heap mo nf fo no un Wi Gi Ki Ce Fd FR NR UR I ab be H locs) (hdv : ∀ i, i < 12 → dv (17 + i) = nI (Wi i + 4 * Gi i)) (k c q : Nat) (hk : k ≤ 5) (hc : c ≤ 35) (hq : q < 2 ^ 30) (kont : W p l en Rm s0 m args below meth co H locs ck sk Q (F0 m (pc + 3) ls (.int (nI (itN Wi Gi k c q)) :: rest))) : W p l en Rm s0 m args below meth co H locs ck sk Q (F0 m pc ls (.int (nI q) :: .int (nI c) :: .int (nI k) :: .ref qd :: rest)) := by
  obtain ⟨-, -, -, w3, g3, -⟩ := ST_ok hST
  have e := ldrift_n hdv w3 g3 hk hc hq
  obtain ⟨x, gI, Z, hCR, hZR, hP, hPZ, hD, hS⟩ := hST
  have hP : va_P D vwCl [oX3 a a_now a_spare a_text (x_above x) (x_below x) (x_bads x) (x_nos x) (x_fulls x), oX1 a_now (xn_month x) (xn_floes x) (xn_founds x) (xn_notes x) (xn_undos x), rI cyI (a_now 1) 12 (xn_ways x), rI cyI (a_now 2) 12 (xn_strengths x), rI cyI (a_now 3) 5 (xn_kinds x), rI cyI (a_now 4) 5 (xn_cells x), rI cyI (a_now 5) 5 (xn_foods x), rI cyI (a_now 6) 12 (xn_foundRows x), rI cyI (a_now 7) 42 (xn_noteRows x), rI cyI (a_now 8) 88 (xn_undoRows x), oX1 a_spare (xs_month x) (xs_floes x) (xs_founds x) (xs_notes x) (xs_undos x), rI cyI (a_spare 1) 12 (xs_ways x), rI cyI (a_spare 2) 12 (xs_strengths x), rI cyI (a_spare 3) 5 (xs_kinds x), rI cyI (a_spare 4) 5 (xs_cells x), rI cyI (a_spare 5) 5 (xs_foods x), rI cyI (a_spare 6) 12 (xs_foundRows x), rI cyI (a_spare 7) 42 (xs_noteRows x), rI cyI (a_spare 8) 88 (xs_undoRows x), rS cyS (a 1) 2 gI, oX2 a_text (xt_length x) (xt_place x) (xt_fault x), rI cyI (a_text 1) 150 (xt_bytes x), rJ cyJ (a 2) 36 (x_odds x), rJ cyJ (a 3) 36 (x_nextOdds x), rI cyI (a 4) 12 (x_gains x), rI cyI qd 29 dv] H := hP
  exact kc_I (W.runS (As := [.ref qd, .int (nI k), .int (nI c), .int (nI q)]) (rest := rest) F (c_L_drift l D cyI cyJ cyS 1000 qd 29 dv (nI k) (nI c) (nI q) (nI (itN Wi Gi k c q)) e) (va_cwS 4 F.2.2.2.2 hG rfl rfl rfl (by decide +kernel) hR) (preR_S (hP.sub (ws' := [rI cyI qd 29 dv]) [25] rfl) hKK) rfl rfl hls rfl (lv_room hwt) hd hck) kont
