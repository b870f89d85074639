/-! what the cells of the system are, and the rows that the walks use -/
abbrev tyS (cyI cyJ cyS : ClassId) : List (ClassId × FieldType) := [(cyI, .int), (cyJ, .long), (cyS, .object "FrozenIn$Sea")]
abbrev oX1 (a : Nat → Nat) (month_ : Int32) (floes_ : Int32) (founds_ : Int32) (notes_ : Int32) (undos_ : Int32) : Nat × va_E := (a 0, .inr (0, [.int month_, .ref (a 1), .ref (a 2), .int floes_, .ref (a 3), .ref (a 4), .ref (a 5), .int founds_, .ref (a 6), .int notes_, .ref (a 7), .int undos_, .ref (a 8)]))
abbrev oX2 (a : Nat → Nat) (length_ : Int32) (place_ : Int32) (fault_ : Int32) : Nat × va_E := (a 0, .inr (1, [.ref (a 1), .int length_, .int place_, .int fault_]))
abbrev oX3 (a a_now a_spare a_text : Nat → Nat) (above_ : Int64) (below_ : Int64) (bads_ : Int32) (nos_ : Int32) (fulls_ : Int32) : Nat × va_E := (a 0, .inr (2, [.ref (a_now 0), .ref (a_spare 0), .ref (a 1), .ref (a_text 0), .ref (a 2), .ref (a 3), .ref (a 4), .long above_, .long below_, .int bads_, .int nos_, .int fulls_]))
abbrev rI (cyI : ClassId) (q n : Nat) (f : Nat → Int32) : Nat × va_E := (q, .inl (cyI, n, .inl f))
abbrev rJ (cyJ : ClassId) (q n : Nat) (f : Nat → Int64) : Nat × va_E := (q, .inl (cyJ, n, .inr (.inl f)))
abbrev rS (cyS : ClassId) (q n : Nat) (f : Nat → Option Nat) : Nat × va_E := (q, .inl (cyS, n, .inr (.inr (.inr (.inr f)))))
def KK (D : va_G) (tys : List (ClassId × FieldType)) (U : State) : Prop := va_K D vwCl tys U ∧ va_Nw (.methodLinkNest RX3 25 yX2_init "FrozenIn") U ∧ va_Nw (.methodLinkNest RX1 74 yX3_isOut "FrozenIn") U ∧ va_AO "FrozenIn$Sea" U
theorem KK_warm {D : va_G} {tys : List (ClassId × FieldType)} {s U : State} (hW : s.WarmedH U.vm) (h : KK D tys s) : KK D tys U := ⟨va_K.moved hW.alike h.1, va_Nw.warmM hW h.2.1, va_Nw.warmM hW h.2.2.1, va_AO.moved hW.alike h.2.2.2⟩
theorem KK_calling {D : va_G} {tys : List (ClassId × FieldType)} {U : State} {g : JFrame} {mk : MethodId} {a : Array Value} (h : KK D tys U) : KK D tys (U.calling g mk a) := ⟨va_K.moved (u := U) (U := U.calling g mk a) (Vm.Alike.refl U.vm) h.1, va_Nw.same rfl rfl h.2.1, va_Nw.same rfl rfl h.2.2.1, va_AO.moved (u := U) (U := U.calling g mk a) (Vm.Alike.refl U.vm) h.2.2.2⟩
/-- an index looked at: outside its row there is no answer -/
def ob {α : Type} (i : Int32) (n : Nat) (k : Option α) : Option α := if i < 0 ∨ n ≤ i.toNatClampNeg then none else k
theorem ob_e {α : Type} {i : Int32} {n : Nat} {k : Option α} {r : α} (h : ob i n k = some r) : vp_in i n ∧ k = some r := by
  unfold ob at h
  by_cases c : i < 0 ∨ n ≤ i.toNatClampNeg
  · rw [if_pos c] at h; cases h
  · rw [if_neg c] at h; exact ⟨c, h⟩
theorem ob_in {α : Type} {i : Int32} {n : Nat} {k : Option α} (h : vp_in i n) : ob i n k = k := if_neg h
/-- a divisor looked at -/
def nz {α β : Type} [DecidableEq β] [OfNat β 0] (y : β) (k : Option α) : Option α := if y = 0 then none else k
theorem nz_e {α β : Type} [DecidableEq β] [OfNat β 0] {y : β} {k : Option α} {r : α} (h : nz y k = some r) : ¬ y = 0 ∧ k = some r := by
  unfold nz at h
  by_cases c : y = 0
  · rw [if_pos c] at h; cases h
  · rw [if_neg c] at h; exact ⟨c, h⟩
theorem nz_ne {α β : Type} [DecidableEq β] [OfNat β 0] {y : β} {k : Option α} (h : ¬ y = 0) : nz y k = k := if_neg h
/-- a copy's places looked at -/
def gcC (sp dp n : Int32) (n0 n1 : Nat) : Prop := ¬ sp < 0 ∧ ¬ dp < 0 ∧ ¬ n < 0 ∧ sp.toNatClampNeg + n.toNatClampNeg ≤ n0 ∧ dp.toNatClampNeg + n.toNatClampNeg ≤ n1
def gc {α : Type} (sp dp n : Int32) (n0 n1 : Nat) (k : Option α) : Option α := if ¬ sp < 0 ∧ ¬ dp < 0 ∧ ¬ n < 0 ∧ sp.toNatClampNeg + n.toNatClampNeg ≤ n0 ∧ dp.toNatClampNeg + n.toNatClampNeg ≤ n1 then k else none
theorem gc_e {α : Type} {sp dp n : Int32} {n0 n1 : Nat} {k : Option α} {r : α} (h : gc sp dp n n0 n1 k = some r) : gcC sp dp n n0 n1 ∧ k = some r := by
  unfold gc at h
  by_cases c : ¬ sp < 0 ∧ ¬ dp < 0 ∧ ¬ n < 0 ∧ sp.toNatClampNeg + n.toNatClampNeg ≤ n0 ∧ dp.toNatClampNeg + n.toNatClampNeg ≤ n1
  · rw [if_pos c] at h; exact ⟨c, h⟩
  · rw [if_neg c] at h; cases h
theorem gc_in {α : Type} {sp dp n : Int32} {n0 n1 : Nat} {k : Option α} (h : gcC sp dp n n0 n1) : gc sp dp n n0 n1 k = k := if_pos h
/-- a truth value looked at -/
def nb (v : Int32) : Prop := v = 0 ∨ v = 1
def gb {α : Type} (v : Int32) (k : Option α) : Option α := if v = 0 ∨ v = 1 then k else none
theorem gb_e {α : Type} {v : Int32} {k : Option α} {r : α} (h : gb v k = some r) : nb v ∧ k = some r := by
  unfold gb at h
  by_cases c : v = 0 ∨ v = 1
  · rw [if_pos c] at h; exact ⟨c, h⟩
  · rw [if_neg c] at h; cases h
theorem gb_in {α : Type} {v : Int32} {k : Option α} (h : nb v) : gb v k = k := if_pos h
theorem nb_0 : nb 0 := Or.inl rfl
theorem nb_1 : nb 1 := Or.inr rfl
theorem nb_n {v : Int32} (h : nb v) : narrow .boolean (.int v) = .int v := by
  rcases h with h | h <;> subst h <;> rfl
def lt' {α β : Type} (x : α) (f : α → β) : β := f x
theorem lt_e {α β : Type} {x : α} {f : α → β} {y : β} (h : lt' x f = y) : ∃ u, u = x ∧ f u = y := ⟨x, rfl, h⟩
def jn {α β : Type} (x : α) (f : α → β) : β := f x
theorem jn_e {α β : Type} {x : α} {f : α → β} {y : β} (h : jn x f = y) : ∃ u, u = x ∧ f u = y := ⟨x, rfl, h⟩
theorem bd_e {α β : Type} {x : Option α} {f : α → Option β} {y : β} (h : Option.bind x f = some y) : ∃ u, x = some u ∧ f u = some y := by
  cases x with
  | none => cases h
  | some u => exact ⟨u, rfl, h⟩
/-- a method's start: what it finds -/
def preR (D : va_G) (tys : List (ClassId × FieldType)) (ws : va_W) : State → Prop := fun U => va_P D vwCl ws U.heap ∧ KK D tys U
def preW (D : va_G) (tys : List (ClassId × FieldType)) (ws : va_W) (sz : Nat) : State → Prop := fun U => U.heap.size = sz ∧ va_P D vwCl ws U.heap ∧ KK D tys U ∧ va_D (fun _ => True) ws
section PRE
variable {s : State} {H : Heap} {D : va_G} {tys : List (ClassId × FieldType)} {wc : va_W} {As : List Value} {C : String} {b : Addr} {A : Nat → Prop}
theorem preT_S : PreS s H (va_Pc As (fun _ => True)) As := ⟨fun _ _ _ _ q => q, fun _ _ _ => ⟨rfl, trivial⟩⟩
theorem preT_V (hr : ∃ cell : Cell, H[b]? = some cell ∧ cell.vm.isStatics = false ∧ s.vm.findClass C = some cell.cls) : PreV s H C b (va_Pc (.ref b :: As) (fun _ => True)) As := ⟨fun _ _ _ _ q => q, hr, fun _ _ _ => ⟨rfl, trivial⟩⟩
theorem preR_S (hP : va_P D vwCl wc H) (hK : KK D tys s) : PreS s H (va_Pc As (preR D tys wc)) As := ⟨fun _ _ _ _ q => ⟨q.1, q.2.1, KK_calling q.2.2⟩, fun U hU hW => ⟨rfl, by rw [hU]; exact hP, KK_warm hW hK⟩⟩
theorem preR_V (hP : va_P D vwCl wc H) (hK : KK D tys s) (hr : ∃ cell : Cell, H[b]? = some cell ∧ cell.vm.isStatics = false ∧ s.vm.findClass C = some cell.cls) : PreV s H C b (va_Pc (.ref b :: As) (preR D tys wc)) As := ⟨fun _ _ _ _ q => ⟨q.1, q.2.1, KK_calling q.2.2⟩, hr, fun U hU hW => ⟨rfl, by rw [hU]; exact hP, KK_warm hW hK⟩⟩
theorem preW_S (hP : va_P D vwCl wc H) (hD : va_D A wc) (hK : KK D tys s) : PreS s H (va_Pc As (preW D tys wc H.size)) As := ⟨fun _ _ _ _ q => ⟨q.1, q.2.1, q.2.2.1, KK_calling q.2.2.2.1, q.2.2.2.2⟩, fun U hU hW => ⟨rfl, by rw [hU], by rw [hU]; exact hP, KK_warm hW hK, hD.weaken (fun _ _ _ _ => trivial)⟩⟩
theorem preW_V (hP : va_P D vwCl wc H) (hD : va_D A wc) (hK : KK D tys s) (hr : ∃ cell : Cell, H[b]? = some cell ∧ cell.vm.isStatics = false ∧ s.vm.findClass C = some cell.cls) : PreV s H C b (va_Pc (.ref b :: As) (preW D tys wc H.size)) As := ⟨fun _ _ _ _ q => ⟨q.1, q.2.1, q.2.2.1, KK_calling q.2.2.2.1, q.2.2.2.2⟩, hr, fun U hU hW => ⟨rfl, by rw [hU], by rw [hU]; exact hP, KK_warm hW hK, hD.weaken (fun _ _ _ _ => trivial)⟩⟩
end PRE
/-- a part of a list, by places: as va_P wants it -/
theorem pl_fm {α : Type} {ws ws' : List α} {is : List Nat} (h : is.map (fun i => ws[i]?) = ws'.map some) : is.filterMap (fun i => ws[i]?) = ws' := by
  have e : ∀ (is : List Nat) (ws' : List α), is.map (fun i => ws[i]?) = ws'.map some → is.filterMap (fun i => ws[i]?) = ws' := by
    intro is
    induction is with
    | nil => intro ws' h; cases ws' with
      | nil => rfl
      | cons a l => cases h
    | cons i is ih =>
      intro ws' h
      cases ws' with
      | nil => cases h
      | cons a l =>
        rw [List.map_cons, List.map_cons] at h
        obtain ⟨h1, h2⟩ := List.cons.inj h
        rw [List.filterMap_cons, h1]
        exact congrArg (a :: ·) (ih l h2)
  exact e is ws' h
section CALLS
variable {p : Program} {l : Launch} {e : Env} {R : Room} {s : State} {m : MethodId} {args : Array Value} {below : List Frame} {meth : Method} {c : Code} {H : Heap} {locs : List Loc} {cells slots : Nat} {Q : State → Prop}
variable {pc : Nat} {ls : Array Slot} {rest st0 : List Value} {a : Array Value} {A0 : Nat → Prop} {H0 : Heap} {mc ms : Nat} {D : va_G} {ws wc wr w1 ws' : va_W}
theorem lv_nm {x y : Int32} (h : y = x) (k : W p l e R s m args below meth c H locs cells slots Q (F0 m pc ls (.int y :: rest))) : W p l e R s m args below meth c H locs cells slots Q (F0 m pc ls (.int x :: rest)) := h ▸ k
theorem lv_nml {x y : Int64} (h : y = x) (k : W p l e R s m args below meth c H locs cells slots Q (F0 m pc ls (.long y :: rest))) : W p l e R s m args below meth c H locs cells slots Q (F0 m pc ls (.long x :: rest)) := h ▸ k
theorem kc_I {r0 : Int32} (hr : CallRun p l e R s m args below meth c H locs cells slots 0 0 (F0 m pc ls st0) rest (vp_Si (fun r => r = r0) a) (fun _ => False))
    (kk : W p l e R s m args below meth c H locs cells slots Q (F0 m (pc + 3) ls (.int r0 :: rest))) : W p l e R s m args below meth c H locs cells slots Q (F0 m pc ls st0) := vp_callSi hr (fun r h => by rw [h]; exact kk)
theorem kc_Z {r0 : Int32} (hr : CallRun p l e R s m args below meth c H locs cells slots 0 0 (F0 m pc ls st0) rest (vp_Si (fun r => r = r0 ∧ nb r) a) (fun _ => False))
    (kk : nb r0 → W p l e R s m args below meth c H locs cells slots Q (F0 m (pc + 3) ls (.int r0 :: rest))) : W p l e R s m args below meth c H locs cells slots Q (F0 m pc ls st0) := vp_callSi hr (fun r h => by rw [h.1]; exact kk (by rw [← h.1]; exact h.2))
theorem kc_L {r0 : Int64} (hr : CallRun p l e R s m args below meth c H locs cells slots 0 0 (F0 m pc ls st0) rest (vp_Sl (fun r => r = r0) a) (fun _ => False))
    (kk : W p l e R s m args below meth c H locs cells slots Q (F0 m (pc + 3) ls (.long r0 :: rest))) : W p l e R s m args below meth c H locs cells slots Q (F0 m pc ls st0) := vp_callSl hr (fun r h => by rw [h]; exact kk)
theorem kc_V (hr : CallRun p l e R s m args below meth c H locs cells slots 0 0 (F0 m pc ls st0) rest (va_Sv (fun _ => True) a) (fun _ => False))
    (kk : W p l e R s m args below meth c H locs cells slots Q (F0 m (pc + 3) ls rest)) : W p l e R s m args below meth c H locs cells slots Q (F0 m pc ls st0) := va_csv hr (fun _ => kk)
theorem kw_J {H1 : Heap} {t : State} (hP : va_P D vwCl ws H) (hD : va_D A0 ws) (isC isR is : List Nat) (hC : isC.map (fun i => ws[i]?) = wc.map some) (hR : isR.map (fun i => ws[i]?) = wr.map some) (hn : va_nd isR = true) (hdis : ∀ i ∈ isR, i ∉ isC)
    (hi : is.map (fun i => (wr ++ w1)[i]?) = ws'.map some) (hni : va_nd is = true) (hk : ∀ q : Nat, q < H.size → ¬ va_A wc H.size q → H1[q]? = H[q]?) (hF : ∀ q, va_A wc H.size q → A0 q) (ht : t.heap = H1) (hB : va_P D vwCl w1 t.heap ∧ va_D (va_A wc H.size) w1) : va_P D vwCl ws' H1 ∧ va_D A0 ws' := by
  obtain ⟨hP1, hD1⟩ := hB
  rw [ht] at hP1
  obtain ⟨h1, h2⟩ := va_join hP hD isC isR hC hR hn hdis hk hF hP1 hD1
  exact ⟨h1.sub is (pl_fm hi), h2.sub is hni hi⟩
theorem kw_I {r0 : Int32} (hr : va_Run p l e R s m args below meth c H locs cells slots mc ms (F0 m pc ls st0) rest (va_Qi (fun (r : Int32) (_ : Unit) => r = r0) (fun _ t => va_P D vwCl w1 t.heap ∧ va_D (va_A wc H.size) w1) (va_A wc H.size) a) (va_A wc H.size))
    (hP : va_P D vwCl ws H) (hD : va_D A0 ws) (hS : va_S A0 H0 H locs) (hA : ∀ q, H0.size ≤ q → A0 q) (isC isR is : List Nat) (hC : isC.map (fun i => ws[i]?) = wc.map some) (hR : isR.map (fun i => ws[i]?) = wr.map some) (hn : va_nd isR = true) (hdis : ∀ i ∈ isR, i ∉ isC) (hi : is.map (fun i => (wr ++ w1)[i]?) = ws'.map some) (hni : va_nd is = true)
    (kk : ∀ (H1 : Heap) (locs1 : List Loc), va_P D vwCl ws' H1 → va_D A0 ws' → va_S A0 H0 H1 locs1 → W p l e R s m args below meth c H1 locs1 (cells + mc) (slots + ms) Q (F0 m (pc + 3) ls (.int r0 :: rest))) : W p l e R s m args below meth c H locs cells slots Q (F0 m pc ls st0) := by
  have hF := va_free (wc := wc) hD hS hA isC hC
  refine va_calli hr hS (fun q _ h => hF q h) hF (fun r u t H1 locs1 ht hvm hw hB hz1 hk1 hS1 => ?_)
  obtain ⟨h1, h2⟩ := kw_J hP hD isC isR is hC hR hn hdis hi hni hk1 hF ht hB
  rw [hw]
  exact kk H1 locs1 h1 h2 hS1
theorem kw_Z {r0 : Int32} (hr : va_Run p l e R s m args below meth c H locs cells slots mc ms (F0 m pc ls st0) rest (va_Qi (fun (r : Int32) (_ : Unit) => r = r0 ∧ nb r) (fun _ t => va_P D vwCl w1 t.heap ∧ va_D (va_A wc H.size) w1) (va_A wc H.size) a) (va_A wc H.size))
    (hP : va_P D vwCl ws H) (hD : va_D A0 ws) (hS : va_S A0 H0 H locs) (hA : ∀ q, H0.size ≤ q → A0 q) (isC isR is : List Nat) (hC : isC.map (fun i => ws[i]?) = wc.map some) (hR : isR.map (fun i => ws[i]?) = wr.map some) (hn : va_nd isR = true) (hdis : ∀ i ∈ isR, i ∉ isC) (hi : is.map (fun i => (wr ++ w1)[i]?) = ws'.map some) (hni : va_nd is = true)
    (kk : ∀ (H1 : Heap) (locs1 : List Loc), nb r0 → va_P D vwCl ws' H1 → va_D A0 ws' → va_S A0 H0 H1 locs1 → W p l e R s m args below meth c H1 locs1 (cells + mc) (slots + ms) Q (F0 m (pc + 3) ls (.int r0 :: rest))) : W p l e R s m args below meth c H locs cells slots Q (F0 m pc ls st0) := by
  have hF := va_free (wc := wc) hD hS hA isC hC
  refine va_calli hr hS (fun q _ h => hF q h) hF (fun r u t H1 locs1 ht hvm hw hB hz1 hk1 hS1 => ?_)
  obtain ⟨h1, h2⟩ := kw_J hP hD isC isR is hC hR hn hdis hi hni hk1 hF ht hB
  rw [hw.1]
  exact kk H1 locs1 (by rw [← hw.1]; exact hw.2) h1 h2 hS1
theorem kw_L {r0 : Int64} (hr : va_Run p l e R s m args below meth c H locs cells slots mc ms (F0 m pc ls st0) rest (va_Ql (fun (r : Int64) (_ : Unit) => r = r0) (fun _ t => va_P D vwCl w1 t.heap ∧ va_D (va_A wc H.size) w1) (va_A wc H.size) a) (va_A wc H.size))
    (hP : va_P D vwCl ws H) (hD : va_D A0 ws) (hS : va_S A0 H0 H locs) (hA : ∀ q, H0.size ≤ q → A0 q) (isC isR is : List Nat) (hC : isC.map (fun i => ws[i]?) = wc.map some) (hR : isR.map (fun i => ws[i]?) = wr.map some) (hn : va_nd isR = true) (hdis : ∀ i ∈ isR, i ∉ isC) (hi : is.map (fun i => (wr ++ w1)[i]?) = ws'.map some) (hni : va_nd is = true)
    (kk : ∀ (H1 : Heap) (locs1 : List Loc), va_P D vwCl ws' H1 → va_D A0 ws' → va_S A0 H0 H1 locs1 → W p l e R s m args below meth c H1 locs1 (cells + mc) (slots + ms) Q (F0 m (pc + 3) ls (.long r0 :: rest))) : W p l e R s m args below meth c H locs cells slots Q (F0 m pc ls st0) := by
  have hF := va_free (wc := wc) hD hS hA isC hC
  refine va_calll hr hS (fun q _ h => hF q h) hF (fun r u t H1 locs1 ht hvm hw hB hz1 hk1 hS1 => ?_)
  obtain ⟨h1, h2⟩ := kw_J hP hD isC isR is hC hR hn hdis hi hni hk1 hF ht hB
  rw [hw]
  exact kk H1 locs1 h1 h2 hS1
theorem kw_V (hr : va_Run p l e R s m args below meth c H locs cells slots mc ms (F0 m pc ls st0) rest (va_Qv (fun (_ : Unit) => True) (fun _ t => va_P D vwCl w1 t.heap ∧ va_D (va_A wc H.size) w1) (va_A wc H.size) a) (va_A wc H.size))
    (hP : va_P D vwCl ws H) (hD : va_D A0 ws) (hS : va_S A0 H0 H locs) (hA : ∀ q, H0.size ≤ q → A0 q) (isC isR is : List Nat) (hC : isC.map (fun i => ws[i]?) = wc.map some) (hR : isR.map (fun i => ws[i]?) = wr.map some) (hn : va_nd isR = true) (hdis : ∀ i ∈ isR, i ∉ isC) (hi : is.map (fun i => (wr ++ w1)[i]?) = ws'.map some) (hni : va_nd is = true)
    (kk : ∀ (H1 : Heap) (locs1 : List Loc), va_P D vwCl ws' H1 → va_D A0 ws' → va_S A0 H0 H1 locs1 → W p l e R s m args below meth c H1 locs1 (cells + mc) (slots + ms) Q (F0 m (pc + 3) ls rest)) : W p l e R s m args below meth c H locs cells slots Q (F0 m pc ls st0) := by
  have hF := va_free (wc := wc) hD hS hA isC hC
  refine va_callv hr hS (fun q _ h => hF q h) hF (fun u t H1 locs1 ht hvm hw hB hz1 hk1 hS1 => ?_)
  obtain ⟨h1, h2⟩ := kw_J hP hD isC isR is hC hR hn hdis hi hni hk1 hF ht hB
  exact kk H1 locs1 h1 h2 hS1
end CALLS
