/-! the values of the class and of the reference, as tuples -/
abbrev SeaV : Type := Int32 × (Nat → Int32) × (Nat → Int32) × Int32 × (Nat → Int32) × (Nat → Int32) × (Nat → Int32) × Int32 × (Nat → Int32) × Int32 × (Nat → Int32) × Int32 × (Nat → Int32)
abbrev s_month (v : SeaV) : Int32 := v.1
abbrev s_ways (v : SeaV) : Nat → Int32 := v.2.1
abbrev s_strengths (v : SeaV) : Nat → Int32 := v.2.2.1
abbrev s_floes (v : SeaV) : Int32 := v.2.2.2.1
abbrev s_kinds (v : SeaV) : Nat → Int32 := v.2.2.2.2.1
abbrev s_cells (v : SeaV) : Nat → Int32 := v.2.2.2.2.2.1
abbrev s_foods (v : SeaV) : Nat → Int32 := v.2.2.2.2.2.2.1
abbrev s_founds (v : SeaV) : Int32 := v.2.2.2.2.2.2.2.1
abbrev s_foundRows (v : SeaV) : Nat → Int32 := v.2.2.2.2.2.2.2.2.1
abbrev s_notes (v : SeaV) : Int32 := v.2.2.2.2.2.2.2.2.2.1
abbrev s_noteRows (v : SeaV) : Nat → Int32 := v.2.2.2.2.2.2.2.2.2.2.1
abbrev s_undos (v : SeaV) : Int32 := v.2.2.2.2.2.2.2.2.2.2.2.1
abbrev s_undoRows (v : SeaV) : Nat → Int32 := v.2.2.2.2.2.2.2.2.2.2.2.2
abbrev FIV : Type := Int32 × (Nat → Int32) × (Nat → Int32) × Int32 × (Nat → Int32) × (Nat → Int32) × (Nat → Int32) × Int32 × (Nat → Int32) × Int32 × (Nat → Int32) × Int32 × (Nat → Int32) × Int32 × (Nat → Int32) × (Nat → Int32) × Int32 × (Nat → Int32) × (Nat → Int32) × (Nat → Int32) × Int32 × (Nat → Int32) × Int32 × (Nat → Int32) × Int32 × (Nat → Int32) × (Nat → Int32) × Int32 × Int32 × Int32 × (Nat → Int64) × (Nat → Int64) × (Nat → Int32) × Int64 × Int64 × Int32 × Int32 × Int32 × Option SeaV × Option SeaV
abbrev xn_month (x : FIV) : Int32 := x.1
abbrev xn_ways (x : FIV) : Nat → Int32 := x.2.1
abbrev xn_strengths (x : FIV) : Nat → Int32 := x.2.2.1
abbrev xn_floes (x : FIV) : Int32 := x.2.2.2.1
abbrev xn_kinds (x : FIV) : Nat → Int32 := x.2.2.2.2.1
abbrev xn_cells (x : FIV) : Nat → Int32 := x.2.2.2.2.2.1
abbrev xn_foods (x : FIV) : Nat → Int32 := x.2.2.2.2.2.2.1
abbrev xn_founds (x : FIV) : Int32 := x.2.2.2.2.2.2.2.1
abbrev xn_foundRows (x : FIV) : Nat → Int32 := x.2.2.2.2.2.2.2.2.1
abbrev xn_notes (x : FIV) : Int32 := x.2.2.2.2.2.2.2.2.2.1
abbrev xn_noteRows (x : FIV) : Nat → Int32 := x.2.2.2.2.2.2.2.2.2.2.1
abbrev xn_undos (x : FIV) : Int32 := x.2.2.2.2.2.2.2.2.2.2.2.1
abbrev xn_undoRows (x : FIV) : Nat → Int32 := x.2.2.2.2.2.2.2.2.2.2.2.2.1
abbrev xs_month (x : FIV) : Int32 := x.2.2.2.2.2.2.2.2.2.2.2.2.2.1
abbrev xs_ways (x : FIV) : Nat → Int32 := x.2.2.2.2.2.2.2.2.2.2.2.2.2.2.1
abbrev xs_strengths (x : FIV) : Nat → Int32 := x.2.2.2.2.2.2.2.2.2.2.2.2.2.2.2.1
abbrev xs_floes (x : FIV) : Int32 := x.2.2.2.2.2.2.2.2.2.2.2.2.2.2.2.2.1
abbrev xs_kinds (x : FIV) : Nat → Int32 := x.2.2.2.2.2.2.2.2.2.2.2.2.2.2.2.2.2.1
abbrev xs_cells (x : FIV) : Nat → Int32 := x.2.2.2.2.2.2.2.2.2.2.2.2.2.2.2.2.2.2.1
abbrev xs_foods (x : FIV) : Nat → Int32 := x.2.2.2.2.2.2.2.2.2.2.2.2.2.2.2.2.2.2.2.1
abbrev xs_founds (x : FIV) : Int32 := x.2.2.2.2.2.2.2.2.2.2.2.2.2.2.2.2.2.2.2.2.1
abbrev xs_foundRows (x : FIV) : Nat → Int32 := x.2.2.2.2.2.2.2.2.2.2.2.2.2.2.2.2.2.2.2.2.2.1
abbrev xs_notes (x : FIV) : Int32 := x.2.2.2.2.2.2.2.2.2.2.2.2.2.2.2.2.2.2.2.2.2.2.1
abbrev xs_noteRows (x : FIV) : Nat → Int32 := x.2.2.2.2.2.2.2.2.2.2.2.2.2.2.2.2.2.2.2.2.2.2.2.1
abbrev xs_undos (x : FIV) : Int32 := x.2.2.2.2.2.2.2.2.2.2.2.2.2.2.2.2.2.2.2.2.2.2.2.2.1
abbrev xs_undoRows (x : FIV) : Nat → Int32 := x.2.2.2.2.2.2.2.2.2.2.2.2.2.2.2.2.2.2.2.2.2.2.2.2.2.1
abbrev xt_bytes (x : FIV) : Nat → Int32 := x.2.2.2.2.2.2.2.2.2.2.2.2.2.2.2.2.2.2.2.2.2.2.2.2.2.2.1
abbrev xt_length (x : FIV) : Int32 := x.2.2.2.2.2.2.2.2.2.2.2.2.2.2.2.2.2.2.2.2.2.2.2.2.2.2.2.1
abbrev xt_place (x : FIV) : Int32 := x.2.2.2.2.2.2.2.2.2.2.2.2.2.2.2.2.2.2.2.2.2.2.2.2.2.2.2.2.1
abbrev xt_fault (x : FIV) : Int32 := x.2.2.2.2.2.2.2.2.2.2.2.2.2.2.2.2.2.2.2.2.2.2.2.2.2.2.2.2.2.1
abbrev x_odds (x : FIV) : Nat → Int64 := x.2.2.2.2.2.2.2.2.2.2.2.2.2.2.2.2.2.2.2.2.2.2.2.2.2.2.2.2.2.2.1
abbrev x_nextOdds (x : FIV) : Nat → Int64 := x.2.2.2.2.2.2.2.2.2.2.2.2.2.2.2.2.2.2.2.2.2.2.2.2.2.2.2.2.2.2.2.1
abbrev x_gains (x : FIV) : Nat → Int32 := x.2.2.2.2.2.2.2.2.2.2.2.2.2.2.2.2.2.2.2.2.2.2.2.2.2.2.2.2.2.2.2.2.1
abbrev x_above (x : FIV) : Int64 := x.2.2.2.2.2.2.2.2.2.2.2.2.2.2.2.2.2.2.2.2.2.2.2.2.2.2.2.2.2.2.2.2.2.1
abbrev x_below (x : FIV) : Int64 := x.2.2.2.2.2.2.2.2.2.2.2.2.2.2.2.2.2.2.2.2.2.2.2.2.2.2.2.2.2.2.2.2.2.2.1
abbrev x_bads (x : FIV) : Int32 := x.2.2.2.2.2.2.2.2.2.2.2.2.2.2.2.2.2.2.2.2.2.2.2.2.2.2.2.2.2.2.2.2.2.2.2.1
abbrev x_nos (x : FIV) : Int32 := x.2.2.2.2.2.2.2.2.2.2.2.2.2.2.2.2.2.2.2.2.2.2.2.2.2.2.2.2.2.2.2.2.2.2.2.2.1
abbrev x_fulls (x : FIV) : Int32 := x.2.2.2.2.2.2.2.2.2.2.2.2.2.2.2.2.2.2.2.2.2.2.2.2.2.2.2.2.2.2.2.2.2.2.2.2.2.1
abbrev x_img0 (x : FIV) : Option SeaV := x.2.2.2.2.2.2.2.2.2.2.2.2.2.2.2.2.2.2.2.2.2.2.2.2.2.2.2.2.2.2.2.2.2.2.2.2.2.2.1
abbrev x_img1 (x : FIV) : Option SeaV := x.2.2.2.2.2.2.2.2.2.2.2.2.2.2.2.2.2.2.2.2.2.2.2.2.2.2.2.2.2.2.2.2.2.2.2.2.2.2.2
def zC (cyI : ClassId) (z : Nat → Nat) : Option SeaV → va_W
  | none => []
  | some v => [oX1 z (s_month v) (s_floes v) (s_founds v) (s_notes v) (s_undos v), rI cyI (z 1) 12 (s_ways v), rI cyI (z 2) 12 (s_strengths v), rI cyI (z 3) 5 (s_kinds v), rI cyI (z 4) 5 (s_cells v), rI cyI (z 5) 5 (s_foods v), rI cyI (z 6) 12 (s_foundRows v), rI cyI (z 7) 42 (s_noteRows v), rI cyI (z 8) 88 (s_undoRows v)]
section CALLZ
variable {p : Program} {l : Launch} {e : Env} {R : Room} {s : State} {m : MethodId} {args : Array Value} {below : List Frame} {meth : Method} {c : Code} {H : Heap} {locs : List Loc} {cells slots : Nat} {Q : State → Prop}
variable {pc : Nat} {ls : Array Slot} {rest st0 : List Value} {a : Array Value} {A0 : Nat → Prop} {H0 : Heap} {mc ms : Nat} {D : va_G} {ws wc wr w1 ws' Z : va_W}
/-- cells that a call has no part in stay -/
theorem kz_keep {H1 : Heap} (hPZ : va_P D vwCl Z H) (hDZ : va_D A0 (ws ++ Z)) (isC : List Nat) (hC : isC.map (fun i => ws[i]?) = wc.map some) (hk : ∀ q : Nat, q < H.size → ¬ va_A wc H.size q → H1[q]? = H[q]?) : va_P D vwCl Z H1 := by
  refine hPZ.kept (fun k q hq => hk q.1 (hPZ k q hq).lt (fun h => ?_))
  rcases h with ⟨j, e, h⟩ | h
  · have h1 : (isC.map (fun i => ws[i]?))[j]? = some (some (q.1, e)) := by rw [hC, List.getElem?_map, h]; rfl
    rw [List.getElem?_map] at h1
    cases hi : isC[j]? with
    | none => rw [hi] at h1; cases h1
    | some i =>
      rw [hi] at h1
      have h2 : ws[i]? = some (q.1, e) := Option.some.inj h1
      have hl := (List.getElem?_eq_some_iff.mp h2).1
      have h3 : (ws ++ Z)[i]? = some (q.1, e) := by rw [List.getElem?_append_left hl]; exact h2
      have h4 : (ws ++ Z)[ws.length + k]? = some q := by rw [List.getElem?_append_right (by omega), Nat.add_sub_cancel_left]; exact hq
      have := hDZ.1 i (ws.length + k) (q.1, e) q h3 h4 rfl
      omega
  · have := (hPZ k q hq).lt
    omega
/-- what lies apart depends on the addresses alone -/
theorem kz_addr {A : Nat → Prop} {w w' : va_W} (h : va_D A w) (he : w'.map Prod.fst = w.map Prod.fst) : va_D A w' := by
  have key : ∀ (k : Nat) (q : Nat × va_E), w'[k]? = some q → ∃ q0, w[k]? = some q0 ∧ q0.1 = q.1 := by
    intro k q hk
    have h1 : (w'.map Prod.fst)[k]? = some q.1 := by rw [List.getElem?_map, hk]; rfl
    rw [he, List.getElem?_map] at h1
    cases hw : w[k]? with
    | none => rw [hw] at h1; cases h1
    | some q0 => rw [hw] at h1; exact ⟨q0, rfl, Option.some.inj h1⟩
  refine ⟨fun i j x y hi hj hxy => ?_, fun k q hk => ?_⟩
  · obtain ⟨x0, a1, a2⟩ := key i x hi
    obtain ⟨y0, b1, b2⟩ := key j y hj
    exact h.1 i j x0 y0 a1 b1 (a2.trans (hxy.trans b2.symm))
  · obtain ⟨q0, a1, a2⟩ := key k q hk
    rw [← a2]; exact h.2 k q0 a1
theorem kz_left {A : Nat → Prop} {w z : va_W} (h : va_D A (w ++ z)) : va_D A w := by
  have key : ∀ (k : Nat) (q : Nat × va_E), w[k]? = some q → (w ++ z)[k]? = some q := fun k q hk => by rw [List.getElem?_append_left (List.getElem?_eq_some_iff.mp hk).1]; exact hk
  exact ⟨fun i j x y hi hj => h.1 i j x y (key i x hi) (key j y hj), fun k q hk => h.2 k q (key k q hk)⟩
theorem kz_I {r0 : Int32} (hr : va_Run p l e R s m args below meth c H locs cells slots mc ms (F0 m pc ls st0) rest (va_Qi (fun (r : Int32) (_ : Unit) => r = r0) (fun _ t => va_P D vwCl w1 t.heap ∧ va_D (va_A wc H.size) w1) (va_A wc H.size) a) (va_A wc H.size))
    (hP : va_P D vwCl ws H) (hPZ : va_P D vwCl Z H) (hD : va_D A0 (ws ++ Z)) (hS : va_S A0 H0 H locs) (hA : ∀ q, H0.size ≤ q → A0 q) (isC isR is : List Nat) (hC : isC.map (fun i => ws[i]?) = wc.map some) (hR : isR.map (fun i => ws[i]?) = wr.map some) (hn : va_nd isR = true) (hdis : ∀ i ∈ isR, i ∉ isC) (hi : is.map (fun i => (wr ++ w1)[i]?) = ws'.map some) (hni : va_nd is = true) (he : ws'.map Prod.fst = ws.map Prod.fst)
    (kk : ∀ (H1 : Heap) (locs1 : List Loc), va_P D vwCl ws' H1 → va_P D vwCl Z H1 → va_D A0 (ws' ++ Z) → va_S A0 H0 H1 locs1 → W p l e R s m args below meth c H1 locs1 (cells + mc) (slots + ms) Q (F0 m (pc + 3) ls (.int r0 :: rest))) : W p l e R s m args below meth c H locs cells slots Q (F0 m pc ls st0) := by
  have hDl := kz_left hD
  have hF := va_free (wc := wc) hDl hS hA isC hC
  refine va_calli hr hS (fun q _ h => hF q h) hF (fun r u t H1 locs1 ht hvm hw hB hz1 hk1 hS1 => ?_)
  obtain ⟨h1, h2⟩ := kw_J hP hDl isC isR is hC hR hn hdis hi hni hk1 hF ht hB
  rw [hw]
  exact kk H1 locs1 h1 (kz_keep hPZ hD isC hC hk1) (kz_addr hD (by rw [List.map_append, List.map_append, he])) hS1
theorem kz_L {r0 : Int64} (hr : va_Run p l e R s m args below meth c H locs cells slots mc ms (F0 m pc ls st0) rest (va_Ql (fun (r : Int64) (_ : Unit) => r = r0) (fun _ t => va_P D vwCl w1 t.heap ∧ va_D (va_A wc H.size) w1) (va_A wc H.size) a) (va_A wc H.size))
    (hP : va_P D vwCl ws H) (hPZ : va_P D vwCl Z H) (hD : va_D A0 (ws ++ Z)) (hS : va_S A0 H0 H locs) (hA : ∀ q, H0.size ≤ q → A0 q) (isC isR is : List Nat) (hC : isC.map (fun i => ws[i]?) = wc.map some) (hR : isR.map (fun i => ws[i]?) = wr.map some) (hn : va_nd isR = true) (hdis : ∀ i ∈ isR, i ∉ isC) (hi : is.map (fun i => (wr ++ w1)[i]?) = ws'.map some) (hni : va_nd is = true) (he : ws'.map Prod.fst = ws.map Prod.fst)
    (kk : ∀ (H1 : Heap) (locs1 : List Loc), va_P D vwCl ws' H1 → va_P D vwCl Z H1 → va_D A0 (ws' ++ Z) → va_S A0 H0 H1 locs1 → W p l e R s m args below meth c H1 locs1 (cells + mc) (slots + ms) Q (F0 m (pc + 3) ls (.long r0 :: rest))) : W p l e R s m args below meth c H locs cells slots Q (F0 m pc ls st0) := by
  have hDl := kz_left hD
  have hF := va_free (wc := wc) hDl hS hA isC hC
  refine va_calll hr hS (fun q _ h => hF q h) hF (fun r u t H1 locs1 ht hvm hw hB hz1 hk1 hS1 => ?_)
  obtain ⟨h1, h2⟩ := kw_J hP hDl isC isR is hC hR hn hdis hi hni hk1 hF ht hB
  rw [hw]
  exact kk H1 locs1 h1 (kz_keep hPZ hD isC hC hk1) (kz_addr hD (by rw [List.map_append, List.map_append, he])) hS1
end CALLZ
