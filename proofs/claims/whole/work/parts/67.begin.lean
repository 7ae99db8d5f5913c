-- THE LAW, from its entry
theorem inv_0 {fPi : Nat → Option Nat} {pls : List PE} (h : IP 0 fPi pls (fun _ => 0) (fun _ => 0) (fun _ => 0) (fun _ => 0) (fun _ => 0) (fun _ => 0) (fun _ => 0) (fun _ => 0) (fun _ => 0)) : Inv 0 0 0 0 0 0 0 0 (fun _ => 0) (fun _ => 0) fPi pls (fun _ => 0) (fun _ => 0) (fun _ => 0) (fun _ => 0) (fun _ => 0) (fun _ => 0) (fun _ => 0) (fun _ => 0) (fun _ => 0) (fun _ => 0) (fun _ => 0) :=
  ⟨⟨by decide, by decide, by decide, by decide, by decide, by decide⟩, fun _ => (⟨by decide, by decide⟩ : okR 0 0 900), fun _ => (⟨by decide, by decide⟩ : okR 0 0 10000), ⟨0, 0, 0, 0, 0, rfl, by decide, by decide, by decide, by decide, by decide, rfl, rfl, rfl, rfl, by decide +kernel⟩, h⟩
set_option maxHeartbeats 4000000 in
set_option maxRecDepth 100000 in
/-- from the entry, for every script of at most 3072 ints, the law comes to its end with true -/
theorem whole_start {p : Program} {e : Env} {s : State} {m : MethodId} {below : List Frame} {meth : Method} {c : Code} (l : Launch) (hlT : l.stackTraces = false) {b L : Nat} {xs : Nat → Int32} (hL : L ≤ 3072) (C0 : lw_At p s m meth c b L xs) : W p l e room_1 s m #[Value.ref b] below meth c s.heap [] 0 0 (lw_Z below #[Value.ref b] s) (entryFrame m ([Value.ref b] : List Value).toArray 8) := by
  obtain ⟨hx, hb, hr, hml, hown, hts, hX, hbl, hlocks, hgv⟩ := id C0
  have hG : ∀ w ∈ vq_G, w.before #[Value.ref b] s = true := fun w h => hts w (List.mem_filter.mp h).1
  obtain ⟨dC, dI, cs, hCx⟩ := start_cx hts hgv
  have hl := lv_entry ([.ref b]) (n := 8) (Nat.le_of_ble_eq_true rfl)
  rw [lg_entry_eq]
  generalize (lg_sl ([.ref b]) ++ List.replicate (8 - (lg_sl ([.ref b])).length) Slot.unset).toArray = ls at hl ⊢
  have hl : lv_has ls 8 [(0, .ref b)] := hl
  refine law_start (l := l) hx hb hml hown hG hCx (fun _ h => h) hl ?_
  intro h0 aMo aSh aLa aDy aMa aKi aPi aLn g0 gMo gSh gDy gMa gKi gLa gSl gTk gLy gGr gLS gMU gML gEU gEL gPx gPy oa fPi pls hIP H locs ls hP hD hS hl
  refine law_loop (A := fun q : Nat => s.heap.size ≤ q) (Q := lw_Z below #[Value.ref b] s) (p := p) (l := l) (e := e) (s := s) (m := m) (below := below) (meth := meth) (c := c) (dC := dC) (dI := dI) (cs := cs) (b := b) (L := L) (xs := xs) (h0 := h0) (aMo := aMo) (aSh := aSh) (aLa := aLa) (aDy := aDy) (aMa := aMa) (aKi := aKi) (aPi := aPi) (aLn := aLn) (g0 := g0) (gMo := gMo) (gSh := gSh) (gDy := gDy) (gMa := gMa) (gKi := gKi) (gLa := gLa) (gSl := gSl) (gTk := gTk) (gLy := gLy) (gGr := gGr) (gLS := gLS) (gMU := gMU) (gML := gML) (gEU := gEU) (gEL := gEL) (gPx := gPx) (gPy := gPy) (oa := oa) hlT hx hb hml hown hG hCx (fun _ h => h) hX hbl (Nat.not_le.mpr hbl) hL ?_ 512 0 128 4096 0 0 0 0 0 0 0 0 0 (fun _ => 0) (fun _ => 0) (fun _ => 0) (fun _ => 0) (fun _ => 0) (fun _ => 0) fPi pls (fun _ => 0) (fun _ => 0) (fun _ => 0) (fun _ => 0) (fun _ => 0) (fun _ => 0) (fun _ => 0) (fun _ => 0) (fun _ => 0) (fun _ => 0) (fun _ => 0) (fun _ => 0) H locs ls (by omega) (by omega) (Nat.le_of_ble_eq_true rfl) (Nat.le_of_ble_eq_true rfl) (inv_0 hIP) hP hD hS hl
  intro H locs ls nc ns hS hc hs
  refine va_forget (fun q hq => hS.2.2 q hq) ?_
  refine lv_iconst (v := 1) hx hb d_LW_law_1157 (by decide) ?_
  refine W.widen (k := 601024) (n := 7293034) hc hs ?_
  exact lw_ret hx hb hr hlocks d_LW_law_1158
