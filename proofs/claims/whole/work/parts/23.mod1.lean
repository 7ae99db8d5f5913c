set_option maxHeartbeats 4000000 in
set_option maxRecDepth 100000 in
/-- in -/
theorem m_in (l : Launch) (dC : Nat → ClassId) (dI : Nat → Nat → Nat) (cs : Nat → ClassId) (sz : Nat) (v : Int32) (lo : Int32) (hi : Int32) : Met l y_MO_in w_MO_in ({ frames := 0, cells := 0, slots := 0, locals := 0 }) (vq_PreR (dC, dI) cs [] sz [.int v, .int lo, .int hi]) (vp_Si (fun r => r = inF v lo hi)) 0 0 (fun _ => False) := by
  refine Met.ofW (cc := b_MO_in) (maxL := 3) (ret := (some .boolean)) (by decide) rfl ?_
  intro p e s m args below meth c s₁ B hml hv
  obtain ⟨rfl, hsz, hP, hCx⟩ := hv
  have hx := B.exec
  have hb := B.bytes
  have hr := B.returns
  have hG := vq_hG (atoms_spec (ws := w_MO_in) B.pre)
  have hown : s.vm.findClass R_MO = some m.cls := findClass_of_methodNamed B.named
  have hlocks := B.notSynchronized
  subst hsz
  have hK := hCx.1
  have hA : ∀ q : Nat, s.heap.size ≤ q → va_A [] s.heap.size q := fun q h => Or.inr h
  have hA0 : ∀ q : Nat, s.heap.size ≤ q → va_A [] s.heap.size q := fun q h => Or.inr h
  have hS : va_S (va_A [] s.heap.size) s.heap s.heap [] := va_S.rf
  have hl := lv_entry ([.int v, .int lo, .int hi]) (n := 3) (Nat.le_of_ble_eq_true rfl)
  rw [lg_entry_eq]
  generalize (lg_sl ([.int v, .int lo, .int hi]) ++ List.replicate (3 - (lg_sl ([.int v, .int lo, .int hi])).length) Slot.unset).toArray = ls at hl ⊢
  have hl : lv_has ls 3 [(0, .int v), (1, .int lo), (2, .int hi)] := hl
  have hP : va_P (dC, dI) vq_cl [] s.heap := hP
  refine lv_iload_n hx hb d_MO_in_0 rfl (lv_at hl 0 rfl) ?_
  refine lv_iload_n hx hb d_MO_in_1 rfl (lv_at hl 1 rfl) ?_
  refine lv_icmp_lt (tgt := 14) hx hb d_MO_in_2 (by decide) (fun c_2 => ?_) (fun c_2 => ?_)
  · skip
    refine lv_iconst (v := 0) hx hb d_MO_in_14 (by decide) ?_
    exact W.zret (v := 0) hx hb hr rfl (fun t ht hW => ⟨0, rfl, by simp only [inF, if_pos c_2], ht⟩) (fun q h => absurd h List.not_mem_nil) d_MO_in_15
  · skip
    refine lv_iload_n hx hb d_MO_in_5 rfl (lv_at hl 0 rfl) ?_
    refine lv_iload_n hx hb d_MO_in_6 rfl (lv_at hl 2 rfl) ?_
    refine lv_icmp_gt (tgt := 14) hx hb d_MO_in_7 (by decide) (fun c_7 => ?_) (fun c_7 => ?_)
    · skip
      refine lv_iconst (v := 0) hx hb d_MO_in_14 (by decide) ?_
      exact W.zret (v := 0) hx hb hr rfl (fun t ht hW => ⟨0, rfl, by simp only [inF, if_neg c_2, if_pos c_7], ht⟩) (fun q h => absurd h List.not_mem_nil) d_MO_in_15
    · skip
      refine lv_iconst (v := 1) hx hb d_MO_in_10 (by decide) ?_
      refine lv_goto (tgt := 15) hx hb d_MO_in_11 (by decide) ?_
      exact W.zret (v := 1) hx hb hr rfl (fun t ht hW => ⟨1, rfl, by simp only [inF, if_neg c_2, if_neg c_7], ht⟩) (fun q h => absurd h List.not_mem_nil) d_MO_in_15
set_option maxHeartbeats 4000000 in
set_option maxRecDepth 100000 in
/-- isMaterial -/
theorem m_isMaterial (l : Launch) (dC : Nat → ClassId) (dI : Nat → Nat → Nat) (cs : Nat → ClassId) (sz : Nat) (x : Int32) : Met l y_MO_isMaterial w_MO_isMaterial ({ frames := 1, cells := 0, slots := 0, locals := 22 }) (vq_PreR (dC, dI) cs [] sz [.int x]) (vp_Si (fun r => r = inF x 0 7)) 0 0 (fun _ => False) := by
  refine Met.ofW (cc := b_MO_isMaterial) (maxL := 1) (ret := (some .boolean)) (by decide) rfl ?_
  intro p e s m args below meth c s₁ B hml hv
  obtain ⟨rfl, hsz, hP, hCx⟩ := hv
  have hx := B.exec
  have hb := B.bytes
  have hr := B.returns
  have hG := vq_hG (atoms_spec (ws := w_MO_isMaterial) B.pre)
  have hown : s.vm.findClass R_MO = some m.cls := findClass_of_methodNamed B.named
  have hlocks := B.notSynchronized
  subst hsz
  have hK := hCx.1
  have hA : ∀ q : Nat, s.heap.size ≤ q → va_A [] s.heap.size q := fun q h => Or.inr h
  have hA0 : ∀ q : Nat, s.heap.size ≤ q → va_A [] s.heap.size q := fun q h => Or.inr h
  have hS : va_S (va_A [] s.heap.size) s.heap s.heap [] := va_S.rf
  have hl := lv_entry ([.int x]) (n := 1) (Nat.le_of_ble_eq_true rfl)
  rw [lg_entry_eq]
  generalize (lg_sl ([.int x]) ++ List.replicate (1 - (lg_sl ([.int x])).length) Slot.unset).toArray = ls at hl ⊢
  have hl : lv_has ls 1 [(0, .int x)] := hl
  have hP : va_P (dC, dI) vq_cl [] s.heap := hP
  refine lv_iload_n hx hb d_MO_isMaterial_0 rfl (lv_at hl 0 rfl) ?_
  refine lv_iconst (v := 0) hx hb d_MO_isMaterial_1 (by decide) ?_
  refine lv_bipush (v := 7) hx hb d_MO_isMaterial_2 (by decide) ?_
  refine vp_callSi (va_Run.run (va_runS (As := [.int x, .int 0, .int 7]) (rest := []) ⟨hx, hb, hml, hown, hG⟩ (m_in l dC dI cs _ x 0 7) (cwS 3 hG (vq_gS vq_t555 vq_t556 vq_t3 vq_t557) rfl rfl rfl (by decide +kernel) ⟨Nat.le_of_ble_eq_true rfl, Nat.le_of_ble_eq_true rfl⟩) (vq_preSr (wc := []) hCx hP (vq_wk hS hA) hA [] rfl) rfl rfl hl.1 rfl (lv_room (Nat.le_of_ble_eq_true rfl)) d_MO_isMaterial_4 ⟨Nat.le_of_ble_eq_true rfl, Nat.le_of_ble_eq_true rfl⟩)) (fun r_4 w_4 => ?_)
  subst w_4
  exact W.zret (v := inF x 0 7) hx hb hr (narB_in _ _ _) (fun t ht hW => ⟨inF x 0 7, rfl, rfl, ht⟩) (fun q h => absurd h List.not_mem_nil) d_MO_isMaterial_7
set_option maxHeartbeats 4000000 in
set_option maxRecDepth 100000 in
/-- isElement -/
theorem m_isElement (l : Launch) (dC : Nat → ClassId) (dI : Nat → Nat → Nat) (cs : Nat → ClassId) (sz : Nat) (x : Int32) : Met l y_MO_isElement w_MO_isElement ({ frames := 1, cells := 0, slots := 0, locals := 22 }) (vq_PreR (dC, dI) cs [] sz [.int x]) (vp_Si (fun r => r = inF x 0 3)) 0 0 (fun _ => False) := by
  refine Met.ofW (cc := b_MO_isElement) (maxL := 1) (ret := (some .boolean)) (by decide) rfl ?_
  intro p e s m args below meth c s₁ B hml hv
  obtain ⟨rfl, hsz, hP, hCx⟩ := hv
  have hx := B.exec
  have hb := B.bytes
  have hr := B.returns
  have hG := vq_hG (atoms_spec (ws := w_MO_isElement) B.pre)
  have hown : s.vm.findClass R_MO = some m.cls := findClass_of_methodNamed B.named
  have hlocks := B.notSynchronized
  subst hsz
  have hK := hCx.1
  have hA : ∀ q : Nat, s.heap.size ≤ q → va_A [] s.heap.size q := fun q h => Or.inr h
  have hA0 : ∀ q : Nat, s.heap.size ≤ q → va_A [] s.heap.size q := fun q h => Or.inr h
  have hS : va_S (va_A [] s.heap.size) s.heap s.heap [] := va_S.rf
  have hl := lv_entry ([.int x]) (n := 1) (Nat.le_of_ble_eq_true rfl)
  rw [lg_entry_eq]
  generalize (lg_sl ([.int x]) ++ List.replicate (1 - (lg_sl ([.int x])).length) Slot.unset).toArray = ls at hl ⊢
  have hl : lv_has ls 1 [(0, .int x)] := hl
  have hP : va_P (dC, dI) vq_cl [] s.heap := hP
  refine lv_iload_n hx hb d_MO_isElement_0 rfl (lv_at hl 0 rfl) ?_
  refine lv_iconst (v := 0) hx hb d_MO_isElement_1 (by decide) ?_
  refine lv_iconst (v := 3) hx hb d_MO_isElement_2 (by decide) ?_
  refine vp_callSi (va_Run.run (va_runS (As := [.int x, .int 0, .int 3]) (rest := []) ⟨hx, hb, hml, hown, hG⟩ (m_in l dC dI cs _ x 0 3) (cwS 3 hG (vq_gS vq_t555 vq_t556 vq_t3 vq_t557) rfl rfl rfl (by decide +kernel) ⟨Nat.le_of_ble_eq_true rfl, Nat.le_of_ble_eq_true rfl⟩) (vq_preSr (wc := []) hCx hP (vq_wk hS hA) hA [] rfl) rfl rfl hl.1 rfl (lv_room (Nat.le_of_ble_eq_true rfl)) d_MO_isElement_3 ⟨Nat.le_of_ble_eq_true rfl, Nat.le_of_ble_eq_true rfl⟩)) (fun r_3 w_3 => ?_)
  subst w_3
  exact W.zret (v := inF x 0 3) hx hb hr (narB_in _ _ _) (fun t ht hW => ⟨inF x 0 3, rfl, rfl, ht⟩) (fun q h => absurd h List.not_mem_nil) d_MO_isElement_6
set_option maxHeartbeats 4000000 in
set_option maxRecDepth 100000 in
/-- isPart -/
theorem m_isPart (l : Launch) (dC : Nat → ClassId) (dI : Nat → Nat → Nat) (cs : Nat → ClassId) (sz : Nat) (x : Int32) : Met l y_MO_isPart w_MO_isPart ({ frames := 1, cells := 0, slots := 0, locals := 22 }) (vq_PreR (dC, dI) cs [] sz [.int x]) (vp_Si (fun r => r = inF x 0 1)) 0 0 (fun _ => False) := by
  refine Met.ofW (cc := b_MO_isPart) (maxL := 1) (ret := (some .boolean)) (by decide) rfl ?_
  intro p e s m args below meth c s₁ B hml hv
  obtain ⟨rfl, hsz, hP, hCx⟩ := hv
  have hx := B.exec
  have hb := B.bytes
  have hr := B.returns
  have hG := vq_hG (atoms_spec (ws := w_MO_isPart) B.pre)
  have hown : s.vm.findClass R_MO = some m.cls := findClass_of_methodNamed B.named
  have hlocks := B.notSynchronized
  subst hsz
  have hK := hCx.1
  have hA : ∀ q : Nat, s.heap.size ≤ q → va_A [] s.heap.size q := fun q h => Or.inr h
  have hA0 : ∀ q : Nat, s.heap.size ≤ q → va_A [] s.heap.size q := fun q h => Or.inr h
  have hS : va_S (va_A [] s.heap.size) s.heap s.heap [] := va_S.rf
  have hl := lv_entry ([.int x]) (n := 1) (Nat.le_of_ble_eq_true rfl)
  rw [lg_entry_eq]
  generalize (lg_sl ([.int x]) ++ List.replicate (1 - (lg_sl ([.int x])).length) Slot.unset).toArray = ls at hl ⊢
  have hl : lv_has ls 1 [(0, .int x)] := hl
  have hP : va_P (dC, dI) vq_cl [] s.heap := hP
  refine lv_iload_n hx hb d_MO_isPart_0 rfl (lv_at hl 0 rfl) ?_
  refine lv_iconst (v := 0) hx hb d_MO_isPart_1 (by decide) ?_
  refine lv_iconst (v := 1) hx hb d_MO_isPart_2 (by decide) ?_
  refine vp_callSi (va_Run.run (va_runS (As := [.int x, .int 0, .int 1]) (rest := []) ⟨hx, hb, hml, hown, hG⟩ (m_in l dC dI cs _ x 0 1) (cwS 3 hG (vq_gS vq_t555 vq_t556 vq_t3 vq_t557) rfl rfl rfl (by decide +kernel) ⟨Nat.le_of_ble_eq_true rfl, Nat.le_of_ble_eq_true rfl⟩) (vq_preSr (wc := []) hCx hP (vq_wk hS hA) hA [] rfl) rfl rfl hl.1 rfl (lv_room (Nat.le_of_ble_eq_true rfl)) d_MO_isPart_3 ⟨Nat.le_of_ble_eq_true rfl, Nat.le_of_ble_eq_true rfl⟩)) (fun r_3 w_3 => ?_)
  subst w_3
  exact W.zret (v := inF x 0 1) hx hb hr (narB_in _ _ _) (fun t ht hW => ⟨inF x 0 1, rfl, rfl, ht⟩) (fun q h => absurd h List.not_mem_nil) d_MO_isPart_6
set_option maxHeartbeats 4000000 in
set_option maxRecDepth 100000 in
/-- isPile -/
theorem m_isPile (l : Launch) (dC : Nat → ClassId) (dI : Nat → Nat → Nat) (cs : Nat → ClassId) (sz : Nat) (g0 : Nat) (gMo : Nat) (gSh : Nat) (gDy : Nat) (gMa : Nat) (gKi : Nat) (gLa : Nat) (gSl : Nat) (gTk : Nat) (gLy : Nat) (gGr : Nat) (gLS : Nat) (gMU : Nat) (gML : Nat) (gEU : Nat) (gEL : Nat) (gPx : Nat) (gPy : Nat) (kTh : Int32) (kTo : Int32) (kCn : Int32) (kPl : Int32) (kPt : Int32) (x : Int32) : Met l y_MO_isPile w_MO_isPile ({ frames := 1, cells := 0, slots := 0, locals := 22 }) (vq_PreR (dC, dI) cs [(g0, .inr (3, [.int kTh, .int kTo, .ref gMo, .ref gSh, .int kCn, .ref gDy, .ref gMa, .ref gKi, .ref gLa, .int kPl, .ref gSl, .ref gTk, .ref gLy, .ref gGr, .ref gLS, .ref gMU, .ref gML, .ref gEU, .ref gEL, .int kPt, .ref gPx, .ref gPy]))] sz [.ref g0, .int x]) (vp_Si (fun r => r = inF x 0 (kPl - 1))) 0 0 (fun _ => False) := by
  refine Met.ofW (cc := b_MO_isPile) (maxL := 2) (ret := (some .boolean)) (by decide) rfl ?_
  intro p e s m args below meth c s₁ B hml hv
  obtain ⟨rfl, hsz, hP, hCx⟩ := hv
  have hx := B.exec
  have hb := B.bytes
  have hr := B.returns
  have hG := vq_hG (atoms_spec (ws := w_MO_isPile) B.pre)
  have hown : s.vm.findClass R_MO = some m.cls := findClass_of_methodNamed B.named
  have hlocks := B.notSynchronized
  subst hsz
  have hK := hCx.1
  have hA : ∀ q : Nat, s.heap.size ≤ q → va_A [] s.heap.size q := fun q h => Or.inr h
  have hA0 : ∀ q : Nat, s.heap.size ≤ q → va_A [] s.heap.size q := fun q h => Or.inr h
  have hS : va_S (va_A [] s.heap.size) s.heap s.heap [] := va_S.rf
  have hl := lv_entry ([.ref g0, .int x]) (n := 2) (Nat.le_of_ble_eq_true rfl)
  rw [lg_entry_eq]
  generalize (lg_sl ([.ref g0, .int x]) ++ List.replicate (2 - (lg_sl ([.ref g0, .int x])).length) Slot.unset).toArray = ls at hl ⊢
  have hl : lv_has ls 2 [(0, .ref g0), (1, .int x)] := hl
  have hP : va_P (dC, dI) vq_cl [(g0, .inr (3, [.int kTh, .int kTo, .ref gMo, .ref gSh, .int kCn, .ref gDy, .ref gMa, .ref gKi, .ref gLa, .int kPl, .ref gSl, .ref gTk, .ref gLy, .ref gGr, .ref gLS, .ref gMU, .ref gML, .ref gEU, .ref gEL, .int kPt, .ref gPx, .ref gPy]))] s.heap := hP
  refine lv_iload_n hx hb d_MO_isPile_0 rfl (lv_at hl 1 rfl) ?_
  refine lv_iconst (v := 0) hx hb d_MO_isPile_1 (by decide) ?_
  refine lv_aload_n hx hb d_MO_isPile_2 rfl (lv_at hl 0 rfl) ?_
  refine va_get (D := (dC, dI)) (ci := 3) (v := .int kPl) (C := R_MO) (T := F_MO) (N := 22) hx hb hG i_MO hown hK hP 0 rfl rfl 9 (by decide) (hG _ vq_t486) (fun _ h9 => h9) rfl d_MO_isPile_3 ?_
  refine lv_iconst (v := 1) hx hb d_MO_isPile_6 (by decide) ?_
  refine lv_isub hx hb d_MO_isPile_7 ?_
  refine vp_callSi (va_Run.run (va_runS (As := [.int x, .int 0, .int (kPl - 1)]) (rest := []) ⟨hx, hb, hml, hown, hG⟩ (m_in l dC dI cs _ x 0 (kPl - 1)) (cwS 3 hG (vq_gS vq_t555 vq_t556 vq_t3 vq_t557) rfl rfl rfl (by decide +kernel) ⟨Nat.le_of_ble_eq_true rfl, Nat.le_of_ble_eq_true rfl⟩) (vq_preSr (wc := []) hCx hP (vq_wk hS hA) hA [] rfl) rfl rfl hl.1 rfl (lv_room (Nat.le_of_ble_eq_true rfl)) d_MO_isPile_8 ⟨Nat.le_of_ble_eq_true rfl, Nat.le_of_ble_eq_true rfl⟩)) (fun r_8 w_8 => ?_)
  subst w_8
  exact W.zret (v := inF x 0 (kPl - 1)) hx hb hr (narB_in _ _ _) (fun t ht hW => ⟨inF x 0 (kPl - 1), rfl, rfl, ht⟩) (fun q h => absurd h List.not_mem_nil) d_MO_isPile_11
set_option maxHeartbeats 4000000 in
set_option maxRecDepth 100000 in
/-- thrown -/
theorem m_thrown (l : Launch) (dC : Nat → ClassId) (dI : Nat → Nat → Nat) (cs : Nat → ClassId) (sz : Nat) (g0 : Nat) (gMo : Nat) (gSh : Nat) (gDy : Nat) (gMa : Nat) (gKi : Nat) (gLa : Nat) (gSl : Nat) (gTk : Nat) (gLy : Nat) (gGr : Nat) (gLS : Nat) (gMU : Nat) (gML : Nat) (gEU : Nat) (gEL : Nat) (gPx : Nat) (gPy : Nat) (kTh : Int32) (kTo : Int32) (kCn : Int32) (kPl : Int32) (kPt : Int32) : Met l y_MO_thrown w_MO_thrown ({ frames := 0, cells := 0, slots := 0, locals := 0 }) (vq_PreR (dC, dI) cs [(g0, .inr (3, [.int kTh, .int kTo, .ref gMo, .ref gSh, .int kCn, .ref gDy, .ref gMa, .ref gKi, .ref gLa, .int kPl, .ref gSl, .ref gTk, .ref gLy, .ref gGr, .ref gLS, .ref gMU, .ref gML, .ref gEU, .ref gEL, .int kPt, .ref gPx, .ref gPy]))] sz [.ref g0]) (vp_Si (fun r => r = kTh)) 0 0 (fun _ => False) := by
  refine Met.ofW (cc := b_MO_thrown) (maxL := 1) (ret := (some .int)) (by decide) rfl ?_
  intro p e s m args below meth c s₁ B hml hv
  obtain ⟨rfl, hsz, hP, hCx⟩ := hv
  have hx := B.exec
  have hb := B.bytes
  have hr := B.returns
  have hG := vq_hG (atoms_spec (ws := w_MO_thrown) B.pre)
  have hown : s.vm.findClass R_MO = some m.cls := findClass_of_methodNamed B.named
  have hlocks := B.notSynchronized
  subst hsz
  have hK := hCx.1
  have hA : ∀ q : Nat, s.heap.size ≤ q → va_A [] s.heap.size q := fun q h => Or.inr h
  have hA0 : ∀ q : Nat, s.heap.size ≤ q → va_A [] s.heap.size q := fun q h => Or.inr h
  have hS : va_S (va_A [] s.heap.size) s.heap s.heap [] := va_S.rf
  have hl := lv_entry ([.ref g0]) (n := 1) (Nat.le_of_ble_eq_true rfl)
  rw [lg_entry_eq]
  generalize (lg_sl ([.ref g0]) ++ List.replicate (1 - (lg_sl ([.ref g0])).length) Slot.unset).toArray = ls at hl ⊢
  have hl : lv_has ls 1 [(0, .ref g0)] := hl
  have hP : va_P (dC, dI) vq_cl [(g0, .inr (3, [.int kTh, .int kTo, .ref gMo, .ref gSh, .int kCn, .ref gDy, .ref gMa, .ref gKi, .ref gLa, .int kPl, .ref gSl, .ref gTk, .ref gLy, .ref gGr, .ref gLS, .ref gMU, .ref gML, .ref gEU, .ref gEL, .int kPt, .ref gPx, .ref gPy]))] s.heap := hP
  refine lv_aload_n hx hb d_MO_thrown_0 rfl (lv_at hl 0 rfl) ?_
  refine va_get (D := (dC, dI)) (ci := 3) (v := .int kTh) (C := R_MO) (T := F_MO) (N := 22) hx hb hG i_MO hown hK hP 0 rfl rfl 0 (by decide) (hG _ vq_t477) (fun _ h9 => h9) rfl d_MO_thrown_1 ?_
  exact W.iret (v := kTh) hx hb hr (fun t ht hW => ⟨kTh, rfl, rfl, ht⟩) (fun q h => absurd h List.not_mem_nil) d_MO_thrown_4
set_option maxHeartbeats 4000000 in
set_option maxRecDepth 100000 in
/-- throwing -/
theorem m_throwing (l : Launch) (dC : Nat → ClassId) (dI : Nat → Nat → Nat) (cs : Nat → ClassId) (sz : Nat) (g0 : Nat) (gMo : Nat) (gSh : Nat) (gDy : Nat) (gMa : Nat) (gKi : Nat) (gLa : Nat) (gSl : Nat) (gTk : Nat) (gLy : Nat) (gGr : Nat) (gLS : Nat) (gMU : Nat) (gML : Nat) (gEU : Nat) (gEL : Nat) (gPx : Nat) (gPy : Nat) (kTh : Int32) (kTo : Int32) (kCn : Int32) (kPl : Int32) (kPt : Int32) (a1 : Int32) (a2 : Int32) (a3 : Int32) (a4 : Int32) : Met l y_MO_throwing w_MO_throwing ({ frames := 0, cells := 0, slots := 0, locals := 0 }) (vq_Pre (dC, dI) cs [(g0, .inr (3, [.int kTh, .int kTo, .ref gMo, .ref gSh, .int kCn, .ref gDy, .ref gMa, .ref gKi, .ref gLa, .int kPl, .ref gSl, .ref gTk, .ref gLy, .ref gGr, .ref gLS, .ref gMU, .ref gML, .ref gEU, .ref gEL, .int kPt, .ref gPx, .ref gPy]))] sz [.ref g0, .int a1, .int a2, .int a3, .int a4]) (va_Qi (fun (r : Int32) (_ : Unit) => r = thB (thF a1 a2 a3 a4)) (vq_B (dC, dI) cs (va_A [(g0, .inr (3, [.int kTh, .int kTo, .ref gMo, .ref gSh, .int kCn, .ref gDy, .ref gMa, .ref gKi, .ref gLa, .int kPl, .ref gSl, .ref gTk, .ref gLy, .ref gGr, .ref gLS, .ref gMU, .ref gML, .ref gEU, .ref gEL, .int kPt, .ref gPx, .ref gPy]))] sz) (fun _ => [(g0, .inr (3, [.int (thF a1 a2 a3 a4), .int kTo, .ref gMo, .ref gSh, .int kCn, .ref gDy, .ref gMa, .ref gKi, .ref gLa, .int kPl, .ref gSl, .ref gTk, .ref gLy, .ref gGr, .ref gLS, .ref gMU, .ref gML, .ref gEU, .ref gEL, .int kPt, .ref gPx, .ref gPy]))])) (va_A [(g0, .inr (3, [.int kTh, .int kTo, .ref gMo, .ref gSh, .int kCn, .ref gDy, .ref gMa, .ref gKi, .ref gLa, .int kPl, .ref gSl, .ref gTk, .ref gLy, .ref gGr, .ref gLS, .ref gMU, .ref gML, .ref gEU, .ref gEL, .int kPt, .ref gPx, .ref gPy]))] sz)) 0 0 (va_A [(g0, .inr (3, [.int kTh, .int kTo, .ref gMo, .ref gSh, .int kCn, .ref gDy, .ref gMa, .ref gKi, .ref gLa, .int kPl, .ref gSl, .ref gTk, .ref gLy, .ref gGr, .ref gLS, .ref gMU, .ref gML, .ref gEU, .ref gEL, .int kPt, .ref gPx, .ref gPy]))] sz) := by
  refine Met.ofW (cc := b_MO_throwing) (maxL := 5) (ret := (some .boolean)) (by decide) rfl ?_
  intro p e s m args below meth c s₁ B hml hv
  obtain ⟨rfl, hsz, hP, hD0, hCx⟩ := hv
  have hx := B.exec
  have hb := B.bytes
  have hr := B.returns
  have hG := vq_hG (atoms_spec (ws := w_MO_throwing) B.pre)
  have hown : s.vm.findClass R_MO = some m.cls := findClass_of_methodNamed B.named
  have hlocks := B.notSynchronized
  subst hsz
  have hK := hCx.1
  have hD := hD0.self (sz := s.heap.size)
  generalize hAe : va_A [(g0, .inr (3, [.int kTh, .int kTo, .ref gMo, .ref gSh, .int kCn, .ref gDy, .ref gMa, .ref gKi, .ref gLa, .int kPl, .ref gSl, .ref gTk, .ref gLy, .ref gGr, .ref gLS, .ref gMU, .ref gML, .ref gEU, .ref gEL, .int kPt, .ref gPx, .ref gPy]))] s.heap.size = A at hD hCx ⊢
  have hA : ∀ q : Nat, s.heap.size ≤ q → A q := fun q h => by rw [← hAe]; exact Or.inr h
  have hA0 : ∀ q : Nat, s.heap.size ≤ q → va_A [] s.heap.size q := fun q h => Or.inr h
  have hS : va_S (va_A [] s.heap.size) s.heap s.heap [] := va_S.rf
  have hl := lv_entry ([.ref g0, .int a1, .int a2, .int a3, .int a4]) (n := 5) (Nat.le_of_ble_eq_true rfl)
  rw [lg_entry_eq]
  generalize (lg_sl ([.ref g0, .int a1, .int a2, .int a3, .int a4]) ++ List.replicate (5 - (lg_sl ([.ref g0, .int a1, .int a2, .int a3, .int a4])).length) Slot.unset).toArray = ls at hl ⊢
  have hl : lv_has ls 5 [(0, .ref g0), (1, .int a1), (2, .int a2), (3, .int a3), (4, .int a4)] := hl
  have hP : va_P (dC, dI) vq_cl [(g0, .inr (3, [.int kTh, .int kTo, .ref gMo, .ref gSh, .int kCn, .ref gDy, .ref gMa, .ref gKi, .ref gLa, .int kPl, .ref gSl, .ref gTk, .ref gLy, .ref gGr, .ref gLS, .ref gMU, .ref gML, .ref gEU, .ref gEL, .int kPt, .ref gPx, .ref gPy]))] s.heap := hP
  refine lv_aload_n hx hb d_MO_throwing_0 rfl (lv_at hl 0 rfl) ?_
  refine vq_cut (g' := F0 m 35 ls [.int (thF a1 a2 a3 a4), .ref g0]) (fun kk => ?_) ?_
  · skip
    refine lv_iload_n hx hb d_MO_throwing_1 rfl (lv_at hl 1 rfl) ?_
    refine lv_if_eq (tgt := 9) hx hb d_MO_throwing_2 (by decide) (fun c_2 => ?_) (fun c_2 => ?_)
    · skip
      refine lv_iload_n hx hb d_MO_throwing_9 rfl (lv_at hl 2 rfl) ?_
      refine lv_if_eq (tgt := 17) hx hb d_MO_throwing_10 (by decide) (fun c_10 => ?_) (fun c_10 => ?_)
      · skip
        refine lv_iload_n hx hb d_MO_throwing_17 rfl (lv_at hl 3 rfl) ?_
        refine lv_if_eq (tgt := 25) hx hb d_MO_throwing_18 (by decide) (fun c_18 => ?_) (fun c_18 => ?_)
        · skip
          refine lv_iload hx hb d_MO_throwing_25 (lv_at hl 4 rfl) ?_
          refine lv_if_eq (tgt := 34) hx hb d_MO_throwing_27 (by decide) (fun c_27 => ?_) (fun c_27 => ?_)
          · skip
            refine lv_iconst (v := 0) hx hb d_MO_throwing_34 (by decide) ?_
            simp only [thF, if_pos c_2, if_pos c_10, if_pos c_18, if_pos c_27] at kk
            exact kk
          · skip
            refine lv_iconst (v := 4) hx hb d_MO_throwing_30 (by decide) ?_
            refine lv_goto (tgt := 35) hx hb d_MO_throwing_31 (by decide) ?_
            simp only [thF, if_pos c_2, if_pos c_10, if_pos c_18, if_neg c_27] at kk
            exact kk
        · skip
          refine lv_iconst (v := 3) hx hb d_MO_throwing_21 (by decide) ?_
          refine lv_goto (tgt := 35) hx hb d_MO_throwing_22 (by decide) ?_
          simp only [thF, if_pos c_2, if_pos c_10, if_neg c_18] at kk
          exact kk
      · skip
        refine lv_iconst (v := 2) hx hb d_MO_throwing_13 (by decide) ?_
        refine lv_goto (tgt := 35) hx hb d_MO_throwing_14 (by decide) ?_
        simp only [thF, if_pos c_2, if_neg c_10] at kk
        exact kk
    · skip
      refine lv_iconst (v := 1) hx hb d_MO_throwing_5 (by decide) ?_
      refine lv_goto (tgt := 35) hx hb d_MO_throwing_6 (by decide) ?_
      simp only [thF, if_neg c_2] at kk
      exact kk
  have hS := vq_wk hS hA
  refine va_put (D := (dC, dI)) (ci := 3) (v := .int (thF a1 a2 a3 a4)) (ty := .int) (C := R_MO) (T := F_MO) (N := 22) hx hb hG i_MO t_MO t_MO_ok n_MO hown hK hP hD hS 0 rfl rfl 0 (by decide) (hG _ vq_t477) (fun _ h9 => h9) rfl (by decide +kernel) rfl rfl (Nat.le_of_ble_eq_true rfl) d_MO_throwing_35 (fun H locs hP hD hS => ?_)
  have hP : va_P (dC, dI) vq_cl [(g0, .inr (3, [.int (thF a1 a2 a3 a4), .int kTo, .ref gMo, .ref gSh, .int kCn, .ref gDy, .ref gMa, .ref gKi, .ref gLa, .int kPl, .ref gSl, .ref gTk, .ref gLy, .ref gGr, .ref gLS, .ref gMU, .ref gML, .ref gEU, .ref gEL, .int kPt, .ref gPx, .ref gPy]))] H := hP
  have hD : va_D A [(g0, .inr (3, [.int (thF a1 a2 a3 a4), .int kTo, .ref gMo, .ref gSh, .int kCn, .ref gDy, .ref gMa, .ref gKi, .ref gLa, .int kPl, .ref gSl, .ref gTk, .ref gLy, .ref gGr, .ref gLS, .ref gMU, .ref gML, .ref gEU, .ref gEL, .int kPt, .ref gPx, .ref gPy]))] := hD
  refine lv_aload_n hx hb d_MO_throwing_38 rfl (lv_at hl 0 rfl) ?_
  refine va_get (D := (dC, dI)) (ci := 3) (v := .int (thF a1 a2 a3 a4)) (C := R_MO) (T := F_MO) (N := 22) hx hb hG i_MO hown hK hP 0 rfl rfl 0 (by decide) (hG _ vq_t477) (fun _ h9 => h9) rfl d_MO_throwing_39 ?_
  refine lv_if_le (tgt := 49) hx hb d_MO_throwing_42 (by decide) (fun c_42 => ?_) (fun c_42 => ?_)
  · skip
    refine lv_iconst (v := 0) hx hb d_MO_throwing_49 (by decide) ?_
    refine W.widen (k := 0) (n := 0) (Nat.le_of_ble_eq_true rfl) (Nat.le_of_ble_eq_true rfl) ?_
    have hP9 : va_P (dC, dI) vq_cl [(g0, .inr (3, [.int (thF a1 a2 a3 a4), .int kTo, .ref gMo, .ref gSh, .int kCn, .ref gDy, .ref gMa, .ref gKi, .ref gLa, .int kPl, .ref gSl, .ref gTk, .ref gLy, .ref gGr, .ref gLS, .ref gMU, .ref gML, .ref gEU, .ref gEL, .int kPt, .ref gPx, .ref gPy]))] _ := hP.sub [0] rfl
    have hD9 : va_D A [(g0, .inr (3, [.int (thF a1 a2 a3 a4), .int kTo, .ref gMo, .ref gSh, .int kCn, .ref gDy, .ref gMa, .ref gKi, .ref gLa, .int kPl, .ref gSl, .ref gTk, .ref gLy, .ref gGr, .ref gLS, .ref gMU, .ref gML, .ref gEU, .ref gEL, .int kPt, .ref gPx, .ref gPy]))] := hD.sub [0] (by decide) rfl
    exact W.zret (v := 0) hx hb hr rfl (fun t ht hW => ⟨⟨0, (), rfl, by simp only [thB, if_pos c_42], ⟨by rw [ht]; exact hP9, hD9⟩⟩, hS.F ht⟩) hS.2.2 d_MO_throwing_50
  · skip
    refine lv_iconst (v := 1) hx hb d_MO_throwing_45 (by decide) ?_
    refine lv_goto (tgt := 50) hx hb d_MO_throwing_46 (by decide) ?_
    refine W.widen (k := 0) (n := 0) (Nat.le_of_ble_eq_true rfl) (Nat.le_of_ble_eq_true rfl) ?_
    have hP9 : va_P (dC, dI) vq_cl [(g0, .inr (3, [.int (thF a1 a2 a3 a4), .int kTo, .ref gMo, .ref gSh, .int kCn, .ref gDy, .ref gMa, .ref gKi, .ref gLa, .int kPl, .ref gSl, .ref gTk, .ref gLy, .ref gGr, .ref gLS, .ref gMU, .ref gML, .ref gEU, .ref gEL, .int kPt, .ref gPx, .ref gPy]))] _ := hP.sub [0] rfl
    have hD9 : va_D A [(g0, .inr (3, [.int (thF a1 a2 a3 a4), .int kTo, .ref gMo, .ref gSh, .int kCn, .ref gDy, .ref gMa, .ref gKi, .ref gLa, .int kPl, .ref gSl, .ref gTk, .ref gLy, .ref gGr, .ref gLS, .ref gMU, .ref gML, .ref gEU, .ref gEL, .int kPt, .ref gPx, .ref gPy]))] := hD.sub [0] (by decide) rfl
    exact W.zret (v := 1) hx hb hr rfl (fun t ht hW => ⟨⟨1, (), rfl, by simp only [thB, if_neg c_42], ⟨by rw [ht]; exact hP9, hD9⟩⟩, hS.F ht⟩) hS.2.2 d_MO_throwing_50
set_option maxHeartbeats 4000000 in
set_option maxRecDepth 100000 in
/-- the loop of partOf -/
theorem lp_part {p : Program} {l : Launch} {e : Env} {R : Room} {s : State} {m : MethodId} {args : Array Value} {below : List Frame} {meth : Method} {c : Code} {cells slots : Nat} {Q : State → Prop} {H : Heap} {locs : List Loc} {u v sg : Int64} {q : Int32} (hx : p.tables.exec = Jvm.exec) (hb : c.code = b_MO_partOf) :
    ∀ (n x y : Nat) (ls : Array Slot), y ≤ n → x < 2 ^ 63 → y < 2 ^ 63 → lv_has ls 13 [(0, .long u), (2, .long v), (4, .int q), (9, .long sg), (5, .long (lN x)), (7, .long (lN y))] → (∀ ls : Array Slot, lv_has ls 13 [(0, .long u), (2, .long v), (4, .int q), (9, .long sg), (5, .long (lN (Nat.gcd x y)))] → W p l e R s m args below meth c H locs cells slots Q (F0 m 68 ls [])) → W p l e R s m args below meth c H locs cells slots Q (F0 m 43 ls []) := by
  intro n
  induction n with
  | zero =>
    intro x y ls hn hx1 hy1 hl kk
    have h0 : (lN y ≤ 0) ↔ y ≤ 0 := pk_lLE hy1 (by decide)
    refine lv_lload hx hb d_MO_partOf_43 (lv_at hl 5 rfl) ?_
    refine lv_lconst (v := 0) hx hb d_MO_partOf_45 (by decide) ?_
    refine W.lcmp hx hb d_MO_partOf_46 ?_
    refine lv_if_le (tgt := 68) hx hb d_MO_partOf_47 (by decide) (fun c_47 => ?_) (fun c_47 => ?_)
    · skip
      have c_47 := (lg_cmp_le (lN y) 0).mp c_47
      have hy0 : y = 0 := by omega
      exact kk ls (by rw [hy0, Nat.gcd_zero_right]; exact lv_sub hl [0, 1, 2, 3, 4] rfl)
    · skip
      have c_47 := (not_congr (lg_cmp_le (lN y) 0)).mp c_47
      exact absurd c_47 (not_not_intro (h0.mpr hn))
  | succ n ih =>
    intro x y ls hn hx1 hy1 hl kk
    have h0 : (lN y ≤ 0) ↔ y ≤ 0 := pk_lLE hy1 (by decide)
    refine lv_lload hx hb d_MO_partOf_43 (lv_at hl 5 rfl) ?_
    refine lv_lconst (v := 0) hx hb d_MO_partOf_45 (by decide) ?_
    refine W.lcmp hx hb d_MO_partOf_46 ?_
    refine lv_if_le (tgt := 68) hx hb d_MO_partOf_47 (by decide) (fun c_47 => ?_) (fun c_47 => ?_)
    · skip
      have c_47 := (lg_cmp_le (lN y) 0).mp c_47
      have hy0 : y = 0 := Nat.le_zero.mp (h0.mp c_47)
      exact kk ls (by rw [hy0, Nat.gcd_zero_right]; exact lv_sub hl [0, 1, 2, 3, 4] rfl)
    · skip
      have c_47 := (not_congr (lg_cmp_le (lN y) 0)).mp c_47
      have hyn : ¬ y = 0 := fun z => c_47 (h0.mpr (by omega))
      refine lv_lload hx hb d_MO_partOf_50 (lv_at hl 4 rfl) ?_
      refine lv_lload hx hb d_MO_partOf_52 (lv_at hl 5 rfl) ?_
      refine lv_lrem hx hb d_MO_partOf_54 (fun z => hyn ((pk_lEQ hy1 (by decide)).mp z)) ?_
      refine lv_lstore (lv' := [(11, .long ((lN x) - (lN x) / (lN y) * (lN y))), (0, .long u), (2, .long v), (4, .int q), (9, .long sg), (5, .long (lN x)), (7, .long (lN y))]) hx hb d_MO_partOf_55 hl (by decide) rfl (fun ls hl => ?_)
      refine lv_lload hx hb d_MO_partOf_57 (lv_at hl 6 rfl) ?_
      refine lv_lstore (lv' := [(5, .long (lN y)), (11, .long ((lN x) - (lN x) / (lN y) * (lN y))), (0, .long u), (2, .long v), (4, .int q), (9, .long sg), (7, .long (lN y))]) hx hb d_MO_partOf_59 hl (by decide) rfl (fun ls hl => ?_)
      refine lv_lload hx hb d_MO_partOf_61 (lv_at hl 1 rfl) ?_
      refine lv_lstore (lv' := [(7, .long ((lN x) - (lN x) / (lN y) * (lN y))), (5, .long (lN y)), (11, .long ((lN x) - (lN x) / (lN y) * (lN y))), (0, .long u), (2, .long v), (4, .int q), (9, .long sg)]) hx hb d_MO_partOf_63 hl (by decide) rfl (fun ls hl => ?_)
      refine lv_goto (tgt := 43) hx hb d_MO_partOf_65 (by decide) ?_
      rw [pk_lRem hx1 (by omega) hy1] at hl
      exact ih y (x % y) ls (by have := Nat.mod_lt x (show y > 0 by omega); omega) hy1 (Nat.lt_of_lt_of_le (Nat.mod_lt _ (by omega)) (Nat.le_of_lt hy1)) (lv_sub hl [3, 4, 5, 6, 1, 0] rfl) (fun ls hl => kk ls (by rw [gcd_step x y]; exact hl))
set_option maxHeartbeats 4000000 in
set_option maxRecDepth 100000 in
/-- partOf -/
theorem m_partOf (l : Launch) (dC : Nat → ClassId) (dI : Nat → Nat → Nat) (cs : Nat → ClassId) (sz : Nat) (u : Int64) (v : Int64) (q : Int32) (x : Nat) (y : Nat) (ha : (if 0 ≤ v then v else (-v)) = lN x) (hb9 : (if 0 ≤ u then u else (-u)) = lN y) (hx1 : x < 2 ^ 63) (hy1 : y < 2 ^ 63) (hz : ¬ lN (Nat.gcd x y) = 0) : Met l y_MO_partOf w_MO_partOf ({ frames := 0, cells := 0, slots := 0, locals := 0 }) (vq_PreR (dC, dI) cs [] sz [.long u, .long v, .int q]) (vp_Sl (fun r => r = ((if 0 ≤ v then 1 else (-1)) * (if q = 0 then u else v)) / lN (Nat.gcd x y))) 0 0 (fun _ => False) := by
  refine Met.ofW (cc := b_MO_partOf) (maxL := 13) (ret := (some .long)) (by decide) rfl ?_
  intro p e s m args below meth c s₁ B hml hv
  obtain ⟨rfl, hsz, hP, hCx⟩ := hv
  have hx := B.exec
  have hb := B.bytes
  have hr := B.returns
  have hG := vq_hG (atoms_spec (ws := w_MO_partOf) B.pre)
  have hown : s.vm.findClass R_MO = some m.cls := findClass_of_methodNamed B.named
  have hlocks := B.notSynchronized
  subst hsz
  have hK := hCx.1
  have hA : ∀ q : Nat, s.heap.size ≤ q → va_A [] s.heap.size q := fun q h => Or.inr h
  have hA0 : ∀ q : Nat, s.heap.size ≤ q → va_A [] s.heap.size q := fun q h => Or.inr h
  have hS : va_S (va_A [] s.heap.size) s.heap s.heap [] := va_S.rf
  have hl := lv_entry ([.long u, .long v, .int q]) (n := 13) (Nat.le_of_ble_eq_true rfl)
  rw [lg_entry_eq]
  generalize (lg_sl ([.long u, .long v, .int q]) ++ List.replicate (13 - (lg_sl ([.long u, .long v, .int q])).length) Slot.unset).toArray = ls at hl ⊢
  have hl : lv_has ls 13 [(0, .long u), (2, .long v), (4, .int q)] := hl
  have hP : va_P (dC, dI) vq_cl [] s.heap := hP
  refine vq_cut (g' := F0 m 12 ls [.long (if 0 ≤ v then v else (-v))]) (fun kk => ?_) ?_
  · skip
    refine lv_lload_n hx hb d_MO_partOf_0 rfl (lv_at hl 1 rfl) ?_
    refine lv_lconst (v := 0) hx hb d_MO_partOf_1 (by decide) ?_
    refine W.lcmp hx hb d_MO_partOf_2 ?_
    refine lv_if_ge (tgt := 11) hx hb d_MO_partOf_3 (by decide) (fun c_3 => ?_) (fun c_3 => ?_)
    · skip
      have c_3 := (lg_cmp_ge v 0).mp c_3
      refine lv_lload_n hx hb d_MO_partOf_11 rfl (lv_at hl 1 rfl) ?_
      simp only [if_pos c_3] at kk
      exact kk
    · skip
      have c_3 := (not_congr (lg_cmp_ge v 0)).mp c_3
      refine lv_lload_n hx hb d_MO_partOf_6 rfl (lv_at hl 1 rfl) ?_
      refine lv_lneg hx hb d_MO_partOf_7 ?_
      refine lv_goto (tgt := 12) hx hb d_MO_partOf_8 (by decide) ?_
      simp only [if_neg c_3] at kk
      exact kk
  refine lv_lstore (lv' := [(5, .long (if 0 ≤ v then v else (-v))), (0, .long u), (2, .long v), (4, .int q)]) hx hb d_MO_partOf_12 hl (by decide) rfl (fun ls hl => ?_)
  refine vq_cut (g' := F0 m 26 ls [.long (if 0 ≤ u then u else (-u))]) (fun kk => ?_) ?_
  · skip
    refine lv_lload_n hx hb d_MO_partOf_14 rfl (lv_at hl 1 rfl) ?_
    refine lv_lconst (v := 0) hx hb d_MO_partOf_15 (by decide) ?_
    refine W.lcmp hx hb d_MO_partOf_16 ?_
    refine lv_if_ge (tgt := 25) hx hb d_MO_partOf_17 (by decide) (fun c_17 => ?_) (fun c_17 => ?_)
    · skip
      have c_17 := (lg_cmp_ge u 0).mp c_17
      refine lv_lload_n hx hb d_MO_partOf_25 rfl (lv_at hl 1 rfl) ?_
      simp only [if_pos c_17] at kk
      exact kk
    · skip
      have c_17 := (not_congr (lg_cmp_ge u 0)).mp c_17
      refine lv_lload_n hx hb d_MO_partOf_20 rfl (lv_at hl 1 rfl) ?_
      refine lv_lneg hx hb d_MO_partOf_21 ?_
      refine lv_goto (tgt := 26) hx hb d_MO_partOf_22 (by decide) ?_
      simp only [if_neg c_17] at kk
      exact kk
  refine lv_lstore (lv' := [(7, .long (if 0 ≤ u then u else (-u))), (5, .long (if 0 ≤ v then v else (-v))), (0, .long u), (2, .long v), (4, .int q)]) hx hb d_MO_partOf_26 hl (by decide) rfl (fun ls hl => ?_)
  refine vq_cut (g' := F0 m 41 ls [.long (if 0 ≤ v then 1 else (-1))]) (fun kk => ?_) ?_
  · skip
    refine lv_lload_n hx hb d_MO_partOf_28 rfl (lv_at hl 3 rfl) ?_
    refine lv_lconst (v := 0) hx hb d_MO_partOf_29 (by decide) ?_
    refine W.lcmp hx hb d_MO_partOf_30 ?_
    refine lv_if_ge (tgt := 40) hx hb d_MO_partOf_31 (by decide) (fun c_31 => ?_) (fun c_31 => ?_)
    · skip
      have c_31 := (lg_cmp_ge v 0).mp c_31
      refine lv_lconst (v := 1) hx hb d_MO_partOf_40 (by decide) ?_
      simp only [if_pos c_31] at kk
      exact kk
    · skip
      have c_31 := (not_congr (lg_cmp_ge v 0)).mp c_31
      refine lv_ldc2 (v := (-1)) hx hb hown (hG _ vq_t625) d_MO_partOf_34 ?_
      refine lv_goto (tgt := 41) hx hb d_MO_partOf_37 (by decide) ?_
      simp only [if_neg c_31] at kk
      exact kk
  refine lv_lstore (lv' := [(9, .long (if 0 ≤ v then 1 else (-1))), (7, .long (if 0 ≤ u then u else (-u))), (5, .long (if 0 ≤ v then v else (-v))), (0, .long u), (2, .long v), (4, .int q)]) hx hb d_MO_partOf_41 hl (by decide) rfl (fun ls hl => ?_)
  have hl : lv_has ls 13 [(0, .long u), (2, .long v), (4, .int q), (9, .long (if 0 ≤ v then 1 else (-1))), (5, .long (if 0 ≤ v then v else (-v))), (7, .long (if 0 ≤ u then u else (-u)))] := lv_sub hl [3, 4, 5, 0, 2, 1] rfl
  rw [ha, hb9] at hl
  refine lp_part hx hb y x y ls (Nat.le_refl _) hx1 hy1 hl (fun ls hl => ?_)
  refine lv_lload hx hb d_MO_partOf_68 (lv_at hl 3 rfl) ?_
  refine vq_cut (g' := F0 m 80 ls [.long (if q = 0 then u else v), .long (if 0 ≤ v then 1 else (-1))]) (fun kk => ?_) ?_
  · skip
    refine lv_iload hx hb d_MO_partOf_70 (lv_at hl 2 rfl) ?_
    refine lv_if_ne (tgt := 79) hx hb d_MO_partOf_72 (by decide) (fun c_72 => ?_) (fun c_72 => ?_)
    · skip
      refine lv_lload_n hx hb d_MO_partOf_79 rfl (lv_at hl 1 rfl) ?_
      simp only [if_neg c_72] at kk
      exact kk
    · skip
      refine lv_lload_n hx hb d_MO_partOf_75 rfl (lv_at hl 0 rfl) ?_
      refine lv_goto (tgt := 80) hx hb d_MO_partOf_76 (by decide) ?_
      simp only [if_pos c_72] at kk
      exact kk
  refine lv_lmul hx hb d_MO_partOf_80 ?_
  refine lv_lload hx hb d_MO_partOf_81 (lv_at hl 4 rfl) ?_
  refine lv_ldiv hx hb d_MO_partOf_83 hz ?_
  exact W.lret (v := (((if 0 ≤ v then 1 else (-1)) * (if q = 0 then u else v)) / (lN (Nat.gcd x y)))) hx hb hr (fun t ht hW => ⟨(((if 0 ≤ v then 1 else (-1)) * (if q = 0 then u else v)) / (lN (Nat.gcd x y))), rfl, by rfl, ht⟩) (fun q h => absurd h List.not_mem_nil) d_MO_partOf_84
