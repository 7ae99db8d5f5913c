set_option maxHeartbeats 4000000 in
set_option maxRecDepth 100000 in
/-- in -/
theorem m_in (l : Launch) (dC : Nat → ClassId) (dI : Nat → Nat → Nat) (cs : Nat → ClassId) (sz : Nat) (v : Int32) (lo : Int32) (hi : Int32) : Met l y_MO_in w_MO_in ({ frames := 0, cells := 0, slots := 0, locals := 0 }) (vq_PreR (dC, dI) cs [] sz [.int v, .int lo, .int hi]) (vp_Si (fun r => r = inF v lo hi)) 0 0 (fun _ => False) := by
  refine Met.ofW (cc := b_MO_in) (maxL := 3) (ret := (some .boolean)) (by decide) rfl ?_
  intro p e s m args below meth c s₁ B hml hv
  obtain ⟨rfl, hsz, hP, hCx⟩ := hv
  have hx := B.exec
  have hb := B.bytes
  have hr := B.returns
  have hG := vq_hG (atoms_spec (ws := w_MO_in) B.pre)
  have hown : s.vm.findClass R_MO = some m.cls := findClass_of_methodNamed B.named
  have hlocks := B.notSynchronized
  subst hsz
  have hK := hCx.1
  have hA : ∀ q : Nat, s.heap.size ≤ q → va_A [] s.heap.size q := fun q h => Or.inr h
  have hA0 : ∀ q : Nat, s.heap.size ≤ q → va_A [] s.heap.size q := fun q h => Or.inr h
  have hS : va_S (va_A [] s.heap.size) s.heap s.heap [] := va_S.rf
  have hl := lv_entry ([.int v, .int lo, .int hi]) (n := 3) (Nat.le_of_ble_eq_true rfl)
  rw [lg_entry_eq]
  generalize (lg_sl ([.int v, .int lo, .int hi]) ++ List.replicate (3 - (lg_sl ([.int v, .int lo, .int hi])).length) Slot.unset).toArray = ls at hl ⊢
  have hl : lv_has ls 3 [(0, .int v), (1, .int lo), (2, .int hi)] := hl
  have hP : va_P (dC, dI) vq_cl [] s.heap := hP
  refine lv_iload_n hx hb d_MO_in_0 rfl (lv_at hl 0 rfl) ?_
  refine lv_iload_n hx hb d_MO_in_1 rfl (lv_at hl 1 rfl) ?_
  refine lv_icmp_lt (tgt := 14) hx hb d_MO_in_2 (by decide) (fun c_2 => ?_) (fun c_2 => ?_)
  · skip
    refine lv_iconst (v := 0) hx hb d_MO_in_14 (by decide) ?_
    exact W.zret (v := 0) hx hb hr rfl (fun t ht hW => ⟨0, rfl, by simp only [inF, if_pos c_2], ht⟩) (fun q h => absurd h List.not_mem_nil) d_MO_in_15
  · skip
    refine lv_iload_n hx hb d_MO_in_5 rfl (lv_at hl 0 rfl) ?_
    refine lv_iload_n hx hb d_MO_in_6 rfl (lv_at hl 2 rfl) ?_
    refine lv_icmp_gt (tgt := 14) hx hb d_MO_in_7 (by decide) (fun c_7 => ?_) (fun c_7 => ?_)
    · skip
      refine lv_iconst (v := 0) hx hb d_MO_in_14 (by decide) ?_
      exact W.zret (v := 0) hx hb hr rfl (fun t ht hW => ⟨0, rfl, by simp only [inF, if_neg c_2, if_pos c_7], ht⟩) (fun q h => absurd h List.not_mem_nil) d_MO_in_15
    · skip
      refine lv_iconst (v := 1) hx hb d_MO_in_10 (by decide) ?_
      refine lv_goto (tgt := 15) hx hb d_MO_in_11 (by decide) ?_
      exact W.zret (v := 1) hx hb hr rfl (fun t ht hW => ⟨1, rfl, by simp only [inF, if_neg c_2, if_neg c_7], ht⟩) (fun q h => absurd h List.not_mem_nil) d_MO_in_15
set_option maxHeartbeats 4000000 in
set_option maxRecDepth 100000 in
/-- isMaterial -/
theorem m_isMaterial (l : Launch) (dC : Nat → ClassId) (dI : Nat → Nat → Nat) (cs : Nat → ClassId) (sz : Nat) (x : Int32) : Met l y_MO_isMaterial w_MO_isMaterial ({ frames := 1, cells := 0, slots := 0, locals := 22 }) (vq_PreR (dC, dI) cs [] sz [.int x]) (vp_Si (fun r => r = inF x 0 7)) 0 0 (fun _ => False) := by
  refine Met.ofW (cc := b_MO_isMaterial) (maxL := 1) (ret := (some .boolean)) (by decide) rfl ?_
  intro p e s m args below meth c s₁ B hml hv
  obtain ⟨rfl, hsz, hP, hCx⟩ := hv
  have hx := B.exec
  have hb := B.bytes
  have hr := B.returns
  have hG := vq_hG (atoms_spec (ws := w_MO_isMaterial) B.pre)
  have hown : s.vm.findClass R_MO = some m.cls := findClass_of_methodNamed B.named
  have hlocks := B.notSynchronized
  subst hsz
  have hK := hCx.1
  have hA : ∀ q : Nat, s.heap.size ≤ q → va_A [] s.heap.size q := fun q h => Or.inr h
  have hA0 : ∀ q : Nat, s.heap.size ≤ q → va_A [] s.heap.size q := fun q h => Or.inr h
  have hS : va_S (va_A [] s.heap.size) s.heap s.heap [] := va_S.rf
  have hl := lv_entry ([.int x]) (n := 1) (Nat.le_of_ble_eq_true rfl)
  rw [lg_entry_eq]
  generalize (lg_sl ([.int x]) ++ List.replicate (1 - (lg_sl ([.int x])).length) Slot.unset).toArray = ls at hl ⊢
  have hl : lv_has ls 1 [(0, .int x)] := hl
  have hP : va_P (dC, dI) vq_cl [] s.heap := hP
  refine lv_iload_n hx hb d_MO_isMaterial_0 rfl (lv_at hl 0 rfl) ?_
  refine lv_iconst (v := 0) hx hb d_MO_isMaterial_1 (by decide) ?_
  refine lv_bipush (v := 7) hx hb d_MO_isMaterial_2 (by decide) ?_
  refine vp_callSi (va_Run.run (va_runS (As := [.int x, .int 0, .int 7]) (rest := []) ⟨hx, hb, hml, hown, hG⟩ (m_in l dC dI cs _ x 0 7) (cwS 3 hG (vq_gS vq_t555 vq_t556 vq_t4 vq_t557) rfl rfl rfl (by decide +kernel) ⟨Nat.le_of_ble_eq_true rfl, Nat.le_of_ble_eq_true rfl⟩) (vq_preSr (wc := []) hCx hP (vq_wk hS hA) hA [] rfl) rfl rfl hl.1 rfl (lv_room (Nat.le_of_ble_eq_true rfl)) d_MO_isMaterial_4 ⟨Nat.le_of_ble_eq_true rfl, Nat.le_of_ble_eq_true rfl⟩)) (fun r_4 w_4 => ?_)
  subst w_4
  exact W.zret (v := inF x 0 7) hx hb hr (narB_in _ _ _) (fun t ht hW => ⟨inF x 0 7, rfl, rfl, ht⟩) (fun q h => absurd h List.not_mem_nil) d_MO_isMaterial_7
set_option maxHeartbeats 4000000 in
set_option maxRecDepth 100000 in
/-- isElement -/
theorem m_isElement (l : Launch) (dC : Nat → ClassId) (dI : Nat → Nat → Nat) (cs : Nat → ClassId) (sz : Nat) (x : Int32) : Met l y_MO_isElement w_MO_isElement ({ frames := 1, cells := 0, slots := 0, locals := 22 }) (vq_PreR (dC, dI) cs [] sz [.int x]) (vp_Si (fun r => r = inF x 0 3)) 0 0 (fun _ => False) := by
  refine Met.ofW (cc := b_MO_isElement) (maxL := 1) (ret := (some .boolean)) (by decide) rfl ?_
  intro p e s m args below meth c s₁ B hml hv
  obtain ⟨rfl, hsz, hP, hCx⟩ := hv
  have hx := B.exec
  have hb := B.bytes
  have hr := B.returns
  have hG := vq_hG (atoms_spec (ws := w_MO_isElement) B.pre)
  have hown : s.vm.findClass R_MO = some m.cls := findClass_of_methodNamed B.named
  have hlocks := B.notSynchronized
  subst hsz
  have hK := hCx.1
  have hA : ∀ q : Nat, s.heap.size ≤ q → va_A [] s.heap.size q := fun q h => Or.inr h
  have hA0 : ∀ q : Nat, s.heap.size ≤ q → va_A [] s.heap.size q := fun q h => Or.inr h
  have hS : va_S (va_A [] s.heap.size) s.heap s.heap [] := va_S.rf
  have hl := lv_entry ([.int x]) (n := 1) (Nat.le_of_ble_eq_true rfl)
  rw [lg_entry_eq]
  generalize (lg_sl ([.int x]) ++ List.replicate (1 - (lg_sl ([.int x])).length) Slot.unset).toArray = ls at hl ⊢
  have hl : lv_has ls 1 [(0, .int x)] := hl
  have hP : va_P (dC, dI) vq_cl [] s.heap := hP
  refine lv_iload_n hx hb d_MO_isElement_0 rfl (lv_at hl 0 rfl) ?_
  refine lv_iconst (v := 0) hx hb d_MO_isElement_1 (by decide) ?_
  refine lv_iconst (v := 3) hx hb d_MO_isElement_2 (by decide) ?_
  refine vp_callSi (va_Run.run (va_runS (As := [.int x, .int 0, .int 3]) (rest := []) ⟨hx, hb, hml, hown, hG⟩ (m_in l dC dI cs _ x 0 3) (cwS 3 hG (vq_gS vq_t555 vq_t556 vq_t4 vq_t557) rfl rfl rfl (by decide +kernel) ⟨Nat.le_of_ble_eq_true rfl, Nat.le_of_ble_eq_true rfl⟩) (vq_preSr (wc := []) hCx hP (vq_wk hS hA) hA [] rfl) rfl rfl hl.1 rfl (lv_room (Nat.le_of_ble_eq_true rfl)) d_MO_isElement_3 ⟨Nat.le_of_ble_eq_true rfl, Nat.le_of_ble_eq_true rfl⟩)) (fun r_3 w_3 => ?_)
  subst w_3
  exact W.zret (v := inF x 0 3) hx hb hr (narB_in _ _ _) (fun t ht hW => ⟨inF x 0 3, rfl, rfl, ht⟩) (fun q h => absurd h List.not_mem_nil) d_MO_isElement_6
set_option maxHeartbeats 4000000 in
set_option maxRecDepth 100000 in
/-- isPart -/
theorem m_isPart (l : Launch) (dC : Nat → ClassId) (dI : Nat → Nat → Nat) (cs : Nat → ClassId) (sz : Nat) (x : Int32) : Met l y_MO_isPart w_MO_isPart ({ frames := 1, cells := 0, slots := 0, locals := 22 }) (vq_PreR (dC, dI) cs [] sz [.int x]) (vp_Si (fun r => r = inF x 0 1)) 0 0 (fun _ => False) := by
  refine Met.ofW (cc := b_MO_isPart) (maxL := 1) (ret := (some .boolean)) (by decide) rfl ?_
  intro p e s m args below meth c s₁ B hml hv
  obtain ⟨rfl, hsz, hP, hCx⟩ := hv
  have hx := B.exec
  have hb := B.bytes
  have hr := B.returns
  have hG := vq_hG (atoms_spec (ws := w_MO_isPart) B.pre)
  have hown : s.vm.findClass R_MO = some m.cls := findClass_of_methodNamed B.named
  have hlocks := B.notSynchronized
  subst hsz
  have hK := hCx.1
  have hA : ∀ q : Nat, s.heap.size ≤ q → va_A [] s.heap.size q := fun q h => Or.inr h
  have hA0 : ∀ q : Nat, s.heap.size ≤ q → va_A [] s.heap.size q := fun q h => Or.inr h
  have hS : va_S (va_A [] s.heap.size) s.heap s.heap [] := va_S.rf
  have hl := lv_entry ([.int x]) (n := 1) (Nat.le_of_ble_eq_true rfl)
  rw [lg_entry_eq]
  generalize (lg_sl ([.int x]) ++ List.replicate (1 - (lg_sl ([.int x])).length) Slot.unset).toArray = ls at hl ⊢
  have hl : lv_has ls 1 [(0, .int x)] := hl
  have hP : va_P (dC, dI) vq_cl [] s.heap := hP
  refine lv_iload_n hx hb d_MO_isPart_0 rfl (lv_at hl 0 rfl) ?_
  refine lv_iconst (v := 0) hx hb d_MO_isPart_1 (by decide) ?_
  refine lv_iconst (v := 1) hx hb d_MO_isPart_2 (by decide) ?_
  refine vp_callSi (va_Run.run (va_runS (As := [.int x, .int 0, .int 1]) (rest := []) ⟨hx, hb, hml, hown, hG⟩ (m_in l dC dI cs _ x 0 1) (cwS 3 hG (vq_gS vq_t555 vq_t556 vq_t4 vq_t557) rfl rfl rfl (by decide +kernel) ⟨Nat.le_of_ble_eq_true rfl, Nat.le_of_ble_eq_true rfl⟩) (vq_preSr (wc := []) hCx hP (vq_wk hS hA) hA [] rfl) rfl rfl hl.1 rfl (lv_room (Nat.le_of_ble_eq_true rfl)) d_MO_isPart_3 ⟨Nat.le_of_ble_eq_true rfl, Nat.le_of_ble_eq_true rfl⟩)) (fun r_3 w_3 => ?_)
  subst w_3
  exact W.zret (v := inF x 0 1) hx hb hr (narB_in _ _ _) (fun t ht hW => ⟨inF x 0 1, rfl, rfl, ht⟩) (fun q h => absurd h List.not_mem_nil) d_MO_isPart_6
set_option maxHeartbeats 4000000 in
set_option maxRecDepth 100000 in
/-- isPile -/
theorem m_isPile (l : Launch) (dC : Nat → ClassId) (dI : Nat → Nat → Nat) (cs : Nat → ClassId) (sz : Nat) (g0 : Nat) (gMo : Nat) (gSh : Nat) (gDy : Nat) (gMa : Nat) (gKi : Nat) (gLa : Nat) (gSl : Nat) (gTk : Nat) (gLy : Nat) (gGr : Nat) (gLS : Nat) (gMU : Nat) (gML : Nat) (gEU : Nat) (gEL : Nat) (gPx : Nat) (gPy : Nat) (kTh : Int32) (kTo : Int32) (kCn : Int32) (kPl : Int32) (kPt : Int32) (x : Int32) : Met l y_MO_isPile w_MO_isPile ({ frames := 1, cells := 0, slots := 0, locals := 22 }) (vq_PreR (dC, dI) cs [(g0, .inr (3, [.int kTh, .int kTo, .ref gMo, .ref gSh, .int kCn, .ref gDy, .ref gMa, .ref gKi, .ref gLa, .int kPl, .ref gSl, .ref gTk, .ref gLy, .ref gGr, .ref gLS, .ref gMU, .ref gML, .ref gEU, .ref gEL, .int kPt, .ref gPx, .ref gPy]))] sz [.ref g0, .int x]) (vp_Si (fun r => r = inF x 0 (kPl - 1))) 0 0 (fun _ => False) := by
  refine Met.ofW (cc := b_MO_isPile) (maxL := 2) (ret := (some .boolean)) (by decide) rfl ?_
  intro p e s m args below meth c s₁ B hml hv
  obtain ⟨rfl, hsz, hP, hCx⟩ := hv
  have hx := B.exec
  have hb := B.bytes
  have hr := B.returns
  have hG := vq_hG (atoms_spec (ws := w_MO_isPile) B.pre)
  have hown : s.vm.findClass R_MO = some m.cls := findClass_of_methodNamed B.named
  have hlocks := B.notSynchronized
  subst hsz
  have hK := hCx.1
  have hA : ∀ q : Nat, s.heap.size ≤ q → va_A [] s.heap.size q := fun q h => Or.inr h
  have hA0 : ∀ q : Nat, s.heap.size ≤ q → va_A [] s.heap.size q := fun q h => Or.inr h
  have hS : va_S (va_A [] s.heap.size) s.heap s.heap [] := va_S.rf
  have hl := lv_entry ([.ref g0, .int x]) (n := 2) (Nat.le_of_ble_eq_true rfl)
  rw [lg_entry_eq]
  generalize (lg_sl ([.ref g0, .int x]) ++ List.replicate (2 - (lg_sl ([.ref g0, .int x])).length) Slot.unset).toArray = ls at hl ⊢
  have hl : lv_has ls 2 [(0, .ref g0), (1, .int x)] := hl
  have hP : va_P (dC, dI) vq_cl [(g0, .inr (3, [.int kTh, .int kTo, .ref gMo, .ref gSh, .int kCn, .ref gDy, .ref gMa, .ref gKi, .ref gLa, .int kPl, .ref gSl, .ref gTk, .ref gLy, .ref gGr, .ref gLS, .ref gMU, .ref gML, .ref gEU, .ref gEL, .int kPt, .ref gPx, .ref gPy]))] s.heap := hP
  refine lv_iload_n hx hb d_MO_isPile_0 rfl (lv_at hl 1 rfl) ?_
  refine lv_iconst (v := 0) hx hb d_MO_isPile_1 (by decide) ?_
  refine lv_aload_n hx hb d_MO_isPile_2 rfl (lv_at hl 0 rfl) ?_
  refine va_get (D := (dC, dI)) (ci := 3) (v := .int kPl) (C := R_MO) (T := F_MO) (N := 22) hx hb hG i_MO hown hK hP 0 rfl rfl 9 (by decide) (hG _ vq_t486) (fun _ h9 => h9) rfl d_MO_isPile_3 ?_
  refine lv_iconst (v := 1) hx hb d_MO_isPile_6 (by decide) ?_
  refine lv_isub hx hb d_MO_isPile_7 ?_
  refine vp_callSi (va_Run.run (va_runS (As := [.int x, .int 0, .int (kPl - 1)]) (rest := []) ⟨hx, hb, hml, hown, hG⟩ (m_in l dC dI cs _ x 0 (kPl - 1)) (cwS 3 hG (vq_gS vq_t555 vq_t556 vq_t4 vq_t557) rfl rfl rfl (by decide +kernel) ⟨Nat.le_of_ble_eq_true rfl, Nat.le_of_ble_eq_true rfl⟩) (vq_preSr (wc := []) hCx hP (vq_wk hS hA) hA [] rfl) rfl rfl hl.1 rfl (lv_room (Nat.le_of_ble_eq_true rfl)) d_MO_isPile_8 ⟨Nat.le_of_ble_eq_true rfl, Nat.le_of_ble_eq_true rfl⟩)) (fun r_8 w_8 => ?_)
  subst w_8
  exact W.zret (v := inF x 0 (kPl - 1)) hx hb hr (narB_in _ _ _) (fun t ht hW => ⟨inF x 0 (kPl - 1), rfl, rfl, ht⟩) (fun q h => absurd h List.not_mem_nil) d_MO_isPile_11
set_option maxHeartbeats 4000000 in
set_option maxRecDepth 100000 in
/-- thrown -/
theorem m_thrown (l : Launch) (dC : Nat → ClassId) (dI : Nat → Nat → Nat) (cs : Nat → ClassId) (sz : Nat) (g0 : Nat) (gMo : Nat) (gSh : Nat) (gDy : Nat) (gMa : Nat) (gKi : Nat) (gLa : Nat) (gSl : Nat) (gTk : Nat) (gLy : Nat) (gGr : Nat) (gLS : Nat) (gMU : Nat) (gML : Nat) (gEU : Nat) (gEL : Nat) (gPx : Nat) (gPy : Nat) (kTh : Int32) (kTo : Int32) (kCn : Int32) (kPl : Int32) (kPt : Int32) : Met l y_MO_thrown w_MO_thrown ({ frames := 0, cells := 0, slots := 0, locals := 0 }) (vq_PreR (dC, dI) cs [(g0, .inr (3, [.int kTh, .int kTo, .ref gMo, .ref gSh, .int kCn, .ref gDy, .ref gMa, .ref gKi, .ref gLa, .int kPl, .ref gSl, .ref gTk, .ref gLy, .ref gGr, .ref gLS, .ref gMU, .ref gML, .ref gEU, .ref gEL, .int kPt, .ref gPx, .ref gPy]))] sz [.ref g0]) (vp_Si (fun r => r = kTh)) 0 0 (fun _ => False) := by
  refine Met.ofW (cc := b_MO_thrown) (maxL := 1) (ret := (some .int)) (by decide) rfl ?_
  intro p e s m args below meth c s₁ B hml hv
  obtain ⟨rfl, hsz, hP, hCx⟩ := hv
  have hx := B.exec
  have hb := B.bytes
  have hr := B.returns
  have hG := vq_hG (atoms_spec (ws := w_MO_thrown) B.pre)
  have hown : s.vm.findClass R_MO = some m.cls := findClass_of_methodNamed B.named
  have hlocks := B.notSynchronized
  subst hsz
  have hK := hCx.1
  have hA : ∀ q : Nat, s.heap.size ≤ q → va_A [] s.heap.size q := fun q h => Or.inr h
  have hA0 : ∀ q : Nat, s.heap.size ≤ q → va_A [] s.heap.size q := fun q h => Or.inr h
  have hS : va_S (va_A [] s.heap.size) s.heap s.heap [] := va_S.rf
  have hl := lv_entry ([.ref g0]) (n := 1) (Nat.le_of_ble_eq_true rfl)
  rw [lg_entry_eq]
  generalize (lg_sl ([.ref g0]) ++ List.replicate (1 - (lg_sl ([.ref g0])).length) Slot.unset).toArray = ls at hl ⊢
  have hl : lv_has ls 1 [(0, .ref g0)] := hl
  have hP : va_P (dC, dI) vq_cl [(g0, .inr (3, [.int kTh, .int kTo, .ref gMo, .ref gSh, .int kCn, .ref gDy, .ref gMa, .ref gKi, .ref gLa, .int kPl, .ref gSl, .ref gTk, .ref gLy, .ref gGr, .ref gLS, .ref gMU, .ref gML, .ref gEU, .ref gEL, .int kPt, .ref gPx, .ref gPy]))] s.heap := hP
  refine lv_aload_n hx hb d_MO_thrown_0 rfl (lv_at hl 0 rfl) ?_
  refine va_get (D := (dC, dI)) (ci := 3) (v := .int kTh) (C := R_MO) (T := F_MO) (N := 22) hx hb hG i_MO hown hK hP 0 rfl rfl 0 (by decide) (hG _ vq_t477) (fun _ h9 => h9) rfl d_MO_thrown_1 ?_
  exact W.iret (v := kTh) hx hb hr (fun t ht hW => ⟨kTh, rfl, rfl, ht⟩) (fun q h => absurd h List.not_mem_nil) d_MO_thrown_4
set_option maxHeartbeats 4000000 in
set_option maxRecDepth 100000 in
/-- throwing -/
theorem m_throwing (l : Launch) (dC : Nat → ClassId) (dI : Nat → Nat → Nat) (cs : Nat → ClassId) (sz : Nat) (g0 : Nat) (gMo : Nat) (gSh : Nat) (gDy : Nat) (gMa : Nat) (gKi : Nat) (gLa : Nat) (gSl : Nat) (gTk : Nat) (gLy : Nat) (gGr : Nat) (gLS : Nat) (gMU : Nat) (gML : Nat) (gEU : Nat) (gEL : Nat) (gPx : Nat) (gPy : Nat) (kTh : Int32) (kTo : Int32) (kCn : Int32) (kPl : Int32) (kPt : Int32) (a1 : Int32) (a2 : Int32) (a3 : Int32) (a4 : Int32) : Met l y_MO_throwing w_MO_throwing ({ frames := 0, cells := 0, slots := 0, locals := 0 }) (vq_Pre (dC, dI) cs [(g0, .inr (3, [.int kTh, .int kTo, .ref gMo, .ref gSh, .int kCn, .ref gDy, .ref gMa, .ref gKi, .ref gLa, .int kPl, .ref gSl, .ref gTk, .ref gLy, .ref gGr, .ref gLS, .ref gMU, .ref gML, .ref gEU, .ref gEL, .int kPt, .ref gPx, .ref gPy]))] sz [.ref g0, .int a1, .int a2, .int a3, .int a4]) (va_Qi (fun (r : Int32) (_ : Unit) => r = thB (thF a1 a2 a3 a4)) (vq_B (dC, dI) cs (va_A [(g0, .inr (3, [.int kTh, .int kTo, .ref gMo, .ref gSh, .int kCn, .ref gDy, .ref gMa, .ref gKi, .ref gLa, .int kPl, .ref gSl, .ref gTk, .ref gLy, .ref gGr, .ref gLS, .ref gMU, .ref gML, .ref gEU, .ref gEL, .int kPt, .ref gPx, .ref gPy]))] sz) (fun _ => [(g0, .inr (3, [.int (thF a1 a2 a3 a4), .int kTo, .ref gMo, .ref gSh, .int kCn, .ref gDy, .ref gMa, .ref gKi, .ref gLa, .int kPl, .ref gSl, .ref gTk, .ref gLy, .ref gGr, .ref gLS, .ref gMU, .ref gML, .ref gEU, .ref gEL, .int kPt, .ref gPx, .ref gPy]))])) (va_A [(g0, .inr (3, [.int kTh, .int kTo, .ref gMo, .ref gSh, .int kCn, .ref gDy, .ref gMa, .ref gKi, .ref gLa, .int kPl, .ref gSl, .ref gTk, .ref gLy, .ref gGr, .ref gLS, .ref gMU, .ref gML, .ref gEU, .ref gEL, .int kPt, .ref gPx, .ref gPy]))] sz)) 0 0 (va_A [(g0, .inr (3, [.int kTh, .int kTo, .ref gMo, .ref gSh, .int kCn, .ref gDy, .ref gMa, .ref gKi, .ref gLa, .int kPl, .ref gSl, .ref gTk, .ref gLy, .ref gGr, .ref gLS, .ref gMU, .ref gML, .ref gEU, .ref gEL, .int kPt, .ref gPx, .ref gPy]))] sz) := by
  refine Met.ofW (cc := b_MO_throwing) (maxL := 5) (ret := (some .boolean)) (by decide) rfl ?_
  intro p e s m args below meth c s₁ B hml hv
  obtain ⟨rfl, hsz, hP, hD0, hCx⟩ := hv
  have hx := B.exec
  have hb := B.bytes
  have hr := B.returns
  have hG := vq_hG (atoms_spec (ws := w_MO_throwing) B.pre)
  have hown : s.vm.findClass R_MO = some m.cls := findClass_of_methodNamed B.named
  have hlocks := B.notSynchronized
  subst hsz
  have hK := hCx.1
  have hD := hD0.self (sz := s.heap.size)
  generalize hAe : va_A [(g0, .inr (3, [.int kTh, .int kTo, .ref gMo, .ref gSh, .int kCn, .ref gDy, .ref gMa, .ref gKi, .ref gLa, .int kPl, .ref gSl, .ref gTk, .ref gLy, .ref gGr, .ref gLS, .ref gMU, .ref gML, .ref gEU, .ref gEL, .int kPt, .ref gPx, .ref gPy]))] s.heap.size = A at hD hCx ⊢
  have hA : ∀ q : Nat, s.heap.size ≤ q → A q := fun q h => by rw [← hAe]; exact Or.inr h
  have hA0 : ∀ q : Nat, s.heap.size ≤ q → va_A [] s.heap.size q := fun q h => Or.inr h
  have hS : va_S (va_A [] s.heap.size) s.heap s.heap [] := va_S.rf
  have hl := lv_entry ([.ref g0, .int a1, .int a2, .int a3, .int a4]) (n := 5) (Nat.le_of_ble_eq_true rfl)
  rw [lg_entry_eq]
  generalize (lg_sl ([.ref g0, .int a1, .int a2, .int a3, .int a4]) ++ List.replicate (5 - (lg_sl ([.ref g0, .int a1, .int a2, .int a3, .int a4])).length) Slot.unset).toArray = ls at hl ⊢
  have hl : lv_has ls 5 [(0, .ref g0), (1, .int a1), (2, .int a2), (3, .int a3), (4, .int a4)] := hl
  have hP : va_P (dC, dI) vq_cl [(g0, .inr (3, [.int kTh, .int kTo, .ref gMo, .ref gSh, .int kCn, .ref gDy, .ref gMa, .ref gKi, .ref gLa, .int kPl, .ref gSl, .ref gTk, .ref gLy, .ref gGr, .ref gLS, .ref gMU, .ref gML, .ref gEU, .ref gEL, .int kPt, .ref gPx, .ref gPy]))] s.heap := hP
  refine lv_aload_n hx hb d_MO_throwing_0 rfl (lv_at hl 0 rfl) ?_
  refine vq_cut (g' := F0 m 35 ls [.int (thF a1 a2 a3 a4), .ref g0]) (fun kk => ?_) ?_
  · skip
    refine lv_iload_n hx hb d_MO_throwing_1 rfl (lv_at hl 1 rfl) ?_
    refine lv_if_eq (tgt := 9) hx hb d_MO_throwing_2 (by decide) (fun c_2 => ?_) (fun c_2 => ?_)
    · skip
      refine lv_iload_n hx hb d_MO_throwing_9 rfl (lv_at hl 2 rfl) ?_
      refine lv_if_eq (tgt := 17) hx hb d_MO_throwing_10 (by decide) (fun c_10 => ?_) (fun c_10 => ?_)
      · skip
        refine lv_iload_n hx hb d_MO_throwing_17 rfl (lv_at hl 3 rfl) ?_
        refine lv_if_eq (tgt := 25) hx hb d_MO_throwing_18 (by decide) (fun c_18 => ?_) (fun c_18 => ?_)
        · skip
          refine lv_iload hx hb d_MO_throwing_25 (lv_at hl 4 rfl) ?_
          refine lv_if_eq (tgt := 34) hx hb d_MO_throwing_27 (by decide) (fun c_27 => ?_) (fun c_27 => ?_)
          · skip
            refine lv_iconst (v := 0) hx hb d_MO_throwing_34 (by decide) ?_
            exact W.eq (congrArg (fun z => F0 m 35 ls (.int z :: [.ref g0])) (show (0 : Int32) = (thF a1 a2 a3 a4) from by simp only [thF, if_pos c_2, if_pos c_10, if_pos c_18, if_pos c_27])) kk
          · skip
            refine lv_iconst (v := 4) hx hb d_MO_throwing_30 (by decide) ?_
            refine lv_goto (tgt := 35) hx hb d_MO_throwing_31 (by decide) ?_
            exact W.eq (congrArg (fun z => F0 m 35 ls (.int z :: [.ref g0])) (show (4 : Int32) = (thF a1 a2 a3 a4) from by simp only [thF, if_pos c_2, if_pos c_10, if_pos c_18, if_neg c_27])) kk
        · skip
          refine lv_iconst (v := 3) hx hb d_MO_throwing_21 (by decide) ?_
          refine lv_goto (tgt := 35) hx hb d_MO_throwing_22 (by decide) ?_
          exact W.eq (congrArg (fun z => F0 m 35 ls (.int z :: [.ref g0])) (show (3 : Int32) = (thF a1 a2 a3 a4) from by simp only [thF, if_pos c_2, if_pos c_10, if_neg c_18])) kk
      · skip
        refine lv_iconst (v := 2) hx hb d_MO_throwing_13 (by decide) ?_
        refine lv_goto (tgt := 35) hx hb d_MO_throwing_14 (by decide) ?_
        exact W.eq (congrArg (fun z => F0 m 35 ls (.int z :: [.ref g0])) (show (2 : Int32) = (thF a1 a2 a3 a4) from by simp only [thF, if_pos c_2, if_neg c_10])) kk
    · skip
      refine lv_iconst (v := 1) hx hb d_MO_throwing_5 (by decide) ?_
      refine lv_goto (tgt := 35) hx hb d_MO_throwing_6 (by decide) ?_
      exact W.eq (congrArg (fun z => F0 m 35 ls (.int z :: [.ref g0])) (show (1 : Int32) = (thF a1 a2 a3 a4) from by simp only [thF, if_neg c_2])) kk
  have hS := vq_wk hS hA
  refine va_put (D := (dC, dI)) (ci := 3) (v := .int (thF a1 a2 a3 a4)) (ty := .int) (C := R_MO) (T := F_MO) (N := 22) hx hb hG i_MO t_MO t_MO_ok n_MO hown hK hP hD hS 0 rfl rfl 0 (by decide) (hG _ vq_t477) (fun _ h9 => h9) rfl (by decide +kernel) rfl rfl (Nat.le_of_ble_eq_true rfl) d_MO_throwing_35 (fun H locs hP hD hS => ?_)
  have hP : va_P (dC, dI) vq_cl [(g0, .inr (3, [.int (thF a1 a2 a3 a4), .int kTo, .ref gMo, .ref gSh, .int kCn, .ref gDy, .ref gMa, .ref gKi, .ref gLa, .int kPl, .ref gSl, .ref gTk, .ref gLy, .ref gGr, .ref gLS, .ref gMU, .ref gML, .ref gEU, .ref gEL, .int kPt, .ref gPx, .ref gPy]))] H := hP
  have hD : va_D A [(g0, .inr (3, [.int (thF a1 a2 a3 a4), .int kTo, .ref gMo, .ref gSh, .int kCn, .ref gDy, .ref gMa, .ref gKi, .ref gLa, .int kPl, .ref gSl, .ref gTk, .ref gLy, .ref gGr, .ref gLS, .ref gMU, .ref gML, .ref gEU, .ref gEL, .int kPt, .ref gPx, .ref gPy]))] := hD
  refine lv_aload_n hx hb d_MO_throwing_38 rfl (lv_at hl 0 rfl) ?_
  refine va_get (D := (dC, dI)) (ci := 3) (v := .int (thF a1 a2 a3 a4)) (C := R_MO) (T := F_MO) (N := 22) hx hb hG i_MO hown hK hP 0 rfl rfl 0 (by decide) (hG _ vq_t477) (fun _ h9 => h9) rfl d_MO_throwing_39 ?_
  refine lv_if_le (tgt := 49) hx hb d_MO_throwing_42 (by decide) (fun c_42 => ?_) (fun c_42 => ?_)
  · skip
    refine lv_iconst (v := 0) hx hb d_MO_throwing_49 (by decide) ?_
    refine W.widen (k := 0) (n := 0) (Nat.le_of_ble_eq_true rfl) (Nat.le_of_ble_eq_true rfl) ?_
    have hP9 : va_P (dC, dI) vq_cl [(g0, .inr (3, [.int (thF a1 a2 a3 a4), .int kTo, .ref gMo, .ref gSh, .int kCn, .ref gDy, .ref gMa, .ref gKi, .ref gLa, .int kPl, .ref gSl, .ref gTk, .ref gLy, .ref gGr, .ref gLS, .ref gMU, .ref gML, .ref gEU, .ref gEL, .int kPt, .ref gPx, .ref gPy]))] _ := hP.sub [0] rfl
    have hD9 : va_D A [(g0, .inr (3, [.int (thF a1 a2 a3 a4), .int kTo, .ref gMo, .ref gSh, .int kCn, .ref gDy, .ref gMa, .ref gKi, .ref gLa, .int kPl, .ref gSl, .ref gTk, .ref gLy, .ref gGr, .ref gLS, .ref gMU, .ref gML, .ref gEU, .ref gEL, .int kPt, .ref gPx, .ref gPy]))] := hD.sub [0] (by decide) rfl
    exact W.zret (v := 0) hx hb hr rfl (fun t ht hW => ⟨⟨0, (), rfl, by simp only [thB, if_pos c_42], ⟨by rw [ht]; exact hP9, hD9⟩⟩, hS.F ht⟩) hS.2.2 d_MO_throwing_50
  · skip
    refine lv_iconst (v := 1) hx hb d_MO_throwing_45 (by decide) ?_
    refine lv_goto (tgt := 50) hx hb d_MO_throwing_46 (by decide) ?_
    refine W.widen (k := 0) (n := 0) (Nat.le_of_ble_eq_true rfl) (Nat.le_of_ble_eq_true rfl) ?_
    have hP9 : va_P (dC, dI) vq_cl [(g0, .inr (3, [.int (thF a1 a2 a3 a4), .int kTo, .ref gMo, .ref gSh, .int kCn, .ref gDy, .ref gMa, .ref gKi, .ref gLa, .int kPl, .ref gSl, .ref gTk, .ref gLy, .ref gGr, .ref gLS, .ref gMU, .ref gML, .ref gEU, .ref gEL, .int kPt, .ref gPx, .ref gPy]))] _ := hP.sub [0] rfl
    have hD9 : va_D A [(g0, .inr (3, [.int (thF a1 a2 a3 a4), .int kTo, .ref gMo, .ref gSh, .int kCn, .ref gDy, .ref gMa, .ref gKi, .ref gLa, .int kPl, .ref gSl, .ref gTk, .ref gLy, .ref gGr, .ref gLS, .ref gMU, .ref gML, .ref gEU, .ref gEL, .int kPt, .ref gPx, .ref gPy]))] := hD.sub [0] (by decide) rfl
    exact W.zret (v := 1) hx hb hr rfl (fun t ht hW => ⟨⟨1, (), rfl, by simp only [thB, if_neg c_42], ⟨by rw [ht]; exact hP9, hD9⟩⟩, hS.F ht⟩) hS.2.2 d_MO_throwing_50
set_option maxHeartbeats 4000000 in
set_option maxRecDepth 100000 in
/-- the loop of partOf -/
theorem lp_part {p : Program} {l : Launch} {e : Env} {R : Room} {s : State} {m : MethodId} {args : Array Value} {below : List Frame} {meth : Method} {c : Code} {cells slots : Nat} {Q : State → Prop} {H : Heap} {locs : List Loc} {u v sg : Int64} {q : Int32} (hx : p.tables.exec = Jvm.exec) (hb : c.code = b_MO_partOf) :
    ∀ (n x y : Nat) (ls : Array Slot), y ≤ n → x < 2 ^ 63 → y < 2 ^ 63 → lv_has ls 13 [(0, .long u), (2, .long v), (4, .int q), (9, .long sg), (5, .long (lN x)), (7, .long (lN y))] → (∀ ls : Array Slot, lv_has ls 13 [(0, .long u), (2, .long v), (4, .int q), (9, .long sg), (5, .long (lN (Nat.gcd x y)))] → W p l e R s m args below meth c H locs cells slots Q (F0 m 68 ls [])) → W p l e R s m args below meth c H locs cells slots Q (F0 m 43 ls []) := by
  intro n
  induction n with
  | zero =>
    intro x y ls hn hx1 hy1 hl kk
    have h0 : (lN y ≤ 0) ↔ y ≤ 0 := pk_lLE hy1 (by decide)
    refine lv_lload hx hb d_MO_partOf_43 (lv_at hl 5 rfl) ?_
    refine lv_lconst (v := 0) hx hb d_MO_partOf_45 (by decide) ?_
    refine W.lcmp hx hb d_MO_partOf_46 ?_
    refine lv_if_le (tgt := 68) hx hb d_MO_partOf_47 (by decide) (fun c_47 => ?_) (fun c_47 => ?_)
    · skip
      have c_47 := (lg_cmp_le (lN y) 0).mp c_47
      have hy0 : y = 0 := by omega
      exact kk ls (by rw [hy0, Nat.gcd_zero_right]; exact lv_sub hl [0, 1, 2, 3, 4] rfl)
    · skip
      have c_47 := (not_congr (lg_cmp_le (lN y) 0)).mp c_47
      exact absurd c_47 (not_not_intro (h0.mpr hn))
  | succ n ih =>
    intro x y ls hn hx1 hy1 hl kk
    have h0 : (lN y ≤ 0) ↔ y ≤ 0 := pk_lLE hy1 (by decide)
    refine lv_lload hx hb d_MO_partOf_43 (lv_at hl 5 rfl) ?_
    refine lv_lconst (v := 0) hx hb d_MO_partOf_45 (by decide) ?_
    refine W.lcmp hx hb d_MO_partOf_46 ?_
    refine lv_if_le (tgt := 68) hx hb d_MO_partOf_47 (by decide) (fun c_47 => ?_) (fun c_47 => ?_)
    · skip
      have c_47 := (lg_cmp_le (lN y) 0).mp c_47
      have hy0 : y = 0 := Nat.le_zero.mp (h0.mp c_47)
      exact kk ls (by rw [hy0, Nat.gcd_zero_right]; exact lv_sub hl [0, 1, 2, 3, 4] rfl)
    · skip
      have c_47 := (not_congr (lg_cmp_le (lN y) 0)).mp c_47
      have hyn : ¬ y = 0 := fun z => c_47 (h0.mpr (by omega))
      refine lv_lload hx hb d_MO_partOf_50 (lv_at hl 4 rfl) ?_
      refine lv_lload hx hb d_MO_partOf_52 (lv_at hl 5 rfl) ?_
      refine lv_lrem hx hb d_MO_partOf_54 (fun z => hyn ((pk_lEQ hy1 (by decide)).mp z)) ?_
      refine lv_lstore (lv' := [(11, .long ((lN x) - (lN x) / (lN y) * (lN y))), (0, .long u), (2, .long v), (4, .int q), (9, .long sg), (5, .long (lN x)), (7, .long (lN y))]) hx hb d_MO_partOf_55 hl (by decide) rfl (fun ls hl => ?_)
      refine lv_lload hx hb d_MO_partOf_57 (lv_at hl 6 rfl) ?_
      refine lv_lstore (lv' := [(5, .long (lN y)), (11, .long ((lN x) - (lN x) / (lN y) * (lN y))), (0, .long u), (2, .long v), (4, .int q), (9, .long sg), (7, .long (lN y))]) hx hb d_MO_partOf_59 hl (by decide) rfl (fun ls hl => ?_)
      refine lv_lload hx hb d_MO_partOf_61 (lv_at hl 1 rfl) ?_
      refine lv_lstore (lv' := [(7, .long ((lN x) - (lN x) / (lN y) * (lN y))), (5, .long (lN y)), (11, .long ((lN x) - (lN x) / (lN y) * (lN y))), (0, .long u), (2, .long v), (4, .int q), (9, .long sg)]) hx hb d_MO_partOf_63 hl (by decide) rfl (fun ls hl => ?_)
      refine lv_goto (tgt := 43) hx hb d_MO_partOf_65 (by decide) ?_
      rw [pk_lRem hx1 (by omega) hy1] at hl
      exact ih y (x % y) ls (by have := Nat.mod_lt x (show y > 0 by omega); omega) hy1 (Nat.lt_of_lt_of_le (Nat.mod_lt _ (by omega)) (Nat.le_of_lt hy1)) (lv_sub hl [3, 4, 5, 6, 1, 0] rfl) (fun ls hl => kk ls (by rw [gcd_step x y]; exact hl))
set_option maxHeartbeats 4000000 in
set_option maxRecDepth 100000 in
/-- partOf -/
theorem m_partOf (l : Launch) (dC : Nat → ClassId) (dI : Nat → Nat → Nat) (cs : Nat → ClassId) (sz : Nat) (u : Int64) (v : Int64) (q : Int32) (x : Nat) (y : Nat) (ha : (if 0 ≤ v then v else (-v)) = lN x) (hb9 : (if 0 ≤ u then u else (-u)) = lN y) (hx1 : x < 2 ^ 63) (hy1 : y < 2 ^ 63) (hz : ¬ lN (Nat.gcd x y) = 0) : Met l y_MO_partOf w_MO_partOf ({ frames := 0, cells := 0, slots := 0, locals := 0 }) (vq_PreR (dC, dI) cs [] sz [.long u, .long v, .int q]) (vp_Sl (fun r => r = poF u v q x y)) 0 0 (fun _ => False) := by
  refine Met.ofW (cc := b_MO_partOf) (maxL := 13) (ret := (some .long)) (by decide) rfl ?_
  intro p e s m args below meth c s₁ B hml hv
  obtain ⟨rfl, hsz, hP, hCx⟩ := hv
  have hx := B.exec
  have hb := B.bytes
  have hr := B.returns
  have hG := vq_hG (atoms_spec (ws := w_MO_partOf) B.pre)
  have hown : s.vm.findClass R_MO = some m.cls := findClass_of_methodNamed B.named
  have hlocks := B.notSynchronized
  subst hsz
  have hK := hCx.1
  have hA : ∀ q : Nat, s.heap.size ≤ q → va_A [] s.heap.size q := fun q h => Or.inr h
  have hA0 : ∀ q : Nat, s.heap.size ≤ q → va_A [] s.heap.size q := fun q h => Or.inr h
  have hS : va_S (va_A [] s.heap.size) s.heap s.heap [] := va_S.rf
  have hl := lv_entry ([.long u, .long v, .int q]) (n := 13) (Nat.le_of_ble_eq_true rfl)
  rw [lg_entry_eq]
  generalize (lg_sl ([.long u, .long v, .int q]) ++ List.replicate (13 - (lg_sl ([.long u, .long v, .int q])).length) Slot.unset).toArray = ls at hl ⊢
  have hl : lv_has ls 13 [(0, .long u), (2, .long v), (4, .int q)] := hl
  have hP : va_P (dC, dI) vq_cl [] s.heap := hP
  refine vq_cut (g' := F0 m 12 ls [.long (if 0 ≤ v then v else (-v))]) (fun kk => ?_) ?_
  · skip
    refine lv_lload_n hx hb d_MO_partOf_0 rfl (lv_at hl 1 rfl) ?_
    refine lv_lconst (v := 0) hx hb d_MO_partOf_1 (by decide) ?_
    refine W.lcmp hx hb d_MO_partOf_2 ?_
    refine lv_if_ge (tgt := 11) hx hb d_MO_partOf_3 (by decide) (fun c_3 => ?_) (fun c_3 => ?_)
    · skip
      have c_3 := (lg_cmp_ge v 0).mp c_3
      refine lv_lload_n hx hb d_MO_partOf_11 rfl (lv_at hl 1 rfl) ?_
      exact W.eq (congrArg (fun z => F0 m 12 ls (.long z :: [])) (show (v : Int64) = (if 0 ≤ v then v else (-v)) from by simp only [if_pos c_3])) kk
    · skip
      have c_3 := (not_congr (lg_cmp_ge v 0)).mp c_3
      refine lv_lload_n hx hb d_MO_partOf_6 rfl (lv_at hl 1 rfl) ?_
      refine lv_lneg hx hb d_MO_partOf_7 ?_
      refine lv_goto (tgt := 12) hx hb d_MO_partOf_8 (by decide) ?_
      exact W.eq (congrArg (fun z => F0 m 12 ls (.long z :: [])) (show ((-v) : Int64) = (if 0 ≤ v then v else (-v)) from by simp only [if_neg c_3])) kk
  refine lv_lstore (lv' := [(5, .long (if 0 ≤ v then v else (-v))), (0, .long u), (2, .long v), (4, .int q)]) hx hb d_MO_partOf_12 hl (by decide) rfl (fun ls hl => ?_)
  refine vq_cut (g' := F0 m 26 ls [.long (if 0 ≤ u then u else (-u))]) (fun kk => ?_) ?_
  · skip
    refine lv_lload_n hx hb d_MO_partOf_14 rfl (lv_at hl 1 rfl) ?_
    refine lv_lconst (v := 0) hx hb d_MO_partOf_15 (by decide) ?_
    refine W.lcmp hx hb d_MO_partOf_16 ?_
    refine lv_if_ge (tgt := 25) hx hb d_MO_partOf_17 (by decide) (fun c_17 => ?_) (fun c_17 => ?_)
    · skip
      have c_17 := (lg_cmp_ge u 0).mp c_17
      refine lv_lload_n hx hb d_MO_partOf_25 rfl (lv_at hl 1 rfl) ?_
      exact W.eq (congrArg (fun z => F0 m 26 ls (.long z :: [])) (show (u : Int64) = (if 0 ≤ u then u else (-u)) from by simp only [if_pos c_17])) kk
    · skip
      have c_17 := (not_congr (lg_cmp_ge u 0)).mp c_17
      refine lv_lload_n hx hb d_MO_partOf_20 rfl (lv_at hl 1 rfl) ?_
      refine lv_lneg hx hb d_MO_partOf_21 ?_
      refine lv_goto (tgt := 26) hx hb d_MO_partOf_22 (by decide) ?_
      exact W.eq (congrArg (fun z => F0 m 26 ls (.long z :: [])) (show ((-u) : Int64) = (if 0 ≤ u then u else (-u)) from by simp only [if_neg c_17])) kk
  refine lv_lstore (lv' := [(7, .long (if 0 ≤ u then u else (-u))), (5, .long (if 0 ≤ v then v else (-v))), (0, .long u), (2, .long v), (4, .int q)]) hx hb d_MO_partOf_26 hl (by decide) rfl (fun ls hl => ?_)
  refine vq_cut (g' := F0 m 41 ls [.long (if 0 ≤ v then 1 else (-1))]) (fun kk => ?_) ?_
  · skip
    refine lv_lload_n hx hb d_MO_partOf_28 rfl (lv_at hl 3 rfl) ?_
    refine lv_lconst (v := 0) hx hb d_MO_partOf_29 (by decide) ?_
    refine W.lcmp hx hb d_MO_partOf_30 ?_
    refine lv_if_ge (tgt := 40) hx hb d_MO_partOf_31 (by decide) (fun c_31 => ?_) (fun c_31 => ?_)
    · skip
      have c_31 := (lg_cmp_ge v 0).mp c_31
      refine lv_lconst (v := 1) hx hb d_MO_partOf_40 (by decide) ?_
      exact W.eq (congrArg (fun z => F0 m 41 ls (.long z :: [])) (show (1 : Int64) = (if 0 ≤ v then 1 else (-1)) from by simp only [if_pos c_31])) kk
    · skip
      have c_31 := (not_congr (lg_cmp_ge v 0)).mp c_31
      refine lv_ldc2 (v := (-1)) hx hb hown (hG _ vq_t625) d_MO_partOf_34 ?_
      refine lv_goto (tgt := 41) hx hb d_MO_partOf_37 (by decide) ?_
      exact W.eq (congrArg (fun z => F0 m 41 ls (.long z :: [])) (show ((-1) : Int64) = (if 0 ≤ v then 1 else (-1)) from by simp only [if_neg c_31])) kk
  refine lv_lstore (lv' := [(9, .long (if 0 ≤ v then 1 else (-1))), (7, .long (if 0 ≤ u then u else (-u))), (5, .long (if 0 ≤ v then v else (-v))), (0, .long u), (2, .long v), (4, .int q)]) hx hb d_MO_partOf_41 hl (by decide) rfl (fun ls hl => ?_)
  have hl : lv_has ls 13 [(0, .long u), (2, .long v), (4, .int q), (9, .long (if 0 ≤ v then 1 else (-1))), (5, .long (if 0 ≤ v then v else (-v))), (7, .long (if 0 ≤ u then u else (-u)))] := lv_sub hl [3, 4, 5, 0, 2, 1] rfl
  rw [ha, hb9] at hl
  refine lp_part hx hb y x y ls (Nat.le_refl _) hx1 hy1 hl (fun ls hl => ?_)
  refine lv_lload hx hb d_MO_partOf_68 (lv_at hl 3 rfl) ?_
  refine vq_cut (g' := F0 m 80 ls [.long (if q = 0 then u else v), .long (if 0 ≤ v then 1 else (-1))]) (fun kk => ?_) ?_
  · skip
    refine lv_iload hx hb d_MO_partOf_70 (lv_at hl 2 rfl) ?_
    refine lv_if_ne (tgt := 79) hx hb d_MO_partOf_72 (by decide) (fun c_72 => ?_) (fun c_72 => ?_)
    · skip
      refine lv_lload_n hx hb d_MO_partOf_79 rfl (lv_at hl 1 rfl) ?_
      exact W.eq (congrArg (fun z => F0 m 80 ls (.long z :: [.long (if 0 ≤ v then 1 else (-1))])) (show (v : Int64) = (if q = 0 then u else v) from by simp only [if_neg c_72])) kk
    · skip
      refine lv_lload_n hx hb d_MO_partOf_75 rfl (lv_at hl 0 rfl) ?_
      refine lv_goto (tgt := 80) hx hb d_MO_partOf_76 (by decide) ?_
      exact W.eq (congrArg (fun z => F0 m 80 ls (.long z :: [.long (if 0 ≤ v then 1 else (-1))])) (show (u : Int64) = (if q = 0 then u else v) from by simp only [if_pos c_72])) kk
  refine lv_lmul hx hb d_MO_partOf_80 ?_
  refine lv_lload hx hb d_MO_partOf_81 (lv_at hl 4 rfl) ?_
  refine lv_ldiv hx hb d_MO_partOf_83 hz ?_
  exact W.lret (v := (((if 0 ≤ v then 1 else (-1)) * (if q = 0 then u else v)) / (lN (Nat.gcd x y)))) hx hb hr (fun t ht hW => ⟨(((if 0 ≤ v then 1 else (-1)) * (if q = 0 then u else v)) / (lN (Nat.gcd x y))), rfl, by rfl, ht⟩) (fun q h => absurd h List.not_mem_nil) d_MO_partOf_84
set_option maxHeartbeats 4000000 in
set_option maxRecDepth 100000 in
/-- the loop of stockOf of the reference -/
theorem lp_mst {p : Program} {l : Launch} {e : Env} {R : Room} {s : State} {m : MethodId} {args : Array Value} {below : List Frame} {meth : Method} {c : Code} {cells slots : Nat} {Q : State → Prop} {H : Heap} {locs : List Loc} {dC : Nat → ClassId} {dI : Nat → Nat → Nat} {cs : Nat → ClassId} {g0 : Nat} {gMo : Nat} {gSh : Nat} {gDy : Nat} {gMa : Nat} {gKi : Nat} {gLa : Nat} {gSl : Nat} {gTk : Nat} {gLy : Nat} {gGr : Nat} {gLS : Nat} {gMU : Nat} {gML : Nat} {gEU : Nat} {gEL : Nat} {gPx : Nat} {gPy : Nat} {kTh : Int32} {kTo : Int32} {kCn : Int32} {kPl : Int32} {kPt : Int32} {mLa : Nat → Int32} {mDy : Nat → Int32} {mMa : Nat → Int32} {mKi : Nat → Int32} {x : Int32} (hx : p.tables.exec = Jvm.exec) (hb : c.code = b_MO_stockOf) (hml : c.maxLocals = 4) (hG : ∀ w ∈ vq_G, w.before args s = true) (hown : s.vm.findClass R_MO = some m.cls) (hK : va_K (dC, dI) vq_cl (vq_tys cs) s) (hP : va_P (dC, dI) vq_cl [(g0, .inr (3, [.int kTh, .int kTo, .ref gMo, .ref gSh, .int kCn, .ref gDy, .ref gMa, .ref gKi, .ref gLa, .int kPl, .ref gSl, .ref gTk, .ref gLy, .ref gGr, .ref gLS, .ref gMU, .ref gML, .ref gEU, .ref gEL, .int kPt, .ref gPx, .ref gPy])), (gLa, .inl ((cs 0), 8, .inl mLa)), (gDy, .inl ((cs 0), 40, .inl mDy)), (gMa, .inl ((cs 0), 40, .inl mMa)), (gKi, .inl ((cs 0), 40, .inl mKi))] H) (hz : kCn ≤ 40) :
    ∀ (n i : Nat) (acc : Int32) (ls : Array Slot), i + n = 40 → lv_has ls 4 [(0, .ref g0), (1, .int x), (2, .int acc), (3, .int (nI i))] → (∀ ls : Array Slot, lv_has ls 4 [(0, .ref g0), (1, .int x), (2, .int (mstL mDy mMa mKi kCn kTo x n i acc))] → W p l e R s m args below meth c H locs cells slots Q (F0 m 60 ls [])) → W p l e R s m args below meth c H locs cells slots Q (F0 m 10 ls []) := by
  intro n
  induction n with
  | zero =>
    intro i acc ls hi hl kk
    refine lv_iload_n hx hb d_MO_stockOf_10 rfl (lv_at hl 3 rfl) ?_
    refine lv_aload_n hx hb d_MO_stockOf_11 rfl (lv_at hl 0 rfl) ?_
    refine va_get (D := (dC, dI)) (ci := 3) (v := .int kCn) (C := R_MO) (T := F_MO) (N := 22) hx hb hG i_MO hown hK hP 0 rfl rfl 4 (by decide) (hG _ vq_t481) (fun _ h9 => h9) rfl d_MO_stockOf_12 ?_
    refine lv_icmp_ge (tgt := 60) hx hb d_MO_stockOf_15 (by decide) (fun c_15 => ?_) (fun c_15 => ?_)
    · skip
      exact kk ls (lv_sub hl [0, 1, 2] rfl)
    · skip
      exact absurd c_15 (not_not_intro (by rw [show i = 40 by omega]; exact hz))
  | succ n ih =>
    intro i acc ls hi hl kk
    have hin : vp_in (nI i) 40 := vp_in_nI (by omega) (by decide)
    refine lv_iload_n hx hb d_MO_stockOf_10 rfl (lv_at hl 3 rfl) ?_
    refine lv_aload_n hx hb d_MO_stockOf_11 rfl (lv_at hl 0 rfl) ?_
    refine va_get (D := (dC, dI)) (ci := 3) (v := .int kCn) (C := R_MO) (T := F_MO) (N := 22) hx hb hG i_MO hown hK hP 0 rfl rfl 4 (by decide) (hG _ vq_t481) (fun _ h9 => h9) rfl d_MO_stockOf_12 ?_
    refine lv_icmp_ge (tgt := 60) hx hb d_MO_stockOf_15 (by decide) (fun c_15 => ?_) (fun c_15 => ?_)
    · skip
      exact kk ls (by simp only [mstL, if_pos c_15]; exact lv_sub hl [0, 1, 2] rfl)
    · skip
      refine lv_iload_n hx hb d_MO_stockOf_18 rfl (lv_at hl 2 rfl) ?_
      refine lv_aload_n hx hb d_MO_stockOf_19 rfl (lv_at hl 0 rfl) ?_
      refine va_get (D := (dC, dI)) (ci := 3) (v := .ref gMa) (C := R_MO) (T := F_MO) (N := 22) hx hb hG i_MO hown hK hP 0 rfl rfl 6 (by decide) (hG _ vq_t483) (fun _ h9 => h9) rfl d_MO_stockOf_20 ?_
      refine lv_iload_n hx hb d_MO_stockOf_23 rfl (lv_at hl 3 rfl) ?_
      refine va_iald (D := (dC, dI)) hx hb hK hP 3 0 rfl rfl hin d_MO_stockOf_24 ?_
      refine lv_iload_n hx hb d_MO_stockOf_25 rfl (lv_at hl 1 rfl) ?_
      refine vq_cut (g' := F0 m 52 ls [.int (mstV mDy mMa mKi kTo x i), .int acc]) (fun kk => ?_) ?_
      · skip
        refine lv_icmp_ne (tgt := 51) hx hb d_MO_stockOf_26 (by decide) (fun c_26 => ?_) (fun c_26 => ?_)
        · skip
          refine lv_iconst (v := 0) hx hb d_MO_stockOf_51 (by decide) ?_
          exact W.eq (congrArg (fun z => F0 m 52 ls (.int z :: [.int acc])) (show (0 : Int32) = (mstV mDy mMa mKi kTo x i) from by simp only [mstV, if_neg c_26])) kk
        · skip
          refine lv_aload_n hx hb d_MO_stockOf_29 rfl (lv_at hl 0 rfl) ?_
          refine va_get (D := (dC, dI)) (ci := 3) (v := .ref gDy) (C := R_MO) (T := F_MO) (N := 22) hx hb hG i_MO hown hK hP 0 rfl rfl 5 (by decide) (hG _ vq_t482) (fun _ h9 => h9) rfl d_MO_stockOf_30 ?_
          refine lv_iload_n hx hb d_MO_stockOf_33 rfl (lv_at hl 3 rfl) ?_
          refine va_iald (D := (dC, dI)) hx hb hK hP 2 0 rfl rfl hin d_MO_stockOf_34 ?_
          refine lv_aload_n hx hb d_MO_stockOf_35 rfl (lv_at hl 0 rfl) ?_
          refine va_get (D := (dC, dI)) (ci := 3) (v := .int kTo) (C := R_MO) (T := F_MO) (N := 22) hx hb hG i_MO hown hK hP 0 rfl rfl 1 (by decide) (hG _ vq_t478) (fun _ h9 => h9) rfl d_MO_stockOf_36 ?_
          refine lv_icmp_gt (tgt := 51) hx hb d_MO_stockOf_39 (by decide) (fun c_39 => ?_) (fun c_39 => ?_)
          · skip
            refine lv_iconst (v := 0) hx hb d_MO_stockOf_51 (by decide) ?_
            exact W.eq (congrArg (fun z => F0 m 52 ls (.int z :: [.int acc])) (show (0 : Int32) = (mstV mDy mMa mKi kTo x i) from by simp only [mstV, if_pos c_26, if_pos c_39])) kk
          · skip
            refine lv_aload_n hx hb d_MO_stockOf_42 rfl (lv_at hl 0 rfl) ?_
            refine va_get (D := (dC, dI)) (ci := 3) (v := .ref gKi) (C := R_MO) (T := F_MO) (N := 22) hx hb hG i_MO hown hK hP 0 rfl rfl 7 (by decide) (hG _ vq_t484) (fun _ h9 => h9) rfl d_MO_stockOf_43 ?_
            refine lv_iload_n hx hb d_MO_stockOf_46 rfl (lv_at hl 3 rfl) ?_
            refine va_iald (D := (dC, dI)) hx hb hK hP 4 0 rfl rfl hin d_MO_stockOf_47 ?_
            refine lv_goto (tgt := 52) hx hb d_MO_stockOf_48 (by decide) ?_
            exact W.eq (congrArg (fun z => F0 m 52 ls (.int z :: [.int acc])) (show ((mKi (nI i).toNatClampNeg) : Int32) = (mstV mDy mMa mKi kTo x i) from by simp only [mstV, if_pos c_26, if_neg c_39])) kk
      refine lv_iadd hx hb d_MO_stockOf_52 ?_
      refine lv_istore_n (lv' := [(2, .int (acc + (mstV mDy mMa mKi kTo x i))), (0, .ref g0), (1, .int x), (3, .int (nI i))]) hx hb d_MO_stockOf_53 rfl hl (by decide) rfl (fun ls hl => ?_)
      refine lv_iinc (v := (nI (i + 1))) (lv' := [(3, .int (nI (i + 1))), (2, .int (acc + (mstV mDy mMa mKi kTo x i))), (0, .ref g0), (1, .int x)]) hx hb d_MO_stockOf_54 hl (k := 3) rfl (nI_1 i) (by decide) rfl (fun ls hl => ?_)
      refine lv_goto (tgt := 10) hx hb d_MO_stockOf_57 (by decide) ?_
      exact ih (i + 1) (acc + (mstV mDy mMa mKi kTo x i)) ls (by omega) (lv_sub hl [2, 3, 1, 0] rfl) (fun ls hl => kk ls (by simp only [mstL, if_neg c_15]; exact hl))
set_option maxHeartbeats 4000000 in
set_option maxRecDepth 100000 in
/-- stockOf of the reference -/
theorem m_stockOf (l : Launch) (dC : Nat → ClassId) (dI : Nat → Nat → Nat) (cs : Nat → ClassId) (sz : Nat) (g0 : Nat) (gMo : Nat) (gSh : Nat) (gDy : Nat) (gMa : Nat) (gKi : Nat) (gLa : Nat) (gSl : Nat) (gTk : Nat) (gLy : Nat) (gGr : Nat) (gLS : Nat) (gMU : Nat) (gML : Nat) (gEU : Nat) (gEL : Nat) (gPx : Nat) (gPy : Nat) (kTh : Int32) (kTo : Int32) (kCn : Int32) (kPl : Int32) (kPt : Int32) (mLa : Nat → Int32) (mDy : Nat → Int32) (mMa : Nat → Int32) (mKi : Nat → Int32) (x : Int32) (hi : okM x) (hz : kCn ≤ 40) : Met l y_MO_stockOf w_MO_stockOf ({ frames := 0, cells := 0, slots := 0, locals := 0 }) (vq_PreR (dC, dI) cs [(g0, .inr (3, [.int kTh, .int kTo, .ref gMo, .ref gSh, .int kCn, .ref gDy, .ref gMa, .ref gKi, .ref gLa, .int kPl, .ref gSl, .ref gTk, .ref gLy, .ref gGr, .ref gLS, .ref gMU, .ref gML, .ref gEU, .ref gEL, .int kPt, .ref gPx, .ref gPy])), (gLa, .inl ((cs 0), 8, .inl mLa)), (gDy, .inl ((cs 0), 40, .inl mDy)), (gMa, .inl ((cs 0), 40, .inl mMa)), (gKi, .inl ((cs 0), 40, .inl mKi))] sz [.ref g0, .int x]) (vp_Si (fun r => r = mstF mLa mDy mMa mKi kCn kTo x)) 0 0 (fun _ => False) := by
  refine Met.ofW (cc := b_MO_stockOf) (maxL := 4) (ret := (some .int)) (by decide) rfl ?_
  intro p e s m args below meth c s₁ B hml hv
  obtain ⟨rfl, hsz, hP, hCx⟩ := hv
  have hx := B.exec
  have hb := B.bytes
  have hr := B.returns
  have hG := vq_hG (atoms_spec (ws := w_MO_stockOf) B.pre)
  have hown : s.vm.findClass R_MO = some m.cls := findClass_of_methodNamed B.named
  have hlocks := B.notSynchronized
  subst hsz
  have hK := hCx.1
  have hA : ∀ q : Nat, s.heap.size ≤ q → va_A [] s.heap.size q := fun q h => Or.inr h
  have hA0 : ∀ q : Nat, s.heap.size ≤ q → va_A [] s.heap.size q := fun q h => Or.inr h
  have hS : va_S (va_A [] s.heap.size) s.heap s.heap [] := va_S.rf
  have hl := lv_entry ([.ref g0, .int x]) (n := 4) (Nat.le_of_ble_eq_true rfl)
  rw [lg_entry_eq]
  generalize (lg_sl ([.ref g0, .int x]) ++ List.replicate (4 - (lg_sl ([.ref g0, .int x])).length) Slot.unset).toArray = ls at hl ⊢
  have hl : lv_has ls 4 [(0, .ref g0), (1, .int x)] := hl
  have hP : va_P (dC, dI) vq_cl [(g0, .inr (3, [.int kTh, .int kTo, .ref gMo, .ref gSh, .int kCn, .ref gDy, .ref gMa, .ref gKi, .ref gLa, .int kPl, .ref gSl, .ref gTk, .ref gLy, .ref gGr, .ref gLS, .ref gMU, .ref gML, .ref gEU, .ref gEL, .int kPt, .ref gPx, .ref gPy])), (gLa, .inl ((cs 0), 8, .inl mLa)), (gDy, .inl ((cs 0), 40, .inl mDy)), (gMa, .inl ((cs 0), 40, .inl mMa)), (gKi, .inl ((cs 0), 40, .inl mKi))] s.heap := hP
  refine lv_aload_n hx hb d_MO_stockOf_0 rfl (lv_at hl 0 rfl) ?_
  refine va_get (D := (dC, dI)) (ci := 3) (v := .ref gLa) (C := R_MO) (T := F_MO) (N := 22) hx hb hG i_MO hown hK hP 0 rfl rfl 8 (by decide) (hG _ vq_t485) (fun _ h9 => h9) rfl d_MO_stockOf_1 ?_
  refine lv_iload_n hx hb d_MO_stockOf_4 rfl (lv_at hl 1 rfl) ?_
  refine va_iald (D := (dC, dI)) hx hb hK hP 1 0 rfl rfl (vq_in 8 rfl hi.1 hi.2) d_MO_stockOf_5 ?_
  refine lv_ineg hx hb d_MO_stockOf_6 ?_
  refine lv_istore_n (lv' := [(2, .int (-(mLa x.toNatClampNeg))), (0, .ref g0), (1, .int x)]) hx hb d_MO_stockOf_7 rfl hl (by decide) rfl (fun ls hl => ?_)
  refine lv_iconst (v := 0) hx hb d_MO_stockOf_8 (by decide) ?_
  refine lv_istore_n (lv' := [(3, .int 0), (2, .int (-(mLa x.toNatClampNeg))), (0, .ref g0), (1, .int x)]) hx hb d_MO_stockOf_9 rfl hl (by decide) rfl (fun ls hl => ?_)
  refine lp_mst hx hb hml hG hown hK hP hz 40 0 _ ls rfl (lv_sub hl [2, 3, 1, 0] rfl) (fun ls hl => ?_)
  refine lv_iload_n hx hb d_MO_stockOf_60 rfl (lv_at hl 2 rfl) ?_
  exact W.iret (v := (mstF mLa mDy mMa mKi kCn kTo x)) hx hb hr (fun t ht hW => ⟨(mstF mLa mDy mMa mKi kCn kTo x), rfl, by rfl, ht⟩) (fun q h => absurd h List.not_mem_nil) d_MO_stockOf_61
set_option maxHeartbeats 4000000 in
set_option maxRecDepth 100000 in
/-- the loop of gramsOf -/
theorem lp_mgo {p : Program} {l : Launch} {e : Env} {R : Room} {s : State} {m : MethodId} {args : Array Value} {below : List Frame} {meth : Method} {c : Code} {cells slots : Nat} {Q : State → Prop} {H : Heap} {locs : List Loc} {dC : Nat → ClassId} {dI : Nat → Nat → Nat} {cs : Nat → ClassId} {g0 : Nat} {gMo : Nat} {gSh : Nat} {gDy : Nat} {gMa : Nat} {gKi : Nat} {gLa : Nat} {gSl : Nat} {gTk : Nat} {gLy : Nat} {gGr : Nat} {gLS : Nat} {gMU : Nat} {gML : Nat} {gEU : Nat} {gEL : Nat} {gPx : Nat} {gPy : Nat} {kTh : Int32} {kTo : Int32} {kCn : Int32} {kPl : Int32} {kPt : Int32} {mLy : Nat → Int32} {mGr : Nat → Int32} {x : Int32} (hx : p.tables.exec = Jvm.exec) (hb : c.code = b_MO_gramsOf) (hml : c.maxLocals = 4) (hG : ∀ w ∈ vq_G, w.before args s = true) (hown : s.vm.findClass R_MO = some m.cls) (hK : va_K (dC, dI) vq_cl (vq_tys cs) s) (hP : va_P (dC, dI) vq_cl [(g0, .inr (3, [.int kTh, .int kTo, .ref gMo, .ref gSh, .int kCn, .ref gDy, .ref gMa, .ref gKi, .ref gLa, .int kPl, .ref gSl, .ref gTk, .ref gLy, .ref gGr, .ref gLS, .ref gMU, .ref gML, .ref gEU, .ref gEL, .int kPt, .ref gPx, .ref gPy])), (gLy, .inl ((cs 0), 4, .inl mLy)), (gGr, .inl ((cs 0), 80, .inl mGr))] H) (hp : okE x) (hz : mLy x.toNatClampNeg ≤ 20) :
    ∀ (n i : Nat) (acc : Int32) (ls : Array Slot), i + n = 20 → lv_has ls 4 [(0, .ref g0), (1, .int x), (2, .int acc), (3, .int (nI i))] → (∀ ls : Array Slot, lv_has ls 4 [(0, .ref g0), (1, .int x), (2, .int (mgoL mLy mGr x n i acc))] → W p l e R s m args below meth c H locs cells slots Q (F0 m 34 ls [])) → W p l e R s m args below meth c H locs cells slots Q (F0 m 4 ls []) := by
  intro n
  induction n with
  | zero =>
    intro i acc ls hi hl kk
    refine lv_iload_n hx hb d_MO_gramsOf_4 rfl (lv_at hl 3 rfl) ?_
    refine lv_aload_n hx hb d_MO_gramsOf_5 rfl (lv_at hl 0 rfl) ?_
    refine va_get (D := (dC, dI)) (ci := 3) (v := .ref gLy) (C := R_MO) (T := F_MO) (N := 22) hx hb hG i_MO hown hK hP 0 rfl rfl 12 (by decide) (hG _ vq_t489) (fun _ h9 => h9) rfl d_MO_gramsOf_6 ?_
    refine lv_iload_n hx hb d_MO_gramsOf_9 rfl (lv_at hl 1 rfl) ?_
    refine va_iald (D := (dC, dI)) hx hb hK hP 1 0 rfl rfl (vq_in 4 rfl hp.1 hp.2) d_MO_gramsOf_10 ?_
    refine lv_icmp_ge (tgt := 34) hx hb d_MO_gramsOf_11 (by decide) (fun c_11 => ?_) (fun c_11 => ?_)
    · skip
      exact kk ls (lv_sub hl [0, 1, 2] rfl)
    · skip
      exact absurd c_11 (not_not_intro (by rw [show i = 20 by omega]; exact hz))
  | succ n ih =>
    intro i acc ls hi hl kk
    refine lv_iload_n hx hb d_MO_gramsOf_4 rfl (lv_at hl 3 rfl) ?_
    refine lv_aload_n hx hb d_MO_gramsOf_5 rfl (lv_at hl 0 rfl) ?_
    refine va_get (D := (dC, dI)) (ci := 3) (v := .ref gLy) (C := R_MO) (T := F_MO) (N := 22) hx hb hG i_MO hown hK hP 0 rfl rfl 12 (by decide) (hG _ vq_t489) (fun _ h9 => h9) rfl d_MO_gramsOf_6 ?_
    refine lv_iload_n hx hb d_MO_gramsOf_9 rfl (lv_at hl 1 rfl) ?_
    refine va_iald (D := (dC, dI)) hx hb hK hP 1 0 rfl rfl (vq_in 4 rfl hp.1 hp.2) d_MO_gramsOf_10 ?_
    refine lv_icmp_ge (tgt := 34) hx hb d_MO_gramsOf_11 (by decide) (fun c_11 => ?_) (fun c_11 => ?_)
    · skip
      exact kk ls (by simp only [mgoL, if_pos c_11]; exact lv_sub hl [0, 1, 2] rfl)
    · skip
      refine lv_iload_n hx hb d_MO_gramsOf_14 rfl (lv_at hl 2 rfl) ?_
      refine lv_aload_n hx hb d_MO_gramsOf_15 rfl (lv_at hl 0 rfl) ?_
      refine va_get (D := (dC, dI)) (ci := 3) (v := .ref gGr) (C := R_MO) (T := F_MO) (N := 22) hx hb hG i_MO hown hK hP 0 rfl rfl 13 (by decide) (hG _ vq_t490) (fun _ h9 => h9) rfl d_MO_gramsOf_16 ?_
      refine lv_bipush (v := 20) hx hb d_MO_gramsOf_19 (by decide) ?_
      refine lv_iload_n hx hb d_MO_gramsOf_21 rfl (lv_at hl 1 rfl) ?_
      refine lv_imul hx hb d_MO_gramsOf_22 ?_
      refine lv_iload_n hx hb d_MO_gramsOf_23 rfl (lv_at hl 3 rfl) ?_
      refine lv_iadd hx hb d_MO_gramsOf_24 ?_
      refine va_iald (D := (dC, dI)) hx hb hK hP 2 0 rfl rfl (vq_ix80 hp (show i < 20 by omega)) d_MO_gramsOf_25 ?_
      refine lv_iadd hx hb d_MO_gramsOf_26 ?_
      refine lv_istore_n (lv' := [(2, .int (acc + (mGr ((20 * x) + (nI i)).toNatClampNeg))), (0, .ref g0), (1, .int x), (3, .int (nI i))]) hx hb d_MO_gramsOf_27 rfl hl (by decide) rfl (fun ls hl => ?_)
      refine lv_iinc (v := (nI (i + 1))) (lv' := [(3, .int (nI (i + 1))), (2, .int (acc + (mGr ((20 * x) + (nI i)).toNatClampNeg))), (0, .ref g0), (1, .int x)]) hx hb d_MO_gramsOf_28 hl (k := 3) rfl (nI_1 i) (by decide) rfl (fun ls hl => ?_)
      refine lv_goto (tgt := 4) hx hb d_MO_gramsOf_31 (by decide) ?_
      exact ih (i + 1) (acc + (mGr ((20 * x) + (nI i)).toNatClampNeg)) ls (by omega) (lv_sub hl [2, 3, 1, 0] rfl) (fun ls hl => kk ls (by simp only [mgoL, if_neg c_11]; exact hl))
set_option maxHeartbeats 4000000 in
set_option maxRecDepth 100000 in
/-- gramsOf -/
theorem m_gramsOf (l : Launch) (dC : Nat → ClassId) (dI : Nat → Nat → Nat) (cs : Nat → ClassId) (sz : Nat) (g0 : Nat) (gMo : Nat) (gSh : Nat) (gDy : Nat) (gMa : Nat) (gKi : Nat) (gLa : Nat) (gSl : Nat) (gTk : Nat) (gLy : Nat) (gGr : Nat) (gLS : Nat) (gMU : Nat) (gML : Nat) (gEU : Nat) (gEL : Nat) (gPx : Nat) (gPy : Nat) (kTh : Int32) (kTo : Int32) (kCn : Int32) (kPl : Int32) (kPt : Int32) (mLy : Nat → Int32) (mGr : Nat → Int32) (x : Int32) (hp : okE x) (hz : mLy x.toNatClampNeg ≤ 20) : Met l y_MO_gramsOf w_MO_gramsOf ({ frames := 0, cells := 0, slots := 0, locals := 0 }) (vq_PreR (dC, dI) cs [(g0, .inr (3, [.int kTh, .int kTo, .ref gMo, .ref gSh, .int kCn, .ref gDy, .ref gMa, .ref gKi, .ref gLa, .int kPl, .ref gSl, .ref gTk, .ref gLy, .ref gGr, .ref gLS, .ref gMU, .ref gML, .ref gEU, .ref gEL, .int kPt, .ref gPx, .ref gPy])), (gLy, .inl ((cs 0), 4, .inl mLy)), (gGr, .inl ((cs 0), 80, .inl mGr))] sz [.ref g0, .int x]) (vp_Si (fun r => r = mgoF mLy mGr x)) 0 0 (fun _ => False) := by
  refine Met.ofW (cc := b_MO_gramsOf) (maxL := 4) (ret := (some .int)) (by decide) rfl ?_
  intro p e s m args below meth c s₁ B hml hv
  obtain ⟨rfl, hsz, hP, hCx⟩ := hv
  have hx := B.exec
  have hb := B.bytes
  have hr := B.returns
  have hG := vq_hG (atoms_spec (ws := w_MO_gramsOf) B.pre)
  have hown : s.vm.findClass R_MO = some m.cls := findClass_of_methodNamed B.named
  have hlocks := B.notSynchronized
  subst hsz
  have hK := hCx.1
  have hA : ∀ q : Nat, s.heap.size ≤ q → va_A [] s.heap.size q := fun q h => Or.inr h
  have hA0 : ∀ q : Nat, s.heap.size ≤ q → va_A [] s.heap.size q := fun q h => Or.inr h
  have hS : va_S (va_A [] s.heap.size) s.heap s.heap [] := va_S.rf
  have hl := lv_entry ([.ref g0, .int x]) (n := 4) (Nat.le_of_ble_eq_true rfl)
  rw [lg_entry_eq]
  generalize (lg_sl ([.ref g0, .int x]) ++ List.replicate (4 - (lg_sl ([.ref g0, .int x])).length) Slot.unset).toArray = ls at hl ⊢
  have hl : lv_has ls 4 [(0, .ref g0), (1, .int x)] := hl
  have hP : va_P (dC, dI) vq_cl [(g0, .inr (3, [.int kTh, .int kTo, .ref gMo, .ref gSh, .int kCn, .ref gDy, .ref gMa, .ref gKi, .ref gLa, .int kPl, .ref gSl, .ref gTk, .ref gLy, .ref gGr, .ref gLS, .ref gMU, .ref gML, .ref gEU, .ref gEL, .int kPt, .ref gPx, .ref gPy])), (gLy, .inl ((cs 0), 4, .inl mLy)), (gGr, .inl ((cs 0), 80, .inl mGr))] s.heap := hP
  refine lv_iconst (v := 0) hx hb d_MO_gramsOf_0 (by decide) ?_
  refine lv_istore_n (lv' := [(2, .int 0), (0, .ref g0), (1, .int x)]) hx hb d_MO_gramsOf_1 rfl hl (by decide) rfl (fun ls hl => ?_)
  refine lv_iconst (v := 0) hx hb d_MO_gramsOf_2 (by decide) ?_
  refine lv_istore_n (lv' := [(3, .int 0), (2, .int 0), (0, .ref g0), (1, .int x)]) hx hb d_MO_gramsOf_3 rfl hl (by decide) rfl (fun ls hl => ?_)
  refine lp_mgo hx hb hml hG hown hK hP hp hz 20 0 _ ls rfl (lv_sub hl [2, 3, 1, 0] rfl) (fun ls hl => ?_)
  refine lv_iload_n hx hb d_MO_gramsOf_34 rfl (lv_at hl 2 rfl) ?_
  exact W.iret (v := (mgoF mLy mGr x)) hx hb hr (fun t ht hW => ⟨(mgoF mLy mGr x), rfl, by rfl, ht⟩) (fun q h => absurd h List.not_mem_nil) d_MO_gramsOf_35
set_option maxHeartbeats 4000000 in
set_option maxRecDepth 100000 in
/-- ahead -/
theorem m_ahead (l : Launch) (dC : Nat → ClassId) (dI : Nat → Nat → Nat) (cs : Nat → ClassId) (sz : Nat) (g0 : Nat) (gMo : Nat) (gSh : Nat) (gDy : Nat) (gMa : Nat) (gKi : Nat) (gLa : Nat) (gSl : Nat) (gTk : Nat) (gLy : Nat) (gGr : Nat) (gLS : Nat) (gMU : Nat) (gML : Nat) (gEU : Nat) (gEL : Nat) (gPx : Nat) (gPy : Nat) (kTh : Int32) (kTo : Int32) (kCn : Int32) (kPl : Int32) (kPt : Int32) (mGr : Nat → Int32) (x : Int32) (k : Int64) (al : Int32) (hi : vp_in x 80) (hs : ¬ al.toInt64 = 0) : Met l y_MO_ahead w_MO_ahead ({ frames := 0, cells := 0, slots := 0, locals := 0 }) (vq_PreR (dC, dI) cs [(g0, .inr (3, [.int kTh, .int kTo, .ref gMo, .ref gSh, .int kCn, .ref gDy, .ref gMa, .ref gKi, .ref gLa, .int kPl, .ref gSl, .ref gTk, .ref gLy, .ref gGr, .ref gLS, .ref gMU, .ref gML, .ref gEU, .ref gEL, .int kPt, .ref gPx, .ref gPy])), (gGr, .inl ((cs 0), 80, .inl mGr))] sz [.ref g0, .int x, .long k, .int al]) (vp_Sl (fun r => r = ahF (mGr x.toNatClampNeg) k al)) 0 0 (fun _ => False) := by
  refine Met.ofW (cc := b_MO_ahead) (maxL := 5) (ret := (some .long)) (by decide) rfl ?_
  intro p e s m args below meth c s₁ B hml hv
  obtain ⟨rfl, hsz, hP, hCx⟩ := hv
  have hx := B.exec
  have hb := B.bytes
  have hr := B.returns
  have hG := vq_hG (atoms_spec (ws := w_MO_ahead) B.pre)
  have hown : s.vm.findClass R_MO = some m.cls := findClass_of_methodNamed B.named
  have hlocks := B.notSynchronized
  subst hsz
  have hK := hCx.1
  have hA : ∀ q : Nat, s.heap.size ≤ q → va_A [] s.heap.size q := fun q h => Or.inr h
  have hA0 : ∀ q : Nat, s.heap.size ≤ q → va_A [] s.heap.size q := fun q h => Or.inr h
  have hS : va_S (va_A [] s.heap.size) s.heap s.heap [] := va_S.rf
  have hl := lv_entry ([.ref g0, .int x, .long k, .int al]) (n := 5) (Nat.le_of_ble_eq_true rfl)
  rw [lg_entry_eq]
  generalize (lg_sl ([.ref g0, .int x, .long k, .int al]) ++ List.replicate (5 - (lg_sl ([.ref g0, .int x, .long k, .int al])).length) Slot.unset).toArray = ls at hl ⊢
  have hl : lv_has ls 5 [(0, .ref g0), (1, .int x), (2, .long k), (4, .int al)] := hl
  have hP : va_P (dC, dI) vq_cl [(g0, .inr (3, [.int kTh, .int kTo, .ref gMo, .ref gSh, .int kCn, .ref gDy, .ref gMa, .ref gKi, .ref gLa, .int kPl, .ref gSl, .ref gTk, .ref gLy, .ref gGr, .ref gLS, .ref gMU, .ref gML, .ref gEU, .ref gEL, .int kPt, .ref gPx, .ref gPy])), (gGr, .inl ((cs 0), 80, .inl mGr))] s.heap := hP
  refine lv_aload_n hx hb d_MO_ahead_0 rfl (lv_at hl 0 rfl) ?_
  refine va_get (D := (dC, dI)) (ci := 3) (v := .ref gGr) (C := R_MO) (T := F_MO) (N := 22) hx hb hG i_MO hown hK hP 0 rfl rfl 13 (by decide) (hG _ vq_t490) (fun _ h9 => h9) rfl d_MO_ahead_1 ?_
  refine lv_iload_n hx hb d_MO_ahead_4 rfl (lv_at hl 1 rfl) ?_
  refine va_iald (D := (dC, dI)) hx hb hK hP 1 0 rfl rfl hi d_MO_ahead_5 ?_
  refine lv_i2l hx hb d_MO_ahead_6 rfl ?_
  refine lv_lload_n hx hb d_MO_ahead_7 rfl (lv_at hl 2 rfl) ?_
  refine lv_lmul hx hb d_MO_ahead_8 ?_
  refine lv_iload hx hb d_MO_ahead_9 (lv_at hl 3 rfl) ?_
  refine lv_i2l hx hb d_MO_ahead_11 rfl ?_
  refine lv_ldiv hx hb d_MO_ahead_12 hs ?_
  exact W.lret (v := ((((mGr x.toNatClampNeg).toInt64) * k) / al.toInt64)) hx hb hr (fun t ht hW => ⟨((((mGr x.toNatClampNeg).toInt64) * k) / al.toInt64), rfl, by rfl, ht⟩) (fun q h => absurd h List.not_mem_nil) d_MO_ahead_13
set_option maxHeartbeats 4000000 in
set_option maxRecDepth 100000 in
/-- takes -/
theorem m_takes (l : Launch) (dC : Nat → ClassId) (dI : Nat → Nat → Nat) (cs : Nat → ClassId) (sz : Nat) (g0 : Nat) (gMo : Nat) (gSh : Nat) (gDy : Nat) (gMa : Nat) (gKi : Nat) (gLa : Nat) (gSl : Nat) (gTk : Nat) (gLy : Nat) (gGr : Nat) (gLS : Nat) (gMU : Nat) (gML : Nat) (gEU : Nat) (gEL : Nat) (gPx : Nat) (gPy : Nat) (kTh : Int32) (kTo : Int32) (kCn : Int32) (kPl : Int32) (kPt : Int32) (mSl : Nat → Int32) (mGr : Nat → Int32) (x : Int32) (y : Int32) (k : Int32) (hp : okE x) (hi : vp_in ((20 * x) + y) 80) (hs : ¬ (mSl x.toNatClampNeg).toInt64 = 0) : Met l y_MO_takes w_MO_takes ({ frames := 1, cells := 0, slots := 0, locals := 24 }) (vq_PreR (dC, dI) cs [(g0, .inr (3, [.int kTh, .int kTo, .ref gMo, .ref gSh, .int kCn, .ref gDy, .ref gMa, .ref gKi, .ref gLa, .int kPl, .ref gSl, .ref gTk, .ref gLy, .ref gGr, .ref gLS, .ref gMU, .ref gML, .ref gEU, .ref gEL, .int kPt, .ref gPx, .ref gPy])), (gSl, .inl ((cs 0), 4, .inl mSl)), (gGr, .inl ((cs 0), 80, .inl mGr))] sz [.ref g0, .int x, .int y, .int k]) (vp_Sl (fun r => r = mtkF mSl mGr x y k)) 0 0 (fun _ => False) := by
  refine Met.ofW (cc := b_MO_takes) (maxL := 4) (ret := (some .long)) (by decide) rfl ?_
  intro p e s m args below meth c s₁ B hml hv
  obtain ⟨rfl, hsz, hP, hCx⟩ := hv
  have hx := B.exec
  have hb := B.bytes
  have hr := B.returns
  have hG := vq_hG (atoms_spec (ws := w_MO_takes) B.pre)
  have hown : s.vm.findClass R_MO = some m.cls := findClass_of_methodNamed B.named
  have hlocks := B.notSynchronized
  subst hsz
  have hK := hCx.1
  have hA : ∀ q : Nat, s.heap.size ≤ q → va_A [] s.heap.size q := fun q h => Or.inr h
  have hA0 : ∀ q : Nat, s.heap.size ≤ q → va_A [] s.heap.size q := fun q h => Or.inr h
  have hS : va_S (va_A [] s.heap.size) s.heap s.heap [] := va_S.rf
  have hl := lv_entry ([.ref g0, .int x, .int y, .int k]) (n := 4) (Nat.le_of_ble_eq_true rfl)
  rw [lg_entry_eq]
  generalize (lg_sl ([.ref g0, .int x, .int y, .int k]) ++ List.replicate (4 - (lg_sl ([.ref g0, .int x, .int y, .int k])).length) Slot.unset).toArray = ls at hl ⊢
  have hl : lv_has ls 4 [(0, .ref g0), (1, .int x), (2, .int y), (3, .int k)] := hl
  have hP : va_P (dC, dI) vq_cl [(g0, .inr (3, [.int kTh, .int kTo, .ref gMo, .ref gSh, .int kCn, .ref gDy, .ref gMa, .ref gKi, .ref gLa, .int kPl, .ref gSl, .ref gTk, .ref gLy, .ref gGr, .ref gLS, .ref gMU, .ref gML, .ref gEU, .ref gEL, .int kPt, .ref gPx, .ref gPy])), (gSl, .inl ((cs 0), 4, .inl mSl)), (gGr, .inl ((cs 0), 80, .inl mGr))] s.heap := hP
  refine lv_aload_n hx hb d_MO_takes_0 rfl (lv_at hl 0 rfl) ?_
  refine lv_bipush (v := 20) hx hb d_MO_takes_1 (by decide) ?_
  refine lv_iload_n hx hb d_MO_takes_3 rfl (lv_at hl 1 rfl) ?_
  refine lv_imul hx hb d_MO_takes_4 ?_
  refine lv_iload_n hx hb d_MO_takes_5 rfl (lv_at hl 2 rfl) ?_
  refine lv_iadd hx hb d_MO_takes_6 ?_
  refine lv_iload_n hx hb d_MO_takes_7 rfl (lv_at hl 3 rfl) ?_
  refine lv_i2l hx hb d_MO_takes_8 rfl ?_
  refine lv_lconst (v := 1) hx hb d_MO_takes_9 (by decide) ?_
  refine lv_ladd hx hb d_MO_takes_10 ?_
  refine lv_aload_n hx hb d_MO_takes_11 rfl (lv_at hl 0 rfl) ?_
  refine va_get (D := (dC, dI)) (ci := 3) (v := .ref gSl) (C := R_MO) (T := F_MO) (N := 22) hx hb hG i_MO hown hK hP 0 rfl rfl 10 (by decide) (hG _ vq_t487) (fun _ h9 => h9) rfl d_MO_takes_12 ?_
  refine lv_iload_n hx hb d_MO_takes_15 rfl (lv_at hl 1 rfl) ?_
  refine va_iald (D := (dC, dI)) hx hb hK hP 1 0 rfl rfl (vq_in 4 rfl hp.1 hp.2) d_MO_takes_16 ?_
  refine vp_callSl (va_Run.run (va_runV (As := [.int ((20 * x) + y), .long (k.toInt64 + 1), .int (mSl x.toNatClampNeg)]) (rest := []) ⟨hx, hb, hml, hown, hG⟩ (m_ahead l dC dI cs _ g0 gMo gSh gDy gMa gKi gLa gSl gTk gLy gGr gLS gMU gML gEU gEL gPx gPy kTh kTo kCn kPl kPt mGr ((20 * x) + y) (k.toInt64 + 1) (mSl x.toNatClampNeg) hi hs) (cwV 3 hG (vq_gV vq_t610 vq_t612 vq_s14 vq_t4 vq_t613) rfl rfl rfl (by decide +kernel) ⟨Nat.le_of_ble_eq_true rfl, Nat.le_of_ble_eq_true rfl⟩) (vq_preVr (wc := [(g0, .inr (3, [.int kTh, .int kTo, .ref gMo, .ref gSh, .int kCn, .ref gDy, .ref gMa, .ref gKi, .ref gLa, .int kPl, .ref gSl, .ref gTk, .ref gLy, .ref gGr, .ref gLS, .ref gMU, .ref gML, .ref gEU, .ref gEL, .int kPt, .ref gPx, .ref gPy])), (gGr, .inl ((cs 0), 80, .inl mGr))]) (va_recv hK hP (ci := 3) (q0 := 0) rfl rfl) hCx hP (vq_wk hS hA) hA [0, 2] rfl) rfl rfl hl.1 rfl (lv_room (Nat.le_of_ble_eq_true rfl)) d_MO_takes_17 ⟨Nat.le_of_ble_eq_true rfl, Nat.le_of_ble_eq_true rfl⟩)) (fun r_17 w_17 => ?_)
  subst w_17
  refine lv_aload_n hx hb d_MO_takes_20 rfl (lv_at hl 0 rfl) ?_
  refine lv_bipush (v := 20) hx hb d_MO_takes_21 (by decide) ?_
  refine lv_iload_n hx hb d_MO_takes_23 rfl (lv_at hl 1 rfl) ?_
  refine lv_imul hx hb d_MO_takes_24 ?_
  refine lv_iload_n hx hb d_MO_takes_25 rfl (lv_at hl 2 rfl) ?_
  refine lv_iadd hx hb d_MO_takes_26 ?_
  refine lv_iload_n hx hb d_MO_takes_27 rfl (lv_at hl 3 rfl) ?_
  refine lv_i2l hx hb d_MO_takes_28 rfl ?_
  refine lv_aload_n hx hb d_MO_takes_29 rfl (lv_at hl 0 rfl) ?_
  refine va_get (D := (dC, dI)) (ci := 3) (v := .ref gSl) (C := R_MO) (T := F_MO) (N := 22) hx hb hG i_MO hown hK hP 0 rfl rfl 10 (by decide) (hG _ vq_t487) (fun _ h9 => h9) rfl d_MO_takes_30 ?_
  refine lv_iload_n hx hb d_MO_takes_33 rfl (lv_at hl 1 rfl) ?_
  refine va_iald (D := (dC, dI)) hx hb hK hP 1 0 rfl rfl (vq_in 4 rfl hp.1 hp.2) d_MO_takes_34 ?_
  refine vp_callSl (va_Run.run (va_runV (As := [.int ((20 * x) + y), .long k.toInt64, .int (mSl x.toNatClampNeg)]) (rest := [.long (ahF (mGr ((20 * x) + y).toNatClampNeg) (k.toInt64 + 1) (mSl x.toNatClampNeg))]) ⟨hx, hb, hml, hown, hG⟩ (m_ahead l dC dI cs _ g0 gMo gSh gDy gMa gKi gLa gSl gTk gLy gGr gLS gMU gML gEU gEL gPx gPy kTh kTo kCn kPl kPt mGr ((20 * x) + y) k.toInt64 (mSl x.toNatClampNeg) hi hs) (cwV 3 hG (vq_gV vq_t610 vq_t612 vq_s14 vq_t4 vq_t613) rfl rfl rfl (by decide +kernel) ⟨Nat.le_of_ble_eq_true rfl, Nat.le_of_ble_eq_true rfl⟩) (vq_preVr (wc := [(g0, .inr (3, [.int kTh, .int kTo, .ref gMo, .ref gSh, .int kCn, .ref gDy, .ref gMa, .ref gKi, .ref gLa, .int kPl, .ref gSl, .ref gTk, .ref gLy, .ref gGr, .ref gLS, .ref gMU, .ref gML, .ref gEU, .ref gEL, .int kPt, .ref gPx, .ref gPy])), (gGr, .inl ((cs 0), 80, .inl mGr))]) (va_recv hK hP (ci := 3) (q0 := 0) rfl rfl) hCx hP (vq_wk hS hA) hA [0, 2] rfl) rfl rfl hl.1 rfl (lv_room (Nat.le_of_ble_eq_true rfl)) d_MO_takes_35 ⟨Nat.le_of_ble_eq_true rfl, Nat.le_of_ble_eq_true rfl⟩)) (fun r_35 w_35 => ?_)
  subst w_35
  refine lv_lsub hx hb d_MO_takes_38 ?_
  exact W.lret (v := ((ahF (mGr ((20 * x) + y).toNatClampNeg) (k.toInt64 + 1) (mSl x.toNatClampNeg)) - (ahF (mGr ((20 * x) + y).toNatClampNeg) k.toInt64 (mSl x.toNatClampNeg)))) hx hb hr (fun t ht hW => ⟨((ahF (mGr ((20 * x) + y).toNatClampNeg) (k.toInt64 + 1) (mSl x.toNatClampNeg)) - (ahF (mGr ((20 * x) + y).toNatClampNeg) k.toInt64 (mSl x.toNatClampNeg))), rfl, by rfl, ht⟩) (fun q h => absurd h List.not_mem_nil) d_MO_takes_39
set_option maxHeartbeats 4000000 in
set_option maxRecDepth 100000 in
/-- the loop of gramsIn -/
theorem lp_mgi {p : Program} {l : Launch} {e : Env} {R : Room} {s : State} {m : MethodId} {args : Array Value} {below : List Frame} {meth : Method} {c : Code} {cells slots : Nat} {Q : State → Prop} {H : Heap} {locs : List Loc} {dC : Nat → ClassId} {dI : Nat → Nat → Nat} {cs : Nat → ClassId} {g0 : Nat} {gMo : Nat} {gSh : Nat} {gDy : Nat} {gMa : Nat} {gKi : Nat} {gLa : Nat} {gSl : Nat} {gTk : Nat} {gLy : Nat} {gGr : Nat} {gLS : Nat} {gMU : Nat} {gML : Nat} {gEU : Nat} {gEL : Nat} {gPx : Nat} {gPy : Nat} {kTh : Int32} {kTo : Int32} {kCn : Int32} {kPl : Int32} {kPt : Int32} {mSl : Nat → Int32} {mLy : Nat → Int32} {mGr : Nat → Int32} {x : Int32} {k : Int32} (hx : p.tables.exec = Jvm.exec) (hb : c.code = b_MO_gramsIn) (hml : c.maxLocals = 6) (hG : ∀ w ∈ vq_G, w.before args s = true) (hown : s.vm.findClass R_MO = some m.cls) (hK : va_K (dC, dI) vq_cl (vq_tys cs) s) (hP : va_P (dC, dI) vq_cl [(g0, .inr (3, [.int kTh, .int kTo, .ref gMo, .ref gSh, .int kCn, .ref gDy, .ref gMa, .ref gKi, .ref gLa, .int kPl, .ref gSl, .ref gTk, .ref gLy, .ref gGr, .ref gLS, .ref gMU, .ref gML, .ref gEU, .ref gEL, .int kPt, .ref gPx, .ref gPy])), (gSl, .inl ((cs 0), 4, .inl mSl)), (gLy, .inl ((cs 0), 4, .inl mLy)), (gGr, .inl ((cs 0), 80, .inl mGr))] H){A : Nat → Prop} (hCx : vq_Cx (dC, dI) cs A s) (hS : va_S A s.heap H locs) (hA : ∀ q, s.heap.size ≤ q → A q) (hRf : 2 ≤ R.frames) (hRl : 47 ≤ R.locals) (hRc : cells ≤ R.cells) (hRs : slots ≤ R.slots) (hp : okE x) (hz : mLy x.toNatClampNeg ≤ 20) (hs : ¬ (mSl x.toNatClampNeg).toInt64 = 0) :
    ∀ (n i : Nat) (acc : Int64) (ls : Array Slot), i + n = 20 → lv_has ls 6 [(0, .ref g0), (1, .int x), (2, .int k), (3, .long acc), (5, .int (nI i))] → (∀ ls : Array Slot, lv_has ls 6 [(0, .ref g0), (1, .int x), (2, .int k), (3, .long (mgiL mSl mLy mGr x k n i acc))] → W p l e R s m args below meth c H locs cells slots Q (F0 m 33 ls [])) → W p l e R s m args below meth c H locs cells slots Q (F0 m 5 ls []) := by
  intro n
  induction n with
  | zero =>
    intro i acc ls hi hl kk
    refine lv_iload hx hb d_MO_gramsIn_5 (lv_at hl 4 rfl) ?_
    refine lv_aload_n hx hb d_MO_gramsIn_7 rfl (lv_at hl 0 rfl) ?_
    refine va_get (D := (dC, dI)) (ci := 3) (v := .ref gLy) (C := R_MO) (T := F_MO) (N := 22) hx hb hG i_MO hown hK hP 0 rfl rfl 12 (by decide) (hG _ vq_t489) (fun _ h9 => h9) rfl d_MO_gramsIn_8 ?_
    refine lv_iload_n hx hb d_MO_gramsIn_11 rfl (lv_at hl 1 rfl) ?_
    refine va_iald (D := (dC, dI)) hx hb hK hP 2 0 rfl rfl (vq_in 4 rfl hp.1 hp.2) d_MO_gramsIn_12 ?_
    refine lv_icmp_ge (tgt := 33) hx hb d_MO_gramsIn_13 (by decide) (fun c_13 => ?_) (fun c_13 => ?_)
    · skip
      exact kk ls (lv_sub hl [0, 1, 2, 3] rfl)
    · skip
      exact absurd c_13 (not_not_intro (by rw [show i = 20 by omega]; exact hz))
  | succ n ih =>
    intro i acc ls hi hl kk
    refine lv_iload hx hb d_MO_gramsIn_5 (lv_at hl 4 rfl) ?_
    refine lv_aload_n hx hb d_MO_gramsIn_7 rfl (lv_at hl 0 rfl) ?_
    refine va_get (D := (dC, dI)) (ci := 3) (v := .ref gLy) (C := R_MO) (T := F_MO) (N := 22) hx hb hG i_MO hown hK hP 0 rfl rfl 12 (by decide) (hG _ vq_t489) (fun _ h9 => h9) rfl d_MO_gramsIn_8 ?_
    refine lv_iload_n hx hb d_MO_gramsIn_11 rfl (lv_at hl 1 rfl) ?_
    refine va_iald (D := (dC, dI)) hx hb hK hP 2 0 rfl rfl (vq_in 4 rfl hp.1 hp.2) d_MO_gramsIn_12 ?_
    refine lv_icmp_ge (tgt := 33) hx hb d_MO_gramsIn_13 (by decide) (fun c_13 => ?_) (fun c_13 => ?_)
    · skip
      exact kk ls (by simp only [mgiL, if_pos c_13]; exact lv_sub hl [0, 1, 2, 3] rfl)
    · skip
      refine lv_lload_n hx hb d_MO_gramsIn_16 rfl (lv_at hl 3 rfl) ?_
      refine lv_aload_n hx hb d_MO_gramsIn_17 rfl (lv_at hl 0 rfl) ?_
      refine lv_iload_n hx hb d_MO_gramsIn_18 rfl (lv_at hl 1 rfl) ?_
      refine lv_iload hx hb d_MO_gramsIn_19 (lv_at hl 4 rfl) ?_
      refine lv_iload_n hx hb d_MO_gramsIn_21 rfl (lv_at hl 2 rfl) ?_
      refine vp_callSl (va_Run.run (va_runV (As := [.int x, .int (nI i), .int k]) (rest := [.long acc]) ⟨hx, hb, hml, hown, hG⟩ (m_takes l dC dI cs _ g0 gMo gSh gDy gMa gKi gLa gSl gTk gLy gGr gLS gMU gML gEU gEL gPx gPy kTh kTo kCn kPl kPt mSl mGr x (nI i) k hp (vq_ix80 hp (show i < 20 by omega)) hs) (cwV 3 hG (vq_gV vq_t606 vq_t608 vq_s13 vq_t4 vq_t609) rfl rfl rfl (by decide +kernel) ⟨hRf, hRl⟩) (vq_preVr (wc := [(g0, .inr (3, [.int kTh, .int kTo, .ref gMo, .ref gSh, .int kCn, .ref gDy, .ref gMa, .ref gKi, .ref gLa, .int kPl, .ref gSl, .ref gTk, .ref gLy, .ref gGr, .ref gLS, .ref gMU, .ref gML, .ref gEU, .ref gEL, .int kPt, .ref gPx, .ref gPy])), (gSl, .inl ((cs 0), 4, .inl mSl)), (gGr, .inl ((cs 0), 80, .inl mGr))]) (va_recv hK hP (ci := 3) (q0 := 0) rfl rfl) hCx hP hS hA [0, 1, 3] rfl) rfl rfl hl.1 rfl (lv_room (Nat.le_of_ble_eq_true rfl)) d_MO_gramsIn_22 ⟨hRc, hRs⟩)) (fun r_22 w_22 => ?_)
      subst w_22
      refine lv_ladd hx hb d_MO_gramsIn_25 ?_
      refine lv_lstore_n (lv' := [(3, .long (acc + (mtkF mSl mGr x (nI i) k))), (0, .ref g0), (1, .int x), (2, .int k), (5, .int (nI i))]) hx hb d_MO_gramsIn_26 rfl hl (by decide) rfl (fun ls hl => ?_)
      refine lv_iinc (v := (nI (i + 1))) (lv' := [(5, .int (nI (i + 1))), (3, .long (acc + (mtkF mSl mGr x (nI i) k))), (0, .ref g0), (1, .int x), (2, .int k)]) hx hb d_MO_gramsIn_27 hl (k := 4) rfl (nI_1 i) (by decide) rfl (fun ls hl => ?_)
      refine lv_goto (tgt := 5) hx hb d_MO_gramsIn_30 (by decide) ?_
      exact ih (i + 1) (acc + (mtkF mSl mGr x (nI i) k)) ls (by omega) (lv_sub hl [2, 3, 4, 1, 0] rfl) (fun ls hl => kk ls (by simp only [mgiL, if_neg c_13]; exact hl))
set_option maxHeartbeats 4000000 in
set_option maxRecDepth 100000 in
/-- gramsIn -/
theorem m_gramsIn (l : Launch) (dC : Nat → ClassId) (dI : Nat → Nat → Nat) (cs : Nat → ClassId) (sz : Nat) (g0 : Nat) (gMo : Nat) (gSh : Nat) (gDy : Nat) (gMa : Nat) (gKi : Nat) (gLa : Nat) (gSl : Nat) (gTk : Nat) (gLy : Nat) (gGr : Nat) (gLS : Nat) (gMU : Nat) (gML : Nat) (gEU : Nat) (gEL : Nat) (gPx : Nat) (gPy : Nat) (kTh : Int32) (kTo : Int32) (kCn : Int32) (kPl : Int32) (kPt : Int32) (mSl : Nat → Int32) (mLy : Nat → Int32) (mGr : Nat → Int32) (x : Int32) (k : Int32) (hp : okE x) (hz : mLy x.toNatClampNeg ≤ 20) (hs : ¬ (mSl x.toNatClampNeg).toInt64 = 0) : Met l y_MO_gramsIn w_MO_gramsIn ({ frames := 2, cells := 0, slots := 0, locals := 47 }) (vq_PreR (dC, dI) cs [(g0, .inr (3, [.int kTh, .int kTo, .ref gMo, .ref gSh, .int kCn, .ref gDy, .ref gMa, .ref gKi, .ref gLa, .int kPl, .ref gSl, .ref gTk, .ref gLy, .ref gGr, .ref gLS, .ref gMU, .ref gML, .ref gEU, .ref gEL, .int kPt, .ref gPx, .ref gPy])), (gSl, .inl ((cs 0), 4, .inl mSl)), (gLy, .inl ((cs 0), 4, .inl mLy)), (gGr, .inl ((cs 0), 80, .inl mGr))] sz [.ref g0, .int x, .int k]) (vp_Sl (fun r => r = mgiF mSl mLy mGr x k)) 0 0 (fun _ => False) := by
  refine Met.ofW (cc := b_MO_gramsIn) (maxL := 6) (ret := (some .long)) (by decide) rfl ?_
  intro p e s m args below meth c s₁ B hml hv
  obtain ⟨rfl, hsz, hP, hCx⟩ := hv
  have hx := B.exec
  have hb := B.bytes
  have hr := B.returns
  have hG := vq_hG (atoms_spec (ws := w_MO_gramsIn) B.pre)
  have hown : s.vm.findClass R_MO = some m.cls := findClass_of_methodNamed B.named
  have hlocks := B.notSynchronized
  subst hsz
  have hK := hCx.1
  have hA : ∀ q : Nat, s.heap.size ≤ q → va_A [] s.heap.size q := fun q h => Or.inr h
  have hA0 : ∀ q : Nat, s.heap.size ≤ q → va_A [] s.heap.size q := fun q h => Or.inr h
  have hS : va_S (va_A [] s.heap.size) s.heap s.heap [] := va_S.rf
  have hl := lv_entry ([.ref g0, .int x, .int k]) (n := 6) (Nat.le_of_ble_eq_true rfl)
  rw [lg_entry_eq]
  generalize (lg_sl ([.ref g0, .int x, .int k]) ++ List.replicate (6 - (lg_sl ([.ref g0, .int x, .int k])).length) Slot.unset).toArray = ls at hl ⊢
  have hl : lv_has ls 6 [(0, .ref g0), (1, .int x), (2, .int k)] := hl
  have hP : va_P (dC, dI) vq_cl [(g0, .inr (3, [.int kTh, .int kTo, .ref gMo, .ref gSh, .int kCn, .ref gDy, .ref gMa, .ref gKi, .ref gLa, .int kPl, .ref gSl, .ref gTk, .ref gLy, .ref gGr, .ref gLS, .ref gMU, .ref gML, .ref gEU, .ref gEL, .int kPt, .ref gPx, .ref gPy])), (gSl, .inl ((cs 0), 4, .inl mSl)), (gLy, .inl ((cs 0), 4, .inl mLy)), (gGr, .inl ((cs 0), 80, .inl mGr))] s.heap := hP
  refine lv_lconst (v := 0) hx hb d_MO_gramsIn_0 (by decide) ?_
  refine lv_lstore_n (lv' := [(3, .long 0), (0, .ref g0), (1, .int x), (2, .int k)]) hx hb d_MO_gramsIn_1 rfl hl (by decide) rfl (fun ls hl => ?_)
  refine lv_iconst (v := 0) hx hb d_MO_gramsIn_2 (by decide) ?_
  refine lv_istore (lv' := [(5, .int 0), (3, .long 0), (0, .ref g0), (1, .int x), (2, .int k)]) hx hb d_MO_gramsIn_3 hl (by decide) rfl (fun ls hl => ?_)
  refine lp_mgi hx hb hml hG hown hK hP hCx (vq_wk hS hA) hA (Nat.le_of_ble_eq_true rfl) (Nat.le_of_ble_eq_true rfl) (Nat.le_of_ble_eq_true rfl) (Nat.le_of_ble_eq_true rfl) hp hz hs 20 0 _ ls rfl (lv_sub hl [2, 3, 4, 1, 0] rfl) (fun ls hl => ?_)
  refine lv_lload_n hx hb d_MO_gramsIn_33 rfl (lv_at hl 3 rfl) ?_
  exact W.lret (v := (mgiF mSl mLy mGr x k)) hx hb hr (fun t ht hW => ⟨(mgiF mSl mLy mGr x k), rfl, by rfl, ht⟩) (fun q h => absurd h List.not_mem_nil) d_MO_gramsIn_34
set_option maxHeartbeats 4000000 in
set_option maxRecDepth 100000 in
/-- the loop of heldIn -/
theorem lp_mhi {p : Program} {l : Launch} {e : Env} {R : Room} {s : State} {m : MethodId} {args : Array Value} {below : List Frame} {meth : Method} {c : Code} {cells slots : Nat} {Q : State → Prop} {H : Heap} {locs : List Loc} {dC : Nat → ClassId} {dI : Nat → Nat → Nat} {cs : Nat → ClassId} {g0 : Nat} {gMo : Nat} {gSh : Nat} {gDy : Nat} {gMa : Nat} {gKi : Nat} {gLa : Nat} {gSl : Nat} {gTk : Nat} {gLy : Nat} {gGr : Nat} {gLS : Nat} {gMU : Nat} {gML : Nat} {gEU : Nat} {gEL : Nat} {gPx : Nat} {gPy : Nat} {kTh : Int32} {kTo : Int32} {kCn : Int32} {kPl : Int32} {kPt : Int32} {mSl : Nat → Int32} {mLy : Nat → Int32} {mGr : Nat → Int32} {mLS : Nat → Int32} {x : Int32} {k : Int32} {y : Int32} (hx : p.tables.exec = Jvm.exec) (hb : c.code = b_MO_heldIn) (hml : c.maxLocals = 7) (hG : ∀ w ∈ vq_G, w.before args s = true) (hown : s.vm.findClass R_MO = some m.cls) (hK : va_K (dC, dI) vq_cl (vq_tys cs) s) (hP : va_P (dC, dI) vq_cl [(g0, .inr (3, [.int kTh, .int kTo, .ref gMo, .ref gSh, .int kCn, .ref gDy, .ref gMa, .ref gKi, .ref gLa, .int kPl, .ref gSl, .ref gTk, .ref gLy, .ref gGr, .ref gLS, .ref gMU, .ref gML, .ref gEU, .ref gEL, .int kPt, .ref gPx, .ref gPy])), (gSl, .inl ((cs 0), 4, .inl mSl)), (gLy, .inl ((cs 0), 4, .inl mLy)), (gGr, .inl ((cs 0), 80, .inl mGr)), (gLS, .inl ((cs 0), 320, .inl mLS))] H){A : Nat → Prop} (hCx : vq_Cx (dC, dI) cs A s) (hS : va_S A s.heap H locs) (hA : ∀ q, s.heap.size ≤ q → A q) (hRf : 2 ≤ R.frames) (hRl : 47 ≤ R.locals) (hRc : cells ≤ R.cells) (hRs : slots ≤ R.slots) (hp : okE x) (hz : mLy x.toNatClampNeg ≤ 20) (hs : ¬ (mSl x.toNatClampNeg).toInt64 = 0) (he : okE y) :
    ∀ (n i : Nat) (acc : Int64) (ls : Array Slot), i + n = 20 → lv_has ls 7 [(0, .ref g0), (1, .int x), (2, .int k), (3, .int y), (4, .long acc), (6, .int (nI i))] → (∀ ls : Array Slot, lv_has ls 7 [(0, .ref g0), (1, .int x), (2, .int k), (3, .int y), (4, .long (mhiL mSl mLy mGr mLS x k y n i acc))] → W p l e R s m args below meth c H locs cells slots Q (F0 m 54 ls [])) → W p l e R s m args below meth c H locs cells slots Q (F0 m 6 ls []) := by
  intro n
  induction n with
  | zero =>
    intro i acc ls hi hl kk
    refine lv_iload hx hb d_MO_heldIn_6 (lv_at hl 5 rfl) ?_
    refine lv_aload_n hx hb d_MO_heldIn_8 rfl (lv_at hl 0 rfl) ?_
    refine va_get (D := (dC, dI)) (ci := 3) (v := .ref gLy) (C := R_MO) (T := F_MO) (N := 22) hx hb hG i_MO hown hK hP 0 rfl rfl 12 (by decide) (hG _ vq_t489) (fun _ h9 => h9) rfl d_MO_heldIn_9 ?_
    refine lv_iload_n hx hb d_MO_heldIn_12 rfl (lv_at hl 1 rfl) ?_
    refine va_iald (D := (dC, dI)) hx hb hK hP 2 0 rfl rfl (vq_in 4 rfl hp.1 hp.2) d_MO_heldIn_13 ?_
    refine lv_icmp_ge (tgt := 54) hx hb d_MO_heldIn_14 (by decide) (fun c_14 => ?_) (fun c_14 => ?_)
    · skip
      exact kk ls (lv_sub hl [0, 1, 2, 3, 4] rfl)
    · skip
      exact absurd c_14 (not_not_intro (by rw [show i = 20 by omega]; exact hz))
  | succ n ih =>
    intro i acc ls hi hl kk
    refine lv_iload hx hb d_MO_heldIn_6 (lv_at hl 5 rfl) ?_
    refine lv_aload_n hx hb d_MO_heldIn_8 rfl (lv_at hl 0 rfl) ?_
    refine va_get (D := (dC, dI)) (ci := 3) (v := .ref gLy) (C := R_MO) (T := F_MO) (N := 22) hx hb hG i_MO hown hK hP 0 rfl rfl 12 (by decide) (hG _ vq_t489) (fun _ h9 => h9) rfl d_MO_heldIn_9 ?_
    refine lv_iload_n hx hb d_MO_heldIn_12 rfl (lv_at hl 1 rfl) ?_
    refine va_iald (D := (dC, dI)) hx hb hK hP 2 0 rfl rfl (vq_in 4 rfl hp.1 hp.2) d_MO_heldIn_13 ?_
    refine lv_icmp_ge (tgt := 54) hx hb d_MO_heldIn_14 (by decide) (fun c_14 => ?_) (fun c_14 => ?_)
    · skip
      exact kk ls (by simp only [mhiL, if_pos c_14]; exact lv_sub hl [0, 1, 2, 3, 4] rfl)
    · skip
      refine lv_lload hx hb d_MO_heldIn_17 (lv_at hl 4 rfl) ?_
      refine lv_aload_n hx hb d_MO_heldIn_19 rfl (lv_at hl 0 rfl) ?_
      refine lv_iload_n hx hb d_MO_heldIn_20 rfl (lv_at hl 1 rfl) ?_
      refine lv_iload hx hb d_MO_heldIn_21 (lv_at hl 5 rfl) ?_
      refine lv_iload_n hx hb d_MO_heldIn_23 rfl (lv_at hl 2 rfl) ?_
      refine vp_callSl (va_Run.run (va_runV (As := [.int x, .int (nI i), .int k]) (rest := [.long acc]) ⟨hx, hb, hml, hown, hG⟩ (m_takes l dC dI cs _ g0 gMo gSh gDy gMa gKi gLa gSl gTk gLy gGr gLS gMU gML gEU gEL gPx gPy kTh kTo kCn kPl kPt mSl mGr x (nI i) k hp (vq_ix80 hp (show i < 20 by omega)) hs) (cwV 3 hG (vq_gV vq_t606 vq_t608 vq_s13 vq_t4 vq_t609) rfl rfl rfl (by decide +kernel) ⟨hRf, hRl⟩) (vq_preVr (wc := [(g0, .inr (3, [.int kTh, .int kTo, .ref gMo, .ref gSh, .int kCn, .ref gDy, .ref gMa, .ref gKi, .ref gLa, .int kPl, .ref gSl, .ref gTk, .ref gLy, .ref gGr, .ref gLS, .ref gMU, .ref gML, .ref gEU, .ref gEL, .int kPt, .ref gPx, .ref gPy])), (gSl, .inl ((cs 0), 4, .inl mSl)), (gGr, .inl ((cs 0), 80, .inl mGr))]) (va_recv hK hP (ci := 3) (q0 := 0) rfl rfl) hCx hP hS hA [0, 1, 3] rfl) rfl rfl hl.1 rfl (lv_room (Nat.le_of_ble_eq_true rfl)) d_MO_heldIn_24 ⟨hRc, hRs⟩)) (fun r_24 w_24 => ?_)
      subst w_24
      refine lv_aload_n hx hb d_MO_heldIn_27 rfl (lv_at hl 0 rfl) ?_
      refine va_get (D := (dC, dI)) (ci := 3) (v := .ref gLS) (C := R_MO) (T := F_MO) (N := 22) hx hb hG i_MO hown hK hP 0 rfl rfl 14 (by decide) (hG _ vq_t491) (fun _ h9 => h9) rfl d_MO_heldIn_28 ?_
      refine lv_iconst (v := 4) hx hb d_MO_heldIn_31 (by decide) ?_
      refine lv_bipush (v := 20) hx hb d_MO_heldIn_32 (by decide) ?_
      refine lv_iload_n hx hb d_MO_heldIn_34 rfl (lv_at hl 1 rfl) ?_
      refine lv_imul hx hb d_MO_heldIn_35 ?_
      refine lv_iload hx hb d_MO_heldIn_36 (lv_at hl 5 rfl) ?_
      refine lv_iadd hx hb d_MO_heldIn_38 ?_
      refine lv_imul hx hb d_MO_heldIn_39 ?_
      refine lv_iload_n hx hb d_MO_heldIn_40 rfl (lv_at hl 3 rfl) ?_
      refine lv_iadd hx hb d_MO_heldIn_41 ?_
      refine va_iald (D := (dC, dI)) hx hb hK hP 4 0 rfl rfl (vq_ix320 hp (show i < 20 by omega) he) d_MO_heldIn_42 ?_
      refine lv_i2l hx hb d_MO_heldIn_43 rfl ?_
      refine lv_lmul hx hb d_MO_heldIn_44 ?_
      refine lv_ladd hx hb d_MO_heldIn_45 ?_
      refine lv_lstore (lv' := [(4, .long (acc + ((mtkF mSl mGr x (nI i) k) * ((mLS ((4 * ((20 * x) + (nI i))) + y).toNatClampNeg).toInt64)))), (0, .ref g0), (1, .int x), (2, .int k), (3, .int y), (6, .int (nI i))]) hx hb d_MO_heldIn_46 hl (by decide) rfl (fun ls hl => ?_)
      refine lv_iinc (v := (nI (i + 1))) (lv' := [(6, .int (nI (i + 1))), (4, .long (acc + ((mtkF mSl mGr x (nI i) k) * ((mLS ((4 * ((20 * x) + (nI i))) + y).toNatClampNeg).toInt64)))), (0, .ref g0), (1, .int x), (2, .int k), (3, .int y)]) hx hb d_MO_heldIn_48 hl (k := 5) rfl (nI_1 i) (by decide) rfl (fun ls hl => ?_)
      refine lv_goto (tgt := 6) hx hb d_MO_heldIn_51 (by decide) ?_
      exact ih (i + 1) (acc + ((mtkF mSl mGr x (nI i) k) * ((mLS ((4 * ((20 * x) + (nI i))) + y).toNatClampNeg).toInt64))) ls (by omega) (lv_sub hl [2, 3, 4, 5, 1, 0] rfl) (fun ls hl => kk ls (by simp only [mhiL, if_neg c_14]; exact hl))
set_option maxHeartbeats 4000000 in
set_option maxRecDepth 100000 in
/-- heldIn -/
theorem m_heldIn (l : Launch) (dC : Nat → ClassId) (dI : Nat → Nat → Nat) (cs : Nat → ClassId) (sz : Nat) (g0 : Nat) (gMo : Nat) (gSh : Nat) (gDy : Nat) (gMa : Nat) (gKi : Nat) (gLa : Nat) (gSl : Nat) (gTk : Nat) (gLy : Nat) (gGr : Nat) (gLS : Nat) (gMU : Nat) (gML : Nat) (gEU : Nat) (gEL : Nat) (gPx : Nat) (gPy : Nat) (kTh : Int32) (kTo : Int32) (kCn : Int32) (kPl : Int32) (kPt : Int32) (mSl : Nat → Int32) (mLy : Nat → Int32) (mGr : Nat → Int32) (mLS : Nat → Int32) (x : Int32) (k : Int32) (y : Int32) (hp : okE x) (hz : mLy x.toNatClampNeg ≤ 20) (hs : ¬ (mSl x.toNatClampNeg).toInt64 = 0) (he : okE y) : Met l y_MO_heldIn w_MO_heldIn ({ frames := 2, cells := 0, slots := 0, locals := 47 }) (vq_PreR (dC, dI) cs [(g0, .inr (3, [.int kTh, .int kTo, .ref gMo, .ref gSh, .int kCn, .ref gDy, .ref gMa, .ref gKi, .ref gLa, .int kPl, .ref gSl, .ref gTk, .ref gLy, .ref gGr, .ref gLS, .ref gMU, .ref gML, .ref gEU, .ref gEL, .int kPt, .ref gPx, .ref gPy])), (gSl, .inl ((cs 0), 4, .inl mSl)), (gLy, .inl ((cs 0), 4, .inl mLy)), (gGr, .inl ((cs 0), 80, .inl mGr)), (gLS, .inl ((cs 0), 320, .inl mLS))] sz [.ref g0, .int x, .int k, .int y]) (vp_Sl (fun r => r = mhiF mSl mLy mGr mLS x k y)) 0 0 (fun _ => False) := by
  refine Met.ofW (cc := b_MO_heldIn) (maxL := 7) (ret := (some .long)) (by decide) rfl ?_
  intro p e s m args below meth c s₁ B hml hv
  obtain ⟨rfl, hsz, hP, hCx⟩ := hv
  have hx := B.exec
  have hb := B.bytes
  have hr := B.returns
  have hG := vq_hG (atoms_spec (ws := w_MO_heldIn) B.pre)
  have hown : s.vm.findClass R_MO = some m.cls := findClass_of_methodNamed B.named
  have hlocks := B.notSynchronized
  subst hsz
  have hK := hCx.1
  have hA : ∀ q : Nat, s.heap.size ≤ q → va_A [] s.heap.size q := fun q h => Or.inr h
  have hA0 : ∀ q : Nat, s.heap.size ≤ q → va_A [] s.heap.size q := fun q h => Or.inr h
  have hS : va_S (va_A [] s.heap.size) s.heap s.heap [] := va_S.rf
  have hl := lv_entry ([.ref g0, .int x, .int k, .int y]) (n := 7) (Nat.le_of_ble_eq_true rfl)
  rw [lg_entry_eq]
  generalize (lg_sl ([.ref g0, .int x, .int k, .int y]) ++ List.replicate (7 - (lg_sl ([.ref g0, .int x, .int k, .int y])).length) Slot.unset).toArray = ls at hl ⊢
  have hl : lv_has ls 7 [(0, .ref g0), (1, .int x), (2, .int k), (3, .int y)] := hl
  have hP : va_P (dC, dI) vq_cl [(g0, .inr (3, [.int kTh, .int kTo, .ref gMo, .ref gSh, .int kCn, .ref gDy, .ref gMa, .ref gKi, .ref gLa, .int kPl, .ref gSl, .ref gTk, .ref gLy, .ref gGr, .ref gLS, .ref gMU, .ref gML, .ref gEU, .ref gEL, .int kPt, .ref gPx, .ref gPy])), (gSl, .inl ((cs 0), 4, .inl mSl)), (gLy, .inl ((cs 0), 4, .inl mLy)), (gGr, .inl ((cs 0), 80, .inl mGr)), (gLS, .inl ((cs 0), 320, .inl mLS))] s.heap := hP
  refine lv_lconst (v := 0) hx hb d_MO_heldIn_0 (by decide) ?_
  refine lv_lstore (lv' := [(4, .long 0), (0, .ref g0), (1, .int x), (2, .int k), (3, .int y)]) hx hb d_MO_heldIn_1 hl (by decide) rfl (fun ls hl => ?_)
  refine lv_iconst (v := 0) hx hb d_MO_heldIn_3 (by decide) ?_
  refine lv_istore (lv' := [(6, .int 0), (4, .long 0), (0, .ref g0), (1, .int x), (2, .int k), (3, .int y)]) hx hb d_MO_heldIn_4 hl (by decide) rfl (fun ls hl => ?_)
  refine lp_mhi hx hb hml hG hown hK hP hCx (vq_wk hS hA) hA (Nat.le_of_ble_eq_true rfl) (Nat.le_of_ble_eq_true rfl) (Nat.le_of_ble_eq_true rfl) (Nat.le_of_ble_eq_true rfl) hp hz hs he 20 0 _ ls rfl (lv_sub hl [2, 3, 4, 5, 1, 0] rfl) (fun ls hl => ?_)
  refine lv_lload hx hb d_MO_heldIn_54 (lv_at hl 4 rfl) ?_
  exact W.lret (v := (mhiF mSl mLy mGr mLS x k y)) hx hb hr (fun t ht hW => ⟨(mhiF mSl mLy mGr mLS x k y), rfl, by rfl, ht⟩) (fun q h => absurd h List.not_mem_nil) d_MO_heldIn_56
set_option maxHeartbeats 4000000 in
set_option maxRecDepth 100000 in
/-- isUntaken -/
theorem m_isUntaken (l : Launch) (dC : Nat → ClassId) (dI : Nat → Nat → Nat) (cs : Nat → ClassId) (sz : Nat) (g0 : Nat) (gMo : Nat) (gSh : Nat) (gDy : Nat) (gMa : Nat) (gKi : Nat) (gLa : Nat) (gSl : Nat) (gTk : Nat) (gLy : Nat) (gGr : Nat) (gLS : Nat) (gMU : Nat) (gML : Nat) (gEU : Nat) (gEL : Nat) (gPx : Nat) (gPy : Nat) (kTh : Int32) (kTo : Int32) (kCn : Int32) (kPl : Int32) (kPt : Int32) (mTk : Nat → Int32) (x : Int32) (hn : ¬ kPl < 0) (h4 : kPl ≤ 4) : Met l y_MO_isUntaken w_MO_isUntaken ({ frames := 2, cells := 0, slots := 0, locals := 43 }) (vq_PreR (dC, dI) cs [(g0, .inr (3, [.int kTh, .int kTo, .ref gMo, .ref gSh, .int kCn, .ref gDy, .ref gMa, .ref gKi, .ref gLa, .int kPl, .ref gSl, .ref gTk, .ref gLy, .ref gGr, .ref gLS, .ref gMU, .ref gML, .ref gEU, .ref gEL, .int kPt, .ref gPx, .ref gPy])), (gTk, .inl ((cs 0), 4, .inl mTk))] sz [.ref g0, .int x]) (vp_Si (fun r => r = unF (inF x 0 (kPl - 1)) (mTk x.toNatClampNeg))) 0 0 (fun _ => False) := by
  refine Met.ofW (cc := b_MO_isUntaken) (maxL := 2) (ret := (some .boolean)) (by decide) rfl ?_
  intro p e s m args below meth c s₁ B hml hv
  obtain ⟨rfl, hsz, hP, hCx⟩ := hv
  have hx := B.exec
  have hb := B.bytes
  have hr := B.returns
  have hG := vq_hG (atoms_spec (ws := w_MO_isUntaken) B.pre)
  have hown : s.vm.findClass R_MO = some m.cls := findClass_of_methodNamed B.named
  have hlocks := B.notSynchronized
  subst hsz
  have hK := hCx.1
  have hA : ∀ q : Nat, s.heap.size ≤ q → va_A [] s.heap.size q := fun q h => Or.inr h
  have hA0 : ∀ q : Nat, s.heap.size ≤ q → va_A [] s.heap.size q := fun q h => Or.inr h
  have hS : va_S (va_A [] s.heap.size) s.heap s.heap [] := va_S.rf
  have hl := lv_entry ([.ref g0, .int x]) (n := 2) (Nat.le_of_ble_eq_true rfl)
  rw [lg_entry_eq]
  generalize (lg_sl ([.ref g0, .int x]) ++ List.replicate (2 - (lg_sl ([.ref g0, .int x])).length) Slot.unset).toArray = ls at hl ⊢
  have hl : lv_has ls 2 [(0, .ref g0), (1, .int x)] := hl
  have hP : va_P (dC, dI) vq_cl [(g0, .inr (3, [.int kTh, .int kTo, .ref gMo, .ref gSh, .int kCn, .ref gDy, .ref gMa, .ref gKi, .ref gLa, .int kPl, .ref gSl, .ref gTk, .ref gLy, .ref gGr, .ref gLS, .ref gMU, .ref gML, .ref gEU, .ref gEL, .int kPt, .ref gPx, .ref gPy])), (gTk, .inl ((cs 0), 4, .inl mTk))] s.heap := hP
  refine lv_aload_n hx hb d_MO_isUntaken_0 rfl (lv_at hl 0 rfl) ?_
  refine lv_iload_n hx hb d_MO_isUntaken_1 rfl (lv_at hl 1 rfl) ?_
  refine vp_callSi (va_Run.run (va_runV (As := [.int x]) (rest := []) ⟨hx, hb, hml, hown, hG⟩ (m_isPile l dC dI cs _ g0 gMo gSh gDy gMa gKi gLa gSl gTk gLy gGr gLS gMU gML gEU gEL gPx gPy kTh kTo kCn kPl kPt x) (cwV 1 hG (vq_gV vq_t590 vq_t592 vq_s10 vq_t4 vq_t593) rfl rfl rfl (by decide +kernel) ⟨Nat.le_of_ble_eq_true rfl, Nat.le_of_ble_eq_true rfl⟩) (vq_preVr (wc := [(g0, .inr (3, [.int kTh, .int kTo, .ref gMo, .ref gSh, .int kCn, .ref gDy, .ref gMa, .ref gKi, .ref gLa, .int kPl, .ref gSl, .ref gTk, .ref gLy, .ref gGr, .ref gLS, .ref gMU, .ref gML, .ref gEU, .ref gEL, .int kPt, .ref gPx, .ref gPy]))]) (va_recv hK hP (ci := 3) (q0 := 0) rfl rfl) hCx hP (vq_wk hS hA) hA [0] rfl) rfl rfl hl.1 rfl (lv_room (Nat.le_of_ble_eq_true rfl)) d_MO_isUntaken_2 ⟨Nat.le_of_ble_eq_true rfl, Nat.le_of_ble_eq_true rfl⟩)) (fun r_2 w_2 => ?_)
  subst w_2
  refine lv_if_eq (tgt := 21) hx hb d_MO_isUntaken_5 (by decide) (fun c_5 => ?_) (fun c_5 => ?_)
  · skip
    refine lv_iconst (v := 0) hx hb d_MO_isUntaken_21 (by decide) ?_
    exact W.zret (v := 0) hx hb hr rfl (fun t ht hW => ⟨0, rfl, by simp only [unF, if_pos c_5], ht⟩) (fun q h => absurd h List.not_mem_nil) d_MO_isUntaken_22
  · skip
    refine lv_aload_n hx hb d_MO_isUntaken_8 rfl (lv_at hl 0 rfl) ?_
    refine va_get (D := (dC, dI)) (ci := 3) (v := .ref gTk) (C := R_MO) (T := F_MO) (N := 22) hx hb hG i_MO hown hK hP 0 rfl rfl 11 (by decide) (hG _ vq_t488) (fun _ h9 => h9) rfl d_MO_isUntaken_9 ?_
    refine lv_iload_n hx hb d_MO_isUntaken_12 rfl (lv_at hl 1 rfl) ?_
    refine va_iald (D := (dC, dI)) hx hb hK hP 1 0 rfl rfl (vq_inE (inF_P hn h4 c_5)) d_MO_isUntaken_13 ?_
    refine lv_if_ne (tgt := 21) hx hb d_MO_isUntaken_14 (by decide) (fun c_14 => ?_) (fun c_14 => ?_)
    · skip
      refine lv_iconst (v := 0) hx hb d_MO_isUntaken_21 (by decide) ?_
      exact W.zret (v := 0) hx hb hr rfl (fun t ht hW => ⟨0, rfl, by simp only [unF, if_neg c_5, if_neg c_14], ht⟩) (fun q h => absurd h List.not_mem_nil) d_MO_isUntaken_22
    · skip
      refine lv_iconst (v := 1) hx hb d_MO_isUntaken_17 (by decide) ?_
      refine lv_goto (tgt := 22) hx hb d_MO_isUntaken_18 (by decide) ?_
      exact W.zret (v := 1) hx hb hr rfl (fun t ht hW => ⟨1, rfl, by simp only [unF, if_neg c_5, if_pos c_14], ht⟩) (fun q h => absurd h List.not_mem_nil) d_MO_isUntaken_22
