set_option maxHeartbeats 4000000 in
set_option maxRecDepth 100000 in
/-- law.moisture, where it goes through -/
theorem h_moisture_n (l : Launch) (hlT : l.stackTraces = false) (dC : Nat → ClassId) (dI : Nat → Nat → Nat) (cs : Nat → ClassId) (sz : Nat) (h0 : Nat) (aMo : Nat) (aSh : Nat) (aLa : Nat) (aDy : Nat) (aMa : Nat) (aKi : Nat) (aPi : Nat) (aLn : Nat) (zCn : Int32) (zPc : Int32) (zTo : Int32) (fMo : Nat → Int32) (x : Int32) (y : Int32) (hX : X_moisture x y = none) : vx_Met l y_LW_moisture w_LW_moisture ({ frames := 8, cells := 2, slots := 12, locals := 126 }) (vq_Pre (dC, dI) cs [(h0, .inr (0, [.ref aMo, .ref aSh, .ref aLa, .ref aDy, .ref aMa, .ref aKi, .int zCn, .ref aPi, .int zPc, .ref aLn, .int zTo])), (aMo, .inl ((cs 0), 8, .inl fMo))] sz [.ref h0, .int x, .int y]) (va_Qi (fun (r : Int32) (_ : Unit) => r = 0) (vq_B (dC, dI) cs (va_A [(h0, .inr (0, [.ref aMo, .ref aSh, .ref aLa, .ref aDy, .ref aMa, .ref aKi, .int zCn, .ref aPi, .int zPc, .ref aLn, .int zTo])), (aMo, .inl ((cs 0), 8, .inl fMo))] sz) (fun _ => [(h0, .inr (0, [.ref aMo, .ref aSh, .ref aLa, .ref aDy, .ref aMa, .ref aKi, .int zCn, .ref aPi, .int zPc, .ref aLn, .int zTo])), (aMo, .inl ((cs 0), 8, .inl (upd fMo x.toNatClampNeg y)))])) (va_A [(h0, .inr (0, [.ref aMo, .ref aSh, .ref aLa, .ref aDy, .ref aMa, .ref aKi, .int zCn, .ref aPi, .int zPc, .ref aLn, .int zTo])), (aMo, .inl ((cs 0), 8, .inl fMo))] sz)) (vq_X (fun E => False) sz) 2 12 (va_A [(h0, .inr (0, [.ref aMo, .ref aSh, .ref aLa, .ref aDy, .ref aMa, .ref aKi, .int zCn, .ref aPi, .int zPc, .ref aLn, .int zTo])), (aMo, .inl ((cs 0), 8, .inl fMo))] sz) := by
  refine vx_ofWH (cc := b_LW_moisture) (maxL := 4) (ret := (some .int)) (hh := [(0, 6, 9, 13), (0, 6, 12, 15)]) (by decide) rfl ?_
  intro p e s m args below meth c s₁ B hml hv
  have htab : c.exceptionTable.toList = tableOf [(0, 6, 9, 13), (0, 6, 12, 15)] := vx_table (x := y_LW_moisture) B (atoms_spec (ws := w_LW_moisture) B.pre _ List.mem_cons_self)
  obtain ⟨rfl, hsz, hP, hD0, hCx⟩ := hv
  have hx := B.exec
  have hb := B.bytes
  have hr := B.returns
  have hG := vq_hG (atoms_spec (ws := w_LW_moisture) B.pre)
  have hown : s.vm.findClass R_LW = some m.cls := findClass_of_methodNamed B.named
  have hlocks := B.notSynchronized
  subst hsz
  have hK := hCx.1
  have hD := hD0.self (sz := s.heap.size)
  generalize hAe : va_A [(h0, .inr (0, [.ref aMo, .ref aSh, .ref aLa, .ref aDy, .ref aMa, .ref aKi, .int zCn, .ref aPi, .int zPc, .ref aLn, .int zTo])), (aMo, .inl ((cs 0), 8, .inl fMo))] s.heap.size = A at hD hCx ⊢
  have hA : ∀ q : Nat, s.heap.size ≤ q → A q := fun q h => by rw [← hAe]; exact Or.inr h
  have hA0 : ∀ q : Nat, s.heap.size ≤ q → va_A [] s.heap.size q := fun q h => Or.inr h
  have hS : va_S (va_A [] s.heap.size) s.heap s.heap [] := va_S.rf
  have hl := lv_entry ([.ref h0, .int x, .int y]) (n := 4) (Nat.le_of_ble_eq_true rfl)
  rw [lg_entry_eq]
  generalize (lg_sl ([.ref h0, .int x, .int y]) ++ List.replicate (4 - (lg_sl ([.ref h0, .int x, .int y])).length) Slot.unset).toArray = ls at hl ⊢
  have hl : lv_has ls 4 [(0, .ref h0), (1, .int x), (2, .int y)] := hl
  have hP : va_P (dC, dI) vq_cl [(h0, .inr (0, [.ref aMo, .ref aSh, .ref aLa, .ref aDy, .ref aMa, .ref aKi, .int zCn, .ref aPi, .int zPc, .ref aLn, .int zTo])), (aMo, .inl ((cs 0), 8, .inl fMo))] s.heap := hP
  refine lv_aload_n hx hb d_LW_moisture_0 rfl (lv_at hl 0 rfl) ?_
  refine lv_iload_n hx hb d_LW_moisture_1 rfl (lv_at hl 1 rfl) ?_
  refine lv_iload_n hx hb d_LW_moisture_2 rfl (lv_at hl 2 rfl) ?_
  have hS := vq_wk hS hA
  refine mx_wv (vx_runV (As := [.int x, .int y]) (rest := []) ⟨hx, hb, hml, hown, hG⟩ (c_moisture l hlT dC dI cs _ h0 aMo aSh aLa aDy aMa aKi aPi aLn zCn zPc zTo fMo x y) (cwV 2 hG (vq_gV vq_t139 vq_t140 vq_t141 vq_t1 vq_t142) rfl rfl rfl (by decide +kernel) ⟨Nat.le_of_ble_eq_true rfl, Nat.le_of_ble_eq_true rfl⟩) (vq_preVw (wc := [(h0, .inr (0, [.ref aMo, .ref aSh, .ref aLa, .ref aDy, .ref aMa, .ref aKi, .int zCn, .ref aPi, .int zPc, .ref aLn, .int zTo])), (aMo, .inl ((cs 0), 8, .inl fMo))]) (va_recv hK hP (ci := 0) (q0 := 0) rfl rfl) hCx hP hD hS hA [0, 1] rfl rfl (by decide)) rfl rfl hl.1 rfl (lv_room (Nat.le_of_ble_eq_true rfl)) d_LW_moisture_3 ⟨Nat.le_of_ble_eq_true rfl, Nat.le_of_ble_eq_true rfl⟩) hP hD hS hA [0, 1] [] rfl rfl (by decide) (by decide) (fun E ce q9 H locs x_3 hP hS h91 h92 h93 => absurd (hX.symm.trans x_3) (fun h => nomatch h)) (fun _ H locs w_3 hP hD hS => ?_)
  have hP : va_P (dC, dI) vq_cl [(h0, .inr (0, [.ref aMo, .ref aSh, .ref aLa, .ref aDy, .ref aMa, .ref aKi, .int zCn, .ref aPi, .int zPc, .ref aLn, .int zTo])), (aMo, .inl ((cs 0), 8, .inl (upd fMo x.toNatClampNeg y)))] H := hP
  have hD : va_D A [(h0, .inr (0, [.ref aMo, .ref aSh, .ref aLa, .ref aDy, .ref aMa, .ref aKi, .int zCn, .ref aPi, .int zPc, .ref aLn, .int zTo])), (aMo, .inl ((cs 0), 8, .inl (upd fMo x.toNatClampNeg y)))] := hD
  refine W.widen (k := 2) (n := 12) (Nat.le_of_ble_eq_true rfl) (Nat.le_of_ble_eq_true rfl) ?_
  refine lv_goto (tgt := 15) hx hb d_LW_moisture_6 (by decide) ?_
  refine lv_iconst (v := 0) hx hb d_LW_moisture_15 (by decide) ?_
  refine vx_ret ?_
  refine W.widen (k := 2) (n := 12) (Nat.le_of_ble_eq_true rfl) (Nat.le_of_ble_eq_true rfl) ?_
  have hP9 : va_P (dC, dI) vq_cl [(h0, .inr (0, [.ref aMo, .ref aSh, .ref aLa, .ref aDy, .ref aMa, .ref aKi, .int zCn, .ref aPi, .int zPc, .ref aLn, .int zTo])), (aMo, .inl ((cs 0), 8, .inl (upd fMo x.toNatClampNeg y)))] _ := hP.sub [0, 1] rfl
  have hD9 : va_D A [(h0, .inr (0, [.ref aMo, .ref aSh, .ref aLa, .ref aDy, .ref aMa, .ref aKi, .int zCn, .ref aPi, .int zPc, .ref aLn, .int zTo])), (aMo, .inl ((cs 0), 8, .inl (upd fMo x.toNatClampNeg y)))] := hD.sub [0, 1] (by decide) rfl
  exact W.iret (v := 0) hx hb hr (fun t ht hW => ⟨⟨0, (), rfl, rfl, ⟨by rw [ht]; exact hP9, hD9⟩⟩, hS.F ht⟩) hS.2.2 d_LW_moisture_16
set_option maxHeartbeats 4000000 in
set_option maxRecDepth 100000 in
/-- law.moisture, where it is refused -/
theorem h_moisture_s (l : Launch) (hlT : l.stackTraces = false) (dC : Nat → ClassId) (dI : Nat → Nat → Nat) (cs : Nat → ClassId) (sz : Nat) (h0 : Nat) (aMo : Nat) (aSh : Nat) (aLa : Nat) (aDy : Nat) (aMa : Nat) (aKi : Nat) (aPi : Nat) (aLn : Nat) (zCn : Int32) (zPc : Int32) (zTo : Int32) (fMo : Nat → Int32) (x : Int32) (y : Int32) (E0 : String) (hX : X_moisture x y = some E0) (hE : E0 = xI ∨ E0 = xA) : vx_Met l y_LW_moisture w_LW_moisture ({ frames := 8, cells := 2, slots := 12, locals := 126 }) (vq_Pre (dC, dI) cs [(h0, .inr (0, [.ref aMo, .ref aSh, .ref aLa, .ref aDy, .ref aMa, .ref aKi, .int zCn, .ref aPi, .int zPc, .ref aLn, .int zTo])), (aMo, .inl ((cs 0), 8, .inl fMo))] sz [.ref h0, .int x, .int y]) (va_Qi (fun (r : Int32) (_ : Unit) => r = cdF [xI, xA] E0) (vq_B (dC, dI) cs (va_A [(h0, .inr (0, [.ref aMo, .ref aSh, .ref aLa, .ref aDy, .ref aMa, .ref aKi, .int zCn, .ref aPi, .int zPc, .ref aLn, .int zTo])), (aMo, .inl ((cs 0), 8, .inl fMo))] sz) (fun _ => [(h0, .inr (0, [.ref aMo, .ref aSh, .ref aLa, .ref aDy, .ref aMa, .ref aKi, .int zCn, .ref aPi, .int zPc, .ref aLn, .int zTo])), (aMo, .inl ((cs 0), 8, .inl fMo))])) (va_A [(h0, .inr (0, [.ref aMo, .ref aSh, .ref aLa, .ref aDy, .ref aMa, .ref aKi, .int zCn, .ref aPi, .int zPc, .ref aLn, .int zTo])), (aMo, .inl ((cs 0), 8, .inl fMo))] sz)) (vq_X (fun E => False) sz) 2 12 (va_A [(h0, .inr (0, [.ref aMo, .ref aSh, .ref aLa, .ref aDy, .ref aMa, .ref aKi, .int zCn, .ref aPi, .int zPc, .ref aLn, .int zTo])), (aMo, .inl ((cs 0), 8, .inl fMo))] sz) := by
  refine vx_ofWH (cc := b_LW_moisture) (maxL := 4) (ret := (some .int)) (hh := [(0, 6, 9, 13), (0, 6, 12, 15)]) (by decide) rfl ?_
  intro p e s m args below meth c s₁ B hml hv
  have htab : c.exceptionTable.toList = tableOf [(0, 6, 9, 13), (0, 6, 12, 15)] := vx_table (x := y_LW_moisture) B (atoms_spec (ws := w_LW_moisture) B.pre _ List.mem_cons_self)
  obtain ⟨rfl, hsz, hP, hD0, hCx⟩ := hv
  have hx := B.exec
  have hb := B.bytes
  have hr := B.returns
  have hG := vq_hG (atoms_spec (ws := w_LW_moisture) B.pre)
  have hown : s.vm.findClass R_LW = some m.cls := findClass_of_methodNamed B.named
  have hlocks := B.notSynchronized
  subst hsz
  have hK := hCx.1
  have hD := hD0.self (sz := s.heap.size)
  generalize hAe : va_A [(h0, .inr (0, [.ref aMo, .ref aSh, .ref aLa, .ref aDy, .ref aMa, .ref aKi, .int zCn, .ref aPi, .int zPc, .ref aLn, .int zTo])), (aMo, .inl ((cs 0), 8, .inl fMo))] s.heap.size = A at hD hCx ⊢
  have hA : ∀ q : Nat, s.heap.size ≤ q → A q := fun q h => by rw [← hAe]; exact Or.inr h
  have hA0 : ∀ q : Nat, s.heap.size ≤ q → va_A [] s.heap.size q := fun q h => Or.inr h
  have hS : va_S (va_A [] s.heap.size) s.heap s.heap [] := va_S.rf
  have hl := lv_entry ([.ref h0, .int x, .int y]) (n := 4) (Nat.le_of_ble_eq_true rfl)
  rw [lg_entry_eq]
  generalize (lg_sl ([.ref h0, .int x, .int y]) ++ List.replicate (4 - (lg_sl ([.ref h0, .int x, .int y])).length) Slot.unset).toArray = ls at hl ⊢
  have hl : lv_has ls 4 [(0, .ref h0), (1, .int x), (2, .int y)] := hl
  have hP : va_P (dC, dI) vq_cl [(h0, .inr (0, [.ref aMo, .ref aSh, .ref aLa, .ref aDy, .ref aMa, .ref aKi, .int zCn, .ref aPi, .int zPc, .ref aLn, .int zTo])), (aMo, .inl ((cs 0), 8, .inl fMo))] s.heap := hP
  refine lv_aload_n hx hb d_LW_moisture_0 rfl (lv_at hl 0 rfl) ?_
  refine lv_iload_n hx hb d_LW_moisture_1 rfl (lv_at hl 1 rfl) ?_
  refine lv_iload_n hx hb d_LW_moisture_2 rfl (lv_at hl 2 rfl) ?_
  have hS := vq_wk hS hA
  refine mx_wv (vx_runV (As := [.int x, .int y]) (rest := []) ⟨hx, hb, hml, hown, hG⟩ (c_moisture l hlT dC dI cs _ h0 aMo aSh aLa aDy aMa aKi aPi aLn zCn zPc zTo fMo x y) (cwV 2 hG (vq_gV vq_t139 vq_t140 vq_t141 vq_t1 vq_t142) rfl rfl rfl (by decide +kernel) ⟨Nat.le_of_ble_eq_true rfl, Nat.le_of_ble_eq_true rfl⟩) (vq_preVw (wc := [(h0, .inr (0, [.ref aMo, .ref aSh, .ref aLa, .ref aDy, .ref aMa, .ref aKi, .int zCn, .ref aPi, .int zPc, .ref aLn, .int zTo])), (aMo, .inl ((cs 0), 8, .inl fMo))]) (va_recv hK hP (ci := 0) (q0 := 0) rfl rfl) hCx hP hD hS hA [0, 1] rfl rfl (by decide)) rfl rfl hl.1 rfl (lv_room (Nat.le_of_ble_eq_true rfl)) d_LW_moisture_3 ⟨Nat.le_of_ble_eq_true rfl, Nat.le_of_ble_eq_true rfl⟩) hP hD hS hA [0, 1] [] rfl rfl (by decide) (by decide) (fun E ce q9 H locs x_3 hP hS h91 h92 h93 => ?_) (fun _ H locs w_3 hP hD hS => ?_)
  · skip
    obtain rfl := Option.some.inj (hX.symm.trans x_3)
    rcases hE with rfl | rfl
    · skip
      refine vx_catch (name := xI) hown [] ⟨0, 6, 9, 13⟩ [⟨0, 6, 12, 15⟩] htab (fun _ h => absurd h List.not_mem_nil) rfl (by decide) (hG _ vq_t137) (va_Nw.use rfl (hCx.2.2.2.2.2.1 _ (by decide))) h91 h92 h93 ?_
      refine W.eq (g2 := F0 m 9 ls [.ref q9]) rfl ?_
      refine lv_astore_n (lv' := [(3, .ref q9), (0, .ref h0), (1, .int x), (2, .int y)]) hx hb d_LW_moisture_9 rfl hl (by decide) rfl (fun ls hl => ?_)
      refine lv_iconst (v := 1) hx hb d_LW_moisture_10 (by decide) ?_
      refine vx_ret ?_
      refine W.widen (k := 2) (n := 12) (Nat.le_of_ble_eq_true rfl) (Nat.le_of_ble_eq_true rfl) ?_
      have hP9 : va_P (dC, dI) vq_cl [(h0, .inr (0, [.ref aMo, .ref aSh, .ref aLa, .ref aDy, .ref aMa, .ref aKi, .int zCn, .ref aPi, .int zPc, .ref aLn, .int zTo])), (aMo, .inl ((cs 0), 8, .inl fMo))] _ := hP.sub [0, 1] rfl
      have hD9 : va_D A [(h0, .inr (0, [.ref aMo, .ref aSh, .ref aLa, .ref aDy, .ref aMa, .ref aKi, .int zCn, .ref aPi, .int zPc, .ref aLn, .int zTo])), (aMo, .inl ((cs 0), 8, .inl fMo))] := hD.sub [0, 1] (by decide) rfl
      exact W.iret (v := 1) hx hb hr (fun t ht hW => ⟨⟨1, (), rfl, by decide +kernel, ⟨by rw [ht]; exact hP9, hD9⟩⟩, hS.F ht⟩) hS.2.2 d_LW_moisture_11
    · skip
      refine vx_catch (name := xA) hown [⟨0, 6, 9, 13⟩] ⟨0, 6, 12, 15⟩ [] htab (List.forall_mem_cons.mpr ⟨Or.inr ⟨by decide, xI, hG _ vq_t137, hCx.2.2.2.2.2.2.1 _ (by decide) _ (by decide) (by decide)⟩, fun _ h => absurd h List.not_mem_nil⟩) rfl (by decide) (hG _ vq_t138) (va_Nw.use rfl (hCx.2.2.2.2.2.1 _ (by decide))) h91 h92 h93 ?_
      refine W.eq (g2 := F0 m 12 ls [.ref q9]) rfl ?_
      refine lv_astore_n (lv' := [(3, .ref q9), (0, .ref h0), (1, .int x), (2, .int y)]) hx hb d_LW_moisture_12 rfl hl (by decide) rfl (fun ls hl => ?_)
      refine lv_iconst (v := 2) hx hb d_LW_moisture_13 (by decide) ?_
      refine vx_ret ?_
      refine W.widen (k := 2) (n := 12) (Nat.le_of_ble_eq_true rfl) (Nat.le_of_ble_eq_true rfl) ?_
      have hP9 : va_P (dC, dI) vq_cl [(h0, .inr (0, [.ref aMo, .ref aSh, .ref aLa, .ref aDy, .ref aMa, .ref aKi, .int zCn, .ref aPi, .int zPc, .ref aLn, .int zTo])), (aMo, .inl ((cs 0), 8, .inl fMo))] _ := hP.sub [0, 1] rfl
      have hD9 : va_D A [(h0, .inr (0, [.ref aMo, .ref aSh, .ref aLa, .ref aDy, .ref aMa, .ref aKi, .int zCn, .ref aPi, .int zPc, .ref aLn, .int zTo])), (aMo, .inl ((cs 0), 8, .inl fMo))] := hD.sub [0, 1] (by decide) rfl
      exact W.iret (v := 2) hx hb hr (fun t ht hW => ⟨⟨2, (), rfl, by decide +kernel, ⟨by rw [ht]; exact hP9, hD9⟩⟩, hS.F ht⟩) hS.2.2 d_LW_moisture_14
  have hP : va_P (dC, dI) vq_cl [(h0, .inr (0, [.ref aMo, .ref aSh, .ref aLa, .ref aDy, .ref aMa, .ref aKi, .int zCn, .ref aPi, .int zPc, .ref aLn, .int zTo])), (aMo, .inl ((cs 0), 8, .inl (upd fMo x.toNatClampNeg y)))] H := hP
  have hD : va_D A [(h0, .inr (0, [.ref aMo, .ref aSh, .ref aLa, .ref aDy, .ref aMa, .ref aKi, .int zCn, .ref aPi, .int zPc, .ref aLn, .int zTo])), (aMo, .inl ((cs 0), 8, .inl (upd fMo x.toNatClampNeg y)))] := hD
  exact absurd (hX.symm.trans w_3) (fun h => nomatch h)
set_option maxHeartbeats 4000000 in
set_option maxRecDepth 100000 in
/-- law.element, where it goes through -/
theorem h_element_n (l : Launch) (hlT : l.stackTraces = false) (dC : Nat → ClassId) (dI : Nat → Nat → Nat) (cs : Nat → ClassId) (sz : Nat) (h0 : Nat) (aMo : Nat) (aSh : Nat) (aLa : Nat) (aDy : Nat) (aMa : Nat) (aKi : Nat) (aPi : Nat) (aLn : Nat) (zCn : Int32) (zPc : Int32) (zTo : Int32) (fSh : Nat → Int32) (x : Int32) (k : Int32) (y : Int32) (hX : X_element x k y = none) : vx_Met l y_LW_element w_LW_element ({ frames := 8, cells := 3, slots := 18, locals := 127 }) (vq_Pre (dC, dI) cs [(h0, .inr (0, [.ref aMo, .ref aSh, .ref aLa, .ref aDy, .ref aMa, .ref aKi, .int zCn, .ref aPi, .int zPc, .ref aLn, .int zTo])), (aSh, .inl ((cs 0), 32, .inl fSh))] sz [.ref h0, .int x, .int k, .int y]) (va_Qi (fun (r : Int32) (_ : Unit) => r = 0) (vq_B (dC, dI) cs (va_A [(h0, .inr (0, [.ref aMo, .ref aSh, .ref aLa, .ref aDy, .ref aMa, .ref aKi, .int zCn, .ref aPi, .int zPc, .ref aLn, .int zTo])), (aSh, .inl ((cs 0), 32, .inl fSh))] sz) (fun _ => [(h0, .inr (0, [.ref aMo, .ref aSh, .ref aLa, .ref aDy, .ref aMa, .ref aKi, .int zCn, .ref aPi, .int zPc, .ref aLn, .int zTo])), (aSh, .inl ((cs 0), 32, .inl (upd fSh ((x * 4) + k).toNatClampNeg y)))])) (va_A [(h0, .inr (0, [.ref aMo, .ref aSh, .ref aLa, .ref aDy, .ref aMa, .ref aKi, .int zCn, .ref aPi, .int zPc, .ref aLn, .int zTo])), (aSh, .inl ((cs 0), 32, .inl fSh))] sz)) (vq_X (fun E => False) sz) 3 18 (va_A [(h0, .inr (0, [.ref aMo, .ref aSh, .ref aLa, .ref aDy, .ref aMa, .ref aKi, .int zCn, .ref aPi, .int zPc, .ref aLn, .int zTo])), (aSh, .inl ((cs 0), 32, .inl fSh))] sz) := by
  refine vx_ofWH (cc := b_LW_element) (maxL := 5) (ret := (some .int)) (hh := [(0, 7, 10, 13), (0, 7, 14, 15)]) (by decide) rfl ?_
  intro p e s m args below meth c s₁ B hml hv
  have htab : c.exceptionTable.toList = tableOf [(0, 7, 10, 13), (0, 7, 14, 15)] := vx_table (x := y_LW_element) B (atoms_spec (ws := w_LW_element) B.pre _ List.mem_cons_self)
  obtain ⟨rfl, hsz, hP, hD0, hCx⟩ := hv
  have hx := B.exec
  have hb := B.bytes
  have hr := B.returns
  have hG := vq_hG (atoms_spec (ws := w_LW_element) B.pre)
  have hown : s.vm.findClass R_LW = some m.cls := findClass_of_methodNamed B.named
  have hlocks := B.notSynchronized
  subst hsz
  have hK := hCx.1
  have hD := hD0.self (sz := s.heap.size)
  generalize hAe : va_A [(h0, .inr (0, [.ref aMo, .ref aSh, .ref aLa, .ref aDy, .ref aMa, .ref aKi, .int zCn, .ref aPi, .int zPc, .ref aLn, .int zTo])), (aSh, .inl ((cs 0), 32, .inl fSh))] s.heap.size = A at hD hCx ⊢
  have hA : ∀ q : Nat, s.heap.size ≤ q → A q := fun q h => by rw [← hAe]; exact Or.inr h
  have hA0 : ∀ q : Nat, s.heap.size ≤ q → va_A [] s.heap.size q := fun q h => Or.inr h
  have hS : va_S (va_A [] s.heap.size) s.heap s.heap [] := va_S.rf
  have hl := lv_entry ([.ref h0, .int x, .int k, .int y]) (n := 5) (Nat.le_of_ble_eq_true rfl)
  rw [lg_entry_eq]
  generalize (lg_sl ([.ref h0, .int x, .int k, .int y]) ++ List.replicate (5 - (lg_sl ([.ref h0, .int x, .int k, .int y])).length) Slot.unset).toArray = ls at hl ⊢
  have hl : lv_has ls 5 [(0, .ref h0), (1, .int x), (2, .int k), (3, .int y)] := hl
  have hP : va_P (dC, dI) vq_cl [(h0, .inr (0, [.ref aMo, .ref aSh, .ref aLa, .ref aDy, .ref aMa, .ref aKi, .int zCn, .ref aPi, .int zPc, .ref aLn, .int zTo])), (aSh, .inl ((cs 0), 32, .inl fSh))] s.heap := hP
  refine lv_aload_n hx hb d_LW_element_0 rfl (lv_at hl 0 rfl) ?_
  refine lv_iload_n hx hb d_LW_element_1 rfl (lv_at hl 1 rfl) ?_
  refine lv_iload_n hx hb d_LW_element_2 rfl (lv_at hl 2 rfl) ?_
  refine lv_iload_n hx hb d_LW_element_3 rfl (lv_at hl 3 rfl) ?_
  have hS := vq_wk hS hA
  refine mx_wv (vx_runV (As := [.int x, .int k, .int y]) (rest := []) ⟨hx, hb, hml, hown, hG⟩ (c_element l hlT dC dI cs _ h0 aMo aSh aLa aDy aMa aKi aPi aLn zCn zPc zTo fSh x k y) (cwV 3 hG (vq_gV vq_t237 vq_t238 vq_t239 vq_t1 vq_t240) rfl rfl rfl (by decide +kernel) ⟨Nat.le_of_ble_eq_true rfl, Nat.le_of_ble_eq_true rfl⟩) (vq_preVw (wc := [(h0, .inr (0, [.ref aMo, .ref aSh, .ref aLa, .ref aDy, .ref aMa, .ref aKi, .int zCn, .ref aPi, .int zPc, .ref aLn, .int zTo])), (aSh, .inl ((cs 0), 32, .inl fSh))]) (va_recv hK hP (ci := 0) (q0 := 0) rfl rfl) hCx hP hD hS hA [0, 1] rfl rfl (by decide)) rfl rfl hl.1 rfl (lv_room (Nat.le_of_ble_eq_true rfl)) d_LW_element_4 ⟨Nat.le_of_ble_eq_true rfl, Nat.le_of_ble_eq_true rfl⟩) hP hD hS hA [0, 1] [] rfl rfl (by decide) (by decide) (fun E ce q9 H locs x_4 hP hS h91 h92 h93 => absurd (hX.symm.trans x_4) (fun h => nomatch h)) (fun _ H locs w_4 hP hD hS => ?_)
  have hP : va_P (dC, dI) vq_cl [(h0, .inr (0, [.ref aMo, .ref aSh, .ref aLa, .ref aDy, .ref aMa, .ref aKi, .int zCn, .ref aPi, .int zPc, .ref aLn, .int zTo])), (aSh, .inl ((cs 0), 32, .inl (upd fSh ((x * 4) + k).toNatClampNeg y)))] H := hP
  have hD : va_D A [(h0, .inr (0, [.ref aMo, .ref aSh, .ref aLa, .ref aDy, .ref aMa, .ref aKi, .int zCn, .ref aPi, .int zPc, .ref aLn, .int zTo])), (aSh, .inl ((cs 0), 32, .inl (upd fSh ((x * 4) + k).toNatClampNeg y)))] := hD
  refine W.widen (k := 3) (n := 18) (Nat.le_of_ble_eq_true rfl) (Nat.le_of_ble_eq_true rfl) ?_
  refine lv_goto (tgt := 18) hx hb d_LW_element_7 (by decide) ?_
  refine lv_iconst (v := 0) hx hb d_LW_element_18 (by decide) ?_
  refine vx_ret ?_
  refine W.widen (k := 3) (n := 18) (Nat.le_of_ble_eq_true rfl) (Nat.le_of_ble_eq_true rfl) ?_
  have hP9 : va_P (dC, dI) vq_cl [(h0, .inr (0, [.ref aMo, .ref aSh, .ref aLa, .ref aDy, .ref aMa, .ref aKi, .int zCn, .ref aPi, .int zPc, .ref aLn, .int zTo])), (aSh, .inl ((cs 0), 32, .inl (upd fSh ((x * 4) + k).toNatClampNeg y)))] _ := hP.sub [0, 1] rfl
  have hD9 : va_D A [(h0, .inr (0, [.ref aMo, .ref aSh, .ref aLa, .ref aDy, .ref aMa, .ref aKi, .int zCn, .ref aPi, .int zPc, .ref aLn, .int zTo])), (aSh, .inl ((cs 0), 32, .inl (upd fSh ((x * 4) + k).toNatClampNeg y)))] := hD.sub [0, 1] (by decide) rfl
  exact W.iret (v := 0) hx hb hr (fun t ht hW => ⟨⟨0, (), rfl, rfl, ⟨by rw [ht]; exact hP9, hD9⟩⟩, hS.F ht⟩) hS.2.2 d_LW_element_19
set_option maxHeartbeats 4000000 in
set_option maxRecDepth 100000 in
/-- law.element, where it is refused -/
theorem h_element_s (l : Launch) (hlT : l.stackTraces = false) (dC : Nat → ClassId) (dI : Nat → Nat → Nat) (cs : Nat → ClassId) (sz : Nat) (h0 : Nat) (aMo : Nat) (aSh : Nat) (aLa : Nat) (aDy : Nat) (aMa : Nat) (aKi : Nat) (aPi : Nat) (aLn : Nat) (zCn : Int32) (zPc : Int32) (zTo : Int32) (fSh : Nat → Int32) (x : Int32) (k : Int32) (y : Int32) (E0 : String) (hX : X_element x k y = some E0) (hE : E0 = xI ∨ E0 = xA) : vx_Met l y_LW_element w_LW_element ({ frames := 8, cells := 3, slots := 18, locals := 127 }) (vq_Pre (dC, dI) cs [(h0, .inr (0, [.ref aMo, .ref aSh, .ref aLa, .ref aDy, .ref aMa, .ref aKi, .int zCn, .ref aPi, .int zPc, .ref aLn, .int zTo])), (aSh, .inl ((cs 0), 32, .inl fSh))] sz [.ref h0, .int x, .int k, .int y]) (va_Qi (fun (r : Int32) (_ : Unit) => r = cdF [xI, xA] E0) (vq_B (dC, dI) cs (va_A [(h0, .inr (0, [.ref aMo, .ref aSh, .ref aLa, .ref aDy, .ref aMa, .ref aKi, .int zCn, .ref aPi, .int zPc, .ref aLn, .int zTo])), (aSh, .inl ((cs 0), 32, .inl fSh))] sz) (fun _ => [(h0, .inr (0, [.ref aMo, .ref aSh, .ref aLa, .ref aDy, .ref aMa, .ref aKi, .int zCn, .ref aPi, .int zPc, .ref aLn, .int zTo])), (aSh, .inl ((cs 0), 32, .inl fSh))])) (va_A [(h0, .inr (0, [.ref aMo, .ref aSh, .ref aLa, .ref aDy, .ref aMa, .ref aKi, .int zCn, .ref aPi, .int zPc, .ref aLn, .int zTo])), (aSh, .inl ((cs 0), 32, .inl fSh))] sz)) (vq_X (fun E => False) sz) 3 18 (va_A [(h0, .inr (0, [.ref aMo, .ref aSh, .ref aLa, .ref aDy, .ref aMa, .ref aKi, .int zCn, .ref aPi, .int zPc, .ref aLn, .int zTo])), (aSh, .inl ((cs 0), 32, .inl fSh))] sz) := by
  refine vx_ofWH (cc := b_LW_element) (maxL := 5) (ret := (some .int)) (hh := [(0, 7, 10, 13), (0, 7, 14, 15)]) (by decide) rfl ?_
  intro p e s m args below meth c s₁ B hml hv
  have htab : c.exceptionTable.toList = tableOf [(0, 7, 10, 13), (0, 7, 14, 15)] := vx_table (x := y_LW_element) B (atoms_spec (ws := w_LW_element) B.pre _ List.mem_cons_self)
  obtain ⟨rfl, hsz, hP, hD0, hCx⟩ := hv
  have hx := B.exec
  have hb := B.bytes
  have hr := B.returns
  have hG := vq_hG (atoms_spec (ws := w_LW_element) B.pre)
  have hown : s.vm.findClass R_LW = some m.cls := findClass_of_methodNamed B.named
  have hlocks := B.notSynchronized
  subst hsz
  have hK := hCx.1
  have hD := hD0.self (sz := s.heap.size)
  generalize hAe : va_A [(h0, .inr (0, [.ref aMo, .ref aSh, .ref aLa, .ref aDy, .ref aMa, .ref aKi, .int zCn, .ref aPi, .int zPc, .ref aLn, .int zTo])), (aSh, .inl ((cs 0), 32, .inl fSh))] s.heap.size = A at hD hCx ⊢
  have hA : ∀ q : Nat, s.heap.size ≤ q → A q := fun q h => by rw [← hAe]; exact Or.inr h
  have hA0 : ∀ q : Nat, s.heap.size ≤ q → va_A [] s.heap.size q := fun q h => Or.inr h
  have hS : va_S (va_A [] s.heap.size) s.heap s.heap [] := va_S.rf
  have hl := lv_entry ([.ref h0, .int x, .int k, .int y]) (n := 5) (Nat.le_of_ble_eq_true rfl)
  rw [lg_entry_eq]
  generalize (lg_sl ([.ref h0, .int x, .int k, .int y]) ++ List.replicate (5 - (lg_sl ([.ref h0, .int x, .int k, .int y])).length) Slot.unset).toArray = ls at hl ⊢
  have hl : lv_has ls 5 [(0, .ref h0), (1, .int x), (2, .int k), (3, .int y)] := hl
  have hP : va_P (dC, dI) vq_cl [(h0, .inr (0, [.ref aMo, .ref aSh, .ref aLa, .ref aDy, .ref aMa, .ref aKi, .int zCn, .ref aPi, .int zPc, .ref aLn, .int zTo])), (aSh, .inl ((cs 0), 32, .inl fSh))] s.heap := hP
  refine lv_aload_n hx hb d_LW_element_0 rfl (lv_at hl 0 rfl) ?_
  refine lv_iload_n hx hb d_LW_element_1 rfl (lv_at hl 1 rfl) ?_
  refine lv_iload_n hx hb d_LW_element_2 rfl (lv_at hl 2 rfl) ?_
  refine lv_iload_n hx hb d_LW_element_3 rfl (lv_at hl 3 rfl) ?_
  have hS := vq_wk hS hA
  refine mx_wv (vx_runV (As := [.int x, .int k, .int y]) (rest := []) ⟨hx, hb, hml, hown, hG⟩ (c_element l hlT dC dI cs _ h0 aMo aSh aLa aDy aMa aKi aPi aLn zCn zPc zTo fSh x k y) (cwV 3 hG (vq_gV vq_t237 vq_t238 vq_t239 vq_t1 vq_t240) rfl rfl rfl (by decide +kernel) ⟨Nat.le_of_ble_eq_true rfl, Nat.le_of_ble_eq_true rfl⟩) (vq_preVw (wc := [(h0, .inr (0, [.ref aMo, .ref aSh, .ref aLa, .ref aDy, .ref aMa, .ref aKi, .int zCn, .ref aPi, .int zPc, .ref aLn, .int zTo])), (aSh, .inl ((cs 0), 32, .inl fSh))]) (va_recv hK hP (ci := 0) (q0 := 0) rfl rfl) hCx hP hD hS hA [0, 1] rfl rfl (by decide)) rfl rfl hl.1 rfl (lv_room (Nat.le_of_ble_eq_true rfl)) d_LW_element_4 ⟨Nat.le_of_ble_eq_true rfl, Nat.le_of_ble_eq_true rfl⟩) hP hD hS hA [0, 1] [] rfl rfl (by decide) (by decide) (fun E ce q9 H locs x_4 hP hS h91 h92 h93 => ?_) (fun _ H locs w_4 hP hD hS => ?_)
  · skip
    obtain rfl := Option.some.inj (hX.symm.trans x_4)
    rcases hE with rfl | rfl
    · skip
      refine vx_catch (name := xI) hown [] ⟨0, 7, 10, 13⟩ [⟨0, 7, 14, 15⟩] htab (fun _ h => absurd h List.not_mem_nil) rfl (by decide) (hG _ vq_t137) (va_Nw.use rfl (hCx.2.2.2.2.2.1 _ (by decide))) h91 h92 h93 ?_
      refine W.eq (g2 := F0 m 10 ls [.ref q9]) rfl ?_
      refine lv_astore (lv' := [(4, .ref q9), (0, .ref h0), (1, .int x), (2, .int k), (3, .int y)]) hx hb d_LW_element_10 hl (by decide) rfl (fun ls hl => ?_)
      refine lv_iconst (v := 1) hx hb d_LW_element_12 (by decide) ?_
      refine vx_ret ?_
      refine W.widen (k := 3) (n := 18) (Nat.le_of_ble_eq_true rfl) (Nat.le_of_ble_eq_true rfl) ?_
      have hP9 : va_P (dC, dI) vq_cl [(h0, .inr (0, [.ref aMo, .ref aSh, .ref aLa, .ref aDy, .ref aMa, .ref aKi, .int zCn, .ref aPi, .int zPc, .ref aLn, .int zTo])), (aSh, .inl ((cs 0), 32, .inl fSh))] _ := hP.sub [0, 1] rfl
      have hD9 : va_D A [(h0, .inr (0, [.ref aMo, .ref aSh, .ref aLa, .ref aDy, .ref aMa, .ref aKi, .int zCn, .ref aPi, .int zPc, .ref aLn, .int zTo])), (aSh, .inl ((cs 0), 32, .inl fSh))] := hD.sub [0, 1] (by decide) rfl
      exact W.iret (v := 1) hx hb hr (fun t ht hW => ⟨⟨1, (), rfl, by decide +kernel, ⟨by rw [ht]; exact hP9, hD9⟩⟩, hS.F ht⟩) hS.2.2 d_LW_element_13
    · skip
      refine vx_catch (name := xA) hown [⟨0, 7, 10, 13⟩] ⟨0, 7, 14, 15⟩ [] htab (List.forall_mem_cons.mpr ⟨Or.inr ⟨by decide, xI, hG _ vq_t137, hCx.2.2.2.2.2.2.1 _ (by decide) _ (by decide) (by decide)⟩, fun _ h => absurd h List.not_mem_nil⟩) rfl (by decide) (hG _ vq_t138) (va_Nw.use rfl (hCx.2.2.2.2.2.1 _ (by decide))) h91 h92 h93 ?_
      refine W.eq (g2 := F0 m 14 ls [.ref q9]) rfl ?_
      refine lv_astore (lv' := [(4, .ref q9), (0, .ref h0), (1, .int x), (2, .int k), (3, .int y)]) hx hb d_LW_element_14 hl (by decide) rfl (fun ls hl => ?_)
      refine lv_iconst (v := 2) hx hb d_LW_element_16 (by decide) ?_
      refine vx_ret ?_
      refine W.widen (k := 3) (n := 18) (Nat.le_of_ble_eq_true rfl) (Nat.le_of_ble_eq_true rfl) ?_
      have hP9 : va_P (dC, dI) vq_cl [(h0, .inr (0, [.ref aMo, .ref aSh, .ref aLa, .ref aDy, .ref aMa, .ref aKi, .int zCn, .ref aPi, .int zPc, .ref aLn, .int zTo])), (aSh, .inl ((cs 0), 32, .inl fSh))] _ := hP.sub [0, 1] rfl
      have hD9 : va_D A [(h0, .inr (0, [.ref aMo, .ref aSh, .ref aLa, .ref aDy, .ref aMa, .ref aKi, .int zCn, .ref aPi, .int zPc, .ref aLn, .int zTo])), (aSh, .inl ((cs 0), 32, .inl fSh))] := hD.sub [0, 1] (by decide) rfl
      exact W.iret (v := 2) hx hb hr (fun t ht hW => ⟨⟨2, (), rfl, by decide +kernel, ⟨by rw [ht]; exact hP9, hD9⟩⟩, hS.F ht⟩) hS.2.2 d_LW_element_17
  have hP : va_P (dC, dI) vq_cl [(h0, .inr (0, [.ref aMo, .ref aSh, .ref aLa, .ref aDy, .ref aMa, .ref aKi, .int zCn, .ref aPi, .int zPc, .ref aLn, .int zTo])), (aSh, .inl ((cs 0), 32, .inl (upd fSh ((x * 4) + k).toNatClampNeg y)))] H := hP
  have hD : va_D A [(h0, .inr (0, [.ref aMo, .ref aSh, .ref aLa, .ref aDy, .ref aMa, .ref aKi, .int zCn, .ref aPi, .int zPc, .ref aLn, .int zTo])), (aSh, .inl ((cs 0), 32, .inl (upd fSh ((x * 4) + k).toNatClampNeg y)))] := hD
  exact absurd (hX.symm.trans w_4) (fun h => nomatch h)
set_option maxHeartbeats 4000000 in
set_option maxRecDepth 100000 in
/-- law.ship, where it goes through -/
theorem h_ship_n (l : Launch) (hlT : l.stackTraces = false) (dC : Nat → ClassId) (dI : Nat → Nat → Nat) (cs : Nat → ClassId) (sz : Nat) (h0 : Nat) (aMo : Nat) (aSh : Nat) (aLa : Nat) (aDy : Nat) (aMa : Nat) (aKi : Nat) (aPi : Nat) (aLn : Nat) (zCn : Int32) (zPc : Int32) (zTo : Int32) (fDy : Nat → Int32) (fMa : Nat → Int32) (fKi : Nat → Int32) (day : Int32) (x : Int32) (kg : Int32) (lo : Int32) (oa : Nat) (fO : Nat → Int64) (hn : ¬ zCn < 0) (hX : X_ship zCn zTo day x kg lo = none) : vx_Met l y_LW_ship w_LW_ship ({ frames := 8, cells := 4, slots := 24, locals := 129 }) (vq_Pre (dC, dI) cs [(h0, .inr (0, [.ref aMo, .ref aSh, .ref aLa, .ref aDy, .ref aMa, .ref aKi, .int zCn, .ref aPi, .int zPc, .ref aLn, .int zTo])), (aDy, .inl ((cs 0), 40, .inl fDy)), (aMa, .inl ((cs 0), 40, .inl fMa)), (aKi, .inl ((cs 0), 40, .inl fKi)), (oa, .inl ((cs 1), 1, .inr (.inl fO)))] sz [.ref h0, .int day, .int x, .int kg, .int lo, .ref oa]) (va_Qi (fun (r : Int32) (_ : Unit) => r = 0) (vq_B (dC, dI) cs (va_A [(h0, .inr (0, [.ref aMo, .ref aSh, .ref aLa, .ref aDy, .ref aMa, .ref aKi, .int zCn, .ref aPi, .int zPc, .ref aLn, .int zTo])), (aDy, .inl ((cs 0), 40, .inl fDy)), (aMa, .inl ((cs 0), 40, .inl fMa)), (aKi, .inl ((cs 0), 40, .inl fKi)), (oa, .inl ((cs 1), 1, .inr (.inl fO)))] sz) (fun _ => [(h0, .inr (0, [.ref aMo, .ref aSh, .ref aLa, .ref aDy, .ref aMa, .ref aKi, .int (zCn + 1), .ref aPi, .int zPc, .ref aLn, .int zTo])), (aDy, .inl ((cs 0), 40, .inl (upd fDy zCn.toNatClampNeg day))), (aMa, .inl ((cs 0), 40, .inl (upd fMa zCn.toNatClampNeg x))), (aKi, .inl ((cs 0), 40, .inl (upd fKi zCn.toNatClampNeg (kg - ((((kg * lo) + 1000) - 1) / 1000))))), (oa, .inl ((cs 1), 1, .inr (.inl (vp_updL fO (0 : Int32).toNatClampNeg zCn.toInt64))))])) (va_A [(h0, .inr (0, [.ref aMo, .ref aSh, .ref aLa, .ref aDy, .ref aMa, .ref aKi, .int zCn, .ref aPi, .int zPc, .ref aLn, .int zTo])), (aDy, .inl ((cs 0), 40, .inl fDy)), (aMa, .inl ((cs 0), 40, .inl fMa)), (aKi, .inl ((cs 0), 40, .inl fKi)), (oa, .inl ((cs 1), 1, .inr (.inl fO)))] sz)) (vq_X (fun E => False) sz) 4 24 (va_A [(h0, .inr (0, [.ref aMo, .ref aSh, .ref aLa, .ref aDy, .ref aMa, .ref aKi, .int zCn, .ref aPi, .int zPc, .ref aLn, .int zTo])), (aDy, .inl ((cs 0), 40, .inl fDy)), (aMa, .inl ((cs 0), 40, .inl fMa)), (aKi, .inl ((cs 0), 40, .inl fKi)), (oa, .inl ((cs 1), 1, .inr (.inl fO)))] sz) := by
  refine vx_ofWH (cc := b_LW_ship) (maxL := 7) (ret := (some .int)) (hh := [(0, 14, 17, 13), (0, 14, 21, 25), (0, 14, 25, 15)]) (by decide) rfl ?_
  intro p e s m args below meth c s₁ B hml hv
  have htab : c.exceptionTable.toList = tableOf [(0, 14, 17, 13), (0, 14, 21, 25), (0, 14, 25, 15)] := vx_table (x := y_LW_ship) B (atoms_spec (ws := w_LW_ship) B.pre _ List.mem_cons_self)
  obtain ⟨rfl, hsz, hP, hD0, hCx⟩ := hv
  have hx := B.exec
  have hb := B.bytes
  have hr := B.returns
  have hG := vq_hG (atoms_spec (ws := w_LW_ship) B.pre)
  have hown : s.vm.findClass R_LW = some m.cls := findClass_of_methodNamed B.named
  have hlocks := B.notSynchronized
  subst hsz
  have hK := hCx.1
  have hD := hD0.self (sz := s.heap.size)
  generalize hAe : va_A [(h0, .inr (0, [.ref aMo, .ref aSh, .ref aLa, .ref aDy, .ref aMa, .ref aKi, .int zCn, .ref aPi, .int zPc, .ref aLn, .int zTo])), (aDy, .inl ((cs 0), 40, .inl fDy)), (aMa, .inl ((cs 0), 40, .inl fMa)), (aKi, .inl ((cs 0), 40, .inl fKi)), (oa, .inl ((cs 1), 1, .inr (.inl fO)))] s.heap.size = A at hD hCx ⊢
  have hA : ∀ q : Nat, s.heap.size ≤ q → A q := fun q h => by rw [← hAe]; exact Or.inr h
  have hA0 : ∀ q : Nat, s.heap.size ≤ q → va_A [] s.heap.size q := fun q h => Or.inr h
  have hS : va_S (va_A [] s.heap.size) s.heap s.heap [] := va_S.rf
  have hl := lv_entry ([.ref h0, .int day, .int x, .int kg, .int lo, .ref oa]) (n := 7) (Nat.le_of_ble_eq_true rfl)
  rw [lg_entry_eq]
  generalize (lg_sl ([.ref h0, .int day, .int x, .int kg, .int lo, .ref oa]) ++ List.replicate (7 - (lg_sl ([.ref h0, .int day, .int x, .int kg, .int lo, .ref oa])).length) Slot.unset).toArray = ls at hl ⊢
  have hl : lv_has ls 7 [(0, .ref h0), (1, .int day), (2, .int x), (3, .int kg), (4, .int lo), (5, .ref oa)] := hl
  have hP : va_P (dC, dI) vq_cl [(h0, .inr (0, [.ref aMo, .ref aSh, .ref aLa, .ref aDy, .ref aMa, .ref aKi, .int zCn, .ref aPi, .int zPc, .ref aLn, .int zTo])), (aDy, .inl ((cs 0), 40, .inl fDy)), (aMa, .inl ((cs 0), 40, .inl fMa)), (aKi, .inl ((cs 0), 40, .inl fKi)), (oa, .inl ((cs 1), 1, .inr (.inl fO)))] s.heap := hP
  refine lv_aload hx hb d_LW_ship_0 (lv_at hl 5 rfl) ?_
  refine lv_iconst (v := 0) hx hb d_LW_ship_2 (by decide) ?_
  refine lv_aload_n hx hb d_LW_ship_3 rfl (lv_at hl 0 rfl) ?_
  refine lv_iload_n hx hb d_LW_ship_4 rfl (lv_at hl 1 rfl) ?_
  refine lv_iload_n hx hb d_LW_ship_5 rfl (lv_at hl 2 rfl) ?_
  refine lv_iload_n hx hb d_LW_ship_6 rfl (lv_at hl 3 rfl) ?_
  refine lv_iload hx hb d_LW_ship_7 (lv_at hl 4 rfl) ?_
  have hS := vq_wk hS hA
  refine mx_wi (vx_runV (As := [.int day, .int x, .int kg, .int lo]) (rest := [.int 0, .ref oa]) ⟨hx, hb, hml, hown, hG⟩ (c_ship l hlT dC dI cs _ h0 aMo aSh aLa aDy aMa aKi aPi aLn zCn zPc zTo fDy fMa fKi day x kg lo hn) (cwV 4 hG (vq_gV vq_t249 vq_t250 vq_t251 vq_t1 vq_t252) rfl rfl rfl (by decide +kernel) ⟨Nat.le_of_ble_eq_true rfl, Nat.le_of_ble_eq_true rfl⟩) (vq_preVw (wc := [(h0, .inr (0, [.ref aMo, .ref aSh, .ref aLa, .ref aDy, .ref aMa, .ref aKi, .int zCn, .ref aPi, .int zPc, .ref aLn, .int zTo])), (aDy, .inl ((cs 0), 40, .inl fDy)), (aMa, .inl ((cs 0), 40, .inl fMa)), (aKi, .inl ((cs 0), 40, .inl fKi))]) (va_recv hK hP (ci := 0) (q0 := 0) rfl rfl) hCx hP hD hS hA [0, 1, 2, 3] rfl rfl (by decide)) rfl rfl hl.1 rfl (lv_room (Nat.le_of_ble_eq_true rfl)) d_LW_ship_9 ⟨Nat.le_of_ble_eq_true rfl, Nat.le_of_ble_eq_true rfl⟩) hP hD hS hA [0, 1, 2, 3] [4] rfl rfl (by decide) (by decide) (fun E ce q9 H locs x_9 hP hS h91 h92 h93 => absurd (hX.symm.trans x_9) (fun h => nomatch h)) (fun r_9 _ H locs w_9 hP hD hS => ?_)
  have hP : va_P (dC, dI) vq_cl [(oa, .inl ((cs 1), 1, .inr (.inl fO))), (h0, .inr (0, [.ref aMo, .ref aSh, .ref aLa, .ref aDy, .ref aMa, .ref aKi, .int (zCn + 1), .ref aPi, .int zPc, .ref aLn, .int zTo])), (aDy, .inl ((cs 0), 40, .inl (upd fDy zCn.toNatClampNeg day))), (aMa, .inl ((cs 0), 40, .inl (upd fMa zCn.toNatClampNeg x))), (aKi, .inl ((cs 0), 40, .inl (upd fKi zCn.toNatClampNeg (kg - ((((kg * lo) + 1000) - 1) / 1000)))))] H := hP
  have hD : va_D A [(oa, .inl ((cs 1), 1, .inr (.inl fO))), (h0, .inr (0, [.ref aMo, .ref aSh, .ref aLa, .ref aDy, .ref aMa, .ref aKi, .int (zCn + 1), .ref aPi, .int zPc, .ref aLn, .int zTo])), (aDy, .inl ((cs 0), 40, .inl (upd fDy zCn.toNatClampNeg day))), (aMa, .inl ((cs 0), 40, .inl (upd fMa zCn.toNatClampNeg x))), (aKi, .inl ((cs 0), 40, .inl (upd fKi zCn.toNatClampNeg (kg - ((((kg * lo) + 1000) - 1) / 1000)))))] := hD
  refine W.widen (k := 4) (n := 24) (Nat.le_of_ble_eq_true rfl) (Nat.le_of_ble_eq_true rfl) ?_
  obtain ⟨w9, w_9⟩ := w_9
  rw [w9]
  refine lv_i2l hx hb d_LW_ship_12 rfl ?_
  refine va_last (D := (dC, dI)) hx hb hK hP hD hS 0 1 rfl rfl (vq_in 1 rfl (by decide) (by decide)) d_LW_ship_13 (fun H locs hP hD hS => ?_)
  have hP : va_P (dC, dI) vq_cl [(oa, .inl ((cs 1), 1, .inr (.inl (vp_updL fO (0 : Int32).toNatClampNeg zCn.toInt64)))), (h0, .inr (0, [.ref aMo, .ref aSh, .ref aLa, .ref aDy, .ref aMa, .ref aKi, .int (zCn + 1), .ref aPi, .int zPc, .ref aLn, .int zTo])), (aDy, .inl ((cs 0), 40, .inl (upd fDy zCn.toNatClampNeg day))), (aMa, .inl ((cs 0), 40, .inl (upd fMa zCn.toNatClampNeg x))), (aKi, .inl ((cs 0), 40, .inl (upd fKi zCn.toNatClampNeg (kg - ((((kg * lo) + 1000) - 1) / 1000)))))] H := hP
  have hD : va_D A [(oa, .inl ((cs 1), 1, .inr (.inl (vp_updL fO (0 : Int32).toNatClampNeg zCn.toInt64)))), (h0, .inr (0, [.ref aMo, .ref aSh, .ref aLa, .ref aDy, .ref aMa, .ref aKi, .int (zCn + 1), .ref aPi, .int zPc, .ref aLn, .int zTo])), (aDy, .inl ((cs 0), 40, .inl (upd fDy zCn.toNatClampNeg day))), (aMa, .inl ((cs 0), 40, .inl (upd fMa zCn.toNatClampNeg x))), (aKi, .inl ((cs 0), 40, .inl (upd fKi zCn.toNatClampNeg (kg - ((((kg * lo) + 1000) - 1) / 1000)))))] := hD
  refine lv_goto (tgt := 29) hx hb d_LW_ship_14 (by decide) ?_
  refine lv_iconst (v := 0) hx hb d_LW_ship_29 (by decide) ?_
  refine vx_ret ?_
  refine W.widen (k := 4) (n := 24) (Nat.le_of_ble_eq_true rfl) (Nat.le_of_ble_eq_true rfl) ?_
  have hP9 : va_P (dC, dI) vq_cl [(h0, .inr (0, [.ref aMo, .ref aSh, .ref aLa, .ref aDy, .ref aMa, .ref aKi, .int (zCn + 1), .ref aPi, .int zPc, .ref aLn, .int zTo])), (aDy, .inl ((cs 0), 40, .inl (upd fDy zCn.toNatClampNeg day))), (aMa, .inl ((cs 0), 40, .inl (upd fMa zCn.toNatClampNeg x))), (aKi, .inl ((cs 0), 40, .inl (upd fKi zCn.toNatClampNeg (kg - ((((kg * lo) + 1000) - 1) / 1000))))), (oa, .inl ((cs 1), 1, .inr (.inl (vp_updL fO (0 : Int32).toNatClampNeg zCn.toInt64))))] _ := hP.sub [1, 2, 3, 4, 0] rfl
  have hD9 : va_D A [(h0, .inr (0, [.ref aMo, .ref aSh, .ref aLa, .ref aDy, .ref aMa, .ref aKi, .int (zCn + 1), .ref aPi, .int zPc, .ref aLn, .int zTo])), (aDy, .inl ((cs 0), 40, .inl (upd fDy zCn.toNatClampNeg day))), (aMa, .inl ((cs 0), 40, .inl (upd fMa zCn.toNatClampNeg x))), (aKi, .inl ((cs 0), 40, .inl (upd fKi zCn.toNatClampNeg (kg - ((((kg * lo) + 1000) - 1) / 1000))))), (oa, .inl ((cs 1), 1, .inr (.inl (vp_updL fO (0 : Int32).toNatClampNeg zCn.toInt64))))] := hD.sub [1, 2, 3, 4, 0] (by decide) rfl
  exact W.iret (v := 0) hx hb hr (fun t ht hW => ⟨⟨0, (), rfl, rfl, ⟨by rw [ht]; exact hP9, hD9⟩⟩, hS.F ht⟩) hS.2.2 d_LW_ship_30
set_option maxHeartbeats 4000000 in
set_option maxRecDepth 100000 in
/-- law.ship, where it is refused -/
theorem h_ship_s (l : Launch) (hlT : l.stackTraces = false) (dC : Nat → ClassId) (dI : Nat → Nat → Nat) (cs : Nat → ClassId) (sz : Nat) (h0 : Nat) (aMo : Nat) (aSh : Nat) (aLa : Nat) (aDy : Nat) (aMa : Nat) (aKi : Nat) (aPi : Nat) (aLn : Nat) (zCn : Int32) (zPc : Int32) (zTo : Int32) (fDy : Nat → Int32) (fMa : Nat → Int32) (fKi : Nat → Int32) (day : Int32) (x : Int32) (kg : Int32) (lo : Int32) (oa : Nat) (fO : Nat → Int64) (E0 : String) (hn : ¬ zCn < 0) (hX : X_ship zCn zTo day x kg lo = some E0) (hE : E0 = xI ∨ E0 = xS ∨ E0 = xA) : vx_Met l y_LW_ship w_LW_ship ({ frames := 8, cells := 4, slots := 24, locals := 129 }) (vq_Pre (dC, dI) cs [(h0, .inr (0, [.ref aMo, .ref aSh, .ref aLa, .ref aDy, .ref aMa, .ref aKi, .int zCn, .ref aPi, .int zPc, .ref aLn, .int zTo])), (aDy, .inl ((cs 0), 40, .inl fDy)), (aMa, .inl ((cs 0), 40, .inl fMa)), (aKi, .inl ((cs 0), 40, .inl fKi)), (oa, .inl ((cs 1), 1, .inr (.inl fO)))] sz [.ref h0, .int day, .int x, .int kg, .int lo, .ref oa]) (va_Qi (fun (r : Int32) (_ : Unit) => r = cdF [xI, xS, xA] E0) (vq_B (dC, dI) cs (va_A [(h0, .inr (0, [.ref aMo, .ref aSh, .ref aLa, .ref aDy, .ref aMa, .ref aKi, .int zCn, .ref aPi, .int zPc, .ref aLn, .int zTo])), (aDy, .inl ((cs 0), 40, .inl fDy)), (aMa, .inl ((cs 0), 40, .inl fMa)), (aKi, .inl ((cs 0), 40, .inl fKi)), (oa, .inl ((cs 1), 1, .inr (.inl fO)))] sz) (fun _ => [(h0, .inr (0, [.ref aMo, .ref aSh, .ref aLa, .ref aDy, .ref aMa, .ref aKi, .int zCn, .ref aPi, .int zPc, .ref aLn, .int zTo])), (aDy, .inl ((cs 0), 40, .inl fDy)), (aMa, .inl ((cs 0), 40, .inl fMa)), (aKi, .inl ((cs 0), 40, .inl fKi)), (oa, .inl ((cs 1), 1, .inr (.inl fO)))])) (va_A [(h0, .inr (0, [.ref aMo, .ref aSh, .ref aLa, .ref aDy, .ref aMa, .ref aKi, .int zCn, .ref aPi, .int zPc, .ref aLn, .int zTo])), (aDy, .inl ((cs 0), 40, .inl fDy)), (aMa, .inl ((cs 0), 40, .inl fMa)), (aKi, .inl ((cs 0), 40, .inl fKi)), (oa, .inl ((cs 1), 1, .inr (.inl fO)))] sz)) (vq_X (fun E => False) sz) 4 24 (va_A [(h0, .inr (0, [.ref aMo, .ref aSh, .ref aLa, .ref aDy, .ref aMa, .ref aKi, .int zCn, .ref aPi, .int zPc, .ref aLn, .int zTo])), (aDy, .inl ((cs 0), 40, .inl fDy)), (aMa, .inl ((cs 0), 40, .inl fMa)), (aKi, .inl ((cs 0), 40, .inl fKi)), (oa, .inl ((cs 1), 1, .inr (.inl fO)))] sz) := by
  refine vx_ofWH (cc := b_LW_ship) (maxL := 7) (ret := (some .int)) (hh := [(0, 14, 17, 13), (0, 14, 21, 25), (0, 14, 25, 15)]) (by decide) rfl ?_
  intro p e s m args below meth c s₁ B hml hv
  have htab : c.exceptionTable.toList = tableOf [(0, 14, 17, 13), (0, 14, 21, 25), (0, 14, 25, 15)] := vx_table (x := y_LW_ship) B (atoms_spec (ws := w_LW_ship) B.pre _ List.mem_cons_self)
  obtain ⟨rfl, hsz, hP, hD0, hCx⟩ := hv
  have hx := B.exec
  have hb := B.bytes
  have hr := B.returns
  have hG := vq_hG (atoms_spec (ws := w_LW_ship) B.pre)
  have hown : s.vm.findClass R_LW = some m.cls := findClass_of_methodNamed B.named
  have hlocks := B.notSynchronized
  subst hsz
  have hK := hCx.1
  have hD := hD0.self (sz := s.heap.size)
  generalize hAe : va_A [(h0, .inr (0, [.ref aMo, .ref aSh, .ref aLa, .ref aDy, .ref aMa, .ref aKi, .int zCn, .ref aPi, .int zPc, .ref aLn, .int zTo])), (aDy, .inl ((cs 0), 40, .inl fDy)), (aMa, .inl ((cs 0), 40, .inl fMa)), (aKi, .inl ((cs 0), 40, .inl fKi)), (oa, .inl ((cs 1), 1, .inr (.inl fO)))] s.heap.size = A at hD hCx ⊢
  have hA : ∀ q : Nat, s.heap.size ≤ q → A q := fun q h => by rw [← hAe]; exact Or.inr h
  have hA0 : ∀ q : Nat, s.heap.size ≤ q → va_A [] s.heap.size q := fun q h => Or.inr h
  have hS : va_S (va_A [] s.heap.size) s.heap s.heap [] := va_S.rf
  have hl := lv_entry ([.ref h0, .int day, .int x, .int kg, .int lo, .ref oa]) (n := 7) (Nat.le_of_ble_eq_true rfl)
  rw [lg_entry_eq]
  generalize (lg_sl ([.ref h0, .int day, .int x, .int kg, .int lo, .ref oa]) ++ List.replicate (7 - (lg_sl ([.ref h0, .int day, .int x, .int kg, .int lo, .ref oa])).length) Slot.unset).toArray = ls at hl ⊢
  have hl : lv_has ls 7 [(0, .ref h0), (1, .int day), (2, .int x), (3, .int kg), (4, .int lo), (5, .ref oa)] := hl
  have hP : va_P (dC, dI) vq_cl [(h0, .inr (0, [.ref aMo, .ref aSh, .ref aLa, .ref aDy, .ref aMa, .ref aKi, .int zCn, .ref aPi, .int zPc, .ref aLn, .int zTo])), (aDy, .inl ((cs 0), 40, .inl fDy)), (aMa, .inl ((cs 0), 40, .inl fMa)), (aKi, .inl ((cs 0), 40, .inl fKi)), (oa, .inl ((cs 1), 1, .inr (.inl fO)))] s.heap := hP
  refine lv_aload hx hb d_LW_ship_0 (lv_at hl 5 rfl) ?_
  refine lv_iconst (v := 0) hx hb d_LW_ship_2 (by decide) ?_
  refine lv_aload_n hx hb d_LW_ship_3 rfl (lv_at hl 0 rfl) ?_
  refine lv_iload_n hx hb d_LW_ship_4 rfl (lv_at hl 1 rfl) ?_
  refine lv_iload_n hx hb d_LW_ship_5 rfl (lv_at hl 2 rfl) ?_
  refine lv_iload_n hx hb d_LW_ship_6 rfl (lv_at hl 3 rfl) ?_
  refine lv_iload hx hb d_LW_ship_7 (lv_at hl 4 rfl) ?_
  have hS := vq_wk hS hA
  refine mx_wi (vx_runV (As := [.int day, .int x, .int kg, .int lo]) (rest := [.int 0, .ref oa]) ⟨hx, hb, hml, hown, hG⟩ (c_ship l hlT dC dI cs _ h0 aMo aSh aLa aDy aMa aKi aPi aLn zCn zPc zTo fDy fMa fKi day x kg lo hn) (cwV 4 hG (vq_gV vq_t249 vq_t250 vq_t251 vq_t1 vq_t252) rfl rfl rfl (by decide +kernel) ⟨Nat.le_of_ble_eq_true rfl, Nat.le_of_ble_eq_true rfl⟩) (vq_preVw (wc := [(h0, .inr (0, [.ref aMo, .ref aSh, .ref aLa, .ref aDy, .ref aMa, .ref aKi, .int zCn, .ref aPi, .int zPc, .ref aLn, .int zTo])), (aDy, .inl ((cs 0), 40, .inl fDy)), (aMa, .inl ((cs 0), 40, .inl fMa)), (aKi, .inl ((cs 0), 40, .inl fKi))]) (va_recv hK hP (ci := 0) (q0 := 0) rfl rfl) hCx hP hD hS hA [0, 1, 2, 3] rfl rfl (by decide)) rfl rfl hl.1 rfl (lv_room (Nat.le_of_ble_eq_true rfl)) d_LW_ship_9 ⟨Nat.le_of_ble_eq_true rfl, Nat.le_of_ble_eq_true rfl⟩) hP hD hS hA [0, 1, 2, 3] [4] rfl rfl (by decide) (by decide) (fun E ce q9 H locs x_9 hP hS h91 h92 h93 => ?_) (fun r_9 _ H locs w_9 hP hD hS => ?_)
  · skip
    obtain rfl := Option.some.inj (hX.symm.trans x_9)
    rcases hE with rfl | rfl | rfl
    · skip
      refine vx_catch (name := xI) hown [] ⟨0, 14, 17, 13⟩ [⟨0, 14, 21, 25⟩, ⟨0, 14, 25, 15⟩] htab (fun _ h => absurd h List.not_mem_nil) rfl (by decide) (hG _ vq_t137) (va_Nw.use rfl (hCx.2.2.2.2.2.1 _ (by decide))) h91 h92 h93 ?_
      refine W.eq (g2 := F0 m 17 ls [.ref q9]) rfl ?_
      refine lv_astore (lv' := [(6, .ref q9), (0, .ref h0), (1, .int day), (2, .int x), (3, .int kg), (4, .int lo), (5, .ref oa)]) hx hb d_LW_ship_17 hl (by decide) rfl (fun ls hl => ?_)
      refine lv_iconst (v := 1) hx hb d_LW_ship_19 (by decide) ?_
      refine vx_ret ?_
      refine W.widen (k := 4) (n := 24) (Nat.le_of_ble_eq_true rfl) (Nat.le_of_ble_eq_true rfl) ?_
      have hP9 : va_P (dC, dI) vq_cl [(h0, .inr (0, [.ref aMo, .ref aSh, .ref aLa, .ref aDy, .ref aMa, .ref aKi, .int zCn, .ref aPi, .int zPc, .ref aLn, .int zTo])), (aDy, .inl ((cs 0), 40, .inl fDy)), (aMa, .inl ((cs 0), 40, .inl fMa)), (aKi, .inl ((cs 0), 40, .inl fKi)), (oa, .inl ((cs 1), 1, .inr (.inl fO)))] _ := hP.sub [0, 1, 2, 3, 4] rfl
      have hD9 : va_D A [(h0, .inr (0, [.ref aMo, .ref aSh, .ref aLa, .ref aDy, .ref aMa, .ref aKi, .int zCn, .ref aPi, .int zPc, .ref aLn, .int zTo])), (aDy, .inl ((cs 0), 40, .inl fDy)), (aMa, .inl ((cs 0), 40, .inl fMa)), (aKi, .inl ((cs 0), 40, .inl fKi)), (oa, .inl ((cs 1), 1, .inr (.inl fO)))] := hD.sub [0, 1, 2, 3, 4] (by decide) rfl
      exact W.iret (v := 1) hx hb hr (fun t ht hW => ⟨⟨1, (), rfl, by decide +kernel, ⟨by rw [ht]; exact hP9, hD9⟩⟩, hS.F ht⟩) hS.2.2 d_LW_ship_20
    · skip
      refine vx_catch (name := xS) hown [⟨0, 14, 17, 13⟩] ⟨0, 14, 21, 25⟩ [⟨0, 14, 25, 15⟩] htab (List.forall_mem_cons.mpr ⟨Or.inr ⟨by decide, xI, hG _ vq_t137, hCx.2.2.2.2.2.2.1 _ (by decide) _ (by decide) (by decide)⟩, fun _ h => absurd h List.not_mem_nil⟩) rfl (by decide) (hG _ vq_t248) (va_Nw.use rfl (hCx.2.2.2.2.2.1 _ (by decide))) h91 h92 h93 ?_
      refine W.eq (g2 := F0 m 21 ls [.ref q9]) rfl ?_
      refine lv_astore (lv' := [(6, .ref q9), (0, .ref h0), (1, .int day), (2, .int x), (3, .int kg), (4, .int lo), (5, .ref oa)]) hx hb d_LW_ship_21 hl (by decide) rfl (fun ls hl => ?_)
      refine lv_iconst (v := 2) hx hb d_LW_ship_23 (by decide) ?_
      refine vx_ret ?_
      refine W.widen (k := 4) (n := 24) (Nat.le_of_ble_eq_true rfl) (Nat.le_of_ble_eq_true rfl) ?_
      have hP9 : va_P (dC, dI) vq_cl [(h0, .inr (0, [.ref aMo, .ref aSh, .ref aLa, .ref aDy, .ref aMa, .ref aKi, .int zCn, .ref aPi, .int zPc, .ref aLn, .int zTo])), (aDy, .inl ((cs 0), 40, .inl fDy)), (aMa, .inl ((cs 0), 40, .inl fMa)), (aKi, .inl ((cs 0), 40, .inl fKi)), (oa, .inl ((cs 1), 1, .inr (.inl fO)))] _ := hP.sub [0, 1, 2, 3, 4] rfl
      have hD9 : va_D A [(h0, .inr (0, [.ref aMo, .ref aSh, .ref aLa, .ref aDy, .ref aMa, .ref aKi, .int zCn, .ref aPi, .int zPc, .ref aLn, .int zTo])), (aDy, .inl ((cs 0), 40, .inl fDy)), (aMa, .inl ((cs 0), 40, .inl fMa)), (aKi, .inl ((cs 0), 40, .inl fKi)), (oa, .inl ((cs 1), 1, .inr (.inl fO)))] := hD.sub [0, 1, 2, 3, 4] (by decide) rfl
      exact W.iret (v := 2) hx hb hr (fun t ht hW => ⟨⟨2, (), rfl, by decide +kernel, ⟨by rw [ht]; exact hP9, hD9⟩⟩, hS.F ht⟩) hS.2.2 d_LW_ship_24
    · skip
      refine vx_catch (name := xA) hown [⟨0, 14, 17, 13⟩, ⟨0, 14, 21, 25⟩] ⟨0, 14, 25, 15⟩ [] htab (List.forall_mem_cons.mpr ⟨Or.inr ⟨by decide, xI, hG _ vq_t137, hCx.2.2.2.2.2.2.1 _ (by decide) _ (by decide) (by decide)⟩, List.forall_mem_cons.mpr ⟨Or.inr ⟨by decide, xS, hG _ vq_t248, hCx.2.2.2.2.2.2.1 _ (by decide) _ (by decide) (by decide)⟩, fun _ h => absurd h List.not_mem_nil⟩⟩) rfl (by decide) (hG _ vq_t138) (va_Nw.use rfl (hCx.2.2.2.2.2.1 _ (by decide))) h91 h92 h93 ?_
      refine W.eq (g2 := F0 m 25 ls [.ref q9]) rfl ?_
      refine lv_astore (lv' := [(6, .ref q9), (0, .ref h0), (1, .int day), (2, .int x), (3, .int kg), (4, .int lo), (5, .ref oa)]) hx hb d_LW_ship_25 hl (by decide) rfl (fun ls hl => ?_)
      refine lv_iconst (v := 3) hx hb d_LW_ship_27 (by decide) ?_
      refine vx_ret ?_
      refine W.widen (k := 4) (n := 24) (Nat.le_of_ble_eq_true rfl) (Nat.le_of_ble_eq_true rfl) ?_
      have hP9 : va_P (dC, dI) vq_cl [(h0, .inr (0, [.ref aMo, .ref aSh, .ref aLa, .ref aDy, .ref aMa, .ref aKi, .int zCn, .ref aPi, .int zPc, .ref aLn, .int zTo])), (aDy, .inl ((cs 0), 40, .inl fDy)), (aMa, .inl ((cs 0), 40, .inl fMa)), (aKi, .inl ((cs 0), 40, .inl fKi)), (oa, .inl ((cs 1), 1, .inr (.inl fO)))] _ := hP.sub [0, 1, 2, 3, 4] rfl
      have hD9 : va_D A [(h0, .inr (0, [.ref aMo, .ref aSh, .ref aLa, .ref aDy, .ref aMa, .ref aKi, .int zCn, .ref aPi, .int zPc, .ref aLn, .int zTo])), (aDy, .inl ((cs 0), 40, .inl fDy)), (aMa, .inl ((cs 0), 40, .inl fMa)), (aKi, .inl ((cs 0), 40, .inl fKi)), (oa, .inl ((cs 1), 1, .inr (.inl fO)))] := hD.sub [0, 1, 2, 3, 4] (by decide) rfl
      exact W.iret (v := 3) hx hb hr (fun t ht hW => ⟨⟨3, (), rfl, by decide +kernel, ⟨by rw [ht]; exact hP9, hD9⟩⟩, hS.F ht⟩) hS.2.2 d_LW_ship_28
  have hP : va_P (dC, dI) vq_cl [(oa, .inl ((cs 1), 1, .inr (.inl fO))), (h0, .inr (0, [.ref aMo, .ref aSh, .ref aLa, .ref aDy, .ref aMa, .ref aKi, .int (zCn + 1), .ref aPi, .int zPc, .ref aLn, .int zTo])), (aDy, .inl ((cs 0), 40, .inl (upd fDy zCn.toNatClampNeg day))), (aMa, .inl ((cs 0), 40, .inl (upd fMa zCn.toNatClampNeg x))), (aKi, .inl ((cs 0), 40, .inl (upd fKi zCn.toNatClampNeg (kg - ((((kg * lo) + 1000) - 1) / 1000)))))] H := hP
  have hD : va_D A [(oa, .inl ((cs 1), 1, .inr (.inl fO))), (h0, .inr (0, [.ref aMo, .ref aSh, .ref aLa, .ref aDy, .ref aMa, .ref aKi, .int (zCn + 1), .ref aPi, .int zPc, .ref aLn, .int zTo])), (aDy, .inl ((cs 0), 40, .inl (upd fDy zCn.toNatClampNeg day))), (aMa, .inl ((cs 0), 40, .inl (upd fMa zCn.toNatClampNeg x))), (aKi, .inl ((cs 0), 40, .inl (upd fKi zCn.toNatClampNeg (kg - ((((kg * lo) + 1000) - 1) / 1000)))))] := hD
  exact absurd (hX.symm.trans w_9.2) (fun h => nomatch h)
set_option maxHeartbeats 4000000 in
set_option maxRecDepth 100000 in
/-- law.stock, where it goes through -/
theorem h_stock_n (l : Launch) (hlT : l.stackTraces = false) (dC : Nat → ClassId) (dI : Nat → Nat → Nat) (cs : Nat → ClassId) (sz : Nat) (h0 : Nat) (aMo : Nat) (aSh : Nat) (aLa : Nat) (aDy : Nat) (aMa : Nat) (aKi : Nat) (aPi : Nat) (aLn : Nat) (zCn : Int32) (zPc : Int32) (zTo : Int32) (fLa : Nat → Int32) (fDy : Nat → Int32) (fMa : Nat → Int32) (fKi : Nat → Int32) (x : Int32) (oa : Nat) (fO : Nat → Int64) (hX : X_stock x = none) : vx_Met l y_LW_stock w_LW_stock ({ frames := 8, cells := 1, slots := 6, locals := 123 }) (vq_Pre (dC, dI) cs [(h0, .inr (0, [.ref aMo, .ref aSh, .ref aLa, .ref aDy, .ref aMa, .ref aKi, .int zCn, .ref aPi, .int zPc, .ref aLn, .int zTo])), (aLa, .inl ((cs 0), 8, .inl fLa)), (aDy, .inl ((cs 0), 40, .inl fDy)), (aMa, .inl ((cs 0), 40, .inl fMa)), (aKi, .inl ((cs 0), 40, .inl fKi)), (oa, .inl ((cs 1), 1, .inr (.inl fO)))] sz [.ref h0, .int x, .ref oa]) (va_Qi (fun (r : Int32) (_ : Unit) => r = 0) (vq_B (dC, dI) cs (va_A [(h0, .inr (0, [.ref aMo, .ref aSh, .ref aLa, .ref aDy, .ref aMa, .ref aKi, .int zCn, .ref aPi, .int zPc, .ref aLn, .int zTo])), (aLa, .inl ((cs 0), 8, .inl fLa)), (aDy, .inl ((cs 0), 40, .inl fDy)), (aMa, .inl ((cs 0), 40, .inl fMa)), (aKi, .inl ((cs 0), 40, .inl fKi)), (oa, .inl ((cs 1), 1, .inr (.inl fO)))] sz) (fun _ => [(h0, .inr (0, [.ref aMo, .ref aSh, .ref aLa, .ref aDy, .ref aMa, .ref aKi, .int zCn, .ref aPi, .int zPc, .ref aLn, .int zTo])), (aLa, .inl ((cs 0), 8, .inl fLa)), (aDy, .inl ((cs 0), 40, .inl fDy)), (aMa, .inl ((cs 0), 40, .inl fMa)), (aKi, .inl ((cs 0), 40, .inl fKi)), (oa, .inl ((cs 1), 1, .inr (.inl (vp_updL fO (0 : Int32).toNatClampNeg ((stockF fLa fDy fMa fKi zCn zTo x).toInt64)))))])) (va_A [(h0, .inr (0, [.ref aMo, .ref aSh, .ref aLa, .ref aDy, .ref aMa, .ref aKi, .int zCn, .ref aPi, .int zPc, .ref aLn, .int zTo])), (aLa, .inl ((cs 0), 8, .inl fLa)), (aDy, .inl ((cs 0), 40, .inl fDy)), (aMa, .inl ((cs 0), 40, .inl fMa)), (aKi, .inl ((cs 0), 40, .inl fKi)), (oa, .inl ((cs 1), 1, .inr (.inl fO)))] sz)) (vq_X (fun E => False) sz) 1 6 (va_A [(h0, .inr (0, [.ref aMo, .ref aSh, .ref aLa, .ref aDy, .ref aMa, .ref aKi, .int zCn, .ref aPi, .int zPc, .ref aLn, .int zTo])), (aLa, .inl ((cs 0), 8, .inl fLa)), (aDy, .inl ((cs 0), 40, .inl fDy)), (aMa, .inl ((cs 0), 40, .inl fMa)), (aKi, .inl ((cs 0), 40, .inl fKi)), (oa, .inl ((cs 1), 1, .inr (.inl fO)))] sz) := by
  refine vx_ofWH (cc := b_LW_stock) (maxL := 4) (ret := (some .int)) (hh := [(0, 9, 12, 13)]) (by decide) rfl ?_
  intro p e s m args below meth c s₁ B hml hv
  have htab : c.exceptionTable.toList = tableOf [(0, 9, 12, 13)] := vx_table (x := y_LW_stock) B (atoms_spec (ws := w_LW_stock) B.pre _ List.mem_cons_self)
  obtain ⟨rfl, hsz, hP, hD0, hCx⟩ := hv
  have hx := B.exec
  have hb := B.bytes
  have hr := B.returns
  have hG := vq_hG (atoms_spec (ws := w_LW_stock) B.pre)
  have hown : s.vm.findClass R_LW = some m.cls := findClass_of_methodNamed B.named
  have hlocks := B.notSynchronized
  subst hsz
  have hK := hCx.1
  have hD := hD0.self (sz := s.heap.size)
  generalize hAe : va_A [(h0, .inr (0, [.ref aMo, .ref aSh, .ref aLa, .ref aDy, .ref aMa, .ref aKi, .int zCn, .ref aPi, .int zPc, .ref aLn, .int zTo])), (aLa, .inl ((cs 0), 8, .inl fLa)), (aDy, .inl ((cs 0), 40, .inl fDy)), (aMa, .inl ((cs 0), 40, .inl fMa)), (aKi, .inl ((cs 0), 40, .inl fKi)), (oa, .inl ((cs 1), 1, .inr (.inl fO)))] s.heap.size = A at hD hCx ⊢
  have hA : ∀ q : Nat, s.heap.size ≤ q → A q := fun q h => by rw [← hAe]; exact Or.inr h
  have hA0 : ∀ q : Nat, s.heap.size ≤ q → va_A [] s.heap.size q := fun q h => Or.inr h
  have hS : va_S (va_A [] s.heap.size) s.heap s.heap [] := va_S.rf
  have hl := lv_entry ([.ref h0, .int x, .ref oa]) (n := 4) (Nat.le_of_ble_eq_true rfl)
  rw [lg_entry_eq]
  generalize (lg_sl ([.ref h0, .int x, .ref oa]) ++ List.replicate (4 - (lg_sl ([.ref h0, .int x, .ref oa])).length) Slot.unset).toArray = ls at hl ⊢
  have hl : lv_has ls 4 [(0, .ref h0), (1, .int x), (2, .ref oa)] := hl
  have hP : va_P (dC, dI) vq_cl [(h0, .inr (0, [.ref aMo, .ref aSh, .ref aLa, .ref aDy, .ref aMa, .ref aKi, .int zCn, .ref aPi, .int zPc, .ref aLn, .int zTo])), (aLa, .inl ((cs 0), 8, .inl fLa)), (aDy, .inl ((cs 0), 40, .inl fDy)), (aMa, .inl ((cs 0), 40, .inl fMa)), (aKi, .inl ((cs 0), 40, .inl fKi)), (oa, .inl ((cs 1), 1, .inr (.inl fO)))] s.heap := hP
  refine lv_aload_n hx hb d_LW_stock_0 rfl (lv_at hl 2 rfl) ?_
  refine lv_iconst (v := 0) hx hb d_LW_stock_1 (by decide) ?_
  refine lv_aload_n hx hb d_LW_stock_2 rfl (lv_at hl 0 rfl) ?_
  refine lv_iload_n hx hb d_LW_stock_3 rfl (lv_at hl 1 rfl) ?_
  refine mx_ri (vx_runV (As := [.int x]) (rest := [.int 0, .ref oa]) ⟨hx, hb, hml, hown, hG⟩ (c_stock l hlT dC dI cs _ h0 aMo aSh aLa aDy aMa aKi aPi aLn zCn zPc zTo fLa fDy fMa fKi x) (cwV 1 hG (vq_gV vq_t275 vq_t276 vq_t277 vq_t1 vq_t278) rfl rfl rfl (by decide +kernel) ⟨Nat.le_of_ble_eq_true rfl, Nat.le_of_ble_eq_true rfl⟩) (vq_preVr (wc := [(h0, .inr (0, [.ref aMo, .ref aSh, .ref aLa, .ref aDy, .ref aMa, .ref aKi, .int zCn, .ref aPi, .int zPc, .ref aLn, .int zTo])), (aLa, .inl ((cs 0), 8, .inl fLa)), (aDy, .inl ((cs 0), 40, .inl fDy)), (aMa, .inl ((cs 0), 40, .inl fMa)), (aKi, .inl ((cs 0), 40, .inl fKi))]) (va_recv hK hP (ci := 0) (q0 := 0) rfl rfl) hCx hP (vq_wk hS hA) hA [0, 1, 2, 3, 4] rfl) rfl rfl hl.1 rfl (lv_room (Nat.le_of_ble_eq_true rfl)) d_LW_stock_4 ⟨Nat.le_of_ble_eq_true rfl, Nat.le_of_ble_eq_true rfl⟩) hP hS hA0 (fun E ce q9 H locs x_4 hP hS h91 h92 h93 => absurd (hX.symm.trans x_4) (fun h => nomatch h)) (fun r_4 H locs w_4 hP hS => ?_)
  refine W.widen (k := 1) (n := 6) (Nat.le_of_ble_eq_true rfl) (Nat.le_of_ble_eq_true rfl) ?_
  obtain ⟨rfl, w_4⟩ := w_4
  refine lv_i2l hx hb d_LW_stock_7 rfl ?_
  have hS := vq_wk hS hA
  refine va_last (D := (dC, dI)) hx hb hK hP hD hS 5 1 rfl rfl (vq_in 1 rfl (by decide) (by decide)) d_LW_stock_8 (fun H locs hP hD hS => ?_)
  have hP : va_P (dC, dI) vq_cl [(h0, .inr (0, [.ref aMo, .ref aSh, .ref aLa, .ref aDy, .ref aMa, .ref aKi, .int zCn, .ref aPi, .int zPc, .ref aLn, .int zTo])), (aLa, .inl ((cs 0), 8, .inl fLa)), (aDy, .inl ((cs 0), 40, .inl fDy)), (aMa, .inl ((cs 0), 40, .inl fMa)), (aKi, .inl ((cs 0), 40, .inl fKi)), (oa, .inl ((cs 1), 1, .inr (.inl (vp_updL fO (0 : Int32).toNatClampNeg ((stockF fLa fDy fMa fKi zCn zTo x).toInt64)))))] H := hP
  have hD : va_D A [(h0, .inr (0, [.ref aMo, .ref aSh, .ref aLa, .ref aDy, .ref aMa, .ref aKi, .int zCn, .ref aPi, .int zPc, .ref aLn, .int zTo])), (aLa, .inl ((cs 0), 8, .inl fLa)), (aDy, .inl ((cs 0), 40, .inl fDy)), (aMa, .inl ((cs 0), 40, .inl fMa)), (aKi, .inl ((cs 0), 40, .inl fKi)), (oa, .inl ((cs 1), 1, .inr (.inl (vp_updL fO (0 : Int32).toNatClampNeg ((stockF fLa fDy fMa fKi zCn zTo x).toInt64)))))] := hD
  refine lv_goto (tgt := 15) hx hb d_LW_stock_9 (by decide) ?_
  refine lv_iconst (v := 0) hx hb d_LW_stock_15 (by decide) ?_
  refine vx_ret ?_
  refine W.widen (k := 1) (n := 6) (Nat.le_of_ble_eq_true rfl) (Nat.le_of_ble_eq_true rfl) ?_
  have hP9 : va_P (dC, dI) vq_cl [(h0, .inr (0, [.ref aMo, .ref aSh, .ref aLa, .ref aDy, .ref aMa, .ref aKi, .int zCn, .ref aPi, .int zPc, .ref aLn, .int zTo])), (aLa, .inl ((cs 0), 8, .inl fLa)), (aDy, .inl ((cs 0), 40, .inl fDy)), (aMa, .inl ((cs 0), 40, .inl fMa)), (aKi, .inl ((cs 0), 40, .inl fKi)), (oa, .inl ((cs 1), 1, .inr (.inl (vp_updL fO (0 : Int32).toNatClampNeg ((stockF fLa fDy fMa fKi zCn zTo x).toInt64)))))] _ := hP.sub [0, 1, 2, 3, 4, 5] rfl
  have hD9 : va_D A [(h0, .inr (0, [.ref aMo, .ref aSh, .ref aLa, .ref aDy, .ref aMa, .ref aKi, .int zCn, .ref aPi, .int zPc, .ref aLn, .int zTo])), (aLa, .inl ((cs 0), 8, .inl fLa)), (aDy, .inl ((cs 0), 40, .inl fDy)), (aMa, .inl ((cs 0), 40, .inl fMa)), (aKi, .inl ((cs 0), 40, .inl fKi)), (oa, .inl ((cs 1), 1, .inr (.inl (vp_updL fO (0 : Int32).toNatClampNeg ((stockF fLa fDy fMa fKi zCn zTo x).toInt64)))))] := hD.sub [0, 1, 2, 3, 4, 5] (by decide) rfl
  exact W.iret (v := 0) hx hb hr (fun t ht hW => ⟨⟨0, (), rfl, rfl, ⟨by rw [ht]; exact hP9, hD9⟩⟩, hS.F ht⟩) hS.2.2 d_LW_stock_16
set_option maxHeartbeats 4000000 in
set_option maxRecDepth 100000 in
/-- law.stock, where it is refused -/
theorem h_stock_s (l : Launch) (hlT : l.stackTraces = false) (dC : Nat → ClassId) (dI : Nat → Nat → Nat) (cs : Nat → ClassId) (sz : Nat) (h0 : Nat) (aMo : Nat) (aSh : Nat) (aLa : Nat) (aDy : Nat) (aMa : Nat) (aKi : Nat) (aPi : Nat) (aLn : Nat) (zCn : Int32) (zPc : Int32) (zTo : Int32) (fLa : Nat → Int32) (fDy : Nat → Int32) (fMa : Nat → Int32) (fKi : Nat → Int32) (x : Int32) (oa : Nat) (fO : Nat → Int64) (E0 : String) (hX : X_stock x = some E0) (hE : E0 = xI) : vx_Met l y_LW_stock w_LW_stock ({ frames := 8, cells := 1, slots := 6, locals := 123 }) (vq_PreR (dC, dI) cs [(h0, .inr (0, [.ref aMo, .ref aSh, .ref aLa, .ref aDy, .ref aMa, .ref aKi, .int zCn, .ref aPi, .int zPc, .ref aLn, .int zTo])), (aLa, .inl ((cs 0), 8, .inl fLa)), (aDy, .inl ((cs 0), 40, .inl fDy)), (aMa, .inl ((cs 0), 40, .inl fMa)), (aKi, .inl ((cs 0), 40, .inl fKi)), (oa, .inl ((cs 1), 1, .inr (.inl fO)))] sz [.ref h0, .int x, .ref oa]) (va_Qi (fun (r : Int32) (_ : Unit) => r = cdF [xI] E0) (fun _ _ => True) (va_A [] sz)) (vq_X (fun E => False) sz) 1 6 (va_A [] sz) := by
  refine vx_ofWH (cc := b_LW_stock) (maxL := 4) (ret := (some .int)) (hh := [(0, 9, 12, 13)]) (by decide) rfl ?_
  intro p e s m args below meth c s₁ B hml hv
  have htab : c.exceptionTable.toList = tableOf [(0, 9, 12, 13)] := vx_table (x := y_LW_stock) B (atoms_spec (ws := w_LW_stock) B.pre _ List.mem_cons_self)
  obtain ⟨rfl, hsz, hP, hCx⟩ := hv
  have hx := B.exec
  have hb := B.bytes
  have hr := B.returns
  have hG := vq_hG (atoms_spec (ws := w_LW_stock) B.pre)
  have hown : s.vm.findClass R_LW = some m.cls := findClass_of_methodNamed B.named
  have hlocks := B.notSynchronized
  subst hsz
  have hK := hCx.1
  have hA : ∀ q : Nat, s.heap.size ≤ q → va_A [] s.heap.size q := fun q h => Or.inr h
  have hA0 : ∀ q : Nat, s.heap.size ≤ q → va_A [] s.heap.size q := fun q h => Or.inr h
  have hS : va_S (va_A [] s.heap.size) s.heap s.heap [] := va_S.rf
  have hl := lv_entry ([.ref h0, .int x, .ref oa]) (n := 4) (Nat.le_of_ble_eq_true rfl)
  rw [lg_entry_eq]
  generalize (lg_sl ([.ref h0, .int x, .ref oa]) ++ List.replicate (4 - (lg_sl ([.ref h0, .int x, .ref oa])).length) Slot.unset).toArray = ls at hl ⊢
  have hl : lv_has ls 4 [(0, .ref h0), (1, .int x), (2, .ref oa)] := hl
  have hP : va_P (dC, dI) vq_cl [(h0, .inr (0, [.ref aMo, .ref aSh, .ref aLa, .ref aDy, .ref aMa, .ref aKi, .int zCn, .ref aPi, .int zPc, .ref aLn, .int zTo])), (aLa, .inl ((cs 0), 8, .inl fLa)), (aDy, .inl ((cs 0), 40, .inl fDy)), (aMa, .inl ((cs 0), 40, .inl fMa)), (aKi, .inl ((cs 0), 40, .inl fKi)), (oa, .inl ((cs 1), 1, .inr (.inl fO)))] s.heap := hP
  refine lv_aload_n hx hb d_LW_stock_0 rfl (lv_at hl 2 rfl) ?_
  refine lv_iconst (v := 0) hx hb d_LW_stock_1 (by decide) ?_
  refine lv_aload_n hx hb d_LW_stock_2 rfl (lv_at hl 0 rfl) ?_
  refine lv_iload_n hx hb d_LW_stock_3 rfl (lv_at hl 1 rfl) ?_
  refine mx_ri (vx_runV (As := [.int x]) (rest := [.int 0, .ref oa]) ⟨hx, hb, hml, hown, hG⟩ (c_stock l hlT dC dI cs _ h0 aMo aSh aLa aDy aMa aKi aPi aLn zCn zPc zTo fLa fDy fMa fKi x) (cwV 1 hG (vq_gV vq_t275 vq_t276 vq_t277 vq_t1 vq_t278) rfl rfl rfl (by decide +kernel) ⟨Nat.le_of_ble_eq_true rfl, Nat.le_of_ble_eq_true rfl⟩) (vq_preVr (wc := [(h0, .inr (0, [.ref aMo, .ref aSh, .ref aLa, .ref aDy, .ref aMa, .ref aKi, .int zCn, .ref aPi, .int zPc, .ref aLn, .int zTo])), (aLa, .inl ((cs 0), 8, .inl fLa)), (aDy, .inl ((cs 0), 40, .inl fDy)), (aMa, .inl ((cs 0), 40, .inl fMa)), (aKi, .inl ((cs 0), 40, .inl fKi))]) (va_recv hK hP (ci := 0) (q0 := 0) rfl rfl) hCx hP (vq_wk hS hA) hA [0, 1, 2, 3, 4] rfl) rfl rfl hl.1 rfl (lv_room (Nat.le_of_ble_eq_true rfl)) d_LW_stock_4 ⟨Nat.le_of_ble_eq_true rfl, Nat.le_of_ble_eq_true rfl⟩) hP hS hA0 (fun E ce q9 H locs x_4 hP hS h91 h92 h93 => ?_) (fun r_4 H locs w_4 hP hS => ?_)
  · skip
    obtain rfl := Option.some.inj (hX.symm.trans x_4)
    obtain rfl := hE
    · skip
      refine vx_catch (name := xI) hown [] ⟨0, 9, 12, 13⟩ [] htab (fun _ h => absurd h List.not_mem_nil) rfl (by decide) (hG _ vq_t137) (va_Nw.use rfl (hCx.2.2.2.2.2.1 _ (by decide))) h91 h92 h93 ?_
      refine W.eq (g2 := F0 m 12 ls [.ref q9]) rfl ?_
      refine lv_astore_n (lv' := [(3, .ref q9), (0, .ref h0), (1, .int x), (2, .ref oa)]) hx hb d_LW_stock_12 rfl hl (by decide) rfl (fun ls hl => ?_)
      refine lv_iconst (v := 1) hx hb d_LW_stock_13 (by decide) ?_
      refine vx_ret ?_
      refine W.widen (k := 1) (n := 6) (Nat.le_of_ble_eq_true rfl) (Nat.le_of_ble_eq_true rfl) ?_
      exact W.iret (v := 1) hx hb hr (fun t ht hW => ⟨⟨1, (), rfl, by decide +kernel, trivial⟩, hS.F ht⟩) hS.2.2 d_LW_stock_14
  exact absurd (hX.symm.trans w_4.2) (fun h => nomatch h)
set_option maxHeartbeats 4000000 in
set_option maxRecDepth 100000 in
/-- law.pile, where it goes through -/
theorem h_pile_n (l : Launch) (hlT : l.stackTraces = false) (dC : Nat → ClassId) (dI : Nat → Nat → Nat) (cs : Nat → ClassId) (sz : Nat) (h0 : Nat) (aMo : Nat) (aSh : Nat) (aLa : Nat) (aDy : Nat) (aMa : Nat) (aKi : Nat) (aPi : Nat) (aLn : Nat) (zCn : Int32) (zPc : Int32) (zTo : Int32) (fPi : Nat → Option Nat) (pa : Nat) (bLG : Nat) (bLS : Nat) (bLt : Nat) (bGS : Nat) (bGG : Nat) (bES : Nat) (bEG : Nat) (zSl : Int32) (zLy : Int32) (zGr : Int32) (zTk : Int32) (zGt : Int32) (zLt : Int32) (x : Int32) (oa : Nat) (fO : Nat → Int64) (hn : ¬ zPc < 0) (hi : zPc < 4) (hf : fPi zPc.toNatClampNeg = some pa) (hX : X_pile zPc x = none) : vx_Met l y_LW_pile w_LW_pile ({ frames := 8, cells := 1, slots := 6, locals := 127 }) (vq_Pre (dC, dI) cs [(h0, .inr (0, [.ref aMo, .ref aSh, .ref aLa, .ref aDy, .ref aMa, .ref aKi, .int zCn, .ref aPi, .int zPc, .ref aLn, .int zTo])), (aPi, .inl ((cs 2), 4, .inr (.inr (.inr (.inr fPi))))), (pa, .inr (1, [.int zSl, .ref bLG, .ref bLS, .int zLy, .int zGr, .int zTk, .int zGt, .int zLt, .ref bLt, .ref bGS, .ref bGG, .ref bES, .ref bEG])), (oa, .inl ((cs 1), 1, .inr (.inl fO)))] sz [.ref h0, .int x, .ref oa]) (va_Qi (fun (r : Int32) (_ : Unit) => r = 0) (vq_B (dC, dI) cs (va_A [(h0, .inr (0, [.ref aMo, .ref aSh, .ref aLa, .ref aDy, .ref aMa, .ref aKi, .int zCn, .ref aPi, .int zPc, .ref aLn, .int zTo])), (aPi, .inl ((cs 2), 4, .inr (.inr (.inr (.inr fPi))))), (pa, .inr (1, [.int zSl, .ref bLG, .ref bLS, .int zLy, .int zGr, .int zTk, .int zGt, .int zLt, .ref bLt, .ref bGS, .ref bGG, .ref bES, .ref bEG])), (oa, .inl ((cs 1), 1, .inr (.inl fO)))] sz) (fun _ => [(h0, .inr (0, [.ref aMo, .ref aSh, .ref aLa, .ref aDy, .ref aMa, .ref aKi, .int zCn, .ref aPi, .int (zPc + 1), .ref aLn, .int zTo])), (aPi, .inl ((cs 2), 4, .inr (.inr (.inr (.inr fPi))))), (pa, .inr (1, [.int x, .ref bLG, .ref bLS, .int zLy, .int zGr, .int zTk, .int zGt, .int zLt, .ref bLt, .ref bGS, .ref bGG, .ref bES, .ref bEG])), (oa, .inl ((cs 1), 1, .inr (.inl (vp_updL fO (0 : Int32).toNatClampNeg zPc.toInt64))))])) (va_A [(h0, .inr (0, [.ref aMo, .ref aSh, .ref aLa, .ref aDy, .ref aMa, .ref aKi, .int zCn, .ref aPi, .int zPc, .ref aLn, .int zTo])), (aPi, .inl ((cs 2), 4, .inr (.inr (.inr (.inr fPi))))), (pa, .inr (1, [.int zSl, .ref bLG, .ref bLS, .int zLy, .int zGr, .int zTk, .int zGt, .int zLt, .ref bLt, .ref bGS, .ref bGG, .ref bES, .ref bEG])), (oa, .inl ((cs 1), 1, .inr (.inl fO)))] sz)) (vq_X (fun E => False) sz) 1 6 (va_A [(h0, .inr (0, [.ref aMo, .ref aSh, .ref aLa, .ref aDy, .ref aMa, .ref aKi, .int zCn, .ref aPi, .int zPc, .ref aLn, .int zTo])), (aPi, .inl ((cs 2), 4, .inr (.inr (.inr (.inr fPi))))), (pa, .inr (1, [.int zSl, .ref bLG, .ref bLS, .int zLy, .int zGr, .int zTk, .int zGt, .int zLt, .ref bLt, .ref bGS, .ref bGG, .ref bES, .ref bEG])), (oa, .inl ((cs 1), 1, .inr (.inl fO)))] sz) := by
  refine vx_ofWH (cc := b_LW_pile) (maxL := 4) (ret := (some .int)) (hh := [(0, 9, 12, 25), (0, 9, 15, 15)]) (by decide) rfl ?_
  intro p e s m args below meth c s₁ B hml hv
  have htab : c.exceptionTable.toList = tableOf [(0, 9, 12, 25), (0, 9, 15, 15)] := vx_table (x := y_LW_pile) B (atoms_spec (ws := w_LW_pile) B.pre _ List.mem_cons_self)
  obtain ⟨rfl, hsz, hP, hD0, hCx⟩ := hv
  have hx := B.exec
  have hb := B.bytes
  have hr := B.returns
  have hG := vq_hG (atoms_spec (ws := w_LW_pile) B.pre)
  have hown : s.vm.findClass R_LW = some m.cls := findClass_of_methodNamed B.named
  have hlocks := B.notSynchronized
  subst hsz
  have hK := hCx.1
  have hD := hD0.self (sz := s.heap.size)
  generalize hAe : va_A [(h0, .inr (0, [.ref aMo, .ref aSh, .ref aLa, .ref aDy, .ref aMa, .ref aKi, .int zCn, .ref aPi, .int zPc, .ref aLn, .int zTo])), (aPi, .inl ((cs 2), 4, .inr (.inr (.inr (.inr fPi))))), (pa, .inr (1, [.int zSl, .ref bLG, .ref bLS, .int zLy, .int zGr, .int zTk, .int zGt, .int zLt, .ref bLt, .ref bGS, .ref bGG, .ref bES, .ref bEG])), (oa, .inl ((cs 1), 1, .inr (.inl fO)))] s.heap.size = A at hD hCx ⊢
  have hA : ∀ q : Nat, s.heap.size ≤ q → A q := fun q h => by rw [← hAe]; exact Or.inr h
  have hA0 : ∀ q : Nat, s.heap.size ≤ q → va_A [] s.heap.size q := fun q h => Or.inr h
  have hS : va_S (va_A [] s.heap.size) s.heap s.heap [] := va_S.rf
  have hl := lv_entry ([.ref h0, .int x, .ref oa]) (n := 4) (Nat.le_of_ble_eq_true rfl)
  rw [lg_entry_eq]
  generalize (lg_sl ([.ref h0, .int x, .ref oa]) ++ List.replicate (4 - (lg_sl ([.ref h0, .int x, .ref oa])).length) Slot.unset).toArray = ls at hl ⊢
  have hl : lv_has ls 4 [(0, .ref h0), (1, .int x), (2, .ref oa)] := hl
  have hP : va_P (dC, dI) vq_cl [(h0, .inr (0, [.ref aMo, .ref aSh, .ref aLa, .ref aDy, .ref aMa, .ref aKi, .int zCn, .ref aPi, .int zPc, .ref aLn, .int zTo])), (aPi, .inl ((cs 2), 4, .inr (.inr (.inr (.inr fPi))))), (pa, .inr (1, [.int zSl, .ref bLG, .ref bLS, .int zLy, .int zGr, .int zTk, .int zGt, .int zLt, .ref bLt, .ref bGS, .ref bGG, .ref bES, .ref bEG])), (oa, .inl ((cs 1), 1, .inr (.inl fO)))] s.heap := hP
  refine lv_aload_n hx hb d_LW_pile_0 rfl (lv_at hl 2 rfl) ?_
  refine lv_iconst (v := 0) hx hb d_LW_pile_1 (by decide) ?_
  refine lv_aload_n hx hb d_LW_pile_2 rfl (lv_at hl 0 rfl) ?_
  refine lv_iload_n hx hb d_LW_pile_3 rfl (lv_at hl 1 rfl) ?_
  have hS := vq_wk hS hA
  refine mx_wi (vx_runV (As := [.int x]) (rest := [.int 0, .ref oa]) ⟨hx, hb, hml, hown, hG⟩ (c_pile l hlT dC dI cs _ h0 aMo aSh aLa aDy aMa aKi aPi aLn zCn zPc zTo fPi pa bLG bLS bLt bGS bGG bES bEG zSl zLy zGr zTk zGt zLt x hn hi hf) (cwV 1 hG (vq_gV vq_t286 vq_t287 vq_t288 vq_t1 vq_t289) rfl rfl rfl (by decide +kernel) ⟨Nat.le_of_ble_eq_true rfl, Nat.le_of_ble_eq_true rfl⟩) (vq_preVw (wc := [(h0, .inr (0, [.ref aMo, .ref aSh, .ref aLa, .ref aDy, .ref aMa, .ref aKi, .int zCn, .ref aPi, .int zPc, .ref aLn, .int zTo])), (aPi, .inl ((cs 2), 4, .inr (.inr (.inr (.inr fPi))))), (pa, .inr (1, [.int zSl, .ref bLG, .ref bLS, .int zLy, .int zGr, .int zTk, .int zGt, .int zLt, .ref bLt, .ref bGS, .ref bGG, .ref bES, .ref bEG]))]) (va_recv hK hP (ci := 0) (q0 := 0) rfl rfl) hCx hP hD hS hA [0, 1, 2] rfl rfl (by decide)) rfl rfl hl.1 rfl (lv_room (Nat.le_of_ble_eq_true rfl)) d_LW_pile_4 ⟨Nat.le_of_ble_eq_true rfl, Nat.le_of_ble_eq_true rfl⟩) hP hD hS hA [0, 1, 2] [3] rfl rfl (by decide) (by decide) (fun E ce q9 H locs x_4 hP hS h91 h92 h93 => absurd (hX.symm.trans x_4) (fun h => nomatch h)) (fun r_4 _ H locs w_4 hP hD hS => ?_)
  have hP : va_P (dC, dI) vq_cl [(oa, .inl ((cs 1), 1, .inr (.inl fO))), (h0, .inr (0, [.ref aMo, .ref aSh, .ref aLa, .ref aDy, .ref aMa, .ref aKi, .int zCn, .ref aPi, .int (zPc + 1), .ref aLn, .int zTo])), (aPi, .inl ((cs 2), 4, .inr (.inr (.inr (.inr fPi))))), (pa, .inr (1, [.int x, .ref bLG, .ref bLS, .int zLy, .int zGr, .int zTk, .int zGt, .int zLt, .ref bLt, .ref bGS, .ref bGG, .ref bES, .ref bEG]))] H := hP
  have hD : va_D A [(oa, .inl ((cs 1), 1, .inr (.inl fO))), (h0, .inr (0, [.ref aMo, .ref aSh, .ref aLa, .ref aDy, .ref aMa, .ref aKi, .int zCn, .ref aPi, .int (zPc + 1), .ref aLn, .int zTo])), (aPi, .inl ((cs 2), 4, .inr (.inr (.inr (.inr fPi))))), (pa, .inr (1, [.int x, .ref bLG, .ref bLS, .int zLy, .int zGr, .int zTk, .int zGt, .int zLt, .ref bLt, .ref bGS, .ref bGG, .ref bES, .ref bEG]))] := hD
  refine W.widen (k := 1) (n := 6) (Nat.le_of_ble_eq_true rfl) (Nat.le_of_ble_eq_true rfl) ?_
  obtain ⟨w9, w_4⟩ := w_4
  rw [w9]
  refine lv_i2l hx hb d_LW_pile_7 rfl ?_
  refine va_last (D := (dC, dI)) hx hb hK hP hD hS 0 1 rfl rfl (vq_in 1 rfl (by decide) (by decide)) d_LW_pile_8 (fun H locs hP hD hS => ?_)
  have hP : va_P (dC, dI) vq_cl [(oa, .inl ((cs 1), 1, .inr (.inl (vp_updL fO (0 : Int32).toNatClampNeg zPc.toInt64)))), (h0, .inr (0, [.ref aMo, .ref aSh, .ref aLa, .ref aDy, .ref aMa, .ref aKi, .int zCn, .ref aPi, .int (zPc + 1), .ref aLn, .int zTo])), (aPi, .inl ((cs 2), 4, .inr (.inr (.inr (.inr fPi))))), (pa, .inr (1, [.int x, .ref bLG, .ref bLS, .int zLy, .int zGr, .int zTk, .int zGt, .int zLt, .ref bLt, .ref bGS, .ref bGG, .ref bES, .ref bEG]))] H := hP
  have hD : va_D A [(oa, .inl ((cs 1), 1, .inr (.inl (vp_updL fO (0 : Int32).toNatClampNeg zPc.toInt64)))), (h0, .inr (0, [.ref aMo, .ref aSh, .ref aLa, .ref aDy, .ref aMa, .ref aKi, .int zCn, .ref aPi, .int (zPc + 1), .ref aLn, .int zTo])), (aPi, .inl ((cs 2), 4, .inr (.inr (.inr (.inr fPi))))), (pa, .inr (1, [.int x, .ref bLG, .ref bLS, .int zLy, .int zGr, .int zTk, .int zGt, .int zLt, .ref bLt, .ref bGS, .ref bGG, .ref bES, .ref bEG]))] := hD
  refine lv_goto (tgt := 18) hx hb d_LW_pile_9 (by decide) ?_
  refine lv_iconst (v := 0) hx hb d_LW_pile_18 (by decide) ?_
  refine vx_ret ?_
  refine W.widen (k := 1) (n := 6) (Nat.le_of_ble_eq_true rfl) (Nat.le_of_ble_eq_true rfl) ?_
  have hP9 : va_P (dC, dI) vq_cl [(h0, .inr (0, [.ref aMo, .ref aSh, .ref aLa, .ref aDy, .ref aMa, .ref aKi, .int zCn, .ref aPi, .int (zPc + 1), .ref aLn, .int zTo])), (aPi, .inl ((cs 2), 4, .inr (.inr (.inr (.inr fPi))))), (pa, .inr (1, [.int x, .ref bLG, .ref bLS, .int zLy, .int zGr, .int zTk, .int zGt, .int zLt, .ref bLt, .ref bGS, .ref bGG, .ref bES, .ref bEG])), (oa, .inl ((cs 1), 1, .inr (.inl (vp_updL fO (0 : Int32).toNatClampNeg zPc.toInt64))))] _ := hP.sub [1, 2, 3, 0] rfl
  have hD9 : va_D A [(h0, .inr (0, [.ref aMo, .ref aSh, .ref aLa, .ref aDy, .ref aMa, .ref aKi, .int zCn, .ref aPi, .int (zPc + 1), .ref aLn, .int zTo])), (aPi, .inl ((cs 2), 4, .inr (.inr (.inr (.inr fPi))))), (pa, .inr (1, [.int x, .ref bLG, .ref bLS, .int zLy, .int zGr, .int zTk, .int zGt, .int zLt, .ref bLt, .ref bGS, .ref bGG, .ref bES, .ref bEG])), (oa, .inl ((cs 1), 1, .inr (.inl (vp_updL fO (0 : Int32).toNatClampNeg zPc.toInt64))))] := hD.sub [1, 2, 3, 0] (by decide) rfl
  exact W.iret (v := 0) hx hb hr (fun t ht hW => ⟨⟨0, (), rfl, rfl, ⟨by rw [ht]; exact hP9, hD9⟩⟩, hS.F ht⟩) hS.2.2 d_LW_pile_19
set_option maxHeartbeats 4000000 in
set_option maxRecDepth 100000 in
/-- law.pile, where it is refused -/
theorem h_pile_s (l : Launch) (hlT : l.stackTraces = false) (dC : Nat → ClassId) (dI : Nat → Nat → Nat) (cs : Nat → ClassId) (sz : Nat) (h0 : Nat) (aMo : Nat) (aSh : Nat) (aLa : Nat) (aDy : Nat) (aMa : Nat) (aKi : Nat) (aPi : Nat) (aLn : Nat) (zCn : Int32) (zPc : Int32) (zTo : Int32) (fPi : Nat → Option Nat) (pa : Nat) (bLG : Nat) (bLS : Nat) (bLt : Nat) (bGS : Nat) (bGG : Nat) (bES : Nat) (bEG : Nat) (zSl : Int32) (zLy : Int32) (zGr : Int32) (zTk : Int32) (zGt : Int32) (zLt : Int32) (x : Int32) (oa : Nat) (fO : Nat → Int64) (E0 : String) (hn : ¬ zPc < 0) (hi : zPc < 4) (hf : fPi zPc.toNatClampNeg = some pa) (hX : X_pile zPc x = some E0) (hE : E0 = xS ∨ E0 = xA) : vx_Met l y_LW_pile w_LW_pile ({ frames := 8, cells := 1, slots := 6, locals := 127 }) (vq_Pre (dC, dI) cs [(h0, .inr (0, [.ref aMo, .ref aSh, .ref aLa, .ref aDy, .ref aMa, .ref aKi, .int zCn, .ref aPi, .int zPc, .ref aLn, .int zTo])), (aPi, .inl ((cs 2), 4, .inr (.inr (.inr (.inr fPi))))), (pa, .inr (1, [.int zSl, .ref bLG, .ref bLS, .int zLy, .int zGr, .int zTk, .int zGt, .int zLt, .ref bLt, .ref bGS, .ref bGG, .ref bES, .ref bEG])), (oa, .inl ((cs 1), 1, .inr (.inl fO)))] sz [.ref h0, .int x, .ref oa]) (va_Qi (fun (r : Int32) (_ : Unit) => r = cdF [xS, xA] E0) (vq_B (dC, dI) cs (va_A [(h0, .inr (0, [.ref aMo, .ref aSh, .ref aLa, .ref aDy, .ref aMa, .ref aKi, .int zCn, .ref aPi, .int zPc, .ref aLn, .int zTo])), (aPi, .inl ((cs 2), 4, .inr (.inr (.inr (.inr fPi))))), (pa, .inr (1, [.int zSl, .ref bLG, .ref bLS, .int zLy, .int zGr, .int zTk, .int zGt, .int zLt, .ref bLt, .ref bGS, .ref bGG, .ref bES, .ref bEG])), (oa, .inl ((cs 1), 1, .inr (.inl fO)))] sz) (fun _ => [(h0, .inr (0, [.ref aMo, .ref aSh, .ref aLa, .ref aDy, .ref aMa, .ref aKi, .int zCn, .ref aPi, .int zPc, .ref aLn, .int zTo])), (aPi, .inl ((cs 2), 4, .inr (.inr (.inr (.inr fPi))))), (pa, .inr (1, [.int zSl, .ref bLG, .ref bLS, .int zLy, .int zGr, .int zTk, .int zGt, .int zLt, .ref bLt, .ref bGS, .ref bGG, .ref bES, .ref bEG])), (oa, .inl ((cs 1), 1, .inr (.inl fO)))])) (va_A [(h0, .inr (0, [.ref aMo, .ref aSh, .ref aLa, .ref aDy, .ref aMa, .ref aKi, .int zCn, .ref aPi, .int zPc, .ref aLn, .int zTo])), (aPi, .inl ((cs 2), 4, .inr (.inr (.inr (.inr fPi))))), (pa, .inr (1, [.int zSl, .ref bLG, .ref bLS, .int zLy, .int zGr, .int zTk, .int zGt, .int zLt, .ref bLt, .ref bGS, .ref bGG, .ref bES, .ref bEG])), (oa, .inl ((cs 1), 1, .inr (.inl fO)))] sz)) (vq_X (fun E => False) sz) 1 6 (va_A [(h0, .inr (0, [.ref aMo, .ref aSh, .ref aLa, .ref aDy, .ref aMa, .ref aKi, .int zCn, .ref aPi, .int zPc, .ref aLn, .int zTo])), (aPi, .inl ((cs 2), 4, .inr (.inr (.inr (.inr fPi))))), (pa, .inr (1, [.int zSl, .ref bLG, .ref bLS, .int zLy, .int zGr, .int zTk, .int zGt, .int zLt, .ref bLt, .ref bGS, .ref bGG, .ref bES, .ref bEG])), (oa, .inl ((cs 1), 1, .inr (.inl fO)))] sz) := by
  refine vx_ofWH (cc := b_LW_pile) (maxL := 4) (ret := (some .int)) (hh := [(0, 9, 12, 25), (0, 9, 15, 15)]) (by decide) rfl ?_
  intro p e s m args below meth c s₁ B hml hv
  have htab : c.exceptionTable.toList = tableOf [(0, 9, 12, 25), (0, 9, 15, 15)] := vx_table (x := y_LW_pile) B (atoms_spec (ws := w_LW_pile) B.pre _ List.mem_cons_self)
  obtain ⟨rfl, hsz, hP, hD0, hCx⟩ := hv
  have hx := B.exec
  have hb := B.bytes
  have hr := B.returns
  have hG := vq_hG (atoms_spec (ws := w_LW_pile) B.pre)
  have hown : s.vm.findClass R_LW = some m.cls := findClass_of_methodNamed B.named
  have hlocks := B.notSynchronized
  subst hsz
  have hK := hCx.1
  have hD := hD0.self (sz := s.heap.size)
  generalize hAe : va_A [(h0, .inr (0, [.ref aMo, .ref aSh, .ref aLa, .ref aDy, .ref aMa, .ref aKi, .int zCn, .ref aPi, .int zPc, .ref aLn, .int zTo])), (aPi, .inl ((cs 2), 4, .inr (.inr (.inr (.inr fPi))))), (pa, .inr (1, [.int zSl, .ref bLG, .ref bLS, .int zLy, .int zGr, .int zTk, .int zGt, .int zLt, .ref bLt, .ref bGS, .ref bGG, .ref bES, .ref bEG])), (oa, .inl ((cs 1), 1, .inr (.inl fO)))] s.heap.size = A at hD hCx ⊢
  have hA : ∀ q : Nat, s.heap.size ≤ q → A q := fun q h => by rw [← hAe]; exact Or.inr h
  have hA0 : ∀ q : Nat, s.heap.size ≤ q → va_A [] s.heap.size q := fun q h => Or.inr h
  have hS : va_S (va_A [] s.heap.size) s.heap s.heap [] := va_S.rf
  have hl := lv_entry ([.ref h0, .int x, .ref oa]) (n := 4) (Nat.le_of_ble_eq_true rfl)
  rw [lg_entry_eq]
  generalize (lg_sl ([.ref h0, .int x, .ref oa]) ++ List.replicate (4 - (lg_sl ([.ref h0, .int x, .ref oa])).length) Slot.unset).toArray = ls at hl ⊢
  have hl : lv_has ls 4 [(0, .ref h0), (1, .int x), (2, .ref oa)] := hl
  have hP : va_P (dC, dI) vq_cl [(h0, .inr (0, [.ref aMo, .ref aSh, .ref aLa, .ref aDy, .ref aMa, .ref aKi, .int zCn, .ref aPi, .int zPc, .ref aLn, .int zTo])), (aPi, .inl ((cs 2), 4, .inr (.inr (.inr (.inr fPi))))), (pa, .inr (1, [.int zSl, .ref bLG, .ref bLS, .int zLy, .int zGr, .int zTk, .int zGt, .int zLt, .ref bLt, .ref bGS, .ref bGG, .ref bES, .ref bEG])), (oa, .inl ((cs 1), 1, .inr (.inl fO)))] s.heap := hP
  refine lv_aload_n hx hb d_LW_pile_0 rfl (lv_at hl 2 rfl) ?_
  refine lv_iconst (v := 0) hx hb d_LW_pile_1 (by decide) ?_
  refine lv_aload_n hx hb d_LW_pile_2 rfl (lv_at hl 0 rfl) ?_
  refine lv_iload_n hx hb d_LW_pile_3 rfl (lv_at hl 1 rfl) ?_
  have hS := vq_wk hS hA
  refine mx_wi (vx_runV (As := [.int x]) (rest := [.int 0, .ref oa]) ⟨hx, hb, hml, hown, hG⟩ (c_pile l hlT dC dI cs _ h0 aMo aSh aLa aDy aMa aKi aPi aLn zCn zPc zTo fPi pa bLG bLS bLt bGS bGG bES bEG zSl zLy zGr zTk zGt zLt x hn hi hf) (cwV 1 hG (vq_gV vq_t286 vq_t287 vq_t288 vq_t1 vq_t289) rfl rfl rfl (by decide +kernel) ⟨Nat.le_of_ble_eq_true rfl, Nat.le_of_ble_eq_true rfl⟩) (vq_preVw (wc := [(h0, .inr (0, [.ref aMo, .ref aSh, .ref aLa, .ref aDy, .ref aMa, .ref aKi, .int zCn, .ref aPi, .int zPc, .ref aLn, .int zTo])), (aPi, .inl ((cs 2), 4, .inr (.inr (.inr (.inr fPi))))), (pa, .inr (1, [.int zSl, .ref bLG, .ref bLS, .int zLy, .int zGr, .int zTk, .int zGt, .int zLt, .ref bLt, .ref bGS, .ref bGG, .ref bES, .ref bEG]))]) (va_recv hK hP (ci := 0) (q0 := 0) rfl rfl) hCx hP hD hS hA [0, 1, 2] rfl rfl (by decide)) rfl rfl hl.1 rfl (lv_room (Nat.le_of_ble_eq_true rfl)) d_LW_pile_4 ⟨Nat.le_of_ble_eq_true rfl, Nat.le_of_ble_eq_true rfl⟩) hP hD hS hA [0, 1, 2] [3] rfl rfl (by decide) (by decide) (fun E ce q9 H locs x_4 hP hS h91 h92 h93 => ?_) (fun r_4 _ H locs w_4 hP hD hS => ?_)
  · skip
    obtain rfl := Option.some.inj (hX.symm.trans x_4)
    rcases hE with rfl | rfl
    · skip
      refine vx_catch (name := xS) hown [] ⟨0, 9, 12, 25⟩ [⟨0, 9, 15, 15⟩] htab (fun _ h => absurd h List.not_mem_nil) rfl (by decide) (hG _ vq_t248) (va_Nw.use rfl (hCx.2.2.2.2.2.1 _ (by decide))) h91 h92 h93 ?_
      refine W.eq (g2 := F0 m 12 ls [.ref q9]) rfl ?_
      refine lv_astore_n (lv' := [(3, .ref q9), (0, .ref h0), (1, .int x), (2, .ref oa)]) hx hb d_LW_pile_12 rfl hl (by decide) rfl (fun ls hl => ?_)
      refine lv_iconst (v := 1) hx hb d_LW_pile_13 (by decide) ?_
      refine vx_ret ?_
      refine W.widen (k := 1) (n := 6) (Nat.le_of_ble_eq_true rfl) (Nat.le_of_ble_eq_true rfl) ?_
      have hP9 : va_P (dC, dI) vq_cl [(h0, .inr (0, [.ref aMo, .ref aSh, .ref aLa, .ref aDy, .ref aMa, .ref aKi, .int zCn, .ref aPi, .int zPc, .ref aLn, .int zTo])), (aPi, .inl ((cs 2), 4, .inr (.inr (.inr (.inr fPi))))), (pa, .inr (1, [.int zSl, .ref bLG, .ref bLS, .int zLy, .int zGr, .int zTk, .int zGt, .int zLt, .ref bLt, .ref bGS, .ref bGG, .ref bES, .ref bEG])), (oa, .inl ((cs 1), 1, .inr (.inl fO)))] _ := hP.sub [0, 1, 2, 3] rfl
      have hD9 : va_D A [(h0, .inr (0, [.ref aMo, .ref aSh, .ref aLa, .ref aDy, .ref aMa, .ref aKi, .int zCn, .ref aPi, .int zPc, .ref aLn, .int zTo])), (aPi, .inl ((cs 2), 4, .inr (.inr (.inr (.inr fPi))))), (pa, .inr (1, [.int zSl, .ref bLG, .ref bLS, .int zLy, .int zGr, .int zTk, .int zGt, .int zLt, .ref bLt, .ref bGS, .ref bGG, .ref bES, .ref bEG])), (oa, .inl ((cs 1), 1, .inr (.inl fO)))] := hD.sub [0, 1, 2, 3] (by decide) rfl
      exact W.iret (v := 1) hx hb hr (fun t ht hW => ⟨⟨1, (), rfl, by decide +kernel, ⟨by rw [ht]; exact hP9, hD9⟩⟩, hS.F ht⟩) hS.2.2 d_LW_pile_14
    · skip
      refine vx_catch (name := xA) hown [⟨0, 9, 12, 25⟩] ⟨0, 9, 15, 15⟩ [] htab (List.forall_mem_cons.mpr ⟨Or.inr ⟨by decide, xS, hG _ vq_t248, hCx.2.2.2.2.2.2.1 _ (by decide) _ (by decide) (by decide)⟩, fun _ h => absurd h List.not_mem_nil⟩) rfl (by decide) (hG _ vq_t138) (va_Nw.use rfl (hCx.2.2.2.2.2.1 _ (by decide))) h91 h92 h93 ?_
      refine W.eq (g2 := F0 m 15 ls [.ref q9]) rfl ?_
      refine lv_astore_n (lv' := [(3, .ref q9), (0, .ref h0), (1, .int x), (2, .ref oa)]) hx hb d_LW_pile_15 rfl hl (by decide) rfl (fun ls hl => ?_)
      refine lv_iconst (v := 2) hx hb d_LW_pile_16 (by decide) ?_
      refine vx_ret ?_
      refine W.widen (k := 1) (n := 6) (Nat.le_of_ble_eq_true rfl) (Nat.le_of_ble_eq_true rfl) ?_
      have hP9 : va_P (dC, dI) vq_cl [(h0, .inr (0, [.ref aMo, .ref aSh, .ref aLa, .ref aDy, .ref aMa, .ref aKi, .int zCn, .ref aPi, .int zPc, .ref aLn, .int zTo])), (aPi, .inl ((cs 2), 4, .inr (.inr (.inr (.inr fPi))))), (pa, .inr (1, [.int zSl, .ref bLG, .ref bLS, .int zLy, .int zGr, .int zTk, .int zGt, .int zLt, .ref bLt, .ref bGS, .ref bGG, .ref bES, .ref bEG])), (oa, .inl ((cs 1), 1, .inr (.inl fO)))] _ := hP.sub [0, 1, 2, 3] rfl
      have hD9 : va_D A [(h0, .inr (0, [.ref aMo, .ref aSh, .ref aLa, .ref aDy, .ref aMa, .ref aKi, .int zCn, .ref aPi, .int zPc, .ref aLn, .int zTo])), (aPi, .inl ((cs 2), 4, .inr (.inr (.inr (.inr fPi))))), (pa, .inr (1, [.int zSl, .ref bLG, .ref bLS, .int zLy, .int zGr, .int zTk, .int zGt, .int zLt, .ref bLt, .ref bGS, .ref bGG, .ref bES, .ref bEG])), (oa, .inl ((cs 1), 1, .inr (.inl fO)))] := hD.sub [0, 1, 2, 3] (by decide) rfl
      exact W.iret (v := 2) hx hb hr (fun t ht hW => ⟨⟨2, (), rfl, by decide +kernel, ⟨by rw [ht]; exact hP9, hD9⟩⟩, hS.F ht⟩) hS.2.2 d_LW_pile_17
  have hP : va_P (dC, dI) vq_cl [(oa, .inl ((cs 1), 1, .inr (.inl fO))), (h0, .inr (0, [.ref aMo, .ref aSh, .ref aLa, .ref aDy, .ref aMa, .ref aKi, .int zCn, .ref aPi, .int (zPc + 1), .ref aLn, .int zTo])), (aPi, .inl ((cs 2), 4, .inr (.inr (.inr (.inr fPi))))), (pa, .inr (1, [.int x, .ref bLG, .ref bLS, .int zLy, .int zGr, .int zTk, .int zGt, .int zLt, .ref bLt, .ref bGS, .ref bGG, .ref bES, .ref bEG]))] H := hP
  have hD : va_D A [(oa, .inl ((cs 1), 1, .inr (.inl fO))), (h0, .inr (0, [.ref aMo, .ref aSh, .ref aLa, .ref aDy, .ref aMa, .ref aKi, .int zCn, .ref aPi, .int (zPc + 1), .ref aLn, .int zTo])), (aPi, .inl ((cs 2), 4, .inr (.inr (.inr (.inr fPi))))), (pa, .inr (1, [.int x, .ref bLG, .ref bLS, .int zLy, .int zGr, .int zTk, .int zGt, .int zLt, .ref bLt, .ref bGS, .ref bGG, .ref bES, .ref bEG]))] := hD
  exact absurd (hX.symm.trans w_4.2) (fun h => nomatch h)
set_option maxHeartbeats 4000000 in
set_option maxRecDepth 100000 in
/-- law.pile, no such pile -/
theorem h_pile_b (l : Launch) (hlT : l.stackTraces = false) (dC : Nat → ClassId) (dI : Nat → Nat → Nat) (cs : Nat → ClassId) (sz : Nat) (h0 : Nat) (aMo : Nat) (aSh : Nat) (aLa : Nat) (aDy : Nat) (aMa : Nat) (aKi : Nat) (aPi : Nat) (aLn : Nat) (zCn : Int32) (zPc : Int32) (zTo : Int32) (x : Int32) (oa : Nat) (fO : Nat → Int64) (hi : ¬ zPc < 4) : vx_Met l y_LW_pile w_LW_pile ({ frames := 7, cells := 1, slots := 6, locals := 105 }) (vq_PreR (dC, dI) cs [(h0, .inr (0, [.ref aMo, .ref aSh, .ref aLa, .ref aDy, .ref aMa, .ref aKi, .int zCn, .ref aPi, .int zPc, .ref aLn, .int zTo])), (oa, .inl ((cs 1), 1, .inr (.inl fO)))] sz [.ref h0, .int x, .ref oa]) (va_Qi (fun (r : Int32) (_ : Unit) => r = 1) (fun _ _ => True) (va_A [] sz)) (vq_X (fun E => False) sz) 1 6 (va_A [] sz) := by
  refine vx_ofWH (cc := b_LW_pile) (maxL := 4) (ret := (some .int)) (hh := [(0, 9, 12, 25), (0, 9, 15, 15)]) (by decide) rfl ?_
  intro p e s m args below meth c s₁ B hml hv
  have htab : c.exceptionTable.toList = tableOf [(0, 9, 12, 25), (0, 9, 15, 15)] := vx_table (x := y_LW_pile) B (atoms_spec (ws := w_LW_pile) B.pre _ List.mem_cons_self)
  obtain ⟨rfl, hsz, hP, hCx⟩ := hv
  have hx := B.exec
  have hb := B.bytes
  have hr := B.returns
  have hG := vq_hG (atoms_spec (ws := w_LW_pile) B.pre)
  have hown : s.vm.findClass R_LW = some m.cls := findClass_of_methodNamed B.named
  have hlocks := B.notSynchronized
  subst hsz
  have hK := hCx.1
  have hA : ∀ q : Nat, s.heap.size ≤ q → va_A [] s.heap.size q := fun q h => Or.inr h
  have hA0 : ∀ q : Nat, s.heap.size ≤ q → va_A [] s.heap.size q := fun q h => Or.inr h
  have hS : va_S (va_A [] s.heap.size) s.heap s.heap [] := va_S.rf
  have hl := lv_entry ([.ref h0, .int x, .ref oa]) (n := 4) (Nat.le_of_ble_eq_true rfl)
  rw [lg_entry_eq]
  generalize (lg_sl ([.ref h0, .int x, .ref oa]) ++ List.replicate (4 - (lg_sl ([.ref h0, .int x, .ref oa])).length) Slot.unset).toArray = ls at hl ⊢
  have hl : lv_has ls 4 [(0, .ref h0), (1, .int x), (2, .ref oa)] := hl
  have hP : va_P (dC, dI) vq_cl [(h0, .inr (0, [.ref aMo, .ref aSh, .ref aLa, .ref aDy, .ref aMa, .ref aKi, .int zCn, .ref aPi, .int zPc, .ref aLn, .int zTo])), (oa, .inl ((cs 1), 1, .inr (.inl fO)))] s.heap := hP
  refine lv_aload_n hx hb d_LW_pile_0 rfl (lv_at hl 2 rfl) ?_
  refine lv_iconst (v := 0) hx hb d_LW_pile_1 (by decide) ?_
  refine lv_aload_n hx hb d_LW_pile_2 rfl (lv_at hl 0 rfl) ?_
  refine lv_iload_n hx hb d_LW_pile_3 rfl (lv_at hl 1 rfl) ?_
  refine mx_rv (vx_runV (As := [.int x]) (rest := [.int 0, .ref oa]) ⟨hx, hb, hml, hown, hG⟩ (c_pile_bad l hlT dC dI cs _ h0 aMo aSh aLa aDy aMa aKi aPi aLn zCn zPc zTo x hi) (cwV 1 hG (vq_gV vq_t286 vq_t287 vq_t288 vq_t1 vq_t289) rfl rfl rfl (by decide +kernel) ⟨Nat.le_of_ble_eq_true rfl, Nat.le_of_ble_eq_true rfl⟩) (vq_preVr (wc := [(h0, .inr (0, [.ref aMo, .ref aSh, .ref aLa, .ref aDy, .ref aMa, .ref aKi, .int zCn, .ref aPi, .int zPc, .ref aLn, .int zTo]))]) (va_recv hK hP (ci := 0) (q0 := 0) rfl rfl) hCx hP (vq_wk hS hA) hA [0] rfl) rfl rfl hl.1 rfl (lv_room (Nat.le_of_ble_eq_true rfl)) d_LW_pile_4 ⟨Nat.le_of_ble_eq_true rfl, Nat.le_of_ble_eq_true rfl⟩) hP hS hA0 (fun E ce q9 H locs x_4 hP hS h91 h92 h93 => ?_) (fun H locs w_4 hP hS => ?_)
  · skip
    obtain rfl := x_4
    · skip
      refine vx_catch (name := xS) hown [] ⟨0, 9, 12, 25⟩ [⟨0, 9, 15, 15⟩] htab (fun _ h => absurd h List.not_mem_nil) rfl (by decide) (hG _ vq_t248) (va_Nw.use rfl (hCx.2.2.2.2.2.1 _ (by decide))) h91 h92 h93 ?_
      refine W.eq (g2 := F0 m 12 ls [.ref q9]) rfl ?_
      refine lv_astore_n (lv' := [(3, .ref q9), (0, .ref h0), (1, .int x), (2, .ref oa)]) hx hb d_LW_pile_12 rfl hl (by decide) rfl (fun ls hl => ?_)
      refine lv_iconst (v := 1) hx hb d_LW_pile_13 (by decide) ?_
      refine vx_ret ?_
      refine W.widen (k := 1) (n := 6) (Nat.le_of_ble_eq_true rfl) (Nat.le_of_ble_eq_true rfl) ?_
      exact W.iret (v := 1) hx hb hr (fun t ht hW => ⟨⟨1, (), rfl, rfl, trivial⟩, hS.F ht⟩) hS.2.2 d_LW_pile_14
  exact w_4.elim
set_option maxHeartbeats 4000000 in
set_option maxRecDepth 100000 in
/-- law.lay, where it goes through -/
theorem h_lay_n (l : Launch) (hlT : l.stackTraces = false) (dC : Nat → ClassId) (dI : Nat → Nat → Nat) (cs : Nat → ClassId) (sz : Nat) (h0 : Nat) (aMo : Nat) (aSh : Nat) (aLa : Nat) (aDy : Nat) (aMa : Nat) (aKi : Nat) (aPi : Nat) (aLn : Nat) (zCn : Int32) (zPc : Int32) (zTo : Int32) (fPi : Nat → Option Nat) (pa : Nat) (bLG : Nat) (bLS : Nat) (bLt : Nat) (bGS : Nat) (bGG : Nat) (bES : Nat) (bEG : Nat) (zSl : Int32) (zLy : Int32) (zGr : Int32) (zTk : Int32) (zGt : Int32) (zLt : Int32) (fMo : Nat → Int32) (fSh : Nat → Int32) (fLa : Nat → Int32) (fDy : Nat → Int32) (fMa : Nat → Int32) (fKi : Nat → Int32) (fLG : Nat → Int32) (fLS : Nat → Int32) (x : Int32) (y : Int32) (kg : Int32) (oa : Nat) (fO : Nat → Int64) (hi : okP x) (hf : fPi x.toNatClampNeg = some pa) (hz : ¬ zPc ≤ x) (hy : ¬ zLy < 0) (hX : X_lay y kg zTk zLy (stockF fLa fDy fMa fKi zCn zTo y) = none) : vx_Met l y_LW_lay w_LW_lay ({ frames := 8, cells := 3, slots := 18, locals := 128 }) (vq_Pre (dC, dI) cs [(h0, .inr (0, [.ref aMo, .ref aSh, .ref aLa, .ref aDy, .ref aMa, .ref aKi, .int zCn, .ref aPi, .int zPc, .ref aLn, .int zTo])), (aPi, .inl ((cs 2), 4, .inr (.inr (.inr (.inr fPi))))), (aMo, .inl ((cs 0), 8, .inl fMo)), (aSh, .inl ((cs 0), 32, .inl fSh)), (aLa, .inl ((cs 0), 8, .inl fLa)), (aDy, .inl ((cs 0), 40, .inl fDy)), (aMa, .inl ((cs 0), 40, .inl fMa)), (aKi, .inl ((cs 0), 40, .inl fKi)), (pa, .inr (1, [.int zSl, .ref bLG, .ref bLS, .int zLy, .int zGr, .int zTk, .int zGt, .int zLt, .ref bLt, .ref bGS, .ref bGG, .ref bES, .ref bEG])), (bLG, .inl ((cs 0), 20, .inl fLG)), (bLS, .inl ((cs 0), 80, .inl fLS)), (oa, .inl ((cs 1), 1, .inr (.inl fO)))] sz [.ref h0, .int x, .int y, .int kg, .ref oa]) (va_Qi (fun (r : Int32) (_ : Unit) => r = 0) (vq_B (dC, dI) cs (va_A [(h0, .inr (0, [.ref aMo, .ref aSh, .ref aLa, .ref aDy, .ref aMa, .ref aKi, .int zCn, .ref aPi, .int zPc, .ref aLn, .int zTo])), (aPi, .inl ((cs 2), 4, .inr (.inr (.inr (.inr fPi))))), (aMo, .inl ((cs 0), 8, .inl fMo)), (aSh, .inl ((cs 0), 32, .inl fSh)), (aLa, .inl ((cs 0), 8, .inl fLa)), (aDy, .inl ((cs 0), 40, .inl fDy)), (aMa, .inl ((cs 0), 40, .inl fMa)), (aKi, .inl ((cs 0), 40, .inl fKi)), (pa, .inr (1, [.int zSl, .ref bLG, .ref bLS, .int zLy, .int zGr, .int zTk, .int zGt, .int zLt, .ref bLt, .ref bGS, .ref bGG, .ref bES, .ref bEG])), (bLG, .inl ((cs 0), 20, .inl fLG)), (bLS, .inl ((cs 0), 80, .inl fLS)), (oa, .inl ((cs 1), 1, .inr (.inl fO)))] sz) (fun _ => [(h0, .inr (0, [.ref aMo, .ref aSh, .ref aLa, .ref aDy, .ref aMa, .ref aKi, .int zCn, .ref aPi, .int zPc, .ref aLn, .int zTo])), (aPi, .inl ((cs 2), 4, .inr (.inr (.inr (.inr fPi))))), (aMo, .inl ((cs 0), 8, .inl fMo)), (aSh, .inl ((cs 0), 32, .inl fSh)), (aLa, .inl ((cs 0), 8, .inl (upd fLa y.toNatClampNeg ((fLa y.toNatClampNeg) + kg)))), (aDy, .inl ((cs 0), 40, .inl fDy)), (aMa, .inl ((cs 0), 40, .inl fMa)), (aKi, .inl ((cs 0), 40, .inl fKi)), (pa, .inr (1, [.int zSl, .ref bLG, .ref bLS, .int (zLy + 1), .int (zGr + (kg * (1000 - (fMo y.toNatClampNeg)))), .int zTk, .int zGt, .int zLt, .ref bLt, .ref bGS, .ref bGG, .ref bES, .ref bEG])), (bLG, .inl ((cs 0), 20, .inl (upd fLG zLy.toNatClampNeg (kg * (1000 - (fMo y.toNatClampNeg)))))), (bLS, .inl ((cs 0), 80, .inl (al4 fLS zLy fSh y))), (oa, .inl ((cs 1), 1, .inr (.inl (vp_updL fO (0 : Int32).toNatClampNeg ((zGr + (kg * (1000 - (fMo y.toNatClampNeg)))).toInt64)))))])) (va_A [(h0, .inr (0, [.ref aMo, .ref aSh, .ref aLa, .ref aDy, .ref aMa, .ref aKi, .int zCn, .ref aPi, .int zPc, .ref aLn, .int zTo])), (aPi, .inl ((cs 2), 4, .inr (.inr (.inr (.inr fPi))))), (aMo, .inl ((cs 0), 8, .inl fMo)), (aSh, .inl ((cs 0), 32, .inl fSh)), (aLa, .inl ((cs 0), 8, .inl fLa)), (aDy, .inl ((cs 0), 40, .inl fDy)), (aMa, .inl ((cs 0), 40, .inl fMa)), (aKi, .inl ((cs 0), 40, .inl fKi)), (pa, .inr (1, [.int zSl, .ref bLG, .ref bLS, .int zLy, .int zGr, .int zTk, .int zGt, .int zLt, .ref bLt, .ref bGS, .ref bGG, .ref bES, .ref bEG])), (bLG, .inl ((cs 0), 20, .inl fLG)), (bLS, .inl ((cs 0), 80, .inl fLS)), (oa, .inl ((cs 1), 1, .inr (.inl fO)))] sz)) (vq_X (fun E => False) sz) 3 18 (va_A [(h0, .inr (0, [.ref aMo, .ref aSh, .ref aLa, .ref aDy, .ref aMa, .ref aKi, .int zCn, .ref aPi, .int zPc, .ref aLn, .int zTo])), (aPi, .inl ((cs 2), 4, .inr (.inr (.inr (.inr fPi))))), (aMo, .inl ((cs 0), 8, .inl fMo)), (aSh, .inl ((cs 0), 32, .inl fSh)), (aLa, .inl ((cs 0), 8, .inl fLa)), (aDy, .inl ((cs 0), 40, .inl fDy)), (aMa, .inl ((cs 0), 40, .inl fMa)), (aKi, .inl ((cs 0), 40, .inl fKi)), (pa, .inr (1, [.int zSl, .ref bLG, .ref bLS, .int zLy, .int zGr, .int zTk, .int zGt, .int zLt, .ref bLt, .ref bGS, .ref bGG, .ref bES, .ref bEG])), (bLG, .inl ((cs 0), 20, .inl fLG)), (bLS, .inl ((cs 0), 80, .inl fLS)), (oa, .inl ((cs 1), 1, .inr (.inl fO)))] sz) := by
  refine vx_ofWH (cc := b_LW_lay) (maxL := 6) (ret := (some .int)) (hh := [(0, 12, 15, 13), (0, 12, 19, 25), (0, 12, 23, 15), (0, 12, 27, 38)]) (by decide) rfl ?_
  intro p e s m args below meth c s₁ B hml hv
  have htab : c.exceptionTable.toList = tableOf [(0, 12, 15, 13), (0, 12, 19, 25), (0, 12, 23, 15), (0, 12, 27, 38)] := vx_table (x := y_LW_lay) B (atoms_spec (ws := w_LW_lay) B.pre _ List.mem_cons_self)
  obtain ⟨rfl, hsz, hP, hD0, hCx⟩ := hv
  have hx := B.exec
  have hb := B.bytes
  have hr := B.returns
  have hG := vq_hG (atoms_spec (ws := w_LW_lay) B.pre)
  have hown : s.vm.findClass R_LW = some m.cls := findClass_of_methodNamed B.named
  have hlocks := B.notSynchronized
  subst hsz
  have hK := hCx.1
  have hD := hD0.self (sz := s.heap.size)
  generalize hAe : va_A [(h0, .inr (0, [.ref aMo, .ref aSh, .ref aLa, .ref aDy, .ref aMa, .ref aKi, .int zCn, .ref aPi, .int zPc, .ref aLn, .int zTo])), (aPi, .inl ((cs 2), 4, .inr (.inr (.inr (.inr fPi))))), (aMo, .inl ((cs 0), 8, .inl fMo)), (aSh, .inl ((cs 0), 32, .inl fSh)), (aLa, .inl ((cs 0), 8, .inl fLa)), (aDy, .inl ((cs 0), 40, .inl fDy)), (aMa, .inl ((cs 0), 40, .inl fMa)), (aKi, .inl ((cs 0), 40, .inl fKi)), (pa, .inr (1, [.int zSl, .ref bLG, .ref bLS, .int zLy, .int zGr, .int zTk, .int zGt, .int zLt, .ref bLt, .ref bGS, .ref bGG, .ref bES, .ref bEG])), (bLG, .inl ((cs 0), 20, .inl fLG)), (bLS, .inl ((cs 0), 80, .inl fLS)), (oa, .inl ((cs 1), 1, .inr (.inl fO)))] s.heap.size = A at hD hCx ⊢
  have hA : ∀ q : Nat, s.heap.size ≤ q → A q := fun q h => by rw [← hAe]; exact Or.inr h
  have hA0 : ∀ q : Nat, s.heap.size ≤ q → va_A [] s.heap.size q := fun q h => Or.inr h
  have hS : va_S (va_A [] s.heap.size) s.heap s.heap [] := va_S.rf
  have hl := lv_entry ([.ref h0, .int x, .int y, .int kg, .ref oa]) (n := 6) (Nat.le_of_ble_eq_true rfl)
  rw [lg_entry_eq]
  generalize (lg_sl ([.ref h0, .int x, .int y, .int kg, .ref oa]) ++ List.replicate (6 - (lg_sl ([.ref h0, .int x, .int y, .int kg, .ref oa])).length) Slot.unset).toArray = ls at hl ⊢
  have hl : lv_has ls 6 [(0, .ref h0), (1, .int x), (2, .int y), (3, .int kg), (4, .ref oa)] := hl
  have hP : va_P (dC, dI) vq_cl [(h0, .inr (0, [.ref aMo, .ref aSh, .ref aLa, .ref aDy, .ref aMa, .ref aKi, .int zCn, .ref aPi, .int zPc, .ref aLn, .int zTo])), (aPi, .inl ((cs 2), 4, .inr (.inr (.inr (.inr fPi))))), (aMo, .inl ((cs 0), 8, .inl fMo)), (aSh, .inl ((cs 0), 32, .inl fSh)), (aLa, .inl ((cs 0), 8, .inl fLa)), (aDy, .inl ((cs 0), 40, .inl fDy)), (aMa, .inl ((cs 0), 40, .inl fMa)), (aKi, .inl ((cs 0), 40, .inl fKi)), (pa, .inr (1, [.int zSl, .ref bLG, .ref bLS, .int zLy, .int zGr, .int zTk, .int zGt, .int zLt, .ref bLt, .ref bGS, .ref bGG, .ref bES, .ref bEG])), (bLG, .inl ((cs 0), 20, .inl fLG)), (bLS, .inl ((cs 0), 80, .inl fLS)), (oa, .inl ((cs 1), 1, .inr (.inl fO)))] s.heap := hP
  refine lv_aload hx hb d_LW_lay_0 (lv_at hl 4 rfl) ?_
  refine lv_iconst (v := 0) hx hb d_LW_lay_2 (by decide) ?_
  refine lv_aload_n hx hb d_LW_lay_3 rfl (lv_at hl 0 rfl) ?_
  refine lv_iload_n hx hb d_LW_lay_4 rfl (lv_at hl 1 rfl) ?_
  refine lv_iload_n hx hb d_LW_lay_5 rfl (lv_at hl 2 rfl) ?_
  refine lv_iload_n hx hb d_LW_lay_6 rfl (lv_at hl 3 rfl) ?_
  have hS := vq_wk hS hA
  refine mx_wi (vx_runV (As := [.int x, .int y, .int kg]) (rest := [.int 0, .ref oa]) ⟨hx, hb, hml, hown, hG⟩ (c_lay l hlT dC dI cs _ h0 aMo aSh aLa aDy aMa aKi aPi aLn zCn zPc zTo fPi pa bLG bLS bLt bGS bGG bES bEG zSl zLy zGr zTk zGt zLt fMo fSh fLa fDy fMa fKi fLG fLS x y kg hi hf hz hy) (cwV 3 hG (vq_gV vq_t296 vq_t297 vq_t298 vq_t1 vq_t299) rfl rfl rfl (by decide +kernel) ⟨Nat.le_of_ble_eq_true rfl, Nat.le_of_ble_eq_true rfl⟩) (vq_preVw (wc := [(h0, .inr (0, [.ref aMo, .ref aSh, .ref aLa, .ref aDy, .ref aMa, .ref aKi, .int zCn, .ref aPi, .int zPc, .ref aLn, .int zTo])), (aPi, .inl ((cs 2), 4, .inr (.inr (.inr (.inr fPi))))), (aMo, .inl ((cs 0), 8, .inl fMo)), (aSh, .inl ((cs 0), 32, .inl fSh)), (aLa, .inl ((cs 0), 8, .inl fLa)), (aDy, .inl ((cs 0), 40, .inl fDy)), (aMa, .inl ((cs 0), 40, .inl fMa)), (aKi, .inl ((cs 0), 40, .inl fKi)), (pa, .inr (1, [.int zSl, .ref bLG, .ref bLS, .int zLy, .int zGr, .int zTk, .int zGt, .int zLt, .ref bLt, .ref bGS, .ref bGG, .ref bES, .ref bEG])), (bLG, .inl ((cs 0), 20, .inl fLG)), (bLS, .inl ((cs 0), 80, .inl fLS))]) (va_recv hK hP (ci := 0) (q0 := 0) rfl rfl) hCx hP hD hS hA [0, 1, 2, 3, 4, 5, 6, 7, 8, 9, 10] rfl rfl (by decide)) rfl rfl hl.1 rfl (lv_room (Nat.le_of_ble_eq_true rfl)) d_LW_lay_7 ⟨Nat.le_of_ble_eq_true rfl, Nat.le_of_ble_eq_true rfl⟩) hP hD hS hA [0, 1, 2, 3, 4, 5, 6, 7, 8, 9, 10] [11] rfl rfl (by decide) (by decide) (fun E ce q9 H locs x_7 hP hS h91 h92 h93 => absurd (hX.symm.trans x_7) (fun h => nomatch h)) (fun r_7 _ H locs w_7 hP hD hS => ?_)
  have hP : va_P (dC, dI) vq_cl [(oa, .inl ((cs 1), 1, .inr (.inl fO))), (h0, .inr (0, [.ref aMo, .ref aSh, .ref aLa, .ref aDy, .ref aMa, .ref aKi, .int zCn, .ref aPi, .int zPc, .ref aLn, .int zTo])), (aPi, .inl ((cs 2), 4, .inr (.inr (.inr (.inr fPi))))), (aMo, .inl ((cs 0), 8, .inl fMo)), (aSh, .inl ((cs 0), 32, .inl fSh)), (aLa, .inl ((cs 0), 8, .inl (upd fLa y.toNatClampNeg ((fLa y.toNatClampNeg) + kg)))), (aDy, .inl ((cs 0), 40, .inl fDy)), (aMa, .inl ((cs 0), 40, .inl fMa)), (aKi, .inl ((cs 0), 40, .inl fKi)), (pa, .inr (1, [.int zSl, .ref bLG, .ref bLS, .int (zLy + 1), .int (zGr + (kg * (1000 - (fMo y.toNatClampNeg)))), .int zTk, .int zGt, .int zLt, .ref bLt, .ref bGS, .ref bGG, .ref bES, .ref bEG])), (bLG, .inl ((cs 0), 20, .inl (upd fLG zLy.toNatClampNeg (kg * (1000 - (fMo y.toNatClampNeg)))))), (bLS, .inl ((cs 0), 80, .inl (al4 fLS zLy fSh y)))] H := hP
  have hD : va_D A [(oa, .inl ((cs 1), 1, .inr (.inl fO))), (h0, .inr (0, [.ref aMo, .ref aSh, .ref aLa, .ref aDy, .ref aMa, .ref aKi, .int zCn, .ref aPi, .int zPc, .ref aLn, .int zTo])), (aPi, .inl ((cs 2), 4, .inr (.inr (.inr (.inr fPi))))), (aMo, .inl ((cs 0), 8, .inl fMo)), (aSh, .inl ((cs 0), 32, .inl fSh)), (aLa, .inl ((cs 0), 8, .inl (upd fLa y.toNatClampNeg ((fLa y.toNatClampNeg) + kg)))), (aDy, .inl ((cs 0), 40, .inl fDy)), (aMa, .inl ((cs 0), 40, .inl fMa)), (aKi, .inl ((cs 0), 40, .inl fKi)), (pa, .inr (1, [.int zSl, .ref bLG, .ref bLS, .int (zLy + 1), .int (zGr + (kg * (1000 - (fMo y.toNatClampNeg)))), .int zTk, .int zGt, .int zLt, .ref bLt, .ref bGS, .ref bGG, .ref bES, .ref bEG])), (bLG, .inl ((cs 0), 20, .inl (upd fLG zLy.toNatClampNeg (kg * (1000 - (fMo y.toNatClampNeg)))))), (bLS, .inl ((cs 0), 80, .inl (al4 fLS zLy fSh y)))] := hD
  refine W.widen (k := 3) (n := 18) (Nat.le_of_ble_eq_true rfl) (Nat.le_of_ble_eq_true rfl) ?_
  obtain ⟨rfl, w_7⟩ := w_7
  refine lv_i2l hx hb d_LW_lay_10 rfl ?_
  refine va_last (D := (dC, dI)) hx hb hK hP hD hS 0 1 rfl rfl (vq_in 1 rfl (by decide) (by decide)) d_LW_lay_11 (fun H locs hP hD hS => ?_)
  have hP : va_P (dC, dI) vq_cl [(oa, .inl ((cs 1), 1, .inr (.inl (vp_updL fO (0 : Int32).toNatClampNeg ((zGr + (kg * (1000 - (fMo y.toNatClampNeg)))).toInt64))))), (h0, .inr (0, [.ref aMo, .ref aSh, .ref aLa, .ref aDy, .ref aMa, .ref aKi, .int zCn, .ref aPi, .int zPc, .ref aLn, .int zTo])), (aPi, .inl ((cs 2), 4, .inr (.inr (.inr (.inr fPi))))), (aMo, .inl ((cs 0), 8, .inl fMo)), (aSh, .inl ((cs 0), 32, .inl fSh)), (aLa, .inl ((cs 0), 8, .inl (upd fLa y.toNatClampNeg ((fLa y.toNatClampNeg) + kg)))), (aDy, .inl ((cs 0), 40, .inl fDy)), (aMa, .inl ((cs 0), 40, .inl fMa)), (aKi, .inl ((cs 0), 40, .inl fKi)), (pa, .inr (1, [.int zSl, .ref bLG, .ref bLS, .int (zLy + 1), .int (zGr + (kg * (1000 - (fMo y.toNatClampNeg)))), .int zTk, .int zGt, .int zLt, .ref bLt, .ref bGS, .ref bGG, .ref bES, .ref bEG])), (bLG, .inl ((cs 0), 20, .inl (upd fLG zLy.toNatClampNeg (kg * (1000 - (fMo y.toNatClampNeg)))))), (bLS, .inl ((cs 0), 80, .inl (al4 fLS zLy fSh y)))] H := hP
  have hD : va_D A [(oa, .inl ((cs 1), 1, .inr (.inl (vp_updL fO (0 : Int32).toNatClampNeg ((zGr + (kg * (1000 - (fMo y.toNatClampNeg)))).toInt64))))), (h0, .inr (0, [.ref aMo, .ref aSh, .ref aLa, .ref aDy, .ref aMa, .ref aKi, .int zCn, .ref aPi, .int zPc, .ref aLn, .int zTo])), (aPi, .inl ((cs 2), 4, .inr (.inr (.inr (.inr fPi))))), (aMo, .inl ((cs 0), 8, .inl fMo)), (aSh, .inl ((cs 0), 32, .inl fSh)), (aLa, .inl ((cs 0), 8, .inl (upd fLa y.toNatClampNeg ((fLa y.toNatClampNeg) + kg)))), (aDy, .inl ((cs 0), 40, .inl fDy)), (aMa, .inl ((cs 0), 40, .inl fMa)), (aKi, .inl ((cs 0), 40, .inl fKi)), (pa, .inr (1, [.int zSl, .ref bLG, .ref bLS, .int (zLy + 1), .int (zGr + (kg * (1000 - (fMo y.toNatClampNeg)))), .int zTk, .int zGt, .int zLt, .ref bLt, .ref bGS, .ref bGG, .ref bES, .ref bEG])), (bLG, .inl ((cs 0), 20, .inl (upd fLG zLy.toNatClampNeg (kg * (1000 - (fMo y.toNatClampNeg)))))), (bLS, .inl ((cs 0), 80, .inl (al4 fLS zLy fSh y)))] := hD
  refine lv_goto (tgt := 31) hx hb d_LW_lay_12 (by decide) ?_
  refine lv_iconst (v := 0) hx hb d_LW_lay_31 (by decide) ?_
  refine vx_ret ?_
  refine W.widen (k := 3) (n := 18) (Nat.le_of_ble_eq_true rfl) (Nat.le_of_ble_eq_true rfl) ?_
  have hP9 : va_P (dC, dI) vq_cl [(h0, .inr (0, [.ref aMo, .ref aSh, .ref aLa, .ref aDy, .ref aMa, .ref aKi, .int zCn, .ref aPi, .int zPc, .ref aLn, .int zTo])), (aPi, .inl ((cs 2), 4, .inr (.inr (.inr (.inr fPi))))), (aMo, .inl ((cs 0), 8, .inl fMo)), (aSh, .inl ((cs 0), 32, .inl fSh)), (aLa, .inl ((cs 0), 8, .inl (upd fLa y.toNatClampNeg ((fLa y.toNatClampNeg) + kg)))), (aDy, .inl ((cs 0), 40, .inl fDy)), (aMa, .inl ((cs 0), 40, .inl fMa)), (aKi, .inl ((cs 0), 40, .inl fKi)), (pa, .inr (1, [.int zSl, .ref bLG, .ref bLS, .int (zLy + 1), .int (zGr + (kg * (1000 - (fMo y.toNatClampNeg)))), .int zTk, .int zGt, .int zLt, .ref bLt, .ref bGS, .ref bGG, .ref bES, .ref bEG])), (bLG, .inl ((cs 0), 20, .inl (upd fLG zLy.toNatClampNeg (kg * (1000 - (fMo y.toNatClampNeg)))))), (bLS, .inl ((cs 0), 80, .inl (al4 fLS zLy fSh y))), (oa, .inl ((cs 1), 1, .inr (.inl (vp_updL fO (0 : Int32).toNatClampNeg ((zGr + (kg * (1000 - (fMo y.toNatClampNeg)))).toInt64)))))] _ := hP.sub [1, 2, 3, 4, 5, 6, 7, 8, 9, 10, 11, 0] rfl
  have hD9 : va_D A [(h0, .inr (0, [.ref aMo, .ref aSh, .ref aLa, .ref aDy, .ref aMa, .ref aKi, .int zCn, .ref aPi, .int zPc, .ref aLn, .int zTo])), (aPi, .inl ((cs 2), 4, .inr (.inr (.inr (.inr fPi))))), (aMo, .inl ((cs 0), 8, .inl fMo)), (aSh, .inl ((cs 0), 32, .inl fSh)), (aLa, .inl ((cs 0), 8, .inl (upd fLa y.toNatClampNeg ((fLa y.toNatClampNeg) + kg)))), (aDy, .inl ((cs 0), 40, .inl fDy)), (aMa, .inl ((cs 0), 40, .inl fMa)), (aKi, .inl ((cs 0), 40, .inl fKi)), (pa, .inr (1, [.int zSl, .ref bLG, .ref bLS, .int (zLy + 1), .int (zGr + (kg * (1000 - (fMo y.toNatClampNeg)))), .int zTk, .int zGt, .int zLt, .ref bLt, .ref bGS, .ref bGG, .ref bES, .ref bEG])), (bLG, .inl ((cs 0), 20, .inl (upd fLG zLy.toNatClampNeg (kg * (1000 - (fMo y.toNatClampNeg)))))), (bLS, .inl ((cs 0), 80, .inl (al4 fLS zLy fSh y))), (oa, .inl ((cs 1), 1, .inr (.inl (vp_updL fO (0 : Int32).toNatClampNeg ((zGr + (kg * (1000 - (fMo y.toNatClampNeg)))).toInt64)))))] := hD.sub [1, 2, 3, 4, 5, 6, 7, 8, 9, 10, 11, 0] (by decide) rfl
  exact W.iret (v := 0) hx hb hr (fun t ht hW => ⟨⟨0, (), rfl, rfl, ⟨by rw [ht]; exact hP9, hD9⟩⟩, hS.F ht⟩) hS.2.2 d_LW_lay_32
set_option maxHeartbeats 4000000 in
set_option maxRecDepth 100000 in
/-- law.lay, where it is refused -/
theorem h_lay_s (l : Launch) (hlT : l.stackTraces = false) (dC : Nat → ClassId) (dI : Nat → Nat → Nat) (cs : Nat → ClassId) (sz : Nat) (h0 : Nat) (aMo : Nat) (aSh : Nat) (aLa : Nat) (aDy : Nat) (aMa : Nat) (aKi : Nat) (aPi : Nat) (aLn : Nat) (zCn : Int32) (zPc : Int32) (zTo : Int32) (fPi : Nat → Option Nat) (pa : Nat) (bLG : Nat) (bLS : Nat) (bLt : Nat) (bGS : Nat) (bGG : Nat) (bES : Nat) (bEG : Nat) (zSl : Int32) (zLy : Int32) (zGr : Int32) (zTk : Int32) (zGt : Int32) (zLt : Int32) (fMo : Nat → Int32) (fSh : Nat → Int32) (fLa : Nat → Int32) (fDy : Nat → Int32) (fMa : Nat → Int32) (fKi : Nat → Int32) (fLG : Nat → Int32) (fLS : Nat → Int32) (x : Int32) (y : Int32) (kg : Int32) (oa : Nat) (fO : Nat → Int64) (E0 : String) (hi : okP x) (hf : fPi x.toNatClampNeg = some pa) (hz : ¬ zPc ≤ x) (hy : ¬ zLy < 0) (hX : X_lay y kg zTk zLy (stockF fLa fDy fMa fKi zCn zTo y) = some E0) (hE : E0 = xI ∨ E0 = xS ∨ E0 = xA ∨ E0 = xU) : vx_Met l y_LW_lay w_LW_lay ({ frames := 8, cells := 3, slots := 18, locals := 128 }) (vq_Pre (dC, dI) cs [(h0, .inr (0, [.ref aMo, .ref aSh, .ref aLa, .ref aDy, .ref aMa, .ref aKi, .int zCn, .ref aPi, .int zPc, .ref aLn, .int zTo])), (aPi, .inl ((cs 2), 4, .inr (.inr (.inr (.inr fPi))))), (aMo, .inl ((cs 0), 8, .inl fMo)), (aSh, .inl ((cs 0), 32, .inl fSh)), (aLa, .inl ((cs 0), 8, .inl fLa)), (aDy, .inl ((cs 0), 40, .inl fDy)), (aMa, .inl ((cs 0), 40, .inl fMa)), (aKi, .inl ((cs 0), 40, .inl fKi)), (pa, .inr (1, [.int zSl, .ref bLG, .ref bLS, .int zLy, .int zGr, .int zTk, .int zGt, .int zLt, .ref bLt, .ref bGS, .ref bGG, .ref bES, .ref bEG])), (bLG, .inl ((cs 0), 20, .inl fLG)), (bLS, .inl ((cs 0), 80, .inl fLS)), (oa, .inl ((cs 1), 1, .inr (.inl fO)))] sz [.ref h0, .int x, .int y, .int kg, .ref oa]) (va_Qi (fun (r : Int32) (_ : Unit) => r = cdF [xI, xS, xA, xU] E0) (vq_B (dC, dI) cs (va_A [(h0, .inr (0, [.ref aMo, .ref aSh, .ref aLa, .ref aDy, .ref aMa, .ref aKi, .int zCn, .ref aPi, .int zPc, .ref aLn, .int zTo])), (aPi, .inl ((cs 2), 4, .inr (.inr (.inr (.inr fPi))))), (aMo, .inl ((cs 0), 8, .inl fMo)), (aSh, .inl ((cs 0), 32, .inl fSh)), (aLa, .inl ((cs 0), 8, .inl fLa)), (aDy, .inl ((cs 0), 40, .inl fDy)), (aMa, .inl ((cs 0), 40, .inl fMa)), (aKi, .inl ((cs 0), 40, .inl fKi)), (pa, .inr (1, [.int zSl, .ref bLG, .ref bLS, .int zLy, .int zGr, .int zTk, .int zGt, .int zLt, .ref bLt, .ref bGS, .ref bGG, .ref bES, .ref bEG])), (bLG, .inl ((cs 0), 20, .inl fLG)), (bLS, .inl ((cs 0), 80, .inl fLS)), (oa, .inl ((cs 1), 1, .inr (.inl fO)))] sz) (fun _ => [(h0, .inr (0, [.ref aMo, .ref aSh, .ref aLa, .ref aDy, .ref aMa, .ref aKi, .int zCn, .ref aPi, .int zPc, .ref aLn, .int zTo])), (aPi, .inl ((cs 2), 4, .inr (.inr (.inr (.inr fPi))))), (aMo, .inl ((cs 0), 8, .inl fMo)), (aSh, .inl ((cs 0), 32, .inl fSh)), (aLa, .inl ((cs 0), 8, .inl fLa)), (aDy, .inl ((cs 0), 40, .inl fDy)), (aMa, .inl ((cs 0), 40, .inl fMa)), (aKi, .inl ((cs 0), 40, .inl fKi)), (pa, .inr (1, [.int zSl, .ref bLG, .ref bLS, .int zLy, .int zGr, .int zTk, .int zGt, .int zLt, .ref bLt, .ref bGS, .ref bGG, .ref bES, .ref bEG])), (bLG, .inl ((cs 0), 20, .inl fLG)), (bLS, .inl ((cs 0), 80, .inl fLS)), (oa, .inl ((cs 1), 1, .inr (.inl fO)))])) (va_A [(h0, .inr (0, [.ref aMo, .ref aSh, .ref aLa, .ref aDy, .ref aMa, .ref aKi, .int zCn, .ref aPi, .int zPc, .ref aLn, .int zTo])), (aPi, .inl ((cs 2), 4, .inr (.inr (.inr (.inr fPi))))), (aMo, .inl ((cs 0), 8, .inl fMo)), (aSh, .inl ((cs 0), 32, .inl fSh)), (aLa, .inl ((cs 0), 8, .inl fLa)), (aDy, .inl ((cs 0), 40, .inl fDy)), (aMa, .inl ((cs 0), 40, .inl fMa)), (aKi, .inl ((cs 0), 40, .inl fKi)), (pa, .inr (1, [.int zSl, .ref bLG, .ref bLS, .int zLy, .int zGr, .int zTk, .int zGt, .int zLt, .ref bLt, .ref bGS, .ref bGG, .ref bES, .ref bEG])), (bLG, .inl ((cs 0), 20, .inl fLG)), (bLS, .inl ((cs 0), 80, .inl fLS)), (oa, .inl ((cs 1), 1, .inr (.inl fO)))] sz)) (vq_X (fun E => False) sz) 3 18 (va_A [(h0, .inr (0, [.ref aMo, .ref aSh, .ref aLa, .ref aDy, .ref aMa, .ref aKi, .int zCn, .ref aPi, .int zPc, .ref aLn, .int zTo])), (aPi, .inl ((cs 2), 4, .inr (.inr (.inr (.inr fPi))))), (aMo, .inl ((cs 0), 8, .inl fMo)), (aSh, .inl ((cs 0), 32, .inl fSh)), (aLa, .inl ((cs 0), 8, .inl fLa)), (aDy, .inl ((cs 0), 40, .inl fDy)), (aMa, .inl ((cs 0), 40, .inl fMa)), (aKi, .inl ((cs 0), 40, .inl fKi)), (pa, .inr (1, [.int zSl, .ref bLG, .ref bLS, .int zLy, .int zGr, .int zTk, .int zGt, .int zLt, .ref bLt, .ref bGS, .ref bGG, .ref bES, .ref bEG])), (bLG, .inl ((cs 0), 20, .inl fLG)), (bLS, .inl ((cs 0), 80, .inl fLS)), (oa, .inl ((cs 1), 1, .inr (.inl fO)))] sz) := by
  refine vx_ofWH (cc := b_LW_lay) (maxL := 6) (ret := (some .int)) (hh := [(0, 12, 15, 13), (0, 12, 19, 25), (0, 12, 23, 15), (0, 12, 27, 38)]) (by decide) rfl ?_
  intro p e s m args below meth c s₁ B hml hv
  have htab : c.exceptionTable.toList = tableOf [(0, 12, 15, 13), (0, 12, 19, 25), (0, 12, 23, 15), (0, 12, 27, 38)] := vx_table (x := y_LW_lay) B (atoms_spec (ws := w_LW_lay) B.pre _ List.mem_cons_self)
  obtain ⟨rfl, hsz, hP, hD0, hCx⟩ := hv
  have hx := B.exec
  have hb := B.bytes
  have hr := B.returns
  have hG := vq_hG (atoms_spec (ws := w_LW_lay) B.pre)
  have hown : s.vm.findClass R_LW = some m.cls := findClass_of_methodNamed B.named
  have hlocks := B.notSynchronized
  subst hsz
  have hK := hCx.1
  have hD := hD0.self (sz := s.heap.size)
  generalize hAe : va_A [(h0, .inr (0, [.ref aMo, .ref aSh, .ref aLa, .ref aDy, .ref aMa, .ref aKi, .int zCn, .ref aPi, .int zPc, .ref aLn, .int zTo])), (aPi, .inl ((cs 2), 4, .inr (.inr (.inr (.inr fPi))))), (aMo, .inl ((cs 0), 8, .inl fMo)), (aSh, .inl ((cs 0), 32, .inl fSh)), (aLa, .inl ((cs 0), 8, .inl fLa)), (aDy, .inl ((cs 0), 40, .inl fDy)), (aMa, .inl ((cs 0), 40, .inl fMa)), (aKi, .inl ((cs 0), 40, .inl fKi)), (pa, .inr (1, [.int zSl, .ref bLG, .ref bLS, .int zLy, .int zGr, .int zTk, .int zGt, .int zLt, .ref bLt, .ref bGS, .ref bGG, .ref bES, .ref bEG])), (bLG, .inl ((cs 0), 20, .inl fLG)), (bLS, .inl ((cs 0), 80, .inl fLS)), (oa, .inl ((cs 1), 1, .inr (.inl fO)))] s.heap.size = A at hD hCx ⊢
  have hA : ∀ q : Nat, s.heap.size ≤ q → A q := fun q h => by rw [← hAe]; exact Or.inr h
  have hA0 : ∀ q : Nat, s.heap.size ≤ q → va_A [] s.heap.size q := fun q h => Or.inr h
  have hS : va_S (va_A [] s.heap.size) s.heap s.heap [] := va_S.rf
  have hl := lv_entry ([.ref h0, .int x, .int y, .int kg, .ref oa]) (n := 6) (Nat.le_of_ble_eq_true rfl)
  rw [lg_entry_eq]
  generalize (lg_sl ([.ref h0, .int x, .int y, .int kg, .ref oa]) ++ List.replicate (6 - (lg_sl ([.ref h0, .int x, .int y, .int kg, .ref oa])).length) Slot.unset).toArray = ls at hl ⊢
  have hl : lv_has ls 6 [(0, .ref h0), (1, .int x), (2, .int y), (3, .int kg), (4, .ref oa)] := hl
  have hP : va_P (dC, dI) vq_cl [(h0, .inr (0, [.ref aMo, .ref aSh, .ref aLa, .ref aDy, .ref aMa, .ref aKi, .int zCn, .ref aPi, .int zPc, .ref aLn, .int zTo])), (aPi, .inl ((cs 2), 4, .inr (.inr (.inr (.inr fPi))))), (aMo, .inl ((cs 0), 8, .inl fMo)), (aSh, .inl ((cs 0), 32, .inl fSh)), (aLa, .inl ((cs 0), 8, .inl fLa)), (aDy, .inl ((cs 0), 40, .inl fDy)), (aMa, .inl ((cs 0), 40, .inl fMa)), (aKi, .inl ((cs 0), 40, .inl fKi)), (pa, .inr (1, [.int zSl, .ref bLG, .ref bLS, .int zLy, .int zGr, .int zTk, .int zGt, .int zLt, .ref bLt, .ref bGS, .ref bGG, .ref bES, .ref bEG])), (bLG, .inl ((cs 0), 20, .inl fLG)), (bLS, .inl ((cs 0), 80, .inl fLS)), (oa, .inl ((cs 1), 1, .inr (.inl fO)))] s.heap := hP
  refine lv_aload hx hb d_LW_lay_0 (lv_at hl 4 rfl) ?_
  refine lv_iconst (v := 0) hx hb d_LW_lay_2 (by decide) ?_
  refine lv_aload_n hx hb d_LW_lay_3 rfl (lv_at hl 0 rfl) ?_
  refine lv_iload_n hx hb d_LW_lay_4 rfl (lv_at hl 1 rfl) ?_
  refine lv_iload_n hx hb d_LW_lay_5 rfl (lv_at hl 2 rfl) ?_
  refine lv_iload_n hx hb d_LW_lay_6 rfl (lv_at hl 3 rfl) ?_
  have hS := vq_wk hS hA
  refine mx_wi (vx_runV (As := [.int x, .int y, .int kg]) (rest := [.int 0, .ref oa]) ⟨hx, hb, hml, hown, hG⟩ (c_lay l hlT dC dI cs _ h0 aMo aSh aLa aDy aMa aKi aPi aLn zCn zPc zTo fPi pa bLG bLS bLt bGS bGG bES bEG zSl zLy zGr zTk zGt zLt fMo fSh fLa fDy fMa fKi fLG fLS x y kg hi hf hz hy) (cwV 3 hG (vq_gV vq_t296 vq_t297 vq_t298 vq_t1 vq_t299) rfl rfl rfl (by decide +kernel) ⟨Nat.le_of_ble_eq_true rfl, Nat.le_of_ble_eq_true rfl⟩) (vq_preVw (wc := [(h0, .inr (0, [.ref aMo, .ref aSh, .ref aLa, .ref aDy, .ref aMa, .ref aKi, .int zCn, .ref aPi, .int zPc, .ref aLn, .int zTo])), (aPi, .inl ((cs 2), 4, .inr (.inr (.inr (.inr fPi))))), (aMo, .inl ((cs 0), 8, .inl fMo)), (aSh, .inl ((cs 0), 32, .inl fSh)), (aLa, .inl ((cs 0), 8, .inl fLa)), (aDy, .inl ((cs 0), 40, .inl fDy)), (aMa, .inl ((cs 0), 40, .inl fMa)), (aKi, .inl ((cs 0), 40, .inl fKi)), (pa, .inr (1, [.int zSl, .ref bLG, .ref bLS, .int zLy, .int zGr, .int zTk, .int zGt, .int zLt, .ref bLt, .ref bGS, .ref bGG, .ref bES, .ref bEG])), (bLG, .inl ((cs 0), 20, .inl fLG)), (bLS, .inl ((cs 0), 80, .inl fLS))]) (va_recv hK hP (ci := 0) (q0 := 0) rfl rfl) hCx hP hD hS hA [0, 1, 2, 3, 4, 5, 6, 7, 8, 9, 10] rfl rfl (by decide)) rfl rfl hl.1 rfl (lv_room (Nat.le_of_ble_eq_true rfl)) d_LW_lay_7 ⟨Nat.le_of_ble_eq_true rfl, Nat.le_of_ble_eq_true rfl⟩) hP hD hS hA [0, 1, 2, 3, 4, 5, 6, 7, 8, 9, 10] [11] rfl rfl (by decide) (by decide) (fun E ce q9 H locs x_7 hP hS h91 h92 h93 => ?_) (fun r_7 _ H locs w_7 hP hD hS => ?_)
  · skip
    obtain rfl := Option.some.inj (hX.symm.trans x_7)
    rcases hE with rfl | rfl | rfl | rfl
    · skip
      refine vx_catch (name := xI) hown [] ⟨0, 12, 15, 13⟩ [⟨0, 12, 19, 25⟩, ⟨0, 12, 23, 15⟩, ⟨0, 12, 27, 38⟩] htab (fun _ h => absurd h List.not_mem_nil) rfl (by decide) (hG _ vq_t137) (va_Nw.use rfl (hCx.2.2.2.2.2.1 _ (by decide))) h91 h92 h93 ?_
      refine W.eq (g2 := F0 m 15 ls [.ref q9]) rfl ?_
      refine lv_astore (lv' := [(5, .ref q9), (0, .ref h0), (1, .int x), (2, .int y), (3, .int kg), (4, .ref oa)]) hx hb d_LW_lay_15 hl (by decide) rfl (fun ls hl => ?_)
      refine lv_iconst (v := 1) hx hb d_LW_lay_17 (by decide) ?_
      refine vx_ret ?_
      refine W.widen (k := 3) (n := 18) (Nat.le_of_ble_eq_true rfl) (Nat.le_of_ble_eq_true rfl) ?_
      have hP9 : va_P (dC, dI) vq_cl [(h0, .inr (0, [.ref aMo, .ref aSh, .ref aLa, .ref aDy, .ref aMa, .ref aKi, .int zCn, .ref aPi, .int zPc, .ref aLn, .int zTo])), (aPi, .inl ((cs 2), 4, .inr (.inr (.inr (.inr fPi))))), (aMo, .inl ((cs 0), 8, .inl fMo)), (aSh, .inl ((cs 0), 32, .inl fSh)), (aLa, .inl ((cs 0), 8, .inl fLa)), (aDy, .inl ((cs 0), 40, .inl fDy)), (aMa, .inl ((cs 0), 40, .inl fMa)), (aKi, .inl ((cs 0), 40, .inl fKi)), (pa, .inr (1, [.int zSl, .ref bLG, .ref bLS, .int zLy, .int zGr, .int zTk, .int zGt, .int zLt, .ref bLt, .ref bGS, .ref bGG, .ref bES, .ref bEG])), (bLG, .inl ((cs 0), 20, .inl fLG)), (bLS, .inl ((cs 0), 80, .inl fLS)), (oa, .inl ((cs 1), 1, .inr (.inl fO)))] _ := hP.sub [0, 1, 2, 3, 4, 5, 6, 7, 8, 9, 10, 11] rfl
      have hD9 : va_D A [(h0, .inr (0, [.ref aMo, .ref aSh, .ref aLa, .ref aDy, .ref aMa, .ref aKi, .int zCn, .ref aPi, .int zPc, .ref aLn, .int zTo])), (aPi, .inl ((cs 2), 4, .inr (.inr (.inr (.inr fPi))))), (aMo, .inl ((cs 0), 8, .inl fMo)), (aSh, .inl ((cs 0), 32, .inl fSh)), (aLa, .inl ((cs 0), 8, .inl fLa)), (aDy, .inl ((cs 0), 40, .inl fDy)), (aMa, .inl ((cs 0), 40, .inl fMa)), (aKi, .inl ((cs 0), 40, .inl fKi)), (pa, .inr (1, [.int zSl, .ref bLG, .ref bLS, .int zLy, .int zGr, .int zTk, .int zGt, .int zLt, .ref bLt, .ref bGS, .ref bGG, .ref bES, .ref bEG])), (bLG, .inl ((cs 0), 20, .inl fLG)), (bLS, .inl ((cs 0), 80, .inl fLS)), (oa, .inl ((cs 1), 1, .inr (.inl fO)))] := hD.sub [0, 1, 2, 3, 4, 5, 6, 7, 8, 9, 10, 11] (by decide) rfl
      exact W.iret (v := 1) hx hb hr (fun t ht hW => ⟨⟨1, (), rfl, by decide +kernel, ⟨by rw [ht]; exact hP9, hD9⟩⟩, hS.F ht⟩) hS.2.2 d_LW_lay_18
    · skip
      refine vx_catch (name := xS) hown [⟨0, 12, 15, 13⟩] ⟨0, 12, 19, 25⟩ [⟨0, 12, 23, 15⟩, ⟨0, 12, 27, 38⟩] htab (List.forall_mem_cons.mpr ⟨Or.inr ⟨by decide, xI, hG _ vq_t137, hCx.2.2.2.2.2.2.1 _ (by decide) _ (by decide) (by decide)⟩, fun _ h => absurd h List.not_mem_nil⟩) rfl (by decide) (hG _ vq_t248) (va_Nw.use rfl (hCx.2.2.2.2.2.1 _ (by decide))) h91 h92 h93 ?_
      refine W.eq (g2 := F0 m 19 ls [.ref q9]) rfl ?_
      refine lv_astore (lv' := [(5, .ref q9), (0, .ref h0), (1, .int x), (2, .int y), (3, .int kg), (4, .ref oa)]) hx hb d_LW_lay_19 hl (by decide) rfl (fun ls hl => ?_)
      refine lv_iconst (v := 2) hx hb d_LW_lay_21 (by decide) ?_
      refine vx_ret ?_
      refine W.widen (k := 3) (n := 18) (Nat.le_of_ble_eq_true rfl) (Nat.le_of_ble_eq_true rfl) ?_
      have hP9 : va_P (dC, dI) vq_cl [(h0, .inr (0, [.ref aMo, .ref aSh, .ref aLa, .ref aDy, .ref aMa, .ref aKi, .int zCn, .ref aPi, .int zPc, .ref aLn, .int zTo])), (aPi, .inl ((cs 2), 4, .inr (.inr (.inr (.inr fPi))))), (aMo, .inl ((cs 0), 8, .inl fMo)), (aSh, .inl ((cs 0), 32, .inl fSh)), (aLa, .inl ((cs 0), 8, .inl fLa)), (aDy, .inl ((cs 0), 40, .inl fDy)), (aMa, .inl ((cs 0), 40, .inl fMa)), (aKi, .inl ((cs 0), 40, .inl fKi)), (pa, .inr (1, [.int zSl, .ref bLG, .ref bLS, .int zLy, .int zGr, .int zTk, .int zGt, .int zLt, .ref bLt, .ref bGS, .ref bGG, .ref bES, .ref bEG])), (bLG, .inl ((cs 0), 20, .inl fLG)), (bLS, .inl ((cs 0), 80, .inl fLS)), (oa, .inl ((cs 1), 1, .inr (.inl fO)))] _ := hP.sub [0, 1, 2, 3, 4, 5, 6, 7, 8, 9, 10, 11] rfl
      have hD9 : va_D A [(h0, .inr (0, [.ref aMo, .ref aSh, .ref aLa, .ref aDy, .ref aMa, .ref aKi, .int zCn, .ref aPi, .int zPc, .ref aLn, .int zTo])), (aPi, .inl ((cs 2), 4, .inr (.inr (.inr (.inr fPi))))), (aMo, .inl ((cs 0), 8, .inl fMo)), (aSh, .inl ((cs 0), 32, .inl fSh)), (aLa, .inl ((cs 0), 8, .inl fLa)), (aDy, .inl ((cs 0), 40, .inl fDy)), (aMa, .inl ((cs 0), 40, .inl fMa)), (aKi, .inl ((cs 0), 40, .inl fKi)), (pa, .inr (1, [.int zSl, .ref bLG, .ref bLS, .int zLy, .int zGr, .int zTk, .int zGt, .int zLt, .ref bLt, .ref bGS, .ref bGG, .ref bES, .ref bEG])), (bLG, .inl ((cs 0), 20, .inl fLG)), (bLS, .inl ((cs 0), 80, .inl fLS)), (oa, .inl ((cs 1), 1, .inr (.inl fO)))] := hD.sub [0, 1, 2, 3, 4, 5, 6, 7, 8, 9, 10, 11] (by decide) rfl
      exact W.iret (v := 2) hx hb hr (fun t ht hW => ⟨⟨2, (), rfl, by decide +kernel, ⟨by rw [ht]; exact hP9, hD9⟩⟩, hS.F ht⟩) hS.2.2 d_LW_lay_22
    · skip
      refine vx_catch (name := xA) hown [⟨0, 12, 15, 13⟩, ⟨0, 12, 19, 25⟩] ⟨0, 12, 23, 15⟩ [⟨0, 12, 27, 38⟩] htab (List.forall_mem_cons.mpr ⟨Or.inr ⟨by decide, xI, hG _ vq_t137, hCx.2.2.2.2.2.2.1 _ (by decide) _ (by decide) (by decide)⟩, List.forall_mem_cons.mpr ⟨Or.inr ⟨by decide, xS, hG _ vq_t248, hCx.2.2.2.2.2.2.1 _ (by decide) _ (by decide) (by decide)⟩, fun _ h => absurd h List.not_mem_nil⟩⟩) rfl (by decide) (hG _ vq_t138) (va_Nw.use rfl (hCx.2.2.2.2.2.1 _ (by decide))) h91 h92 h93 ?_
      refine W.eq (g2 := F0 m 23 ls [.ref q9]) rfl ?_
      refine lv_astore (lv' := [(5, .ref q9), (0, .ref h0), (1, .int x), (2, .int y), (3, .int kg), (4, .ref oa)]) hx hb d_LW_lay_23 hl (by decide) rfl (fun ls hl => ?_)
      refine lv_iconst (v := 3) hx hb d_LW_lay_25 (by decide) ?_
      refine vx_ret ?_
      refine W.widen (k := 3) (n := 18) (Nat.le_of_ble_eq_true rfl) (Nat.le_of_ble_eq_true rfl) ?_
      have hP9 : va_P (dC, dI) vq_cl [(h0, .inr (0, [.ref aMo, .ref aSh, .ref aLa, .ref aDy, .ref aMa, .ref aKi, .int zCn, .ref aPi, .int zPc, .ref aLn, .int zTo])), (aPi, .inl ((cs 2), 4, .inr (.inr (.inr (.inr fPi))))), (aMo, .inl ((cs 0), 8, .inl fMo)), (aSh, .inl ((cs 0), 32, .inl fSh)), (aLa, .inl ((cs 0), 8, .inl fLa)), (aDy, .inl ((cs 0), 40, .inl fDy)), (aMa, .inl ((cs 0), 40, .inl fMa)), (aKi, .inl ((cs 0), 40, .inl fKi)), (pa, .inr (1, [.int zSl, .ref bLG, .ref bLS, .int zLy, .int zGr, .int zTk, .int zGt, .int zLt, .ref bLt, .ref bGS, .ref bGG, .ref bES, .ref bEG])), (bLG, .inl ((cs 0), 20, .inl fLG)), (bLS, .inl ((cs 0), 80, .inl fLS)), (oa, .inl ((cs 1), 1, .inr (.inl fO)))] _ := hP.sub [0, 1, 2, 3, 4, 5, 6, 7, 8, 9, 10, 11] rfl
      have hD9 : va_D A [(h0, .inr (0, [.ref aMo, .ref aSh, .ref aLa, .ref aDy, .ref aMa, .ref aKi, .int zCn, .ref aPi, .int zPc, .ref aLn, .int zTo])), (aPi, .inl ((cs 2), 4, .inr (.inr (.inr (.inr fPi))))), (aMo, .inl ((cs 0), 8, .inl fMo)), (aSh, .inl ((cs 0), 32, .inl fSh)), (aLa, .inl ((cs 0), 8, .inl fLa)), (aDy, .inl ((cs 0), 40, .inl fDy)), (aMa, .inl ((cs 0), 40, .inl fMa)), (aKi, .inl ((cs 0), 40, .inl fKi)), (pa, .inr (1, [.int zSl, .ref bLG, .ref bLS, .int zLy, .int zGr, .int zTk, .int zGt, .int zLt, .ref bLt, .ref bGS, .ref bGG, .ref bES, .ref bEG])), (bLG, .inl ((cs 0), 20, .inl fLG)), (bLS, .inl ((cs 0), 80, .inl fLS)), (oa, .inl ((cs 1), 1, .inr (.inl fO)))] := hD.sub [0, 1, 2, 3, 4, 5, 6, 7, 8, 9, 10, 11] (by decide) rfl
      exact W.iret (v := 3) hx hb hr (fun t ht hW => ⟨⟨3, (), rfl, by decide +kernel, ⟨by rw [ht]; exact hP9, hD9⟩⟩, hS.F ht⟩) hS.2.2 d_LW_lay_26
    · skip
      refine vx_catch (name := xU) hown [⟨0, 12, 15, 13⟩, ⟨0, 12, 19, 25⟩, ⟨0, 12, 23, 15⟩] ⟨0, 12, 27, 38⟩ [] htab (List.forall_mem_cons.mpr ⟨Or.inr ⟨by decide, xI, hG _ vq_t137, hCx.2.2.2.2.2.2.1 _ (by decide) _ (by decide) (by decide)⟩, List.forall_mem_cons.mpr ⟨Or.inr ⟨by decide, xS, hG _ vq_t248, hCx.2.2.2.2.2.2.1 _ (by decide) _ (by decide) (by decide)⟩, List.forall_mem_cons.mpr ⟨Or.inr ⟨by decide, xA, hG _ vq_t138, hCx.2.2.2.2.2.2.1 _ (by decide) _ (by decide) (by decide)⟩, fun _ h => absurd h List.not_mem_nil⟩⟩⟩) rfl (by decide) (hG _ vq_t295) (va_Nw.use rfl (hCx.2.2.2.2.2.1 _ (by decide))) h91 h92 h93 ?_
      refine W.eq (g2 := F0 m 27 ls [.ref q9]) rfl ?_
      refine lv_astore (lv' := [(5, .ref q9), (0, .ref h0), (1, .int x), (2, .int y), (3, .int kg), (4, .ref oa)]) hx hb d_LW_lay_27 hl (by decide) rfl (fun ls hl => ?_)
      refine lv_iconst (v := 4) hx hb d_LW_lay_29 (by decide) ?_
      refine vx_ret ?_
      refine W.widen (k := 3) (n := 18) (Nat.le_of_ble_eq_true rfl) (Nat.le_of_ble_eq_true rfl) ?_
      have hP9 : va_P (dC, dI) vq_cl [(h0, .inr (0, [.ref aMo, .ref aSh, .ref aLa, .ref aDy, .ref aMa, .ref aKi, .int zCn, .ref aPi, .int zPc, .ref aLn, .int zTo])), (aPi, .inl ((cs 2), 4, .inr (.inr (.inr (.inr fPi))))), (aMo, .inl ((cs 0), 8, .inl fMo)), (aSh, .inl ((cs 0), 32, .inl fSh)), (aLa, .inl ((cs 0), 8, .inl fLa)), (aDy, .inl ((cs 0), 40, .inl fDy)), (aMa, .inl ((cs 0), 40, .inl fMa)), (aKi, .inl ((cs 0), 40, .inl fKi)), (pa, .inr (1, [.int zSl, .ref bLG, .ref bLS, .int zLy, .int zGr, .int zTk, .int zGt, .int zLt, .ref bLt, .ref bGS, .ref bGG, .ref bES, .ref bEG])), (bLG, .inl ((cs 0), 20, .inl fLG)), (bLS, .inl ((cs 0), 80, .inl fLS)), (oa, .inl ((cs 1), 1, .inr (.inl fO)))] _ := hP.sub [0, 1, 2, 3, 4, 5, 6, 7, 8, 9, 10, 11] rfl
      have hD9 : va_D A [(h0, .inr (0, [.ref aMo, .ref aSh, .ref aLa, .ref aDy, .ref aMa, .ref aKi, .int zCn, .ref aPi, .int zPc, .ref aLn, .int zTo])), (aPi, .inl ((cs 2), 4, .inr (.inr (.inr (.inr fPi))))), (aMo, .inl ((cs 0), 8, .inl fMo)), (aSh, .inl ((cs 0), 32, .inl fSh)), (aLa, .inl ((cs 0), 8, .inl fLa)), (aDy, .inl ((cs 0), 40, .inl fDy)), (aMa, .inl ((cs 0), 40, .inl fMa)), (aKi, .inl ((cs 0), 40, .inl fKi)), (pa, .inr (1, [.int zSl, .ref bLG, .ref bLS, .int zLy, .int zGr, .int zTk, .int zGt, .int zLt, .ref bLt, .ref bGS, .ref bGG, .ref bES, .ref bEG])), (bLG, .inl ((cs 0), 20, .inl fLG)), (bLS, .inl ((cs 0), 80, .inl fLS)), (oa, .inl ((cs 1), 1, .inr (.inl fO)))] := hD.sub [0, 1, 2, 3, 4, 5, 6, 7, 8, 9, 10, 11] (by decide) rfl
      exact W.iret (v := 4) hx hb hr (fun t ht hW => ⟨⟨4, (), rfl, by decide +kernel, ⟨by rw [ht]; exact hP9, hD9⟩⟩, hS.F ht⟩) hS.2.2 d_LW_lay_30
  have hP : va_P (dC, dI) vq_cl [(oa, .inl ((cs 1), 1, .inr (.inl fO))), (h0, .inr (0, [.ref aMo, .ref aSh, .ref aLa, .ref aDy, .ref aMa, .ref aKi, .int zCn, .ref aPi, .int zPc, .ref aLn, .int zTo])), (aPi, .inl ((cs 2), 4, .inr (.inr (.inr (.inr fPi))))), (aMo, .inl ((cs 0), 8, .inl fMo)), (aSh, .inl ((cs 0), 32, .inl fSh)), (aLa, .inl ((cs 0), 8, .inl (upd fLa y.toNatClampNeg ((fLa y.toNatClampNeg) + kg)))), (aDy, .inl ((cs 0), 40, .inl fDy)), (aMa, .inl ((cs 0), 40, .inl fMa)), (aKi, .inl ((cs 0), 40, .inl fKi)), (pa, .inr (1, [.int zSl, .ref bLG, .ref bLS, .int (zLy + 1), .int (zGr + (kg * (1000 - (fMo y.toNatClampNeg)))), .int zTk, .int zGt, .int zLt, .ref bLt, .ref bGS, .ref bGG, .ref bES, .ref bEG])), (bLG, .inl ((cs 0), 20, .inl (upd fLG zLy.toNatClampNeg (kg * (1000 - (fMo y.toNatClampNeg)))))), (bLS, .inl ((cs 0), 80, .inl (al4 fLS zLy fSh y)))] H := hP
  have hD : va_D A [(oa, .inl ((cs 1), 1, .inr (.inl fO))), (h0, .inr (0, [.ref aMo, .ref aSh, .ref aLa, .ref aDy, .ref aMa, .ref aKi, .int zCn, .ref aPi, .int zPc, .ref aLn, .int zTo])), (aPi, .inl ((cs 2), 4, .inr (.inr (.inr (.inr fPi))))), (aMo, .inl ((cs 0), 8, .inl fMo)), (aSh, .inl ((cs 0), 32, .inl fSh)), (aLa, .inl ((cs 0), 8, .inl (upd fLa y.toNatClampNeg ((fLa y.toNatClampNeg) + kg)))), (aDy, .inl ((cs 0), 40, .inl fDy)), (aMa, .inl ((cs 0), 40, .inl fMa)), (aKi, .inl ((cs 0), 40, .inl fKi)), (pa, .inr (1, [.int zSl, .ref bLG, .ref bLS, .int (zLy + 1), .int (zGr + (kg * (1000 - (fMo y.toNatClampNeg)))), .int zTk, .int zGt, .int zLt, .ref bLt, .ref bGS, .ref bGG, .ref bES, .ref bEG])), (bLG, .inl ((cs 0), 20, .inl (upd fLG zLy.toNatClampNeg (kg * (1000 - (fMo y.toNatClampNeg)))))), (bLS, .inl ((cs 0), 80, .inl (al4 fLS zLy fSh y)))] := hD
  exact absurd (hX.symm.trans w_7.2) (fun h => nomatch h)
set_option maxHeartbeats 4000000 in
set_option maxRecDepth 100000 in
/-- law.lay, no such pile -/
theorem h_lay_b (l : Launch) (hlT : l.stackTraces = false) (dC : Nat → ClassId) (dI : Nat → Nat → Nat) (cs : Nat → ClassId) (sz : Nat) (h0 : Nat) (aMo : Nat) (aSh : Nat) (aLa : Nat) (aDy : Nat) (aMa : Nat) (aKi : Nat) (aPi : Nat) (aLn : Nat) (zCn : Int32) (zPc : Int32) (zTo : Int32) (x : Int32) (y : Int32) (kg : Int32) (oa : Nat) (fO : Nat → Int64) (hi : okP x → zPc ≤ x) : vx_Met l y_LW_lay w_LW_lay ({ frames := 8, cells := 1, slots := 6, locals := 128 }) (vq_PreR (dC, dI) cs [(h0, .inr (0, [.ref aMo, .ref aSh, .ref aLa, .ref aDy, .ref aMa, .ref aKi, .int zCn, .ref aPi, .int zPc, .ref aLn, .int zTo])), (oa, .inl ((cs 1), 1, .inr (.inl fO)))] sz [.ref h0, .int x, .int y, .int kg, .ref oa]) (va_Qi (fun (r : Int32) (_ : Unit) => r = 1) (fun _ _ => True) (va_A [] sz)) (vq_X (fun E => False) sz) 1 6 (va_A [] sz) := by
  refine vx_ofWH (cc := b_LW_lay) (maxL := 6) (ret := (some .int)) (hh := [(0, 12, 15, 13), (0, 12, 19, 25), (0, 12, 23, 15), (0, 12, 27, 38)]) (by decide) rfl ?_
  intro p e s m args below meth c s₁ B hml hv
  have htab : c.exceptionTable.toList = tableOf [(0, 12, 15, 13), (0, 12, 19, 25), (0, 12, 23, 15), (0, 12, 27, 38)] := vx_table (x := y_LW_lay) B (atoms_spec (ws := w_LW_lay) B.pre _ List.mem_cons_self)
  obtain ⟨rfl, hsz, hP, hCx⟩ := hv
  have hx := B.exec
  have hb := B.bytes
  have hr := B.returns
  have hG := vq_hG (atoms_spec (ws := w_LW_lay) B.pre)
  have hown : s.vm.findClass R_LW = some m.cls := findClass_of_methodNamed B.named
  have hlocks := B.notSynchronized
  subst hsz
  have hK := hCx.1
  have hA : ∀ q : Nat, s.heap.size ≤ q → va_A [] s.heap.size q := fun q h => Or.inr h
  have hA0 : ∀ q : Nat, s.heap.size ≤ q → va_A [] s.heap.size q := fun q h => Or.inr h
  have hS : va_S (va_A [] s.heap.size) s.heap s.heap [] := va_S.rf
  have hl := lv_entry ([.ref h0, .int x, .int y, .int kg, .ref oa]) (n := 6) (Nat.le_of_ble_eq_true rfl)
  rw [lg_entry_eq]
  generalize (lg_sl ([.ref h0, .int x, .int y, .int kg, .ref oa]) ++ List.replicate (6 - (lg_sl ([.ref h0, .int x, .int y, .int kg, .ref oa])).length) Slot.unset).toArray = ls at hl ⊢
  have hl : lv_has ls 6 [(0, .ref h0), (1, .int x), (2, .int y), (3, .int kg), (4, .ref oa)] := hl
  have hP : va_P (dC, dI) vq_cl [(h0, .inr (0, [.ref aMo, .ref aSh, .ref aLa, .ref aDy, .ref aMa, .ref aKi, .int zCn, .ref aPi, .int zPc, .ref aLn, .int zTo])), (oa, .inl ((cs 1), 1, .inr (.inl fO)))] s.heap := hP
  refine lv_aload hx hb d_LW_lay_0 (lv_at hl 4 rfl) ?_
  refine lv_iconst (v := 0) hx hb d_LW_lay_2 (by decide) ?_
  refine lv_aload_n hx hb d_LW_lay_3 rfl (lv_at hl 0 rfl) ?_
  refine lv_iload_n hx hb d_LW_lay_4 rfl (lv_at hl 1 rfl) ?_
  refine lv_iload_n hx hb d_LW_lay_5 rfl (lv_at hl 2 rfl) ?_
  refine lv_iload_n hx hb d_LW_lay_6 rfl (lv_at hl 3 rfl) ?_
  refine mx_rv (vx_runV (As := [.int x, .int y, .int kg]) (rest := [.int 0, .ref oa]) ⟨hx, hb, hml, hown, hG⟩ (c_lay_bad l hlT dC dI cs _ h0 aMo aSh aLa aDy aMa aKi aPi aLn zCn zPc zTo x y kg hi) (cwV 3 hG (vq_gV vq_t296 vq_t297 vq_t298 vq_t1 vq_t299) rfl rfl rfl (by decide +kernel) ⟨Nat.le_of_ble_eq_true rfl, Nat.le_of_ble_eq_true rfl⟩) (vq_preVr (wc := [(h0, .inr (0, [.ref aMo, .ref aSh, .ref aLa, .ref aDy, .ref aMa, .ref aKi, .int zCn, .ref aPi, .int zPc, .ref aLn, .int zTo]))]) (va_recv hK hP (ci := 0) (q0 := 0) rfl rfl) hCx hP (vq_wk hS hA) hA [0] rfl) rfl rfl hl.1 rfl (lv_room (Nat.le_of_ble_eq_true rfl)) d_LW_lay_7 ⟨Nat.le_of_ble_eq_true rfl, Nat.le_of_ble_eq_true rfl⟩) hP hS hA0 (fun E ce q9 H locs x_7 hP hS h91 h92 h93 => ?_) (fun H locs w_7 hP hS => ?_)
  · skip
    obtain rfl := x_7
    · skip
      refine vx_catch (name := xI) hown [] ⟨0, 12, 15, 13⟩ [⟨0, 12, 19, 25⟩, ⟨0, 12, 23, 15⟩, ⟨0, 12, 27, 38⟩] htab (fun _ h => absurd h List.not_mem_nil) rfl (by decide) (hG _ vq_t137) (va_Nw.use rfl (hCx.2.2.2.2.2.1 _ (by decide))) h91 h92 h93 ?_
      refine W.eq (g2 := F0 m 15 ls [.ref q9]) rfl ?_
      refine lv_astore (lv' := [(5, .ref q9), (0, .ref h0), (1, .int x), (2, .int y), (3, .int kg), (4, .ref oa)]) hx hb d_LW_lay_15 hl (by decide) rfl (fun ls hl => ?_)
      refine lv_iconst (v := 1) hx hb d_LW_lay_17 (by decide) ?_
      refine vx_ret ?_
      refine W.widen (k := 1) (n := 6) (Nat.le_of_ble_eq_true rfl) (Nat.le_of_ble_eq_true rfl) ?_
      exact W.iret (v := 1) hx hb hr (fun t ht hW => ⟨⟨1, (), rfl, rfl, trivial⟩, hS.F ht⟩) hS.2.2 d_LW_lay_18
  exact w_7.elim
set_option maxHeartbeats 4000000 in
set_option maxRecDepth 100000 in
/-- law.slice, where it goes through -/
theorem h_slice_n (l : Launch) (hlT : l.stackTraces = false) (dC : Nat → ClassId) (dI : Nat → Nat → Nat) (cs : Nat → ClassId) (sz : Nat) (h0 : Nat) (aMo : Nat) (aSh : Nat) (aLa : Nat) (aDy : Nat) (aMa : Nat) (aKi : Nat) (aPi : Nat) (aLn : Nat) (zCn : Int32) (zPc : Int32) (zTo : Int32) (fPi : Nat → Option Nat) (pa : Nat) (bLG : Nat) (bLS : Nat) (bLt : Nat) (bGS : Nat) (bGG : Nat) (bES : Nat) (bEG : Nat) (zSl : Int32) (zLy : Int32) (zGr : Int32) (zTk : Int32) (zGt : Int32) (zLt : Int32) (fLG : Nat → Int32) (fLS : Nat → Int32) (fGG : Nat → Int32) (fEG : Nat → Int32) (fLt : Nat → Int64) (fGS : Nat → Int64) (fES : Nat → Int64) (x : Int32) (oa : Nat) (fO : Nat → Int64) (hi : okP x) (hf : fPi x.toNatClampNeg = some pa) (hz : ¬ zPc ≤ x) (hX : X_slice zLy zTk zSl = none) : vx_Met l y_LW_slice w_LW_slice ({ frames := 7, cells := 1, slots := 6, locals := 104 }) (vq_Pre (dC, dI) cs [(h0, .inr (0, [.ref aMo, .ref aSh, .ref aLa, .ref aDy, .ref aMa, .ref aKi, .int zCn, .ref aPi, .int zPc, .ref aLn, .int zTo])), (aPi, .inl ((cs 2), 4, .inr (.inr (.inr (.inr fPi))))), (pa, .inr (1, [.int zSl, .ref bLG, .ref bLS, .int zLy, .int zGr, .int zTk, .int zGt, .int zLt, .ref bLt, .ref bGS, .ref bGG, .ref bES, .ref bEG])), (bLG, .inl ((cs 0), 20, .inl fLG)), (bLS, .inl ((cs 0), 80, .inl fLS)), (bLt, .inl ((cs 1), 4, .inr (.inl fLt))), (bGS, .inl ((cs 1), 4, .inr (.inl fGS))), (bGG, .inl ((cs 0), 4, .inl fGG)), (bES, .inl ((cs 1), 4, .inr (.inl fES))), (bEG, .inl ((cs 0), 4, .inl fEG)), (oa, .inl ((cs 1), 1, .inr (.inl fO)))] sz [.ref h0, .int x, .ref oa]) (va_Qi (fun (r : Int32) (_ : Unit) => r = 0) (vq_B (dC, dI) cs (va_A [(h0, .inr (0, [.ref aMo, .ref aSh, .ref aLa, .ref aDy, .ref aMa, .ref aKi, .int zCn, .ref aPi, .int zPc, .ref aLn, .int zTo])), (aPi, .inl ((cs 2), 4, .inr (.inr (.inr (.inr fPi))))), (pa, .inr (1, [.int zSl, .ref bLG, .ref bLS, .int zLy, .int zGr, .int zTk, .int zGt, .int zLt, .ref bLt, .ref bGS, .ref bGG, .ref bES, .ref bEG])), (bLG, .inl ((cs 0), 20, .inl fLG)), (bLS, .inl ((cs 0), 80, .inl fLS)), (bLt, .inl ((cs 1), 4, .inr (.inl fLt))), (bGS, .inl ((cs 1), 4, .inr (.inl fGS))), (bGG, .inl ((cs 0), 4, .inl fGG)), (bES, .inl ((cs 1), 4, .inr (.inl fES))), (bEG, .inl ((cs 0), 4, .inl fEG)), (oa, .inl ((cs 1), 1, .inr (.inl fO)))] sz) (fun _ => [(h0, .inr (0, [.ref aMo, .ref aSh, .ref aLa, .ref aDy, .ref aMa, .ref aKi, .int zCn, .ref aPi, .int zPc, .ref aLn, .int zTo])), (aPi, .inl ((cs 2), 4, .inr (.inr (.inr (.inr fPi))))), (pa, .inr (1, [.int zSl, .ref bLG, .ref bLS, .int zLy, .int zGr, .int (zTk + 1), .int (zGt + (tkG zSl zTk fLG zLy 20 0 0)), .int (tkG zSl zTk fLG zLy 20 0 0), .ref bLt, .ref bGS, .ref bGG, .ref bES, .ref bEG])), (bLG, .inl ((cs 0), 20, .inl fLG)), (bLS, .inl ((cs 0), 80, .inl fLS)), (bLt, .inl ((cs 1), 4, .inr (.inl (tkS zSl zTk fLG fLS zLy 20 0 (cl4 fLt))))), (bGS, .inl ((cs 1), 4, .inr (.inl ((tnG (tkG zSl zTk fLG zLy 20 0 0) (tkS zSl zTk fLG fLS zLy 20 0 (cl4 fLt)) (fGS, fGG)).1)))), (bGG, .inl ((cs 0), 4, .inl ((tnG (tkG zSl zTk fLG zLy 20 0 0) (tkS zSl zTk fLG fLS zLy 20 0 (cl4 fLt)) (fGS, fGG)).2))), (bES, .inl ((cs 1), 4, .inr (.inl ((tnE (tkG zSl zTk fLG zLy 20 0 0) (tkS zSl zTk fLG fLS zLy 20 0 (cl4 fLt)) (fES, fEG)).1)))), (bEG, .inl ((cs 0), 4, .inl ((tnE (tkG zSl zTk fLG zLy 20 0 0) (tkS zSl zTk fLG fLS zLy 20 0 (cl4 fLt)) (fES, fEG)).2))), (oa, .inl ((cs 1), 1, .inr (.inl (vp_updL fO (0 : Int32).toNatClampNeg ((tkG zSl zTk fLG zLy 20 0 0).toInt64)))))])) (va_A [(h0, .inr (0, [.ref aMo, .ref aSh, .ref aLa, .ref aDy, .ref aMa, .ref aKi, .int zCn, .ref aPi, .int zPc, .ref aLn, .int zTo])), (aPi, .inl ((cs 2), 4, .inr (.inr (.inr (.inr fPi))))), (pa, .inr (1, [.int zSl, .ref bLG, .ref bLS, .int zLy, .int zGr, .int zTk, .int zGt, .int zLt, .ref bLt, .ref bGS, .ref bGG, .ref bES, .ref bEG])), (bLG, .inl ((cs 0), 20, .inl fLG)), (bLS, .inl ((cs 0), 80, .inl fLS)), (bLt, .inl ((cs 1), 4, .inr (.inl fLt))), (bGS, .inl ((cs 1), 4, .inr (.inl fGS))), (bGG, .inl ((cs 0), 4, .inl fGG)), (bES, .inl ((cs 1), 4, .inr (.inl fES))), (bEG, .inl ((cs 0), 4, .inl fEG)), (oa, .inl ((cs 1), 1, .inr (.inl fO)))] sz)) (vq_X (fun E => False) sz) 1 6 (va_A [(h0, .inr (0, [.ref aMo, .ref aSh, .ref aLa, .ref aDy, .ref aMa, .ref aKi, .int zCn, .ref aPi, .int zPc, .ref aLn, .int zTo])), (aPi, .inl ((cs 2), 4, .inr (.inr (.inr (.inr fPi))))), (pa, .inr (1, [.int zSl, .ref bLG, .ref bLS, .int zLy, .int zGr, .int zTk, .int zGt, .int zLt, .ref bLt, .ref bGS, .ref bGG, .ref bES, .ref bEG])), (bLG, .inl ((cs 0), 20, .inl fLG)), (bLS, .inl ((cs 0), 80, .inl fLS)), (bLt, .inl ((cs 1), 4, .inr (.inl fLt))), (bGS, .inl ((cs 1), 4, .inr (.inl fGS))), (bGG, .inl ((cs 0), 4, .inl fGG)), (bES, .inl ((cs 1), 4, .inr (.inl fES))), (bEG, .inl ((cs 0), 4, .inl fEG)), (oa, .inl ((cs 1), 1, .inr (.inl fO)))] sz) := by
  refine vx_ofWH (cc := b_LW_slice) (maxL := 4) (ret := (some .int)) (hh := [(0, 9, 12, 13), (0, 9, 15, 25)]) (by decide) rfl ?_
  intro p e s m args below meth c s₁ B hml hv
  have htab : c.exceptionTable.toList = tableOf [(0, 9, 12, 13), (0, 9, 15, 25)] := vx_table (x := y_LW_slice) B (atoms_spec (ws := w_LW_slice) B.pre _ List.mem_cons_self)
  obtain ⟨rfl, hsz, hP, hD0, hCx⟩ := hv
  have hx := B.exec
  have hb := B.bytes
  have hr := B.returns
  have hG := vq_hG (atoms_spec (ws := w_LW_slice) B.pre)
  have hown : s.vm.findClass R_LW = some m.cls := findClass_of_methodNamed B.named
  have hlocks := B.notSynchronized
  subst hsz
  have hK := hCx.1
  have hD := hD0.self (sz := s.heap.size)
  generalize hAe : va_A [(h0, .inr (0, [.ref aMo, .ref aSh, .ref aLa, .ref aDy, .ref aMa, .ref aKi, .int zCn, .ref aPi, .int zPc, .ref aLn, .int zTo])), (aPi, .inl ((cs 2), 4, .inr (.inr (.inr (.inr fPi))))), (pa, .inr (1, [.int zSl, .ref bLG, .ref bLS, .int zLy, .int zGr, .int zTk, .int zGt, .int zLt, .ref bLt, .ref bGS, .ref bGG, .ref bES, .ref bEG])), (bLG, .inl ((cs 0), 20, .inl fLG)), (bLS, .inl ((cs 0), 80, .inl fLS)), (bLt, .inl ((cs 1), 4, .inr (.inl fLt))), (bGS, .inl ((cs 1), 4, .inr (.inl fGS))), (bGG, .inl ((cs 0), 4, .inl fGG)), (bES, .inl ((cs 1), 4, .inr (.inl fES))), (bEG, .inl ((cs 0), 4, .inl fEG)), (oa, .inl ((cs 1), 1, .inr (.inl fO)))] s.heap.size = A at hD hCx ⊢
  have hA : ∀ q : Nat, s.heap.size ≤ q → A q := fun q h => by rw [← hAe]; exact Or.inr h
  have hA0 : ∀ q : Nat, s.heap.size ≤ q → va_A [] s.heap.size q := fun q h => Or.inr h
  have hS : va_S (va_A [] s.heap.size) s.heap s.heap [] := va_S.rf
  have hl := lv_entry ([.ref h0, .int x, .ref oa]) (n := 4) (Nat.le_of_ble_eq_true rfl)
  rw [lg_entry_eq]
  generalize (lg_sl ([.ref h0, .int x, .ref oa]) ++ List.replicate (4 - (lg_sl ([.ref h0, .int x, .ref oa])).length) Slot.unset).toArray = ls at hl ⊢
  have hl : lv_has ls 4 [(0, .ref h0), (1, .int x), (2, .ref oa)] := hl
  have hP : va_P (dC, dI) vq_cl [(h0, .inr (0, [.ref aMo, .ref aSh, .ref aLa, .ref aDy, .ref aMa, .ref aKi, .int zCn, .ref aPi, .int zPc, .ref aLn, .int zTo])), (aPi, .inl ((cs 2), 4, .inr (.inr (.inr (.inr fPi))))), (pa, .inr (1, [.int zSl, .ref bLG, .ref bLS, .int zLy, .int zGr, .int zTk, .int zGt, .int zLt, .ref bLt, .ref bGS, .ref bGG, .ref bES, .ref bEG])), (bLG, .inl ((cs 0), 20, .inl fLG)), (bLS, .inl ((cs 0), 80, .inl fLS)), (bLt, .inl ((cs 1), 4, .inr (.inl fLt))), (bGS, .inl ((cs 1), 4, .inr (.inl fGS))), (bGG, .inl ((cs 0), 4, .inl fGG)), (bES, .inl ((cs 1), 4, .inr (.inl fES))), (bEG, .inl ((cs 0), 4, .inl fEG)), (oa, .inl ((cs 1), 1, .inr (.inl fO)))] s.heap := hP
  refine lv_aload_n hx hb d_LW_slice_0 rfl (lv_at hl 2 rfl) ?_
  refine lv_iconst (v := 0) hx hb d_LW_slice_1 (by decide) ?_
  refine lv_aload_n hx hb d_LW_slice_2 rfl (lv_at hl 0 rfl) ?_
  refine lv_iload_n hx hb d_LW_slice_3 rfl (lv_at hl 1 rfl) ?_
  have hS := vq_wk hS hA
  refine mx_wi (vx_runV (As := [.int x]) (rest := [.int 0, .ref oa]) ⟨hx, hb, hml, hown, hG⟩ (c_slice l hlT dC dI cs _ h0 aMo aSh aLa aDy aMa aKi aPi aLn zCn zPc zTo fPi pa bLG bLS bLt bGS bGG bES bEG zSl zLy zGr zTk zGt zLt fLG fLS fGG fEG fLt fGS fES x hi hf hz) (cwV 1 hG (vq_gV vq_t330 vq_t331 vq_t332 vq_t1 vq_t333) rfl rfl rfl (by decide +kernel) ⟨Nat.le_of_ble_eq_true rfl, Nat.le_of_ble_eq_true rfl⟩) (vq_preVw (wc := [(h0, .inr (0, [.ref aMo, .ref aSh, .ref aLa, .ref aDy, .ref aMa, .ref aKi, .int zCn, .ref aPi, .int zPc, .ref aLn, .int zTo])), (aPi, .inl ((cs 2), 4, .inr (.inr (.inr (.inr fPi))))), (pa, .inr (1, [.int zSl, .ref bLG, .ref bLS, .int zLy, .int zGr, .int zTk, .int zGt, .int zLt, .ref bLt, .ref bGS, .ref bGG, .ref bES, .ref bEG])), (bLG, .inl ((cs 0), 20, .inl fLG)), (bLS, .inl ((cs 0), 80, .inl fLS)), (bLt, .inl ((cs 1), 4, .inr (.inl fLt))), (bGS, .inl ((cs 1), 4, .inr (.inl fGS))), (bGG, .inl ((cs 0), 4, .inl fGG)), (bES, .inl ((cs 1), 4, .inr (.inl fES))), (bEG, .inl ((cs 0), 4, .inl fEG))]) (va_recv hK hP (ci := 0) (q0 := 0) rfl rfl) hCx hP hD hS hA [0, 1, 2, 3, 4, 5, 6, 7, 8, 9] rfl rfl (by decide)) rfl rfl hl.1 rfl (lv_room (Nat.le_of_ble_eq_true rfl)) d_LW_slice_4 ⟨Nat.le_of_ble_eq_true rfl, Nat.le_of_ble_eq_true rfl⟩) hP hD hS hA [0, 1, 2, 3, 4, 5, 6, 7, 8, 9] [10] rfl rfl (by decide) (by decide) (fun E ce q9 H locs x_4 hP hS h91 h92 h93 => absurd (hX.symm.trans x_4) (fun h => nomatch h)) (fun r_4 _ H locs w_4 hP hD hS => ?_)
  have hP : va_P (dC, dI) vq_cl [(oa, .inl ((cs 1), 1, .inr (.inl fO))), (h0, .inr (0, [.ref aMo, .ref aSh, .ref aLa, .ref aDy, .ref aMa, .ref aKi, .int zCn, .ref aPi, .int zPc, .ref aLn, .int zTo])), (aPi, .inl ((cs 2), 4, .inr (.inr (.inr (.inr fPi))))), (pa, .inr (1, [.int zSl, .ref bLG, .ref bLS, .int zLy, .int zGr, .int (zTk + 1), .int (zGt + (tkG zSl zTk fLG zLy 20 0 0)), .int (tkG zSl zTk fLG zLy 20 0 0), .ref bLt, .ref bGS, .ref bGG, .ref bES, .ref bEG])), (bLG, .inl ((cs 0), 20, .inl fLG)), (bLS, .inl ((cs 0), 80, .inl fLS)), (bLt, .inl ((cs 1), 4, .inr (.inl (tkS zSl zTk fLG fLS zLy 20 0 (cl4 fLt))))), (bGS, .inl ((cs 1), 4, .inr (.inl ((tnG (tkG zSl zTk fLG zLy 20 0 0) (tkS zSl zTk fLG fLS zLy 20 0 (cl4 fLt)) (fGS, fGG)).1)))), (bGG, .inl ((cs 0), 4, .inl ((tnG (tkG zSl zTk fLG zLy 20 0 0) (tkS zSl zTk fLG fLS zLy 20 0 (cl4 fLt)) (fGS, fGG)).2))), (bES, .inl ((cs 1), 4, .inr (.inl ((tnE (tkG zSl zTk fLG zLy 20 0 0) (tkS zSl zTk fLG fLS zLy 20 0 (cl4 fLt)) (fES, fEG)).1)))), (bEG, .inl ((cs 0), 4, .inl ((tnE (tkG zSl zTk fLG zLy 20 0 0) (tkS zSl zTk fLG fLS zLy 20 0 (cl4 fLt)) (fES, fEG)).2)))] H := hP
  have hD : va_D A [(oa, .inl ((cs 1), 1, .inr (.inl fO))), (h0, .inr (0, [.ref aMo, .ref aSh, .ref aLa, .ref aDy, .ref aMa, .ref aKi, .int zCn, .ref aPi, .int zPc, .ref aLn, .int zTo])), (aPi, .inl ((cs 2), 4, .inr (.inr (.inr (.inr fPi))))), (pa, .inr (1, [.int zSl, .ref bLG, .ref bLS, .int zLy, .int zGr, .int (zTk + 1), .int (zGt + (tkG zSl zTk fLG zLy 20 0 0)), .int (tkG zSl zTk fLG zLy 20 0 0), .ref bLt, .ref bGS, .ref bGG, .ref bES, .ref bEG])), (bLG, .inl ((cs 0), 20, .inl fLG)), (bLS, .inl ((cs 0), 80, .inl fLS)), (bLt, .inl ((cs 1), 4, .inr (.inl (tkS zSl zTk fLG fLS zLy 20 0 (cl4 fLt))))), (bGS, .inl ((cs 1), 4, .inr (.inl ((tnG (tkG zSl zTk fLG zLy 20 0 0) (tkS zSl zTk fLG fLS zLy 20 0 (cl4 fLt)) (fGS, fGG)).1)))), (bGG, .inl ((cs 0), 4, .inl ((tnG (tkG zSl zTk fLG zLy 20 0 0) (tkS zSl zTk fLG fLS zLy 20 0 (cl4 fLt)) (fGS, fGG)).2))), (bES, .inl ((cs 1), 4, .inr (.inl ((tnE (tkG zSl zTk fLG zLy 20 0 0) (tkS zSl zTk fLG fLS zLy 20 0 (cl4 fLt)) (fES, fEG)).1)))), (bEG, .inl ((cs 0), 4, .inl ((tnE (tkG zSl zTk fLG zLy 20 0 0) (tkS zSl zTk fLG fLS zLy 20 0 (cl4 fLt)) (fES, fEG)).2)))] := hD
  refine W.widen (k := 1) (n := 6) (Nat.le_of_ble_eq_true rfl) (Nat.le_of_ble_eq_true rfl) ?_
  obtain ⟨rfl, w_4⟩ := w_4
  refine lv_i2l hx hb d_LW_slice_7 rfl ?_
  refine va_last (D := (dC, dI)) hx hb hK hP hD hS 0 1 rfl rfl (vq_in 1 rfl (by decide) (by decide)) d_LW_slice_8 (fun H locs hP hD hS => ?_)
  have hP : va_P (dC, dI) vq_cl [(oa, .inl ((cs 1), 1, .inr (.inl (vp_updL fO (0 : Int32).toNatClampNeg ((tkG zSl zTk fLG zLy 20 0 0).toInt64))))), (h0, .inr (0, [.ref aMo, .ref aSh, .ref aLa, .ref aDy, .ref aMa, .ref aKi, .int zCn, .ref aPi, .int zPc, .ref aLn, .int zTo])), (aPi, .inl ((cs 2), 4, .inr (.inr (.inr (.inr fPi))))), (pa, .inr (1, [.int zSl, .ref bLG, .ref bLS, .int zLy, .int zGr, .int (zTk + 1), .int (zGt + (tkG zSl zTk fLG zLy 20 0 0)), .int (tkG zSl zTk fLG zLy 20 0 0), .ref bLt, .ref bGS, .ref bGG, .ref bES, .ref bEG])), (bLG, .inl ((cs 0), 20, .inl fLG)), (bLS, .inl ((cs 0), 80, .inl fLS)), (bLt, .inl ((cs 1), 4, .inr (.inl (tkS zSl zTk fLG fLS zLy 20 0 (cl4 fLt))))), (bGS, .inl ((cs 1), 4, .inr (.inl ((tnG (tkG zSl zTk fLG zLy 20 0 0) (tkS zSl zTk fLG fLS zLy 20 0 (cl4 fLt)) (fGS, fGG)).1)))), (bGG, .inl ((cs 0), 4, .inl ((tnG (tkG zSl zTk fLG zLy 20 0 0) (tkS zSl zTk fLG fLS zLy 20 0 (cl4 fLt)) (fGS, fGG)).2))), (bES, .inl ((cs 1), 4, .inr (.inl ((tnE (tkG zSl zTk fLG zLy 20 0 0) (tkS zSl zTk fLG fLS zLy 20 0 (cl4 fLt)) (fES, fEG)).1)))), (bEG, .inl ((cs 0), 4, .inl ((tnE (tkG zSl zTk fLG zLy 20 0 0) (tkS zSl zTk fLG fLS zLy 20 0 (cl4 fLt)) (fES, fEG)).2)))] H := hP
  have hD : va_D A [(oa, .inl ((cs 1), 1, .inr (.inl (vp_updL fO (0 : Int32).toNatClampNeg ((tkG zSl zTk fLG zLy 20 0 0).toInt64))))), (h0, .inr (0, [.ref aMo, .ref aSh, .ref aLa, .ref aDy, .ref aMa, .ref aKi, .int zCn, .ref aPi, .int zPc, .ref aLn, .int zTo])), (aPi, .inl ((cs 2), 4, .inr (.inr (.inr (.inr fPi))))), (pa, .inr (1, [.int zSl, .ref bLG, .ref bLS, .int zLy, .int zGr, .int (zTk + 1), .int (zGt + (tkG zSl zTk fLG zLy 20 0 0)), .int (tkG zSl zTk fLG zLy 20 0 0), .ref bLt, .ref bGS, .ref bGG, .ref bES, .ref bEG])), (bLG, .inl ((cs 0), 20, .inl fLG)), (bLS, .inl ((cs 0), 80, .inl fLS)), (bLt, .inl ((cs 1), 4, .inr (.inl (tkS zSl zTk fLG fLS zLy 20 0 (cl4 fLt))))), (bGS, .inl ((cs 1), 4, .inr (.inl ((tnG (tkG zSl zTk fLG zLy 20 0 0) (tkS zSl zTk fLG fLS zLy 20 0 (cl4 fLt)) (fGS, fGG)).1)))), (bGG, .inl ((cs 0), 4, .inl ((tnG (tkG zSl zTk fLG zLy 20 0 0) (tkS zSl zTk fLG fLS zLy 20 0 (cl4 fLt)) (fGS, fGG)).2))), (bES, .inl ((cs 1), 4, .inr (.inl ((tnE (tkG zSl zTk fLG zLy 20 0 0) (tkS zSl zTk fLG fLS zLy 20 0 (cl4 fLt)) (fES, fEG)).1)))), (bEG, .inl ((cs 0), 4, .inl ((tnE (tkG zSl zTk fLG zLy 20 0 0) (tkS zSl zTk fLG fLS zLy 20 0 (cl4 fLt)) (fES, fEG)).2)))] := hD
  refine lv_goto (tgt := 18) hx hb d_LW_slice_9 (by decide) ?_
  refine lv_iconst (v := 0) hx hb d_LW_slice_18 (by decide) ?_
  refine vx_ret ?_
  refine W.widen (k := 1) (n := 6) (Nat.le_of_ble_eq_true rfl) (Nat.le_of_ble_eq_true rfl) ?_
  have hP9 : va_P (dC, dI) vq_cl [(h0, .inr (0, [.ref aMo, .ref aSh, .ref aLa, .ref aDy, .ref aMa, .ref aKi, .int zCn, .ref aPi, .int zPc, .ref aLn, .int zTo])), (aPi, .inl ((cs 2), 4, .inr (.inr (.inr (.inr fPi))))), (pa, .inr (1, [.int zSl, .ref bLG, .ref bLS, .int zLy, .int zGr, .int (zTk + 1), .int (zGt + (tkG zSl zTk fLG zLy 20 0 0)), .int (tkG zSl zTk fLG zLy 20 0 0), .ref bLt, .ref bGS, .ref bGG, .ref bES, .ref bEG])), (bLG, .inl ((cs 0), 20, .inl fLG)), (bLS, .inl ((cs 0), 80, .inl fLS)), (bLt, .inl ((cs 1), 4, .inr (.inl (tkS zSl zTk fLG fLS zLy 20 0 (cl4 fLt))))), (bGS, .inl ((cs 1), 4, .inr (.inl ((tnG (tkG zSl zTk fLG zLy 20 0 0) (tkS zSl zTk fLG fLS zLy 20 0 (cl4 fLt)) (fGS, fGG)).1)))), (bGG, .inl ((cs 0), 4, .inl ((tnG (tkG zSl zTk fLG zLy 20 0 0) (tkS zSl zTk fLG fLS zLy 20 0 (cl4 fLt)) (fGS, fGG)).2))), (bES, .inl ((cs 1), 4, .inr (.inl ((tnE (tkG zSl zTk fLG zLy 20 0 0) (tkS zSl zTk fLG fLS zLy 20 0 (cl4 fLt)) (fES, fEG)).1)))), (bEG, .inl ((cs 0), 4, .inl ((tnE (tkG zSl zTk fLG zLy 20 0 0) (tkS zSl zTk fLG fLS zLy 20 0 (cl4 fLt)) (fES, fEG)).2))), (oa, .inl ((cs 1), 1, .inr (.inl (vp_updL fO (0 : Int32).toNatClampNeg ((tkG zSl zTk fLG zLy 20 0 0).toInt64)))))] _ := hP.sub [1, 2, 3, 4, 5, 6, 7, 8, 9, 10, 0] rfl
  have hD9 : va_D A [(h0, .inr (0, [.ref aMo, .ref aSh, .ref aLa, .ref aDy, .ref aMa, .ref aKi, .int zCn, .ref aPi, .int zPc, .ref aLn, .int zTo])), (aPi, .inl ((cs 2), 4, .inr (.inr (.inr (.inr fPi))))), (pa, .inr (1, [.int zSl, .ref bLG, .ref bLS, .int zLy, .int zGr, .int (zTk + 1), .int (zGt + (tkG zSl zTk fLG zLy 20 0 0)), .int (tkG zSl zTk fLG zLy 20 0 0), .ref bLt, .ref bGS, .ref bGG, .ref bES, .ref bEG])), (bLG, .inl ((cs 0), 20, .inl fLG)), (bLS, .inl ((cs 0), 80, .inl fLS)), (bLt, .inl ((cs 1), 4, .inr (.inl (tkS zSl zTk fLG fLS zLy 20 0 (cl4 fLt))))), (bGS, .inl ((cs 1), 4, .inr (.inl ((tnG (tkG zSl zTk fLG zLy 20 0 0) (tkS zSl zTk fLG fLS zLy 20 0 (cl4 fLt)) (fGS, fGG)).1)))), (bGG, .inl ((cs 0), 4, .inl ((tnG (tkG zSl zTk fLG zLy 20 0 0) (tkS zSl zTk fLG fLS zLy 20 0 (cl4 fLt)) (fGS, fGG)).2))), (bES, .inl ((cs 1), 4, .inr (.inl ((tnE (tkG zSl zTk fLG zLy 20 0 0) (tkS zSl zTk fLG fLS zLy 20 0 (cl4 fLt)) (fES, fEG)).1)))), (bEG, .inl ((cs 0), 4, .inl ((tnE (tkG zSl zTk fLG zLy 20 0 0) (tkS zSl zTk fLG fLS zLy 20 0 (cl4 fLt)) (fES, fEG)).2))), (oa, .inl ((cs 1), 1, .inr (.inl (vp_updL fO (0 : Int32).toNatClampNeg ((tkG zSl zTk fLG zLy 20 0 0).toInt64)))))] := hD.sub [1, 2, 3, 4, 5, 6, 7, 8, 9, 10, 0] (by decide) rfl
  exact W.iret (v := 0) hx hb hr (fun t ht hW => ⟨⟨0, (), rfl, rfl, ⟨by rw [ht]; exact hP9, hD9⟩⟩, hS.F ht⟩) hS.2.2 d_LW_slice_19
set_option maxHeartbeats 4000000 in
set_option maxRecDepth 100000 in
/-- law.slice, where it is refused -/
theorem h_slice_s (l : Launch) (hlT : l.stackTraces = false) (dC : Nat → ClassId) (dI : Nat → Nat → Nat) (cs : Nat → ClassId) (sz : Nat) (h0 : Nat) (aMo : Nat) (aSh : Nat) (aLa : Nat) (aDy : Nat) (aMa : Nat) (aKi : Nat) (aPi : Nat) (aLn : Nat) (zCn : Int32) (zPc : Int32) (zTo : Int32) (fPi : Nat → Option Nat) (pa : Nat) (bLG : Nat) (bLS : Nat) (bLt : Nat) (bGS : Nat) (bGG : Nat) (bES : Nat) (bEG : Nat) (zSl : Int32) (zLy : Int32) (zGr : Int32) (zTk : Int32) (zGt : Int32) (zLt : Int32) (fLG : Nat → Int32) (fLS : Nat → Int32) (fGG : Nat → Int32) (fEG : Nat → Int32) (fLt : Nat → Int64) (fGS : Nat → Int64) (fES : Nat → Int64) (x : Int32) (oa : Nat) (fO : Nat → Int64) (E0 : String) (hi : okP x) (hf : fPi x.toNatClampNeg = some pa) (hz : ¬ zPc ≤ x) (hX : X_slice zLy zTk zSl = some E0) (hE : E0 = xI ∨ E0 = xS) : vx_Met l y_LW_slice w_LW_slice ({ frames := 7, cells := 1, slots := 6, locals := 104 }) (vq_Pre (dC, dI) cs [(h0, .inr (0, [.ref aMo, .ref aSh, .ref aLa, .ref aDy, .ref aMa, .ref aKi, .int zCn, .ref aPi, .int zPc, .ref aLn, .int zTo])), (aPi, .inl ((cs 2), 4, .inr (.inr (.inr (.inr fPi))))), (pa, .inr (1, [.int zSl, .ref bLG, .ref bLS, .int zLy, .int zGr, .int zTk, .int zGt, .int zLt, .ref bLt, .ref bGS, .ref bGG, .ref bES, .ref bEG])), (bLG, .inl ((cs 0), 20, .inl fLG)), (bLS, .inl ((cs 0), 80, .inl fLS)), (bLt, .inl ((cs 1), 4, .inr (.inl fLt))), (bGS, .inl ((cs 1), 4, .inr (.inl fGS))), (bGG, .inl ((cs 0), 4, .inl fGG)), (bES, .inl ((cs 1), 4, .inr (.inl fES))), (bEG, .inl ((cs 0), 4, .inl fEG)), (oa, .inl ((cs 1), 1, .inr (.inl fO)))] sz [.ref h0, .int x, .ref oa]) (va_Qi (fun (r : Int32) (_ : Unit) => r = cdF [xI, xS] E0) (vq_B (dC, dI) cs (va_A [(h0, .inr (0, [.ref aMo, .ref aSh, .ref aLa, .ref aDy, .ref aMa, .ref aKi, .int zCn, .ref aPi, .int zPc, .ref aLn, .int zTo])), (aPi, .inl ((cs 2), 4, .inr (.inr (.inr (.inr fPi))))), (pa, .inr (1, [.int zSl, .ref bLG, .ref bLS, .int zLy, .int zGr, .int zTk, .int zGt, .int zLt, .ref bLt, .ref bGS, .ref bGG, .ref bES, .ref bEG])), (bLG, .inl ((cs 0), 20, .inl fLG)), (bLS, .inl ((cs 0), 80, .inl fLS)), (bLt, .inl ((cs 1), 4, .inr (.inl fLt))), (bGS, .inl ((cs 1), 4, .inr (.inl fGS))), (bGG, .inl ((cs 0), 4, .inl fGG)), (bES, .inl ((cs 1), 4, .inr (.inl fES))), (bEG, .inl ((cs 0), 4, .inl fEG)), (oa, .inl ((cs 1), 1, .inr (.inl fO)))] sz) (fun _ => [(h0, .inr (0, [.ref aMo, .ref aSh, .ref aLa, .ref aDy, .ref aMa, .ref aKi, .int zCn, .ref aPi, .int zPc, .ref aLn, .int zTo])), (aPi, .inl ((cs 2), 4, .inr (.inr (.inr (.inr fPi))))), (pa, .inr (1, [.int zSl, .ref bLG, .ref bLS, .int zLy, .int zGr, .int zTk, .int zGt, .int zLt, .ref bLt, .ref bGS, .ref bGG, .ref bES, .ref bEG])), (bLG, .inl ((cs 0), 20, .inl fLG)), (bLS, .inl ((cs 0), 80, .inl fLS)), (bLt, .inl ((cs 1), 4, .inr (.inl fLt))), (bGS, .inl ((cs 1), 4, .inr (.inl fGS))), (bGG, .inl ((cs 0), 4, .inl fGG)), (bES, .inl ((cs 1), 4, .inr (.inl fES))), (bEG, .inl ((cs 0), 4, .inl fEG)), (oa, .inl ((cs 1), 1, .inr (.inl fO)))])) (va_A [(h0, .inr (0, [.ref aMo, .ref aSh, .ref aLa, .ref aDy, .ref aMa, .ref aKi, .int zCn, .ref aPi, .int zPc, .ref aLn, .int zTo])), (aPi, .inl ((cs 2), 4, .inr (.inr (.inr (.inr fPi))))), (pa, .inr (1, [.int zSl, .ref bLG, .ref bLS, .int zLy, .int zGr, .int zTk, .int zGt, .int zLt, .ref bLt, .ref bGS, .ref bGG, .ref bES, .ref bEG])), (bLG, .inl ((cs 0), 20, .inl fLG)), (bLS, .inl ((cs 0), 80, .inl fLS)), (bLt, .inl ((cs 1), 4, .inr (.inl fLt))), (bGS, .inl ((cs 1), 4, .inr (.inl fGS))), (bGG, .inl ((cs 0), 4, .inl fGG)), (bES, .inl ((cs 1), 4, .inr (.inl fES))), (bEG, .inl ((cs 0), 4, .inl fEG)), (oa, .inl ((cs 1), 1, .inr (.inl fO)))] sz)) (vq_X (fun E => False) sz) 1 6 (va_A [(h0, .inr (0, [.ref aMo, .ref aSh, .ref aLa, .ref aDy, .ref aMa, .ref aKi, .int zCn, .ref aPi, .int zPc, .ref aLn, .int zTo])), (aPi, .inl ((cs 2), 4, .inr (.inr (.inr (.inr fPi))))), (pa, .inr (1, [.int zSl, .ref bLG, .ref bLS, .int zLy, .int zGr, .int zTk, .int zGt, .int zLt, .ref bLt, .ref bGS, .ref bGG, .ref bES, .ref bEG])), (bLG, .inl ((cs 0), 20, .inl fLG)), (bLS, .inl ((cs 0), 80, .inl fLS)), (bLt, .inl ((cs 1), 4, .inr (.inl fLt))), (bGS, .inl ((cs 1), 4, .inr (.inl fGS))), (bGG, .inl ((cs 0), 4, .inl fGG)), (bES, .inl ((cs 1), 4, .inr (.inl fES))), (bEG, .inl ((cs 0), 4, .inl fEG)), (oa, .inl ((cs 1), 1, .inr (.inl fO)))] sz) := by
  refine vx_ofWH (cc := b_LW_slice) (maxL := 4) (ret := (some .int)) (hh := [(0, 9, 12, 13), (0, 9, 15, 25)]) (by decide) rfl ?_
  intro p e s m args below meth c s₁ B hml hv
  have htab : c.exceptionTable.toList = tableOf [(0, 9, 12, 13), (0, 9, 15, 25)] := vx_table (x := y_LW_slice) B (atoms_spec (ws := w_LW_slice) B.pre _ List.mem_cons_self)
  obtain ⟨rfl, hsz, hP, hD0, hCx⟩ := hv
  have hx := B.exec
  have hb := B.bytes
  have hr := B.returns
  have hG := vq_hG (atoms_spec (ws := w_LW_slice) B.pre)
  have hown : s.vm.findClass R_LW = some m.cls := findClass_of_methodNamed B.named
  have hlocks := B.notSynchronized
  subst hsz
  have hK := hCx.1
  have hD := hD0.self (sz := s.heap.size)
  generalize hAe : va_A [(h0, .inr (0, [.ref aMo, .ref aSh, .ref aLa, .ref aDy, .ref aMa, .ref aKi, .int zCn, .ref aPi, .int zPc, .ref aLn, .int zTo])), (aPi, .inl ((cs 2), 4, .inr (.inr (.inr (.inr fPi))))), (pa, .inr (1, [.int zSl, .ref bLG, .ref bLS, .int zLy, .int zGr, .int zTk, .int zGt, .int zLt, .ref bLt, .ref bGS, .ref bGG, .ref bES, .ref bEG])), (bLG, .inl ((cs 0), 20, .inl fLG)), (bLS, .inl ((cs 0), 80, .inl fLS)), (bLt, .inl ((cs 1), 4, .inr (.inl fLt))), (bGS, .inl ((cs 1), 4, .inr (.inl fGS))), (bGG, .inl ((cs 0), 4, .inl fGG)), (bES, .inl ((cs 1), 4, .inr (.inl fES))), (bEG, .inl ((cs 0), 4, .inl fEG)), (oa, .inl ((cs 1), 1, .inr (.inl fO)))] s.heap.size = A at hD hCx ⊢
  have hA : ∀ q : Nat, s.heap.size ≤ q → A q := fun q h => by rw [← hAe]; exact Or.inr h
  have hA0 : ∀ q : Nat, s.heap.size ≤ q → va_A [] s.heap.size q := fun q h => Or.inr h
  have hS : va_S (va_A [] s.heap.size) s.heap s.heap [] := va_S.rf
  have hl := lv_entry ([.ref h0, .int x, .ref oa]) (n := 4) (Nat.le_of_ble_eq_true rfl)
  rw [lg_entry_eq]
  generalize (lg_sl ([.ref h0, .int x, .ref oa]) ++ List.replicate (4 - (lg_sl ([.ref h0, .int x, .ref oa])).length) Slot.unset).toArray = ls at hl ⊢
  have hl : lv_has ls 4 [(0, .ref h0), (1, .int x), (2, .ref oa)] := hl
  have hP : va_P (dC, dI) vq_cl [(h0, .inr (0, [.ref aMo, .ref aSh, .ref aLa, .ref aDy, .ref aMa, .ref aKi, .int zCn, .ref aPi, .int zPc, .ref aLn, .int zTo])), (aPi, .inl ((cs 2), 4, .inr (.inr (.inr (.inr fPi))))), (pa, .inr (1, [.int zSl, .ref bLG, .ref bLS, .int zLy, .int zGr, .int zTk, .int zGt, .int zLt, .ref bLt, .ref bGS, .ref bGG, .ref bES, .ref bEG])), (bLG, .inl ((cs 0), 20, .inl fLG)), (bLS, .inl ((cs 0), 80, .inl fLS)), (bLt, .inl ((cs 1), 4, .inr (.inl fLt))), (bGS, .inl ((cs 1), 4, .inr (.inl fGS))), (bGG, .inl ((cs 0), 4, .inl fGG)), (bES, .inl ((cs 1), 4, .inr (.inl fES))), (bEG, .inl ((cs 0), 4, .inl fEG)), (oa, .inl ((cs 1), 1, .inr (.inl fO)))] s.heap := hP
  refine lv_aload_n hx hb d_LW_slice_0 rfl (lv_at hl 2 rfl) ?_
  refine lv_iconst (v := 0) hx hb d_LW_slice_1 (by decide) ?_
  refine lv_aload_n hx hb d_LW_slice_2 rfl (lv_at hl 0 rfl) ?_
  refine lv_iload_n hx hb d_LW_slice_3 rfl (lv_at hl 1 rfl) ?_
  have hS := vq_wk hS hA
  refine mx_wi (vx_runV (As := [.int x]) (rest := [.int 0, .ref oa]) ⟨hx, hb, hml, hown, hG⟩ (c_slice l hlT dC dI cs _ h0 aMo aSh aLa aDy aMa aKi aPi aLn zCn zPc zTo fPi pa bLG bLS bLt bGS bGG bES bEG zSl zLy zGr zTk zGt zLt fLG fLS fGG fEG fLt fGS fES x hi hf hz) (cwV 1 hG (vq_gV vq_t330 vq_t331 vq_t332 vq_t1 vq_t333) rfl rfl rfl (by decide +kernel) ⟨Nat.le_of_ble_eq_true rfl, Nat.le_of_ble_eq_true rfl⟩) (vq_preVw (wc := [(h0, .inr (0, [.ref aMo, .ref aSh, .ref aLa, .ref aDy, .ref aMa, .ref aKi, .int zCn, .ref aPi, .int zPc, .ref aLn, .int zTo])), (aPi, .inl ((cs 2), 4, .inr (.inr (.inr (.inr fPi))))), (pa, .inr (1, [.int zSl, .ref bLG, .ref bLS, .int zLy, .int zGr, .int zTk, .int zGt, .int zLt, .ref bLt, .ref bGS, .ref bGG, .ref bES, .ref bEG])), (bLG, .inl ((cs 0), 20, .inl fLG)), (bLS, .inl ((cs 0), 80, .inl fLS)), (bLt, .inl ((cs 1), 4, .inr (.inl fLt))), (bGS, .inl ((cs 1), 4, .inr (.inl fGS))), (bGG, .inl ((cs 0), 4, .inl fGG)), (bES, .inl ((cs 1), 4, .inr (.inl fES))), (bEG, .inl ((cs 0), 4, .inl fEG))]) (va_recv hK hP (ci := 0) (q0 := 0) rfl rfl) hCx hP hD hS hA [0, 1, 2, 3, 4, 5, 6, 7, 8, 9] rfl rfl (by decide)) rfl rfl hl.1 rfl (lv_room (Nat.le_of_ble_eq_true rfl)) d_LW_slice_4 ⟨Nat.le_of_ble_eq_true rfl, Nat.le_of_ble_eq_true rfl⟩) hP hD hS hA [0, 1, 2, 3, 4, 5, 6, 7, 8, 9] [10] rfl rfl (by decide) (by decide) (fun E ce q9 H locs x_4 hP hS h91 h92 h93 => ?_) (fun r_4 _ H locs w_4 hP hD hS => ?_)
  · skip
    obtain rfl := Option.some.inj (hX.symm.trans x_4)
    rcases hE with rfl | rfl
    · skip
      refine vx_catch (name := xI) hown [] ⟨0, 9, 12, 13⟩ [⟨0, 9, 15, 25⟩] htab (fun _ h => absurd h List.not_mem_nil) rfl (by decide) (hG _ vq_t137) (va_Nw.use rfl (hCx.2.2.2.2.2.1 _ (by decide))) h91 h92 h93 ?_
      refine W.eq (g2 := F0 m 12 ls [.ref q9]) rfl ?_
      refine lv_astore_n (lv' := [(3, .ref q9), (0, .ref h0), (1, .int x), (2, .ref oa)]) hx hb d_LW_slice_12 rfl hl (by decide) rfl (fun ls hl => ?_)
      refine lv_iconst (v := 1) hx hb d_LW_slice_13 (by decide) ?_
      refine vx_ret ?_
      refine W.widen (k := 1) (n := 6) (Nat.le_of_ble_eq_true rfl) (Nat.le_of_ble_eq_true rfl) ?_
      have hP9 : va_P (dC, dI) vq_cl [(h0, .inr (0, [.ref aMo, .ref aSh, .ref aLa, .ref aDy, .ref aMa, .ref aKi, .int zCn, .ref aPi, .int zPc, .ref aLn, .int zTo])), (aPi, .inl ((cs 2), 4, .inr (.inr (.inr (.inr fPi))))), (pa, .inr (1, [.int zSl, .ref bLG, .ref bLS, .int zLy, .int zGr, .int zTk, .int zGt, .int zLt, .ref bLt, .ref bGS, .ref bGG, .ref bES, .ref bEG])), (bLG, .inl ((cs 0), 20, .inl fLG)), (bLS, .inl ((cs 0), 80, .inl fLS)), (bLt, .inl ((cs 1), 4, .inr (.inl fLt))), (bGS, .inl ((cs 1), 4, .inr (.inl fGS))), (bGG, .inl ((cs 0), 4, .inl fGG)), (bES, .inl ((cs 1), 4, .inr (.inl fES))), (bEG, .inl ((cs 0), 4, .inl fEG)), (oa, .inl ((cs 1), 1, .inr (.inl fO)))] _ := hP.sub [0, 1, 2, 3, 4, 5, 6, 7, 8, 9, 10] rfl
      have hD9 : va_D A [(h0, .inr (0, [.ref aMo, .ref aSh, .ref aLa, .ref aDy, .ref aMa, .ref aKi, .int zCn, .ref aPi, .int zPc, .ref aLn, .int zTo])), (aPi, .inl ((cs 2), 4, .inr (.inr (.inr (.inr fPi))))), (pa, .inr (1, [.int zSl, .ref bLG, .ref bLS, .int zLy, .int zGr, .int zTk, .int zGt, .int zLt, .ref bLt, .ref bGS, .ref bGG, .ref bES, .ref bEG])), (bLG, .inl ((cs 0), 20, .inl fLG)), (bLS, .inl ((cs 0), 80, .inl fLS)), (bLt, .inl ((cs 1), 4, .inr (.inl fLt))), (bGS, .inl ((cs 1), 4, .inr (.inl fGS))), (bGG, .inl ((cs 0), 4, .inl fGG)), (bES, .inl ((cs 1), 4, .inr (.inl fES))), (bEG, .inl ((cs 0), 4, .inl fEG)), (oa, .inl ((cs 1), 1, .inr (.inl fO)))] := hD.sub [0, 1, 2, 3, 4, 5, 6, 7, 8, 9, 10] (by decide) rfl
      exact W.iret (v := 1) hx hb hr (fun t ht hW => ⟨⟨1, (), rfl, by decide +kernel, ⟨by rw [ht]; exact hP9, hD9⟩⟩, hS.F ht⟩) hS.2.2 d_LW_slice_14
    · skip
      refine vx_catch (name := xS) hown [⟨0, 9, 12, 13⟩] ⟨0, 9, 15, 25⟩ [] htab (List.forall_mem_cons.mpr ⟨Or.inr ⟨by decide, xI, hG _ vq_t137, hCx.2.2.2.2.2.2.1 _ (by decide) _ (by decide) (by decide)⟩, fun _ h => absurd h List.not_mem_nil⟩) rfl (by decide) (hG _ vq_t248) (va_Nw.use rfl (hCx.2.2.2.2.2.1 _ (by decide))) h91 h92 h93 ?_
      refine W.eq (g2 := F0 m 15 ls [.ref q9]) rfl ?_
      refine lv_astore_n (lv' := [(3, .ref q9), (0, .ref h0), (1, .int x), (2, .ref oa)]) hx hb d_LW_slice_15 rfl hl (by decide) rfl (fun ls hl => ?_)
      refine lv_iconst (v := 2) hx hb d_LW_slice_16 (by decide) ?_
      refine vx_ret ?_
      refine W.widen (k := 1) (n := 6) (Nat.le_of_ble_eq_true rfl) (Nat.le_of_ble_eq_true rfl) ?_
      have hP9 : va_P (dC, dI) vq_cl [(h0, .inr (0, [.ref aMo, .ref aSh, .ref aLa, .ref aDy, .ref aMa, .ref aKi, .int zCn, .ref aPi, .int zPc, .ref aLn, .int zTo])), (aPi, .inl ((cs 2), 4, .inr (.inr (.inr (.inr fPi))))), (pa, .inr (1, [.int zSl, .ref bLG, .ref bLS, .int zLy, .int zGr, .int zTk, .int zGt, .int zLt, .ref bLt, .ref bGS, .ref bGG, .ref bES, .ref bEG])), (bLG, .inl ((cs 0), 20, .inl fLG)), (bLS, .inl ((cs 0), 80, .inl fLS)), (bLt, .inl ((cs 1), 4, .inr (.inl fLt))), (bGS, .inl ((cs 1), 4, .inr (.inl fGS))), (bGG, .inl ((cs 0), 4, .inl fGG)), (bES, .inl ((cs 1), 4, .inr (.inl fES))), (bEG, .inl ((cs 0), 4, .inl fEG)), (oa, .inl ((cs 1), 1, .inr (.inl fO)))] _ := hP.sub [0, 1, 2, 3, 4, 5, 6, 7, 8, 9, 10] rfl
      have hD9 : va_D A [(h0, .inr (0, [.ref aMo, .ref aSh, .ref aLa, .ref aDy, .ref aMa, .ref aKi, .int zCn, .ref aPi, .int zPc, .ref aLn, .int zTo])), (aPi, .inl ((cs 2), 4, .inr (.inr (.inr (.inr fPi))))), (pa, .inr (1, [.int zSl, .ref bLG, .ref bLS, .int zLy, .int zGr, .int zTk, .int zGt, .int zLt, .ref bLt, .ref bGS, .ref bGG, .ref bES, .ref bEG])), (bLG, .inl ((cs 0), 20, .inl fLG)), (bLS, .inl ((cs 0), 80, .inl fLS)), (bLt, .inl ((cs 1), 4, .inr (.inl fLt))), (bGS, .inl ((cs 1), 4, .inr (.inl fGS))), (bGG, .inl ((cs 0), 4, .inl fGG)), (bES, .inl ((cs 1), 4, .inr (.inl fES))), (bEG, .inl ((cs 0), 4, .inl fEG)), (oa, .inl ((cs 1), 1, .inr (.inl fO)))] := hD.sub [0, 1, 2, 3, 4, 5, 6, 7, 8, 9, 10] (by decide) rfl
      exact W.iret (v := 2) hx hb hr (fun t ht hW => ⟨⟨2, (), rfl, by decide +kernel, ⟨by rw [ht]; exact hP9, hD9⟩⟩, hS.F ht⟩) hS.2.2 d_LW_slice_17
  have hP : va_P (dC, dI) vq_cl [(oa, .inl ((cs 1), 1, .inr (.inl fO))), (h0, .inr (0, [.ref aMo, .ref aSh, .ref aLa, .ref aDy, .ref aMa, .ref aKi, .int zCn, .ref aPi, .int zPc, .ref aLn, .int zTo])), (aPi, .inl ((cs 2), 4, .inr (.inr (.inr (.inr fPi))))), (pa, .inr (1, [.int zSl, .ref bLG, .ref bLS, .int zLy, .int zGr, .int (zTk + 1), .int (zGt + (tkG zSl zTk fLG zLy 20 0 0)), .int (tkG zSl zTk fLG zLy 20 0 0), .ref bLt, .ref bGS, .ref bGG, .ref bES, .ref bEG])), (bLG, .inl ((cs 0), 20, .inl fLG)), (bLS, .inl ((cs 0), 80, .inl fLS)), (bLt, .inl ((cs 1), 4, .inr (.inl (tkS zSl zTk fLG fLS zLy 20 0 (cl4 fLt))))), (bGS, .inl ((cs 1), 4, .inr (.inl ((tnG (tkG zSl zTk fLG zLy 20 0 0) (tkS zSl zTk fLG fLS zLy 20 0 (cl4 fLt)) (fGS, fGG)).1)))), (bGG, .inl ((cs 0), 4, .inl ((tnG (tkG zSl zTk fLG zLy 20 0 0) (tkS zSl zTk fLG fLS zLy 20 0 (cl4 fLt)) (fGS, fGG)).2))), (bES, .inl ((cs 1), 4, .inr (.inl ((tnE (tkG zSl zTk fLG zLy 20 0 0) (tkS zSl zTk fLG fLS zLy 20 0 (cl4 fLt)) (fES, fEG)).1)))), (bEG, .inl ((cs 0), 4, .inl ((tnE (tkG zSl zTk fLG zLy 20 0 0) (tkS zSl zTk fLG fLS zLy 20 0 (cl4 fLt)) (fES, fEG)).2)))] H := hP
  have hD : va_D A [(oa, .inl ((cs 1), 1, .inr (.inl fO))), (h0, .inr (0, [.ref aMo, .ref aSh, .ref aLa, .ref aDy, .ref aMa, .ref aKi, .int zCn, .ref aPi, .int zPc, .ref aLn, .int zTo])), (aPi, .inl ((cs 2), 4, .inr (.inr (.inr (.inr fPi))))), (pa, .inr (1, [.int zSl, .ref bLG, .ref bLS, .int zLy, .int zGr, .int (zTk + 1), .int (zGt + (tkG zSl zTk fLG zLy 20 0 0)), .int (tkG zSl zTk fLG zLy 20 0 0), .ref bLt, .ref bGS, .ref bGG, .ref bES, .ref bEG])), (bLG, .inl ((cs 0), 20, .inl fLG)), (bLS, .inl ((cs 0), 80, .inl fLS)), (bLt, .inl ((cs 1), 4, .inr (.inl (tkS zSl zTk fLG fLS zLy 20 0 (cl4 fLt))))), (bGS, .inl ((cs 1), 4, .inr (.inl ((tnG (tkG zSl zTk fLG zLy 20 0 0) (tkS zSl zTk fLG fLS zLy 20 0 (cl4 fLt)) (fGS, fGG)).1)))), (bGG, .inl ((cs 0), 4, .inl ((tnG (tkG zSl zTk fLG zLy 20 0 0) (tkS zSl zTk fLG fLS zLy 20 0 (cl4 fLt)) (fGS, fGG)).2))), (bES, .inl ((cs 1), 4, .inr (.inl ((tnE (tkG zSl zTk fLG zLy 20 0 0) (tkS zSl zTk fLG fLS zLy 20 0 (cl4 fLt)) (fES, fEG)).1)))), (bEG, .inl ((cs 0), 4, .inl ((tnE (tkG zSl zTk fLG zLy 20 0 0) (tkS zSl zTk fLG fLS zLy 20 0 (cl4 fLt)) (fES, fEG)).2)))] := hD
  exact absurd (hX.symm.trans w_4.2) (fun h => nomatch h)
set_option maxHeartbeats 4000000 in
set_option maxRecDepth 100000 in
/-- law.slice, no such pile -/
theorem h_slice_b (l : Launch) (hlT : l.stackTraces = false) (dC : Nat → ClassId) (dI : Nat → Nat → Nat) (cs : Nat → ClassId) (sz : Nat) (h0 : Nat) (aMo : Nat) (aSh : Nat) (aLa : Nat) (aDy : Nat) (aMa : Nat) (aKi : Nat) (aPi : Nat) (aLn : Nat) (zCn : Int32) (zPc : Int32) (zTo : Int32) (x : Int32) (oa : Nat) (fO : Nat → Int64) (hi : okP x → zPc ≤ x) : vx_Met l y_LW_slice w_LW_slice ({ frames := 8, cells := 1, slots := 6, locals := 126 }) (vq_PreR (dC, dI) cs [(h0, .inr (0, [.ref aMo, .ref aSh, .ref aLa, .ref aDy, .ref aMa, .ref aKi, .int zCn, .ref aPi, .int zPc, .ref aLn, .int zTo])), (oa, .inl ((cs 1), 1, .inr (.inl fO)))] sz [.ref h0, .int x, .ref oa]) (va_Qi (fun (r : Int32) (_ : Unit) => r = 1) (fun _ _ => True) (va_A [] sz)) (vq_X (fun E => False) sz) 1 6 (va_A [] sz) := by
  refine vx_ofWH (cc := b_LW_slice) (maxL := 4) (ret := (some .int)) (hh := [(0, 9, 12, 13), (0, 9, 15, 25)]) (by decide) rfl ?_
  intro p e s m args below meth c s₁ B hml hv
  have htab : c.exceptionTable.toList = tableOf [(0, 9, 12, 13), (0, 9, 15, 25)] := vx_table (x := y_LW_slice) B (atoms_spec (ws := w_LW_slice) B.pre _ List.mem_cons_self)
  obtain ⟨rfl, hsz, hP, hCx⟩ := hv
  have hx := B.exec
  have hb := B.bytes
  have hr := B.returns
  have hG := vq_hG (atoms_spec (ws := w_LW_slice) B.pre)
  have hown : s.vm.findClass R_LW = some m.cls := findClass_of_methodNamed B.named
  have hlocks := B.notSynchronized
  subst hsz
  have hK := hCx.1
  have hA : ∀ q : Nat, s.heap.size ≤ q → va_A [] s.heap.size q := fun q h => Or.inr h
  have hA0 : ∀ q : Nat, s.heap.size ≤ q → va_A [] s.heap.size q := fun q h => Or.inr h
  have hS : va_S (va_A [] s.heap.size) s.heap s.heap [] := va_S.rf
  have hl := lv_entry ([.ref h0, .int x, .ref oa]) (n := 4) (Nat.le_of_ble_eq_true rfl)
  rw [lg_entry_eq]
  generalize (lg_sl ([.ref h0, .int x, .ref oa]) ++ List.replicate (4 - (lg_sl ([.ref h0, .int x, .ref oa])).length) Slot.unset).toArray = ls at hl ⊢
  have hl : lv_has ls 4 [(0, .ref h0), (1, .int x), (2, .ref oa)] := hl
  have hP : va_P (dC, dI) vq_cl [(h0, .inr (0, [.ref aMo, .ref aSh, .ref aLa, .ref aDy, .ref aMa, .ref aKi, .int zCn, .ref aPi, .int zPc, .ref aLn, .int zTo])), (oa, .inl ((cs 1), 1, .inr (.inl fO)))] s.heap := hP
  refine lv_aload_n hx hb d_LW_slice_0 rfl (lv_at hl 2 rfl) ?_
  refine lv_iconst (v := 0) hx hb d_LW_slice_1 (by decide) ?_
  refine lv_aload_n hx hb d_LW_slice_2 rfl (lv_at hl 0 rfl) ?_
  refine lv_iload_n hx hb d_LW_slice_3 rfl (lv_at hl 1 rfl) ?_
  refine mx_rv (vx_runV (As := [.int x]) (rest := [.int 0, .ref oa]) ⟨hx, hb, hml, hown, hG⟩ (c_slice_bad l hlT dC dI cs _ h0 aMo aSh aLa aDy aMa aKi aPi aLn zCn zPc zTo x hi) (cwV 1 hG (vq_gV vq_t330 vq_t331 vq_t332 vq_t1 vq_t333) rfl rfl rfl (by decide +kernel) ⟨Nat.le_of_ble_eq_true rfl, Nat.le_of_ble_eq_true rfl⟩) (vq_preVr (wc := [(h0, .inr (0, [.ref aMo, .ref aSh, .ref aLa, .ref aDy, .ref aMa, .ref aKi, .int zCn, .ref aPi, .int zPc, .ref aLn, .int zTo]))]) (va_recv hK hP (ci := 0) (q0 := 0) rfl rfl) hCx hP (vq_wk hS hA) hA [0] rfl) rfl rfl hl.1 rfl (lv_room (Nat.le_of_ble_eq_true rfl)) d_LW_slice_4 ⟨Nat.le_of_ble_eq_true rfl, Nat.le_of_ble_eq_true rfl⟩) hP hS hA0 (fun E ce q9 H locs x_4 hP hS h91 h92 h93 => ?_) (fun H locs w_4 hP hS => ?_)
  · skip
    obtain rfl := x_4
    · skip
      refine vx_catch (name := xI) hown [] ⟨0, 9, 12, 13⟩ [⟨0, 9, 15, 25⟩] htab (fun _ h => absurd h List.not_mem_nil) rfl (by decide) (hG _ vq_t137) (va_Nw.use rfl (hCx.2.2.2.2.2.1 _ (by decide))) h91 h92 h93 ?_
      refine W.eq (g2 := F0 m 12 ls [.ref q9]) rfl ?_
      refine lv_astore_n (lv' := [(3, .ref q9), (0, .ref h0), (1, .int x), (2, .ref oa)]) hx hb d_LW_slice_12 rfl hl (by decide) rfl (fun ls hl => ?_)
      refine lv_iconst (v := 1) hx hb d_LW_slice_13 (by decide) ?_
      refine vx_ret ?_
      refine W.widen (k := 1) (n := 6) (Nat.le_of_ble_eq_true rfl) (Nat.le_of_ble_eq_true rfl) ?_
      exact W.iret (v := 1) hx hb hr (fun t ht hW => ⟨⟨1, (), rfl, rfl, trivial⟩, hS.F ht⟩) hS.2.2 d_LW_slice_14
  exact w_4.elim
set_option maxHeartbeats 4000000 in
set_option maxRecDepth 100000 in
/-- law.share, where it goes through -/
theorem h_share_n (l : Launch) (hlT : l.stackTraces = false) (dC : Nat → ClassId) (dI : Nat → Nat → Nat) (cs : Nat → ClassId) (sz : Nat) (h0 : Nat) (aMo : Nat) (aSh : Nat) (aLa : Nat) (aDy : Nat) (aMa : Nat) (aKi : Nat) (aPi : Nat) (aLn : Nat) (zCn : Int32) (zPc : Int32) (zTo : Int32) (fPi : Nat → Option Nat) (pa : Nat) (bLG : Nat) (bLS : Nat) (bLt : Nat) (bGS : Nat) (bGG : Nat) (bES : Nat) (bEG : Nat) (zSl : Int32) (zLy : Int32) (zGr : Int32) (zTk : Int32) (zGt : Int32) (zLt : Int32) (fLt : Nat → Int64) (x : Int32) (k : Int32) (q : Int32) (oa : Nat) (fO : Nat → Int64) (hi : okP x) (hf : fPi x.toNatClampNeg = some pa) (hz : ¬ zPc ≤ x) (hX : X_share k q zTk zLt = none) : vx_Met l y_LW_share w_LW_share ({ frames := 8, cells := 4, slots := 24, locals := 126 }) (vq_Pre (dC, dI) cs [(h0, .inr (0, [.ref aMo, .ref aSh, .ref aLa, .ref aDy, .ref aMa, .ref aKi, .int zCn, .ref aPi, .int zPc, .ref aLn, .int zTo])), (aPi, .inl ((cs 2), 4, .inr (.inr (.inr (.inr fPi))))), (pa, .inr (1, [.int zSl, .ref bLG, .ref bLS, .int zLy, .int zGr, .int zTk, .int zGt, .int zLt, .ref bLt, .ref bGS, .ref bGG, .ref bES, .ref bEG])), (bLt, .inl ((cs 1), 4, .inr (.inl fLt))), (oa, .inl ((cs 1), 1, .inr (.inl fO)))] sz [.ref h0, .int x, .int k, .int q, .ref oa]) (va_Qi (fun (r : Int32) (_ : Unit) => r = 0) (vq_B (dC, dI) cs (va_A [(h0, .inr (0, [.ref aMo, .ref aSh, .ref aLa, .ref aDy, .ref aMa, .ref aKi, .int zCn, .ref aPi, .int zPc, .ref aLn, .int zTo])), (aPi, .inl ((cs 2), 4, .inr (.inr (.inr (.inr fPi))))), (pa, .inr (1, [.int zSl, .ref bLG, .ref bLS, .int zLy, .int zGr, .int zTk, .int zGt, .int zLt, .ref bLt, .ref bGS, .ref bGG, .ref bES, .ref bEG])), (bLt, .inl ((cs 1), 4, .inr (.inl fLt))), (oa, .inl ((cs 1), 1, .inr (.inl fO)))] sz) (fun _ => [(h0, .inr (0, [.ref aMo, .ref aSh, .ref aLa, .ref aDy, .ref aMa, .ref aKi, .int zCn, .ref aPi, .int zPc, .ref aLn, .int zTo])), (aPi, .inl ((cs 2), 4, .inr (.inr (.inr (.inr fPi))))), (pa, .inr (1, [.int zSl, .ref bLG, .ref bLS, .int zLy, .int zGr, .int zTk, .int zGt, .int zLt, .ref bLt, .ref bGS, .ref bGG, .ref bES, .ref bEG])), (bLt, .inl ((cs 1), 4, .inr (.inl fLt))), (oa, .inl ((cs 1), 1, .inr (.inl (vp_updL fO (0 : Int32).toNatClampNeg (lowF (fLt k.toNatClampNeg) (zLt.toInt64) q)))))])) (va_A [(h0, .inr (0, [.ref aMo, .ref aSh, .ref aLa, .ref aDy, .ref aMa, .ref aKi, .int zCn, .ref aPi, .int zPc, .ref aLn, .int zTo])), (aPi, .inl ((cs 2), 4, .inr (.inr (.inr (.inr fPi))))), (pa, .inr (1, [.int zSl, .ref bLG, .ref bLS, .int zLy, .int zGr, .int zTk, .int zGt, .int zLt, .ref bLt, .ref bGS, .ref bGG, .ref bES, .ref bEG])), (bLt, .inl ((cs 1), 4, .inr (.inl fLt))), (oa, .inl ((cs 1), 1, .inr (.inl fO)))] sz)) (vq_X (fun E => False) sz) 4 24 (va_A [(h0, .inr (0, [.ref aMo, .ref aSh, .ref aLa, .ref aDy, .ref aMa, .ref aKi, .int zCn, .ref aPi, .int zPc, .ref aLn, .int zTo])), (aPi, .inl ((cs 2), 4, .inr (.inr (.inr (.inr fPi))))), (pa, .inr (1, [.int zSl, .ref bLG, .ref bLS, .int zLy, .int zGr, .int zTk, .int zGt, .int zLt, .ref bLt, .ref bGS, .ref bGG, .ref bES, .ref bEG])), (bLt, .inl ((cs 1), 4, .inr (.inl fLt))), (oa, .inl ((cs 1), 1, .inr (.inl fO)))] sz) := by
  refine vx_ofWH (cc := b_LW_share) (maxL := 6) (ret := (some .int)) (hh := [(0, 11, 14, 13), (0, 11, 18, 25), (0, 11, 22, 38)]) (by decide) rfl ?_
  intro p e s m args below meth c s₁ B hml hv
  have htab : c.exceptionTable.toList = tableOf [(0, 11, 14, 13), (0, 11, 18, 25), (0, 11, 22, 38)] := vx_table (x := y_LW_share) B (atoms_spec (ws := w_LW_share) B.pre _ List.mem_cons_self)
  obtain ⟨rfl, hsz, hP, hD0, hCx⟩ := hv
  have hx := B.exec
  have hb := B.bytes
  have hr := B.returns
  have hG := vq_hG (atoms_spec (ws := w_LW_share) B.pre)
  have hown : s.vm.findClass R_LW = some m.cls := findClass_of_methodNamed B.named
  have hlocks := B.notSynchronized
  subst hsz
  have hK := hCx.1
  have hD := hD0.self (sz := s.heap.size)
  generalize hAe : va_A [(h0, .inr (0, [.ref aMo, .ref aSh, .ref aLa, .ref aDy, .ref aMa, .ref aKi, .int zCn, .ref aPi, .int zPc, .ref aLn, .int zTo])), (aPi, .inl ((cs 2), 4, .inr (.inr (.inr (.inr fPi))))), (pa, .inr (1, [.int zSl, .ref bLG, .ref bLS, .int zLy, .int zGr, .int zTk, .int zGt, .int zLt, .ref bLt, .ref bGS, .ref bGG, .ref bES, .ref bEG])), (bLt, .inl ((cs 1), 4, .inr (.inl fLt))), (oa, .inl ((cs 1), 1, .inr (.inl fO)))] s.heap.size = A at hD hCx ⊢
  have hA : ∀ q : Nat, s.heap.size ≤ q → A q := fun q h => by rw [← hAe]; exact Or.inr h
  have hA0 : ∀ q : Nat, s.heap.size ≤ q → va_A [] s.heap.size q := fun q h => Or.inr h
  have hS : va_S (va_A [] s.heap.size) s.heap s.heap [] := va_S.rf
  have hl := lv_entry ([.ref h0, .int x, .int k, .int q, .ref oa]) (n := 6) (Nat.le_of_ble_eq_true rfl)
  rw [lg_entry_eq]
  generalize (lg_sl ([.ref h0, .int x, .int k, .int q, .ref oa]) ++ List.replicate (6 - (lg_sl ([.ref h0, .int x, .int k, .int q, .ref oa])).length) Slot.unset).toArray = ls at hl ⊢
  have hl : lv_has ls 6 [(0, .ref h0), (1, .int x), (2, .int k), (3, .int q), (4, .ref oa)] := hl
  have hP : va_P (dC, dI) vq_cl [(h0, .inr (0, [.ref aMo, .ref aSh, .ref aLa, .ref aDy, .ref aMa, .ref aKi, .int zCn, .ref aPi, .int zPc, .ref aLn, .int zTo])), (aPi, .inl ((cs 2), 4, .inr (.inr (.inr (.inr fPi))))), (pa, .inr (1, [.int zSl, .ref bLG, .ref bLS, .int zLy, .int zGr, .int zTk, .int zGt, .int zLt, .ref bLt, .ref bGS, .ref bGG, .ref bES, .ref bEG])), (bLt, .inl ((cs 1), 4, .inr (.inl fLt))), (oa, .inl ((cs 1), 1, .inr (.inl fO)))] s.heap := hP
  refine lv_aload hx hb d_LW_share_0 (lv_at hl 4 rfl) ?_
  refine lv_iconst (v := 0) hx hb d_LW_share_2 (by decide) ?_
  refine lv_aload_n hx hb d_LW_share_3 rfl (lv_at hl 0 rfl) ?_
  refine lv_iload_n hx hb d_LW_share_4 rfl (lv_at hl 1 rfl) ?_
  refine lv_iload_n hx hb d_LW_share_5 rfl (lv_at hl 2 rfl) ?_
  refine lv_iload_n hx hb d_LW_share_6 rfl (lv_at hl 3 rfl) ?_
  refine mx_rl (vx_runV (As := [.int x, .int k, .int q]) (rest := [.int 0, .ref oa]) ⟨hx, hb, hml, hown, hG⟩ (c_share l hlT dC dI cs _ h0 aMo aSh aLa aDy aMa aKi aPi aLn zCn zPc zTo fPi pa bLG bLS bLt bGS bGG bES bEG zSl zLy zGr zTk zGt zLt fLt x k q hi hf hz) (cwV 3 hG (vq_gV vq_t363 vq_t364 vq_t365 vq_t1 vq_t366) rfl rfl rfl (by decide +kernel) ⟨Nat.le_of_ble_eq_true rfl, Nat.le_of_ble_eq_true rfl⟩) (vq_preVr (wc := [(h0, .inr (0, [.ref aMo, .ref aSh, .ref aLa, .ref aDy, .ref aMa, .ref aKi, .int zCn, .ref aPi, .int zPc, .ref aLn, .int zTo])), (aPi, .inl ((cs 2), 4, .inr (.inr (.inr (.inr fPi))))), (pa, .inr (1, [.int zSl, .ref bLG, .ref bLS, .int zLy, .int zGr, .int zTk, .int zGt, .int zLt, .ref bLt, .ref bGS, .ref bGG, .ref bES, .ref bEG])), (bLt, .inl ((cs 1), 4, .inr (.inl fLt)))]) (va_recv hK hP (ci := 0) (q0 := 0) rfl rfl) hCx hP (vq_wk hS hA) hA [0, 1, 2, 3] rfl) rfl rfl hl.1 rfl (lv_room (Nat.le_of_ble_eq_true rfl)) d_LW_share_7 ⟨Nat.le_of_ble_eq_true rfl, Nat.le_of_ble_eq_true rfl⟩) hP hS hA0 (fun E ce q9 H locs x_7 hP hS h91 h92 h93 => absurd (hX.symm.trans x_7) (fun h => nomatch h)) (fun r_7 H locs w_7 hP hS => ?_)
  refine W.widen (k := 4) (n := 24) (Nat.le_of_ble_eq_true rfl) (Nat.le_of_ble_eq_true rfl) ?_
  obtain ⟨rfl, w_7⟩ := w_7
  have hS := vq_wk hS hA
  refine va_last (D := (dC, dI)) hx hb hK hP hD hS 4 1 rfl rfl (vq_in 1 rfl (by decide) (by decide)) d_LW_share_10 (fun H locs hP hD hS => ?_)
  have hP : va_P (dC, dI) vq_cl [(h0, .inr (0, [.ref aMo, .ref aSh, .ref aLa, .ref aDy, .ref aMa, .ref aKi, .int zCn, .ref aPi, .int zPc, .ref aLn, .int zTo])), (aPi, .inl ((cs 2), 4, .inr (.inr (.inr (.inr fPi))))), (pa, .inr (1, [.int zSl, .ref bLG, .ref bLS, .int zLy, .int zGr, .int zTk, .int zGt, .int zLt, .ref bLt, .ref bGS, .ref bGG, .ref bES, .ref bEG])), (bLt, .inl ((cs 1), 4, .inr (.inl fLt))), (oa, .inl ((cs 1), 1, .inr (.inl (vp_updL fO (0 : Int32).toNatClampNeg (lowF (fLt k.toNatClampNeg) (zLt.toInt64) q)))))] H := hP
  have hD : va_D A [(h0, .inr (0, [.ref aMo, .ref aSh, .ref aLa, .ref aDy, .ref aMa, .ref aKi, .int zCn, .ref aPi, .int zPc, .ref aLn, .int zTo])), (aPi, .inl ((cs 2), 4, .inr (.inr (.inr (.inr fPi))))), (pa, .inr (1, [.int zSl, .ref bLG, .ref bLS, .int zLy, .int zGr, .int zTk, .int zGt, .int zLt, .ref bLt, .ref bGS, .ref bGG, .ref bES, .ref bEG])), (bLt, .inl ((cs 1), 4, .inr (.inl fLt))), (oa, .inl ((cs 1), 1, .inr (.inl (vp_updL fO (0 : Int32).toNatClampNeg (lowF (fLt k.toNatClampNeg) (zLt.toInt64) q)))))] := hD
  refine lv_goto (tgt := 26) hx hb d_LW_share_11 (by decide) ?_
  refine lv_iconst (v := 0) hx hb d_LW_share_26 (by decide) ?_
  refine vx_ret ?_
  refine W.widen (k := 4) (n := 24) (Nat.le_of_ble_eq_true rfl) (Nat.le_of_ble_eq_true rfl) ?_
  have hP9 : va_P (dC, dI) vq_cl [(h0, .inr (0, [.ref aMo, .ref aSh, .ref aLa, .ref aDy, .ref aMa, .ref aKi, .int zCn, .ref aPi, .int zPc, .ref aLn, .int zTo])), (aPi, .inl ((cs 2), 4, .inr (.inr (.inr (.inr fPi))))), (pa, .inr (1, [.int zSl, .ref bLG, .ref bLS, .int zLy, .int zGr, .int zTk, .int zGt, .int zLt, .ref bLt, .ref bGS, .ref bGG, .ref bES, .ref bEG])), (bLt, .inl ((cs 1), 4, .inr (.inl fLt))), (oa, .inl ((cs 1), 1, .inr (.inl (vp_updL fO (0 : Int32).toNatClampNeg (lowF (fLt k.toNatClampNeg) (zLt.toInt64) q)))))] _ := hP.sub [0, 1, 2, 3, 4] rfl
  have hD9 : va_D A [(h0, .inr (0, [.ref aMo, .ref aSh, .ref aLa, .ref aDy, .ref aMa, .ref aKi, .int zCn, .ref aPi, .int zPc, .ref aLn, .int zTo])), (aPi, .inl ((cs 2), 4, .inr (.inr (.inr (.inr fPi))))), (pa, .inr (1, [.int zSl, .ref bLG, .ref bLS, .int zLy, .int zGr, .int zTk, .int zGt, .int zLt, .ref bLt, .ref bGS, .ref bGG, .ref bES, .ref bEG])), (bLt, .inl ((cs 1), 4, .inr (.inl fLt))), (oa, .inl ((cs 1), 1, .inr (.inl (vp_updL fO (0 : Int32).toNatClampNeg (lowF (fLt k.toNatClampNeg) (zLt.toInt64) q)))))] := hD.sub [0, 1, 2, 3, 4] (by decide) rfl
  exact W.iret (v := 0) hx hb hr (fun t ht hW => ⟨⟨0, (), rfl, rfl, ⟨by rw [ht]; exact hP9, hD9⟩⟩, hS.F ht⟩) hS.2.2 d_LW_share_27
set_option maxHeartbeats 4000000 in
set_option maxRecDepth 100000 in
/-- law.share, where it is refused -/
theorem h_share_s (l : Launch) (hlT : l.stackTraces = false) (dC : Nat → ClassId) (dI : Nat → Nat → Nat) (cs : Nat → ClassId) (sz : Nat) (h0 : Nat) (aMo : Nat) (aSh : Nat) (aLa : Nat) (aDy : Nat) (aMa : Nat) (aKi : Nat) (aPi : Nat) (aLn : Nat) (zCn : Int32) (zPc : Int32) (zTo : Int32) (fPi : Nat → Option Nat) (pa : Nat) (bLG : Nat) (bLS : Nat) (bLt : Nat) (bGS : Nat) (bGG : Nat) (bES : Nat) (bEG : Nat) (zSl : Int32) (zLy : Int32) (zGr : Int32) (zTk : Int32) (zGt : Int32) (zLt : Int32) (fLt : Nat → Int64) (x : Int32) (k : Int32) (q : Int32) (oa : Nat) (fO : Nat → Int64) (E0 : String) (hi : okP x) (hf : fPi x.toNatClampNeg = some pa) (hz : ¬ zPc ≤ x) (hX : X_share k q zTk zLt = some E0) (hE : E0 = xI ∨ E0 = xS ∨ E0 = xU) : vx_Met l y_LW_share w_LW_share ({ frames := 8, cells := 4, slots := 24, locals := 126 }) (vq_PreR (dC, dI) cs [(h0, .inr (0, [.ref aMo, .ref aSh, .ref aLa, .ref aDy, .ref aMa, .ref aKi, .int zCn, .ref aPi, .int zPc, .ref aLn, .int zTo])), (aPi, .inl ((cs 2), 4, .inr (.inr (.inr (.inr fPi))))), (pa, .inr (1, [.int zSl, .ref bLG, .ref bLS, .int zLy, .int zGr, .int zTk, .int zGt, .int zLt, .ref bLt, .ref bGS, .ref bGG, .ref bES, .ref bEG])), (bLt, .inl ((cs 1), 4, .inr (.inl fLt))), (oa, .inl ((cs 1), 1, .inr (.inl fO)))] sz [.ref h0, .int x, .int k, .int q, .ref oa]) (va_Qi (fun (r : Int32) (_ : Unit) => r = cdF [xI, xS, xU] E0) (fun _ _ => True) (va_A [] sz)) (vq_X (fun E => False) sz) 4 24 (va_A [] sz) := by
  refine vx_ofWH (cc := b_LW_share) (maxL := 6) (ret := (some .int)) (hh := [(0, 11, 14, 13), (0, 11, 18, 25), (0, 11, 22, 38)]) (by decide) rfl ?_
  intro p e s m args below meth c s₁ B hml hv
  have htab : c.exceptionTable.toList = tableOf [(0, 11, 14, 13), (0, 11, 18, 25), (0, 11, 22, 38)] := vx_table (x := y_LW_share) B (atoms_spec (ws := w_LW_share) B.pre _ List.mem_cons_self)
  obtain ⟨rfl, hsz, hP, hCx⟩ := hv
  have hx := B.exec
  have hb := B.bytes
  have hr := B.returns
  have hG := vq_hG (atoms_spec (ws := w_LW_share) B.pre)
  have hown : s.vm.findClass R_LW = some m.cls := findClass_of_methodNamed B.named
  have hlocks := B.notSynchronized
  subst hsz
  have hK := hCx.1
  have hA : ∀ q : Nat, s.heap.size ≤ q → va_A [] s.heap.size q := fun q h => Or.inr h
  have hA0 : ∀ q : Nat, s.heap.size ≤ q → va_A [] s.heap.size q := fun q h => Or.inr h
  have hS : va_S (va_A [] s.heap.size) s.heap s.heap [] := va_S.rf
  have hl := lv_entry ([.ref h0, .int x, .int k, .int q, .ref oa]) (n := 6) (Nat.le_of_ble_eq_true rfl)
  rw [lg_entry_eq]
  generalize (lg_sl ([.ref h0, .int x, .int k, .int q, .ref oa]) ++ List.replicate (6 - (lg_sl ([.ref h0, .int x, .int k, .int q, .ref oa])).length) Slot.unset).toArray = ls at hl ⊢
  have hl : lv_has ls 6 [(0, .ref h0), (1, .int x), (2, .int k), (3, .int q), (4, .ref oa)] := hl
  have hP : va_P (dC, dI) vq_cl [(h0, .inr (0, [.ref aMo, .ref aSh, .ref aLa, .ref aDy, .ref aMa, .ref aKi, .int zCn, .ref aPi, .int zPc, .ref aLn, .int zTo])), (aPi, .inl ((cs 2), 4, .inr (.inr (.inr (.inr fPi))))), (pa, .inr (1, [.int zSl, .ref bLG, .ref bLS, .int zLy, .int zGr, .int zTk, .int zGt, .int zLt, .ref bLt, .ref bGS, .ref bGG, .ref bES, .ref bEG])), (bLt, .inl ((cs 1), 4, .inr (.inl fLt))), (oa, .inl ((cs 1), 1, .inr (.inl fO)))] s.heap := hP
  refine lv_aload hx hb d_LW_share_0 (lv_at hl 4 rfl) ?_
  refine lv_iconst (v := 0) hx hb d_LW_share_2 (by decide) ?_
  refine lv_aload_n hx hb d_LW_share_3 rfl (lv_at hl 0 rfl) ?_
  refine lv_iload_n hx hb d_LW_share_4 rfl (lv_at hl 1 rfl) ?_
  refine lv_iload_n hx hb d_LW_share_5 rfl (lv_at hl 2 rfl) ?_
  refine lv_iload_n hx hb d_LW_share_6 rfl (lv_at hl 3 rfl) ?_
  refine mx_rl (vx_runV (As := [.int x, .int k, .int q]) (rest := [.int 0, .ref oa]) ⟨hx, hb, hml, hown, hG⟩ (c_share l hlT dC dI cs _ h0 aMo aSh aLa aDy aMa aKi aPi aLn zCn zPc zTo fPi pa bLG bLS bLt bGS bGG bES bEG zSl zLy zGr zTk zGt zLt fLt x k q hi hf hz) (cwV 3 hG (vq_gV vq_t363 vq_t364 vq_t365 vq_t1 vq_t366) rfl rfl rfl (by decide +kernel) ⟨Nat.le_of_ble_eq_true rfl, Nat.le_of_ble_eq_true rfl⟩) (vq_preVr (wc := [(h0, .inr (0, [.ref aMo, .ref aSh, .ref aLa, .ref aDy, .ref aMa, .ref aKi, .int zCn, .ref aPi, .int zPc, .ref aLn, .int zTo])), (aPi, .inl ((cs 2), 4, .inr (.inr (.inr (.inr fPi))))), (pa, .inr (1, [.int zSl, .ref bLG, .ref bLS, .int zLy, .int zGr, .int zTk, .int zGt, .int zLt, .ref bLt, .ref bGS, .ref bGG, .ref bES, .ref bEG])), (bLt, .inl ((cs 1), 4, .inr (.inl fLt)))]) (va_recv hK hP (ci := 0) (q0 := 0) rfl rfl) hCx hP (vq_wk hS hA) hA [0, 1, 2, 3] rfl) rfl rfl hl.1 rfl (lv_room (Nat.le_of_ble_eq_true rfl)) d_LW_share_7 ⟨Nat.le_of_ble_eq_true rfl, Nat.le_of_ble_eq_true rfl⟩) hP hS hA0 (fun E ce q9 H locs x_7 hP hS h91 h92 h93 => ?_) (fun r_7 H locs w_7 hP hS => ?_)
  · skip
    obtain rfl := Option.some.inj (hX.symm.trans x_7)
    rcases hE with rfl | rfl | rfl
    · skip
      refine vx_catch (name := xI) hown [] ⟨0, 11, 14, 13⟩ [⟨0, 11, 18, 25⟩, ⟨0, 11, 22, 38⟩] htab (fun _ h => absurd h List.not_mem_nil) rfl (by decide) (hG _ vq_t137) (va_Nw.use rfl (hCx.2.2.2.2.2.1 _ (by decide))) h91 h92 h93 ?_
      refine W.eq (g2 := F0 m 14 ls [.ref q9]) rfl ?_
      refine lv_astore (lv' := [(5, .ref q9), (0, .ref h0), (1, .int x), (2, .int k), (3, .int q), (4, .ref oa)]) hx hb d_LW_share_14 hl (by decide) rfl (fun ls hl => ?_)
      refine lv_iconst (v := 1) hx hb d_LW_share_16 (by decide) ?_
      refine vx_ret ?_
      refine W.widen (k := 4) (n := 24) (Nat.le_of_ble_eq_true rfl) (Nat.le_of_ble_eq_true rfl) ?_
      exact W.iret (v := 1) hx hb hr (fun t ht hW => ⟨⟨1, (), rfl, by decide +kernel, trivial⟩, hS.F ht⟩) hS.2.2 d_LW_share_17
    · skip
      refine vx_catch (name := xS) hown [⟨0, 11, 14, 13⟩] ⟨0, 11, 18, 25⟩ [⟨0, 11, 22, 38⟩] htab (List.forall_mem_cons.mpr ⟨Or.inr ⟨by decide, xI, hG _ vq_t137, hCx.2.2.2.2.2.2.1 _ (by decide) _ (by decide) (by decide)⟩, fun _ h => absurd h List.not_mem_nil⟩) rfl (by decide) (hG _ vq_t248) (va_Nw.use rfl (hCx.2.2.2.2.2.1 _ (by decide))) h91 h92 h93 ?_
      refine W.eq (g2 := F0 m 18 ls [.ref q9]) rfl ?_
      refine lv_astore (lv' := [(5, .ref q9), (0, .ref h0), (1, .int x), (2, .int k), (3, .int q), (4, .ref oa)]) hx hb d_LW_share_18 hl (by decide) rfl (fun ls hl => ?_)
      refine lv_iconst (v := 2) hx hb d_LW_share_20 (by decide) ?_
      refine vx_ret ?_
      refine W.widen (k := 4) (n := 24) (Nat.le_of_ble_eq_true rfl) (Nat.le_of_ble_eq_true rfl) ?_
      exact W.iret (v := 2) hx hb hr (fun t ht hW => ⟨⟨2, (), rfl, by decide +kernel, trivial⟩, hS.F ht⟩) hS.2.2 d_LW_share_21
    · skip
      refine vx_catch (name := xU) hown [⟨0, 11, 14, 13⟩, ⟨0, 11, 18, 25⟩] ⟨0, 11, 22, 38⟩ [] htab (List.forall_mem_cons.mpr ⟨Or.inr ⟨by decide, xI, hG _ vq_t137, hCx.2.2.2.2.2.2.1 _ (by decide) _ (by decide) (by decide)⟩, List.forall_mem_cons.mpr ⟨Or.inr ⟨by decide, xS, hG _ vq_t248, hCx.2.2.2.2.2.2.1 _ (by decide) _ (by decide) (by decide)⟩, fun _ h => absurd h List.not_mem_nil⟩⟩) rfl (by decide) (hG _ vq_t295) (va_Nw.use rfl (hCx.2.2.2.2.2.1 _ (by decide))) h91 h92 h93 ?_
      refine W.eq (g2 := F0 m 22 ls [.ref q9]) rfl ?_
      refine lv_astore (lv' := [(5, .ref q9), (0, .ref h0), (1, .int x), (2, .int k), (3, .int q), (4, .ref oa)]) hx hb d_LW_share_22 hl (by decide) rfl (fun ls hl => ?_)
      refine lv_iconst (v := 3) hx hb d_LW_share_24 (by decide) ?_
      refine vx_ret ?_
      refine W.widen (k := 4) (n := 24) (Nat.le_of_ble_eq_true rfl) (Nat.le_of_ble_eq_true rfl) ?_
      exact W.iret (v := 3) hx hb hr (fun t ht hW => ⟨⟨3, (), rfl, by decide +kernel, trivial⟩, hS.F ht⟩) hS.2.2 d_LW_share_25
  exact absurd (hX.symm.trans w_7.2) (fun h => nomatch h)
set_option maxHeartbeats 4000000 in
set_option maxRecDepth 100000 in
/-- law.share, no such pile -/
theorem h_share_b (l : Launch) (hlT : l.stackTraces = false) (dC : Nat → ClassId) (dI : Nat → Nat → Nat) (cs : Nat → ClassId) (sz : Nat) (h0 : Nat) (aMo : Nat) (aSh : Nat) (aLa : Nat) (aDy : Nat) (aMa : Nat) (aKi : Nat) (aPi : Nat) (aLn : Nat) (zCn : Int32) (zPc : Int32) (zTo : Int32) (x : Int32) (k : Int32) (q : Int32) (oa : Nat) (fO : Nat → Int64) (hi : okP x → zPc ≤ x) : vx_Met l y_LW_share w_LW_share ({ frames := 8, cells := 1, slots := 6, locals := 128 }) (vq_PreR (dC, dI) cs [(h0, .inr (0, [.ref aMo, .ref aSh, .ref aLa, .ref aDy, .ref aMa, .ref aKi, .int zCn, .ref aPi, .int zPc, .ref aLn, .int zTo])), (oa, .inl ((cs 1), 1, .inr (.inl fO)))] sz [.ref h0, .int x, .int k, .int q, .ref oa]) (va_Qi (fun (r : Int32) (_ : Unit) => r = 1) (fun _ _ => True) (va_A [] sz)) (vq_X (fun E => False) sz) 1 6 (va_A [] sz) := by
  refine vx_ofWH (cc := b_LW_share) (maxL := 6) (ret := (some .int)) (hh := [(0, 11, 14, 13), (0, 11, 18, 25), (0, 11, 22, 38)]) (by decide) rfl ?_
  intro p e s m args below meth c s₁ B hml hv
  have htab : c.exceptionTable.toList = tableOf [(0, 11, 14, 13), (0, 11, 18, 25), (0, 11, 22, 38)] := vx_table (x := y_LW_share) B (atoms_spec (ws := w_LW_share) B.pre _ List.mem_cons_self)
  obtain ⟨rfl, hsz, hP, hCx⟩ := hv
  have hx := B.exec
  have hb := B.bytes
  have hr := B.returns
  have hG := vq_hG (atoms_spec (ws := w_LW_share) B.pre)
  have hown : s.vm.findClass R_LW = some m.cls := findClass_of_methodNamed B.named
  have hlocks := B.notSynchronized
  subst hsz
  have hK := hCx.1
  have hA : ∀ q : Nat, s.heap.size ≤ q → va_A [] s.heap.size q := fun q h => Or.inr h
  have hA0 : ∀ q : Nat, s.heap.size ≤ q → va_A [] s.heap.size q := fun q h => Or.inr h
  have hS : va_S (va_A [] s.heap.size) s.heap s.heap [] := va_S.rf
  have hl := lv_entry ([.ref h0, .int x, .int k, .int q, .ref oa]) (n := 6) (Nat.le_of_ble_eq_true rfl)
  rw [lg_entry_eq]
  generalize (lg_sl ([.ref h0, .int x, .int k, .int q, .ref oa]) ++ List.replicate (6 - (lg_sl ([.ref h0, .int x, .int k, .int q, .ref oa])).length) Slot.unset).toArray = ls at hl ⊢
  have hl : lv_has ls 6 [(0, .ref h0), (1, .int x), (2, .int k), (3, .int q), (4, .ref oa)] := hl
  have hP : va_P (dC, dI) vq_cl [(h0, .inr (0, [.ref aMo, .ref aSh, .ref aLa, .ref aDy, .ref aMa, .ref aKi, .int zCn, .ref aPi, .int zPc, .ref aLn, .int zTo])), (oa, .inl ((cs 1), 1, .inr (.inl fO)))] s.heap := hP
  refine lv_aload hx hb d_LW_share_0 (lv_at hl 4 rfl) ?_
  refine lv_iconst (v := 0) hx hb d_LW_share_2 (by decide) ?_
  refine lv_aload_n hx hb d_LW_share_3 rfl (lv_at hl 0 rfl) ?_
  refine lv_iload_n hx hb d_LW_share_4 rfl (lv_at hl 1 rfl) ?_
  refine lv_iload_n hx hb d_LW_share_5 rfl (lv_at hl 2 rfl) ?_
  refine lv_iload_n hx hb d_LW_share_6 rfl (lv_at hl 3 rfl) ?_
  refine mx_rv (vx_runV (As := [.int x, .int k, .int q]) (rest := [.int 0, .ref oa]) ⟨hx, hb, hml, hown, hG⟩ (c_share_bad l hlT dC dI cs _ h0 aMo aSh aLa aDy aMa aKi aPi aLn zCn zPc zTo x k q hi) (cwV 3 hG (vq_gV vq_t363 vq_t364 vq_t365 vq_t1 vq_t366) rfl rfl rfl (by decide +kernel) ⟨Nat.le_of_ble_eq_true rfl, Nat.le_of_ble_eq_true rfl⟩) (vq_preVr (wc := [(h0, .inr (0, [.ref aMo, .ref aSh, .ref aLa, .ref aDy, .ref aMa, .ref aKi, .int zCn, .ref aPi, .int zPc, .ref aLn, .int zTo]))]) (va_recv hK hP (ci := 0) (q0 := 0) rfl rfl) hCx hP (vq_wk hS hA) hA [0] rfl) rfl rfl hl.1 rfl (lv_room (Nat.le_of_ble_eq_true rfl)) d_LW_share_7 ⟨Nat.le_of_ble_eq_true rfl, Nat.le_of_ble_eq_true rfl⟩) hP hS hA0 (fun E ce q9 H locs x_7 hP hS h91 h92 h93 => ?_) (fun H locs w_7 hP hS => ?_)
  · skip
    obtain rfl := x_7
    · skip
      refine vx_catch (name := xI) hown [] ⟨0, 11, 14, 13⟩ [⟨0, 11, 18, 25⟩, ⟨0, 11, 22, 38⟩] htab (fun _ h => absurd h List.not_mem_nil) rfl (by decide) (hG _ vq_t137) (va_Nw.use rfl (hCx.2.2.2.2.2.1 _ (by decide))) h91 h92 h93 ?_
      refine W.eq (g2 := F0 m 14 ls [.ref q9]) rfl ?_
      refine lv_astore (lv' := [(5, .ref q9), (0, .ref h0), (1, .int x), (2, .int k), (3, .int q), (4, .ref oa)]) hx hb d_LW_share_14 hl (by decide) rfl (fun ls hl => ?_)
      refine lv_iconst (v := 1) hx hb d_LW_share_16 (by decide) ?_
      refine vx_ret ?_
      refine W.widen (k := 1) (n := 6) (Nat.le_of_ble_eq_true rfl) (Nat.le_of_ble_eq_true rfl) ?_
      exact W.iret (v := 1) hx hb hr (fun t ht hW => ⟨⟨1, (), rfl, rfl, trivial⟩, hS.F ht⟩) hS.2.2 d_LW_share_17
  exact w_7.elim
set_option maxHeartbeats 4000000 in
set_option maxRecDepth 100000 in
/-- law.basicity, where it goes through -/
theorem h_basicity_n (l : Launch) (hlT : l.stackTraces = false) (dC : Nat → ClassId) (dI : Nat → Nat → Nat) (cs : Nat → ClassId) (sz : Nat) (h0 : Nat) (aMo : Nat) (aSh : Nat) (aLa : Nat) (aDy : Nat) (aMa : Nat) (aKi : Nat) (aPi : Nat) (aLn : Nat) (zCn : Int32) (zPc : Int32) (zTo : Int32) (fPi : Nat → Option Nat) (pa : Nat) (bLG : Nat) (bLS : Nat) (bLt : Nat) (bGS : Nat) (bGG : Nat) (bES : Nat) (bEG : Nat) (zSl : Int32) (zLy : Int32) (zGr : Int32) (zTk : Int32) (zGt : Int32) (zLt : Int32) (fLt : Nat → Int64) (x : Int32) (q : Int32) (oa : Nat) (fO : Nat → Int64) (hi : okP x) (hf : fPi x.toNatClampNeg = some pa) (hz : ¬ zPc ≤ x) (hX : X_basicity q zTk (fLt (1 : Int32).toNatClampNeg) = none) : vx_Met l y_LW_basicity w_LW_basicity ({ frames := 8, cells := 3, slots := 18, locals := 125 }) (vq_Pre (dC, dI) cs [(h0, .inr (0, [.ref aMo, .ref aSh, .ref aLa, .ref aDy, .ref aMa, .ref aKi, .int zCn, .ref aPi, .int zPc, .ref aLn, .int zTo])), (aPi, .inl ((cs 2), 4, .inr (.inr (.inr (.inr fPi))))), (pa, .inr (1, [.int zSl, .ref bLG, .ref bLS, .int zLy, .int zGr, .int zTk, .int zGt, .int zLt, .ref bLt, .ref bGS, .ref bGG, .ref bES, .ref bEG])), (bLt, .inl ((cs 1), 4, .inr (.inl fLt))), (oa, .inl ((cs 1), 1, .inr (.inl fO)))] sz [.ref h0, .int x, .int q, .ref oa]) (va_Qi (fun (r : Int32) (_ : Unit) => r = 0) (vq_B (dC, dI) cs (va_A [(h0, .inr (0, [.ref aMo, .ref aSh, .ref aLa, .ref aDy, .ref aMa, .ref aKi, .int zCn, .ref aPi, .int zPc, .ref aLn, .int zTo])), (aPi, .inl ((cs 2), 4, .inr (.inr (.inr (.inr fPi))))), (pa, .inr (1, [.int zSl, .ref bLG, .ref bLS, .int zLy, .int zGr, .int zTk, .int zGt, .int zLt, .ref bLt, .ref bGS, .ref bGG, .ref bES, .ref bEG])), (bLt, .inl ((cs 1), 4, .inr (.inl fLt))), (oa, .inl ((cs 1), 1, .inr (.inl fO)))] sz) (fun _ => [(h0, .inr (0, [.ref aMo, .ref aSh, .ref aLa, .ref aDy, .ref aMa, .ref aKi, .int zCn, .ref aPi, .int zPc, .ref aLn, .int zTo])), (aPi, .inl ((cs 2), 4, .inr (.inr (.inr (.inr fPi))))), (pa, .inr (1, [.int zSl, .ref bLG, .ref bLS, .int zLy, .int zGr, .int zTk, .int zGt, .int zLt, .ref bLt, .ref bGS, .ref bGG, .ref bES, .ref bEG])), (bLt, .inl ((cs 1), 4, .inr (.inl fLt))), (oa, .inl ((cs 1), 1, .inr (.inl (vp_updL fO (0 : Int32).toNatClampNeg (lowF (fLt (0 : Int32).toNatClampNeg) (fLt (1 : Int32).toNatClampNeg) q)))))])) (va_A [(h0, .inr (0, [.ref aMo, .ref aSh, .ref aLa, .ref aDy, .ref aMa, .ref aKi, .int zCn, .ref aPi, .int zPc, .ref aLn, .int zTo])), (aPi, .inl ((cs 2), 4, .inr (.inr (.inr (.inr fPi))))), (pa, .inr (1, [.int zSl, .ref bLG, .ref bLS, .int zLy, .int zGr, .int zTk, .int zGt, .int zLt, .ref bLt, .ref bGS, .ref bGG, .ref bES, .ref bEG])), (bLt, .inl ((cs 1), 4, .inr (.inl fLt))), (oa, .inl ((cs 1), 1, .inr (.inl fO)))] sz)) (vq_X (fun E => False) sz) 3 18 (va_A [(h0, .inr (0, [.ref aMo, .ref aSh, .ref aLa, .ref aDy, .ref aMa, .ref aKi, .int zCn, .ref aPi, .int zPc, .ref aLn, .int zTo])), (aPi, .inl ((cs 2), 4, .inr (.inr (.inr (.inr fPi))))), (pa, .inr (1, [.int zSl, .ref bLG, .ref bLS, .int zLy, .int zGr, .int zTk, .int zGt, .int zLt, .ref bLt, .ref bGS, .ref bGG, .ref bES, .ref bEG])), (bLt, .inl ((cs 1), 4, .inr (.inl fLt))), (oa, .inl ((cs 1), 1, .inr (.inl fO)))] sz) := by
  refine vx_ofWH (cc := b_LW_basicity) (maxL := 5) (ret := (some .int)) (hh := [(0, 9, 12, 13), (0, 9, 16, 25), (0, 9, 20, 38)]) (by decide) rfl ?_
  intro p e s m args below meth c s₁ B hml hv
  have htab : c.exceptionTable.toList = tableOf [(0, 9, 12, 13), (0, 9, 16, 25), (0, 9, 20, 38)] := vx_table (x := y_LW_basicity) B (atoms_spec (ws := w_LW_basicity) B.pre _ List.mem_cons_self)
  obtain ⟨rfl, hsz, hP, hD0, hCx⟩ := hv
  have hx := B.exec
  have hb := B.bytes
  have hr := B.returns
  have hG := vq_hG (atoms_spec (ws := w_LW_basicity) B.pre)
  have hown : s.vm.findClass R_LW = some m.cls := findClass_of_methodNamed B.named
  have hlocks := B.notSynchronized
  subst hsz
  have hK := hCx.1
  have hD := hD0.self (sz := s.heap.size)
  generalize hAe : va_A [(h0, .inr (0, [.ref aMo, .ref aSh, .ref aLa, .ref aDy, .ref aMa, .ref aKi, .int zCn, .ref aPi, .int zPc, .ref aLn, .int zTo])), (aPi, .inl ((cs 2), 4, .inr (.inr (.inr (.inr fPi))))), (pa, .inr (1, [.int zSl, .ref bLG, .ref bLS, .int zLy, .int zGr, .int zTk, .int zGt, .int zLt, .ref bLt, .ref bGS, .ref bGG, .ref bES, .ref bEG])), (bLt, .inl ((cs 1), 4, .inr (.inl fLt))), (oa, .inl ((cs 1), 1, .inr (.inl fO)))] s.heap.size = A at hD hCx ⊢
  have hA : ∀ q : Nat, s.heap.size ≤ q → A q := fun q h => by rw [← hAe]; exact Or.inr h
  have hA0 : ∀ q : Nat, s.heap.size ≤ q → va_A [] s.heap.size q := fun q h => Or.inr h
  have hS : va_S (va_A [] s.heap.size) s.heap s.heap [] := va_S.rf
  have hl := lv_entry ([.ref h0, .int x, .int q, .ref oa]) (n := 5) (Nat.le_of_ble_eq_true rfl)
  rw [lg_entry_eq]
  generalize (lg_sl ([.ref h0, .int x, .int q, .ref oa]) ++ List.replicate (5 - (lg_sl ([.ref h0, .int x, .int q, .ref oa])).length) Slot.unset).toArray = ls at hl ⊢
  have hl : lv_has ls 5 [(0, .ref h0), (1, .int x), (2, .int q), (3, .ref oa)] := hl
  have hP : va_P (dC, dI) vq_cl [(h0, .inr (0, [.ref aMo, .ref aSh, .ref aLa, .ref aDy, .ref aMa, .ref aKi, .int zCn, .ref aPi, .int zPc, .ref aLn, .int zTo])), (aPi, .inl ((cs 2), 4, .inr (.inr (.inr (.inr fPi))))), (pa, .inr (1, [.int zSl, .ref bLG, .ref bLS, .int zLy, .int zGr, .int zTk, .int zGt, .int zLt, .ref bLt, .ref bGS, .ref bGG, .ref bES, .ref bEG])), (bLt, .inl ((cs 1), 4, .inr (.inl fLt))), (oa, .inl ((cs 1), 1, .inr (.inl fO)))] s.heap := hP
  refine lv_aload_n hx hb d_LW_basicity_0 rfl (lv_at hl 3 rfl) ?_
  refine lv_iconst (v := 0) hx hb d_LW_basicity_1 (by decide) ?_
  refine lv_aload_n hx hb d_LW_basicity_2 rfl (lv_at hl 0 rfl) ?_
  refine lv_iload_n hx hb d_LW_basicity_3 rfl (lv_at hl 1 rfl) ?_
  refine lv_iload_n hx hb d_LW_basicity_4 rfl (lv_at hl 2 rfl) ?_
  refine mx_rl (vx_runV (As := [.int x, .int q]) (rest := [.int 0, .ref oa]) ⟨hx, hb, hml, hown, hG⟩ (c_basicity l hlT dC dI cs _ h0 aMo aSh aLa aDy aMa aKi aPi aLn zCn zPc zTo fPi pa bLG bLS bLt bGS bGG bES bEG zSl zLy zGr zTk zGt zLt fLt x q hi hf hz) (cwV 2 hG (vq_gV vq_t388 vq_t389 vq_t390 vq_t1 vq_t391) rfl rfl rfl (by decide +kernel) ⟨Nat.le_of_ble_eq_true rfl, Nat.le_of_ble_eq_true rfl⟩) (vq_preVr (wc := [(h0, .inr (0, [.ref aMo, .ref aSh, .ref aLa, .ref aDy, .ref aMa, .ref aKi, .int zCn, .ref aPi, .int zPc, .ref aLn, .int zTo])), (aPi, .inl ((cs 2), 4, .inr (.inr (.inr (.inr fPi))))), (pa, .inr (1, [.int zSl, .ref bLG, .ref bLS, .int zLy, .int zGr, .int zTk, .int zGt, .int zLt, .ref bLt, .ref bGS, .ref bGG, .ref bES, .ref bEG])), (bLt, .inl ((cs 1), 4, .inr (.inl fLt)))]) (va_recv hK hP (ci := 0) (q0 := 0) rfl rfl) hCx hP (vq_wk hS hA) hA [0, 1, 2, 3] rfl) rfl rfl hl.1 rfl (lv_room (Nat.le_of_ble_eq_true rfl)) d_LW_basicity_5 ⟨Nat.le_of_ble_eq_true rfl, Nat.le_of_ble_eq_true rfl⟩) hP hS hA0 (fun E ce q9 H locs x_5 hP hS h91 h92 h93 => absurd (hX.symm.trans x_5) (fun h => nomatch h)) (fun r_5 H locs w_5 hP hS => ?_)
  refine W.widen (k := 3) (n := 18) (Nat.le_of_ble_eq_true rfl) (Nat.le_of_ble_eq_true rfl) ?_
  obtain ⟨rfl, w_5⟩ := w_5
  have hS := vq_wk hS hA
  refine va_last (D := (dC, dI)) hx hb hK hP hD hS 4 1 rfl rfl (vq_in 1 rfl (by decide) (by decide)) d_LW_basicity_8 (fun H locs hP hD hS => ?_)
  have hP : va_P (dC, dI) vq_cl [(h0, .inr (0, [.ref aMo, .ref aSh, .ref aLa, .ref aDy, .ref aMa, .ref aKi, .int zCn, .ref aPi, .int zPc, .ref aLn, .int zTo])), (aPi, .inl ((cs 2), 4, .inr (.inr (.inr (.inr fPi))))), (pa, .inr (1, [.int zSl, .ref bLG, .ref bLS, .int zLy, .int zGr, .int zTk, .int zGt, .int zLt, .ref bLt, .ref bGS, .ref bGG, .ref bES, .ref bEG])), (bLt, .inl ((cs 1), 4, .inr (.inl fLt))), (oa, .inl ((cs 1), 1, .inr (.inl (vp_updL fO (0 : Int32).toNatClampNeg (lowF (fLt (0 : Int32).toNatClampNeg) (fLt (1 : Int32).toNatClampNeg) q)))))] H := hP
  have hD : va_D A [(h0, .inr (0, [.ref aMo, .ref aSh, .ref aLa, .ref aDy, .ref aMa, .ref aKi, .int zCn, .ref aPi, .int zPc, .ref aLn, .int zTo])), (aPi, .inl ((cs 2), 4, .inr (.inr (.inr (.inr fPi))))), (pa, .inr (1, [.int zSl, .ref bLG, .ref bLS, .int zLy, .int zGr, .int zTk, .int zGt, .int zLt, .ref bLt, .ref bGS, .ref bGG, .ref bES, .ref bEG])), (bLt, .inl ((cs 1), 4, .inr (.inl fLt))), (oa, .inl ((cs 1), 1, .inr (.inl (vp_updL fO (0 : Int32).toNatClampNeg (lowF (fLt (0 : Int32).toNatClampNeg) (fLt (1 : Int32).toNatClampNeg) q)))))] := hD
  refine lv_goto (tgt := 24) hx hb d_LW_basicity_9 (by decide) ?_
  refine lv_iconst (v := 0) hx hb d_LW_basicity_24 (by decide) ?_
  refine vx_ret ?_
  refine W.widen (k := 3) (n := 18) (Nat.le_of_ble_eq_true rfl) (Nat.le_of_ble_eq_true rfl) ?_
  have hP9 : va_P (dC, dI) vq_cl [(h0, .inr (0, [.ref aMo, .ref aSh, .ref aLa, .ref aDy, .ref aMa, .ref aKi, .int zCn, .ref aPi, .int zPc, .ref aLn, .int zTo])), (aPi, .inl ((cs 2), 4, .inr (.inr (.inr (.inr fPi))))), (pa, .inr (1, [.int zSl, .ref bLG, .ref bLS, .int zLy, .int zGr, .int zTk, .int zGt, .int zLt, .ref bLt, .ref bGS, .ref bGG, .ref bES, .ref bEG])), (bLt, .inl ((cs 1), 4, .inr (.inl fLt))), (oa, .inl ((cs 1), 1, .inr (.inl (vp_updL fO (0 : Int32).toNatClampNeg (lowF (fLt (0 : Int32).toNatClampNeg) (fLt (1 : Int32).toNatClampNeg) q)))))] _ := hP.sub [0, 1, 2, 3, 4] rfl
  have hD9 : va_D A [(h0, .inr (0, [.ref aMo, .ref aSh, .ref aLa, .ref aDy, .ref aMa, .ref aKi, .int zCn, .ref aPi, .int zPc, .ref aLn, .int zTo])), (aPi, .inl ((cs 2), 4, .inr (.inr (.inr (.inr fPi))))), (pa, .inr (1, [.int zSl, .ref bLG, .ref bLS, .int zLy, .int zGr, .int zTk, .int zGt, .int zLt, .ref bLt, .ref bGS, .ref bGG, .ref bES, .ref bEG])), (bLt, .inl ((cs 1), 4, .inr (.inl fLt))), (oa, .inl ((cs 1), 1, .inr (.inl (vp_updL fO (0 : Int32).toNatClampNeg (lowF (fLt (0 : Int32).toNatClampNeg) (fLt (1 : Int32).toNatClampNeg) q)))))] := hD.sub [0, 1, 2, 3, 4] (by decide) rfl
  exact W.iret (v := 0) hx hb hr (fun t ht hW => ⟨⟨0, (), rfl, rfl, ⟨by rw [ht]; exact hP9, hD9⟩⟩, hS.F ht⟩) hS.2.2 d_LW_basicity_25
set_option maxHeartbeats 4000000 in
set_option maxRecDepth 100000 in
/-- law.basicity, where it is refused -/
theorem h_basicity_s (l : Launch) (hlT : l.stackTraces = false) (dC : Nat → ClassId) (dI : Nat → Nat → Nat) (cs : Nat → ClassId) (sz : Nat) (h0 : Nat) (aMo : Nat) (aSh : Nat) (aLa : Nat) (aDy : Nat) (aMa : Nat) (aKi : Nat) (aPi : Nat) (aLn : Nat) (zCn : Int32) (zPc : Int32) (zTo : Int32) (fPi : Nat → Option Nat) (pa : Nat) (bLG : Nat) (bLS : Nat) (bLt : Nat) (bGS : Nat) (bGG : Nat) (bES : Nat) (bEG : Nat) (zSl : Int32) (zLy : Int32) (zGr : Int32) (zTk : Int32) (zGt : Int32) (zLt : Int32) (fLt : Nat → Int64) (x : Int32) (q : Int32) (oa : Nat) (fO : Nat → Int64) (E0 : String) (hi : okP x) (hf : fPi x.toNatClampNeg = some pa) (hz : ¬ zPc ≤ x) (hX : X_basicity q zTk (fLt (1 : Int32).toNatClampNeg) = some E0) (hE : E0 = xI ∨ E0 = xS ∨ E0 = xU) : vx_Met l y_LW_basicity w_LW_basicity ({ frames := 8, cells := 3, slots := 18, locals := 125 }) (vq_PreR (dC, dI) cs [(h0, .inr (0, [.ref aMo, .ref aSh, .ref aLa, .ref aDy, .ref aMa, .ref aKi, .int zCn, .ref aPi, .int zPc, .ref aLn, .int zTo])), (aPi, .inl ((cs 2), 4, .inr (.inr (.inr (.inr fPi))))), (pa, .inr (1, [.int zSl, .ref bLG, .ref bLS, .int zLy, .int zGr, .int zTk, .int zGt, .int zLt, .ref bLt, .ref bGS, .ref bGG, .ref bES, .ref bEG])), (bLt, .inl ((cs 1), 4, .inr (.inl fLt))), (oa, .inl ((cs 1), 1, .inr (.inl fO)))] sz [.ref h0, .int x, .int q, .ref oa]) (va_Qi (fun (r : Int32) (_ : Unit) => r = cdF [xI, xS, xU] E0) (fun _ _ => True) (va_A [] sz)) (vq_X (fun E => False) sz) 3 18 (va_A [] sz) := by
  refine vx_ofWH (cc := b_LW_basicity) (maxL := 5) (ret := (some .int)) (hh := [(0, 9, 12, 13), (0, 9, 16, 25), (0, 9, 20, 38)]) (by decide) rfl ?_
  intro p e s m args below meth c s₁ B hml hv
  have htab : c.exceptionTable.toList = tableOf [(0, 9, 12, 13), (0, 9, 16, 25), (0, 9, 20, 38)] := vx_table (x := y_LW_basicity) B (atoms_spec (ws := w_LW_basicity) B.pre _ List.mem_cons_self)
  obtain ⟨rfl, hsz, hP, hCx⟩ := hv
  have hx := B.exec
  have hb := B.bytes
  have hr := B.returns
  have hG := vq_hG (atoms_spec (ws := w_LW_basicity) B.pre)
  have hown : s.vm.findClass R_LW = some m.cls := findClass_of_methodNamed B.named
  have hlocks := B.notSynchronized
  subst hsz
  have hK := hCx.1
  have hA : ∀ q : Nat, s.heap.size ≤ q → va_A [] s.heap.size q := fun q h => Or.inr h
  have hA0 : ∀ q : Nat, s.heap.size ≤ q → va_A [] s.heap.size q := fun q h => Or.inr h
  have hS : va_S (va_A [] s.heap.size) s.heap s.heap [] := va_S.rf
  have hl := lv_entry ([.ref h0, .int x, .int q, .ref oa]) (n := 5) (Nat.le_of_ble_eq_true rfl)
  rw [lg_entry_eq]
  generalize (lg_sl ([.ref h0, .int x, .int q, .ref oa]) ++ List.replicate (5 - (lg_sl ([.ref h0, .int x, .int q, .ref oa])).length) Slot.unset).toArray = ls at hl ⊢
  have hl : lv_has ls 5 [(0, .ref h0), (1, .int x), (2, .int q), (3, .ref oa)] := hl
  have hP : va_P (dC, dI) vq_cl [(h0, .inr (0, [.ref aMo, .ref aSh, .ref aLa, .ref aDy, .ref aMa, .ref aKi, .int zCn, .ref aPi, .int zPc, .ref aLn, .int zTo])), (aPi, .inl ((cs 2), 4, .inr (.inr (.inr (.inr fPi))))), (pa, .inr (1, [.int zSl, .ref bLG, .ref bLS, .int zLy, .int zGr, .int zTk, .int zGt, .int zLt, .ref bLt, .ref bGS, .ref bGG, .ref bES, .ref bEG])), (bLt, .inl ((cs 1), 4, .inr (.inl fLt))), (oa, .inl ((cs 1), 1, .inr (.inl fO)))] s.heap := hP
  refine lv_aload_n hx hb d_LW_basicity_0 rfl (lv_at hl 3 rfl) ?_
  refine lv_iconst (v := 0) hx hb d_LW_basicity_1 (by decide) ?_
  refine lv_aload_n hx hb d_LW_basicity_2 rfl (lv_at hl 0 rfl) ?_
  refine lv_iload_n hx hb d_LW_basicity_3 rfl (lv_at hl 1 rfl) ?_
  refine lv_iload_n hx hb d_LW_basicity_4 rfl (lv_at hl 2 rfl) ?_
  refine mx_rl (vx_runV (As := [.int x, .int q]) (rest := [.int 0, .ref oa]) ⟨hx, hb, hml, hown, hG⟩ (c_basicity l hlT dC dI cs _ h0 aMo aSh aLa aDy aMa aKi aPi aLn zCn zPc zTo fPi pa bLG bLS bLt bGS bGG bES bEG zSl zLy zGr zTk zGt zLt fLt x q hi hf hz) (cwV 2 hG (vq_gV vq_t388 vq_t389 vq_t390 vq_t1 vq_t391) rfl rfl rfl (by decide +kernel) ⟨Nat.le_of_ble_eq_true rfl, Nat.le_of_ble_eq_true rfl⟩) (vq_preVr (wc := [(h0, .inr (0, [.ref aMo, .ref aSh, .ref aLa, .ref aDy, .ref aMa, .ref aKi, .int zCn, .ref aPi, .int zPc, .ref aLn, .int zTo])), (aPi, .inl ((cs 2), 4, .inr (.inr (.inr (.inr fPi))))), (pa, .inr (1, [.int zSl, .ref bLG, .ref bLS, .int zLy, .int zGr, .int zTk, .int zGt, .int zLt, .ref bLt, .ref bGS, .ref bGG, .ref bES, .ref bEG])), (bLt, .inl ((cs 1), 4, .inr (.inl fLt)))]) (va_recv hK hP (ci := 0) (q0 := 0) rfl rfl) hCx hP (vq_wk hS hA) hA [0, 1, 2, 3] rfl) rfl rfl hl.1 rfl (lv_room (Nat.le_of_ble_eq_true rfl)) d_LW_basicity_5 ⟨Nat.le_of_ble_eq_true rfl, Nat.le_of_ble_eq_true rfl⟩) hP hS hA0 (fun E ce q9 H locs x_5 hP hS h91 h92 h93 => ?_) (fun r_5 H locs w_5 hP hS => ?_)
  · skip
    obtain rfl := Option.some.inj (hX.symm.trans x_5)
    rcases hE with rfl | rfl | rfl
    · skip
      refine vx_catch (name := xI) hown [] ⟨0, 9, 12, 13⟩ [⟨0, 9, 16, 25⟩, ⟨0, 9, 20, 38⟩] htab (fun _ h => absurd h List.not_mem_nil) rfl (by decide) (hG _ vq_t137) (va_Nw.use rfl (hCx.2.2.2.2.2.1 _ (by decide))) h91 h92 h93 ?_
      refine W.eq (g2 := F0 m 12 ls [.ref q9]) rfl ?_
      refine lv_astore (lv' := [(4, .ref q9), (0, .ref h0), (1, .int x), (2, .int q), (3, .ref oa)]) hx hb d_LW_basicity_12 hl (by decide) rfl (fun ls hl => ?_)
      refine lv_iconst (v := 1) hx hb d_LW_basicity_14 (by decide) ?_
      refine vx_ret ?_
      refine W.widen (k := 3) (n := 18) (Nat.le_of_ble_eq_true rfl) (Nat.le_of_ble_eq_true rfl) ?_
      exact W.iret (v := 1) hx hb hr (fun t ht hW => ⟨⟨1, (), rfl, by decide +kernel, trivial⟩, hS.F ht⟩) hS.2.2 d_LW_basicity_15
    · skip
      refine vx_catch (name := xS) hown [⟨0, 9, 12, 13⟩] ⟨0, 9, 16, 25⟩ [⟨0, 9, 20, 38⟩] htab (List.forall_mem_cons.mpr ⟨Or.inr ⟨by decide, xI, hG _ vq_t137, hCx.2.2.2.2.2.2.1 _ (by decide) _ (by decide) (by decide)⟩, fun _ h => absurd h List.not_mem_nil⟩) rfl (by decide) (hG _ vq_t248) (va_Nw.use rfl (hCx.2.2.2.2.2.1 _ (by decide))) h91 h92 h93 ?_
      refine W.eq (g2 := F0 m 16 ls [.ref q9]) rfl ?_
      refine lv_astore (lv' := [(4, .ref q9), (0, .ref h0), (1, .int x), (2, .int q), (3, .ref oa)]) hx hb d_LW_basicity_16 hl (by decide) rfl (fun ls hl => ?_)
      refine lv_iconst (v := 2) hx hb d_LW_basicity_18 (by decide) ?_
      refine vx_ret ?_
      refine W.widen (k := 3) (n := 18) (Nat.le_of_ble_eq_true rfl) (Nat.le_of_ble_eq_true rfl) ?_
      exact W.iret (v := 2) hx hb hr (fun t ht hW => ⟨⟨2, (), rfl, by decide +kernel, trivial⟩, hS.F ht⟩) hS.2.2 d_LW_basicity_19
    · skip
      refine vx_catch (name := xU) hown [⟨0, 9, 12, 13⟩, ⟨0, 9, 16, 25⟩] ⟨0, 9, 20, 38⟩ [] htab (List.forall_mem_cons.mpr ⟨Or.inr ⟨by decide, xI, hG _ vq_t137, hCx.2.2.2.2.2.2.1 _ (by decide) _ (by decide) (by decide)⟩, List.forall_mem_cons.mpr ⟨Or.inr ⟨by decide, xS, hG _ vq_t248, hCx.2.2.2.2.2.2.1 _ (by decide) _ (by decide) (by decide)⟩, fun _ h => absurd h List.not_mem_nil⟩⟩) rfl (by decide) (hG _ vq_t295) (va_Nw.use rfl (hCx.2.2.2.2.2.1 _ (by decide))) h91 h92 h93 ?_
      refine W.eq (g2 := F0 m 20 ls [.ref q9]) rfl ?_
      refine lv_astore (lv' := [(4, .ref q9), (0, .ref h0), (1, .int x), (2, .int q), (3, .ref oa)]) hx hb d_LW_basicity_20 hl (by decide) rfl (fun ls hl => ?_)
      refine lv_iconst (v := 3) hx hb d_LW_basicity_22 (by decide) ?_
      refine vx_ret ?_
      refine W.widen (k := 3) (n := 18) (Nat.le_of_ble_eq_true rfl) (Nat.le_of_ble_eq_true rfl) ?_
      exact W.iret (v := 3) hx hb hr (fun t ht hW => ⟨⟨3, (), rfl, by decide +kernel, trivial⟩, hS.F ht⟩) hS.2.2 d_LW_basicity_23
  exact absurd (hX.symm.trans w_5.2) (fun h => nomatch h)
set_option maxHeartbeats 4000000 in
set_option maxRecDepth 100000 in
/-- law.basicity, no such pile -/
theorem h_basicity_b (l : Launch) (hlT : l.stackTraces = false) (dC : Nat → ClassId) (dI : Nat → Nat → Nat) (cs : Nat → ClassId) (sz : Nat) (h0 : Nat) (aMo : Nat) (aSh : Nat) (aLa : Nat) (aDy : Nat) (aMa : Nat) (aKi : Nat) (aPi : Nat) (aLn : Nat) (zCn : Int32) (zPc : Int32) (zTo : Int32) (x : Int32) (q : Int32) (oa : Nat) (fO : Nat → Int64) (hi : okP x → zPc ≤ x) : vx_Met l y_LW_basicity w_LW_basicity ({ frames := 8, cells := 1, slots := 6, locals := 127 }) (vq_PreR (dC, dI) cs [(h0, .inr (0, [.ref aMo, .ref aSh, .ref aLa, .ref aDy, .ref aMa, .ref aKi, .int zCn, .ref aPi, .int zPc, .ref aLn, .int zTo])), (oa, .inl ((cs 1), 1, .inr (.inl fO)))] sz [.ref h0, .int x, .int q, .ref oa]) (va_Qi (fun (r : Int32) (_ : Unit) => r = 1) (fun _ _ => True) (va_A [] sz)) (vq_X (fun E => False) sz) 1 6 (va_A [] sz) := by
  refine vx_ofWH (cc := b_LW_basicity) (maxL := 5) (ret := (some .int)) (hh := [(0, 9, 12, 13), (0, 9, 16, 25), (0, 9, 20, 38)]) (by decide) rfl ?_
  intro p e s m args below meth c s₁ B hml hv
  have htab : c.exceptionTable.toList = tableOf [(0, 9, 12, 13), (0, 9, 16, 25), (0, 9, 20, 38)] := vx_table (x := y_LW_basicity) B (atoms_spec (ws := w_LW_basicity) B.pre _ List.mem_cons_self)
  obtain ⟨rfl, hsz, hP, hCx⟩ := hv
  have hx := B.exec
  have hb := B.bytes
  have hr := B.returns
  have hG := vq_hG (atoms_spec (ws := w_LW_basicity) B.pre)
  have hown : s.vm.findClass R_LW = some m.cls := findClass_of_methodNamed B.named
  have hlocks := B.notSynchronized
  subst hsz
  have hK := hCx.1
  have hA : ∀ q : Nat, s.heap.size ≤ q → va_A [] s.heap.size q := fun q h => Or.inr h
  have hA0 : ∀ q : Nat, s.heap.size ≤ q → va_A [] s.heap.size q := fun q h => Or.inr h
  have hS : va_S (va_A [] s.heap.size) s.heap s.heap [] := va_S.rf
  have hl := lv_entry ([.ref h0, .int x, .int q, .ref oa]) (n := 5) (Nat.le_of_ble_eq_true rfl)
  rw [lg_entry_eq]
  generalize (lg_sl ([.ref h0, .int x, .int q, .ref oa]) ++ List.replicate (5 - (lg_sl ([.ref h0, .int x, .int q, .ref oa])).length) Slot.unset).toArray = ls at hl ⊢
  have hl : lv_has ls 5 [(0, .ref h0), (1, .int x), (2, .int q), (3, .ref oa)] := hl
  have hP : va_P (dC, dI) vq_cl [(h0, .inr (0, [.ref aMo, .ref aSh, .ref aLa, .ref aDy, .ref aMa, .ref aKi, .int zCn, .ref aPi, .int zPc, .ref aLn, .int zTo])), (oa, .inl ((cs 1), 1, .inr (.inl fO)))] s.heap := hP
  refine lv_aload_n hx hb d_LW_basicity_0 rfl (lv_at hl 3 rfl) ?_
  refine lv_iconst (v := 0) hx hb d_LW_basicity_1 (by decide) ?_
  refine lv_aload_n hx hb d_LW_basicity_2 rfl (lv_at hl 0 rfl) ?_
  refine lv_iload_n hx hb d_LW_basicity_3 rfl (lv_at hl 1 rfl) ?_
  refine lv_iload_n hx hb d_LW_basicity_4 rfl (lv_at hl 2 rfl) ?_
  refine mx_rv (vx_runV (As := [.int x, .int q]) (rest := [.int 0, .ref oa]) ⟨hx, hb, hml, hown, hG⟩ (c_basicity_bad l hlT dC dI cs _ h0 aMo aSh aLa aDy aMa aKi aPi aLn zCn zPc zTo x q hi) (cwV 2 hG (vq_gV vq_t388 vq_t389 vq_t390 vq_t1 vq_t391) rfl rfl rfl (by decide +kernel) ⟨Nat.le_of_ble_eq_true rfl, Nat.le_of_ble_eq_true rfl⟩) (vq_preVr (wc := [(h0, .inr (0, [.ref aMo, .ref aSh, .ref aLa, .ref aDy, .ref aMa, .ref aKi, .int zCn, .ref aPi, .int zPc, .ref aLn, .int zTo]))]) (va_recv hK hP (ci := 0) (q0 := 0) rfl rfl) hCx hP (vq_wk hS hA) hA [0] rfl) rfl rfl hl.1 rfl (lv_room (Nat.le_of_ble_eq_true rfl)) d_LW_basicity_5 ⟨Nat.le_of_ble_eq_true rfl, Nat.le_of_ble_eq_true rfl⟩) hP hS hA0 (fun E ce q9 H locs x_5 hP hS h91 h92 h93 => ?_) (fun H locs w_5 hP hS => ?_)
  · skip
    obtain rfl := x_5
    · skip
      refine vx_catch (name := xI) hown [] ⟨0, 9, 12, 13⟩ [⟨0, 9, 16, 25⟩, ⟨0, 9, 20, 38⟩] htab (fun _ h => absurd h List.not_mem_nil) rfl (by decide) (hG _ vq_t137) (va_Nw.use rfl (hCx.2.2.2.2.2.1 _ (by decide))) h91 h92 h93 ?_
      refine W.eq (g2 := F0 m 12 ls [.ref q9]) rfl ?_
      refine lv_astore (lv' := [(4, .ref q9), (0, .ref h0), (1, .int x), (2, .int q), (3, .ref oa)]) hx hb d_LW_basicity_12 hl (by decide) rfl (fun ls hl => ?_)
      refine lv_iconst (v := 1) hx hb d_LW_basicity_14 (by decide) ?_
      refine vx_ret ?_
      refine W.widen (k := 1) (n := 6) (Nat.le_of_ble_eq_true rfl) (Nat.le_of_ble_eq_true rfl) ?_
      exact W.iret (v := 1) hx hb hr (fun t ht hW => ⟨⟨1, (), rfl, rfl, trivial⟩, hS.F ht⟩) hS.2.2 d_LW_basicity_15
  exact w_5.elim
set_option maxHeartbeats 4000000 in
set_option maxRecDepth 100000 in
/-- law.spread, where it goes through -/
theorem h_spread_n (l : Launch) (hlT : l.stackTraces = false) (dC : Nat → ClassId) (dI : Nat → Nat → Nat) (cs : Nat → ClassId) (sz : Nat) (h0 : Nat) (aMo : Nat) (aSh : Nat) (aLa : Nat) (aDy : Nat) (aMa : Nat) (aKi : Nat) (aPi : Nat) (aLn : Nat) (zCn : Int32) (zPc : Int32) (zTo : Int32) (fPi : Nat → Option Nat) (pa : Nat) (bLG : Nat) (bLS : Nat) (bLt : Nat) (bGS : Nat) (bGG : Nat) (bES : Nat) (bEG : Nat) (zSl : Int32) (zLy : Int32) (zGr : Int32) (zTk : Int32) (zGt : Int32) (zLt : Int32) (fGS : Nat → Int64) (fES : Nat → Int64) (fGG : Nat → Int32) (fEG : Nat → Int32) (x : Int32) (k : Int32) (q : Int32) (oa : Nat) (fO : Nat → Int64) (hi : okP x) (hf : fPi x.toNatClampNeg = some pa) (hz : ¬ zPc ≤ x) (hX : X_spread k q zGt = none) : vx_Met l y_LW_spread w_LW_spread ({ frames := 8, cells := 3, slots := 18, locals := 126 }) (vq_Pre (dC, dI) cs [(h0, .inr (0, [.ref aMo, .ref aSh, .ref aLa, .ref aDy, .ref aMa, .ref aKi, .int zCn, .ref aPi, .int zPc, .ref aLn, .int zTo])), (aPi, .inl ((cs 2), 4, .inr (.inr (.inr (.inr fPi))))), (pa, .inr (1, [.int zSl, .ref bLG, .ref bLS, .int zLy, .int zGr, .int zTk, .int zGt, .int zLt, .ref bLt, .ref bGS, .ref bGG, .ref bES, .ref bEG])), (bGS, .inl ((cs 1), 4, .inr (.inl fGS))), (bGG, .inl ((cs 0), 4, .inl fGG)), (bES, .inl ((cs 1), 4, .inr (.inl fES))), (bEG, .inl ((cs 0), 4, .inl fEG)), (oa, .inl ((cs 1), 1, .inr (.inl fO)))] sz [.ref h0, .int x, .int k, .int q, .ref oa]) (va_Qi (fun (r : Int32) (_ : Unit) => r = 0) (vq_B (dC, dI) cs (va_A [(h0, .inr (0, [.ref aMo, .ref aSh, .ref aLa, .ref aDy, .ref aMa, .ref aKi, .int zCn, .ref aPi, .int zPc, .ref aLn, .int zTo])), (aPi, .inl ((cs 2), 4, .inr (.inr (.inr (.inr fPi))))), (pa, .inr (1, [.int zSl, .ref bLG, .ref bLS, .int zLy, .int zGr, .int zTk, .int zGt, .int zLt, .ref bLt, .ref bGS, .ref bGG, .ref bES, .ref bEG])), (bGS, .inl ((cs 1), 4, .inr (.inl fGS))), (bGG, .inl ((cs 0), 4, .inl fGG)), (bES, .inl ((cs 1), 4, .inr (.inl fES))), (bEG, .inl ((cs 0), 4, .inl fEG)), (oa, .inl ((cs 1), 1, .inr (.inl fO)))] sz) (fun _ => [(h0, .inr (0, [.ref aMo, .ref aSh, .ref aLa, .ref aDy, .ref aMa, .ref aKi, .int zCn, .ref aPi, .int zPc, .ref aLn, .int zTo])), (aPi, .inl ((cs 2), 4, .inr (.inr (.inr (.inr fPi))))), (pa, .inr (1, [.int zSl, .ref bLG, .ref bLS, .int zLy, .int zGr, .int zTk, .int zGt, .int zLt, .ref bLt, .ref bGS, .ref bGG, .ref bES, .ref bEG])), (bGS, .inl ((cs 1), 4, .inr (.inl fGS))), (bGG, .inl ((cs 0), 4, .inl fGG)), (bES, .inl ((cs 1), 4, .inr (.inl fES))), (bEG, .inl ((cs 0), 4, .inl fEG)), (oa, .inl ((cs 1), 1, .inr (.inl (vp_updL fO (0 : Int32).toNatClampNeg (lowF ((fGS k.toNatClampNeg * (fEG k.toNatClampNeg).toInt64) - (fES k.toNatClampNeg * (fGG k.toNatClampNeg).toInt64)) ((fGG k.toNatClampNeg).toInt64 * (fEG k.toNatClampNeg).toInt64) q)))))])) (va_A [(h0, .inr (0, [.ref aMo, .ref aSh, .ref aLa, .ref aDy, .ref aMa, .ref aKi, .int zCn, .ref aPi, .int zPc, .ref aLn, .int zTo])), (aPi, .inl ((cs 2), 4, .inr (.inr (.inr (.inr fPi))))), (pa, .inr (1, [.int zSl, .ref bLG, .ref bLS, .int zLy, .int zGr, .int zTk, .int zGt, .int zLt, .ref bLt, .ref bGS, .ref bGG, .ref bES, .ref bEG])), (bGS, .inl ((cs 1), 4, .inr (.inl fGS))), (bGG, .inl ((cs 0), 4, .inl fGG)), (bES, .inl ((cs 1), 4, .inr (.inl fES))), (bEG, .inl ((cs 0), 4, .inl fEG)), (oa, .inl ((cs 1), 1, .inr (.inl fO)))] sz)) (vq_X (fun E => False) sz) 3 18 (va_A [(h0, .inr (0, [.ref aMo, .ref aSh, .ref aLa, .ref aDy, .ref aMa, .ref aKi, .int zCn, .ref aPi, .int zPc, .ref aLn, .int zTo])), (aPi, .inl ((cs 2), 4, .inr (.inr (.inr (.inr fPi))))), (pa, .inr (1, [.int zSl, .ref bLG, .ref bLS, .int zLy, .int zGr, .int zTk, .int zGt, .int zLt, .ref bLt, .ref bGS, .ref bGG, .ref bES, .ref bEG])), (bGS, .inl ((cs 1), 4, .inr (.inl fGS))), (bGG, .inl ((cs 0), 4, .inl fGG)), (bES, .inl ((cs 1), 4, .inr (.inl fES))), (bEG, .inl ((cs 0), 4, .inl fEG)), (oa, .inl ((cs 1), 1, .inr (.inl fO)))] sz) := by
  refine vx_ofWH (cc := b_LW_spread) (maxL := 6) (ret := (some .int)) (hh := [(0, 11, 14, 13), (0, 11, 18, 25)]) (by decide) rfl ?_
  intro p e s m args below meth c s₁ B hml hv
  have htab : c.exceptionTable.toList = tableOf [(0, 11, 14, 13), (0, 11, 18, 25)] := vx_table (x := y_LW_spread) B (atoms_spec (ws := w_LW_spread) B.pre _ List.mem_cons_self)
  obtain ⟨rfl, hsz, hP, hD0, hCx⟩ := hv
  have hx := B.exec
  have hb := B.bytes
  have hr := B.returns
  have hG := vq_hG (atoms_spec (ws := w_LW_spread) B.pre)
  have hown : s.vm.findClass R_LW = some m.cls := findClass_of_methodNamed B.named
  have hlocks := B.notSynchronized
  subst hsz
  have hK := hCx.1
  have hD := hD0.self (sz := s.heap.size)
  generalize hAe : va_A [(h0, .inr (0, [.ref aMo, .ref aSh, .ref aLa, .ref aDy, .ref aMa, .ref aKi, .int zCn, .ref aPi, .int zPc, .ref aLn, .int zTo])), (aPi, .inl ((cs 2), 4, .inr (.inr (.inr (.inr fPi))))), (pa, .inr (1, [.int zSl, .ref bLG, .ref bLS, .int zLy, .int zGr, .int zTk, .int zGt, .int zLt, .ref bLt, .ref bGS, .ref bGG, .ref bES, .ref bEG])), (bGS, .inl ((cs 1), 4, .inr (.inl fGS))), (bGG, .inl ((cs 0), 4, .inl fGG)), (bES, .inl ((cs 1), 4, .inr (.inl fES))), (bEG, .inl ((cs 0), 4, .inl fEG)), (oa, .inl ((cs 1), 1, .inr (.inl fO)))] s.heap.size = A at hD hCx ⊢
  have hA : ∀ q : Nat, s.heap.size ≤ q → A q := fun q h => by rw [← hAe]; exact Or.inr h
  have hA0 : ∀ q : Nat, s.heap.size ≤ q → va_A [] s.heap.size q := fun q h => Or.inr h
  have hS : va_S (va_A [] s.heap.size) s.heap s.heap [] := va_S.rf
  have hl := lv_entry ([.ref h0, .int x, .int k, .int q, .ref oa]) (n := 6) (Nat.le_of_ble_eq_true rfl)
  rw [lg_entry_eq]
  generalize (lg_sl ([.ref h0, .int x, .int k, .int q, .ref oa]) ++ List.replicate (6 - (lg_sl ([.ref h0, .int x, .int k, .int q, .ref oa])).length) Slot.unset).toArray = ls at hl ⊢
  have hl : lv_has ls 6 [(0, .ref h0), (1, .int x), (2, .int k), (3, .int q), (4, .ref oa)] := hl
  have hP : va_P (dC, dI) vq_cl [(h0, .inr (0, [.ref aMo, .ref aSh, .ref aLa, .ref aDy, .ref aMa, .ref aKi, .int zCn, .ref aPi, .int zPc, .ref aLn, .int zTo])), (aPi, .inl ((cs 2), 4, .inr (.inr (.inr (.inr fPi))))), (pa, .inr (1, [.int zSl, .ref bLG, .ref bLS, .int zLy, .int zGr, .int zTk, .int zGt, .int zLt, .ref bLt, .ref bGS, .ref bGG, .ref bES, .ref bEG])), (bGS, .inl ((cs 1), 4, .inr (.inl fGS))), (bGG, .inl ((cs 0), 4, .inl fGG)), (bES, .inl ((cs 1), 4, .inr (.inl fES))), (bEG, .inl ((cs 0), 4, .inl fEG)), (oa, .inl ((cs 1), 1, .inr (.inl fO)))] s.heap := hP
  refine lv_aload hx hb d_LW_spread_0 (lv_at hl 4 rfl) ?_
  refine lv_iconst (v := 0) hx hb d_LW_spread_2 (by decide) ?_
  refine lv_aload_n hx hb d_LW_spread_3 rfl (lv_at hl 0 rfl) ?_
  refine lv_iload_n hx hb d_LW_spread_4 rfl (lv_at hl 1 rfl) ?_
  refine lv_iload_n hx hb d_LW_spread_5 rfl (lv_at hl 2 rfl) ?_
  refine lv_iload_n hx hb d_LW_spread_6 rfl (lv_at hl 3 rfl) ?_
  refine mx_rl (vx_runV (As := [.int x, .int k, .int q]) (rest := [.int 0, .ref oa]) ⟨hx, hb, hml, hown, hG⟩ (c_spread l hlT dC dI cs _ h0 aMo aSh aLa aDy aMa aKi aPi aLn zCn zPc zTo fPi pa bLG bLS bLt bGS bGG bES bEG zSl zLy zGr zTk zGt zLt fGS fES fGG fEG x k q hi hf hz) (cwV 3 hG (vq_gV vq_t396 vq_t397 vq_t398 vq_t1 vq_t399) rfl rfl rfl (by decide +kernel) ⟨Nat.le_of_ble_eq_true rfl, Nat.le_of_ble_eq_true rfl⟩) (vq_preVr (wc := [(h0, .inr (0, [.ref aMo, .ref aSh, .ref aLa, .ref aDy, .ref aMa, .ref aKi, .int zCn, .ref aPi, .int zPc, .ref aLn, .int zTo])), (aPi, .inl ((cs 2), 4, .inr (.inr (.inr (.inr fPi))))), (pa, .inr (1, [.int zSl, .ref bLG, .ref bLS, .int zLy, .int zGr, .int zTk, .int zGt, .int zLt, .ref bLt, .ref bGS, .ref bGG, .ref bES, .ref bEG])), (bGS, .inl ((cs 1), 4, .inr (.inl fGS))), (bGG, .inl ((cs 0), 4, .inl fGG)), (bES, .inl ((cs 1), 4, .inr (.inl fES))), (bEG, .inl ((cs 0), 4, .inl fEG))]) (va_recv hK hP (ci := 0) (q0 := 0) rfl rfl) hCx hP (vq_wk hS hA) hA [0, 1, 2, 3, 4, 5, 6] rfl) rfl rfl hl.1 rfl (lv_room (Nat.le_of_ble_eq_true rfl)) d_LW_spread_7 ⟨Nat.le_of_ble_eq_true rfl, Nat.le_of_ble_eq_true rfl⟩) hP hS hA0 (fun E ce q9 H locs x_7 hP hS h91 h92 h93 => absurd (hX.symm.trans x_7) (fun h => nomatch h)) (fun r_7 H locs w_7 hP hS => ?_)
  refine W.widen (k := 3) (n := 18) (Nat.le_of_ble_eq_true rfl) (Nat.le_of_ble_eq_true rfl) ?_
  obtain ⟨rfl, w_7⟩ := w_7
  have hS := vq_wk hS hA
  refine va_last (D := (dC, dI)) hx hb hK hP hD hS 7 1 rfl rfl (vq_in 1 rfl (by decide) (by decide)) d_LW_spread_10 (fun H locs hP hD hS => ?_)
  have hP : va_P (dC, dI) vq_cl [(h0, .inr (0, [.ref aMo, .ref aSh, .ref aLa, .ref aDy, .ref aMa, .ref aKi, .int zCn, .ref aPi, .int zPc, .ref aLn, .int zTo])), (aPi, .inl ((cs 2), 4, .inr (.inr (.inr (.inr fPi))))), (pa, .inr (1, [.int zSl, .ref bLG, .ref bLS, .int zLy, .int zGr, .int zTk, .int zGt, .int zLt, .ref bLt, .ref bGS, .ref bGG, .ref bES, .ref bEG])), (bGS, .inl ((cs 1), 4, .inr (.inl fGS))), (bGG, .inl ((cs 0), 4, .inl fGG)), (bES, .inl ((cs 1), 4, .inr (.inl fES))), (bEG, .inl ((cs 0), 4, .inl fEG)), (oa, .inl ((cs 1), 1, .inr (.inl (vp_updL fO (0 : Int32).toNatClampNeg (lowF ((fGS k.toNatClampNeg * (fEG k.toNatClampNeg).toInt64) - (fES k.toNatClampNeg * (fGG k.toNatClampNeg).toInt64)) ((fGG k.toNatClampNeg).toInt64 * (fEG k.toNatClampNeg).toInt64) q)))))] H := hP
  have hD : va_D A [(h0, .inr (0, [.ref aMo, .ref aSh, .ref aLa, .ref aDy, .ref aMa, .ref aKi, .int zCn, .ref aPi, .int zPc, .ref aLn, .int zTo])), (aPi, .inl ((cs 2), 4, .inr (.inr (.inr (.inr fPi))))), (pa, .inr (1, [.int zSl, .ref bLG, .ref bLS, .int zLy, .int zGr, .int zTk, .int zGt, .int zLt, .ref bLt, .ref bGS, .ref bGG, .ref bES, .ref bEG])), (bGS, .inl ((cs 1), 4, .inr (.inl fGS))), (bGG, .inl ((cs 0), 4, .inl fGG)), (bES, .inl ((cs 1), 4, .inr (.inl fES))), (bEG, .inl ((cs 0), 4, .inl fEG)), (oa, .inl ((cs 1), 1, .inr (.inl (vp_updL fO (0 : Int32).toNatClampNeg (lowF ((fGS k.toNatClampNeg * (fEG k.toNatClampNeg).toInt64) - (fES k.toNatClampNeg * (fGG k.toNatClampNeg).toInt64)) ((fGG k.toNatClampNeg).toInt64 * (fEG k.toNatClampNeg).toInt64) q)))))] := hD
  refine lv_goto (tgt := 22) hx hb d_LW_spread_11 (by decide) ?_
  refine lv_iconst (v := 0) hx hb d_LW_spread_22 (by decide) ?_
  refine vx_ret ?_
  refine W.widen (k := 3) (n := 18) (Nat.le_of_ble_eq_true rfl) (Nat.le_of_ble_eq_true rfl) ?_
  have hP9 : va_P (dC, dI) vq_cl [(h0, .inr (0, [.ref aMo, .ref aSh, .ref aLa, .ref aDy, .ref aMa, .ref aKi, .int zCn, .ref aPi, .int zPc, .ref aLn, .int zTo])), (aPi, .inl ((cs 2), 4, .inr (.inr (.inr (.inr fPi))))), (pa, .inr (1, [.int zSl, .ref bLG, .ref bLS, .int zLy, .int zGr, .int zTk, .int zGt, .int zLt, .ref bLt, .ref bGS, .ref bGG, .ref bES, .ref bEG])), (bGS, .inl ((cs 1), 4, .inr (.inl fGS))), (bGG, .inl ((cs 0), 4, .inl fGG)), (bES, .inl ((cs 1), 4, .inr (.inl fES))), (bEG, .inl ((cs 0), 4, .inl fEG)), (oa, .inl ((cs 1), 1, .inr (.inl (vp_updL fO (0 : Int32).toNatClampNeg (lowF ((fGS k.toNatClampNeg * (fEG k.toNatClampNeg).toInt64) - (fES k.toNatClampNeg * (fGG k.toNatClampNeg).toInt64)) ((fGG k.toNatClampNeg).toInt64 * (fEG k.toNatClampNeg).toInt64) q)))))] _ := hP.sub [0, 1, 2, 3, 4, 5, 6, 7] rfl
  have hD9 : va_D A [(h0, .inr (0, [.ref aMo, .ref aSh, .ref aLa, .ref aDy, .ref aMa, .ref aKi, .int zCn, .ref aPi, .int zPc, .ref aLn, .int zTo])), (aPi, .inl ((cs 2), 4, .inr (.inr (.inr (.inr fPi))))), (pa, .inr (1, [.int zSl, .ref bLG, .ref bLS, .int zLy, .int zGr, .int zTk, .int zGt, .int zLt, .ref bLt, .ref bGS, .ref bGG, .ref bES, .ref bEG])), (bGS, .inl ((cs 1), 4, .inr (.inl fGS))), (bGG, .inl ((cs 0), 4, .inl fGG)), (bES, .inl ((cs 1), 4, .inr (.inl fES))), (bEG, .inl ((cs 0), 4, .inl fEG)), (oa, .inl ((cs 1), 1, .inr (.inl (vp_updL fO (0 : Int32).toNatClampNeg (lowF ((fGS k.toNatClampNeg * (fEG k.toNatClampNeg).toInt64) - (fES k.toNatClampNeg * (fGG k.toNatClampNeg).toInt64)) ((fGG k.toNatClampNeg).toInt64 * (fEG k.toNatClampNeg).toInt64) q)))))] := hD.sub [0, 1, 2, 3, 4, 5, 6, 7] (by decide) rfl
  exact W.iret (v := 0) hx hb hr (fun t ht hW => ⟨⟨0, (), rfl, rfl, ⟨by rw [ht]; exact hP9, hD9⟩⟩, hS.F ht⟩) hS.2.2 d_LW_spread_23
set_option maxHeartbeats 4000000 in
set_option maxRecDepth 100000 in
/-- law.spread, where it is refused -/
theorem h_spread_s (l : Launch) (hlT : l.stackTraces = false) (dC : Nat → ClassId) (dI : Nat → Nat → Nat) (cs : Nat → ClassId) (sz : Nat) (h0 : Nat) (aMo : Nat) (aSh : Nat) (aLa : Nat) (aDy : Nat) (aMa : Nat) (aKi : Nat) (aPi : Nat) (aLn : Nat) (zCn : Int32) (zPc : Int32) (zTo : Int32) (fPi : Nat → Option Nat) (pa : Nat) (bLG : Nat) (bLS : Nat) (bLt : Nat) (bGS : Nat) (bGG : Nat) (bES : Nat) (bEG : Nat) (zSl : Int32) (zLy : Int32) (zGr : Int32) (zTk : Int32) (zGt : Int32) (zLt : Int32) (fGS : Nat → Int64) (fES : Nat → Int64) (fGG : Nat → Int32) (fEG : Nat → Int32) (x : Int32) (k : Int32) (q : Int32) (oa : Nat) (fO : Nat → Int64) (E0 : String) (hi : okP x) (hf : fPi x.toNatClampNeg = some pa) (hz : ¬ zPc ≤ x) (hX : X_spread k q zGt = some E0) (hE : E0 = xI ∨ E0 = xS) : vx_Met l y_LW_spread w_LW_spread ({ frames := 8, cells := 3, slots := 18, locals := 126 }) (vq_PreR (dC, dI) cs [(h0, .inr (0, [.ref aMo, .ref aSh, .ref aLa, .ref aDy, .ref aMa, .ref aKi, .int zCn, .ref aPi, .int zPc, .ref aLn, .int zTo])), (aPi, .inl ((cs 2), 4, .inr (.inr (.inr (.inr fPi))))), (pa, .inr (1, [.int zSl, .ref bLG, .ref bLS, .int zLy, .int zGr, .int zTk, .int zGt, .int zLt, .ref bLt, .ref bGS, .ref bGG, .ref bES, .ref bEG])), (bGS, .inl ((cs 1), 4, .inr (.inl fGS))), (bGG, .inl ((cs 0), 4, .inl fGG)), (bES, .inl ((cs 1), 4, .inr (.inl fES))), (bEG, .inl ((cs 0), 4, .inl fEG)), (oa, .inl ((cs 1), 1, .inr (.inl fO)))] sz [.ref h0, .int x, .int k, .int q, .ref oa]) (va_Qi (fun (r : Int32) (_ : Unit) => r = cdF [xI, xS] E0) (fun _ _ => True) (va_A [] sz)) (vq_X (fun E => False) sz) 3 18 (va_A [] sz) := by
  refine vx_ofWH (cc := b_LW_spread) (maxL := 6) (ret := (some .int)) (hh := [(0, 11, 14, 13), (0, 11, 18, 25)]) (by decide) rfl ?_
  intro p e s m args below meth c s₁ B hml hv
  have htab : c.exceptionTable.toList = tableOf [(0, 11, 14, 13), (0, 11, 18, 25)] := vx_table (x := y_LW_spread) B (atoms_spec (ws := w_LW_spread) B.pre _ List.mem_cons_self)
  obtain ⟨rfl, hsz, hP, hCx⟩ := hv
  have hx := B.exec
  have hb := B.bytes
  have hr := B.returns
  have hG := vq_hG (atoms_spec (ws := w_LW_spread) B.pre)
  have hown : s.vm.findClass R_LW = some m.cls := findClass_of_methodNamed B.named
  have hlocks := B.notSynchronized
  subst hsz
  have hK := hCx.1
  have hA : ∀ q : Nat, s.heap.size ≤ q → va_A [] s.heap.size q := fun q h => Or.inr h
  have hA0 : ∀ q : Nat, s.heap.size ≤ q → va_A [] s.heap.size q := fun q h => Or.inr h
  have hS : va_S (va_A [] s.heap.size) s.heap s.heap [] := va_S.rf
  have hl := lv_entry ([.ref h0, .int x, .int k, .int q, .ref oa]) (n := 6) (Nat.le_of_ble_eq_true rfl)
  rw [lg_entry_eq]
  generalize (lg_sl ([.ref h0, .int x, .int k, .int q, .ref oa]) ++ List.replicate (6 - (lg_sl ([.ref h0, .int x, .int k, .int q, .ref oa])).length) Slot.unset).toArray = ls at hl ⊢
  have hl : lv_has ls 6 [(0, .ref h0), (1, .int x), (2, .int k), (3, .int q), (4, .ref oa)] := hl
  have hP : va_P (dC, dI) vq_cl [(h0, .inr (0, [.ref aMo, .ref aSh, .ref aLa, .ref aDy, .ref aMa, .ref aKi, .int zCn, .ref aPi, .int zPc, .ref aLn, .int zTo])), (aPi, .inl ((cs 2), 4, .inr (.inr (.inr (.inr fPi))))), (pa, .inr (1, [.int zSl, .ref bLG, .ref bLS, .int zLy, .int zGr, .int zTk, .int zGt, .int zLt, .ref bLt, .ref bGS, .ref bGG, .ref bES, .ref bEG])), (bGS, .inl ((cs 1), 4, .inr (.inl fGS))), (bGG, .inl ((cs 0), 4, .inl fGG)), (bES, .inl ((cs 1), 4, .inr (.inl fES))), (bEG, .inl ((cs 0), 4, .inl fEG)), (oa, .inl ((cs 1), 1, .inr (.inl fO)))] s.heap := hP
  refine lv_aload hx hb d_LW_spread_0 (lv_at hl 4 rfl) ?_
  refine lv_iconst (v := 0) hx hb d_LW_spread_2 (by decide) ?_
  refine lv_aload_n hx hb d_LW_spread_3 rfl (lv_at hl 0 rfl) ?_
  refine lv_iload_n hx hb d_LW_spread_4 rfl (lv_at hl 1 rfl) ?_
  refine lv_iload_n hx hb d_LW_spread_5 rfl (lv_at hl 2 rfl) ?_
  refine lv_iload_n hx hb d_LW_spread_6 rfl (lv_at hl 3 rfl) ?_
  refine mx_rl (vx_runV (As := [.int x, .int k, .int q]) (rest := [.int 0, .ref oa]) ⟨hx, hb, hml, hown, hG⟩ (c_spread l hlT dC dI cs _ h0 aMo aSh aLa aDy aMa aKi aPi aLn zCn zPc zTo fPi pa bLG bLS bLt bGS bGG bES bEG zSl zLy zGr zTk zGt zLt fGS fES fGG fEG x k q hi hf hz) (cwV 3 hG (vq_gV vq_t396 vq_t397 vq_t398 vq_t1 vq_t399) rfl rfl rfl (by decide +kernel) ⟨Nat.le_of_ble_eq_true rfl, Nat.le_of_ble_eq_true rfl⟩) (vq_preVr (wc := [(h0, .inr (0, [.ref aMo, .ref aSh, .ref aLa, .ref aDy, .ref aMa, .ref aKi, .int zCn, .ref aPi, .int zPc, .ref aLn, .int zTo])), (aPi, .inl ((cs 2), 4, .inr (.inr (.inr (.inr fPi))))), (pa, .inr (1, [.int zSl, .ref bLG, .ref bLS, .int zLy, .int zGr, .int zTk, .int zGt, .int zLt, .ref bLt, .ref bGS, .ref bGG, .ref bES, .ref bEG])), (bGS, .inl ((cs 1), 4, .inr (.inl fGS))), (bGG, .inl ((cs 0), 4, .inl fGG)), (bES, .inl ((cs 1), 4, .inr (.inl fES))), (bEG, .inl ((cs 0), 4, .inl fEG))]) (va_recv hK hP (ci := 0) (q0 := 0) rfl rfl) hCx hP (vq_wk hS hA) hA [0, 1, 2, 3, 4, 5, 6] rfl) rfl rfl hl.1 rfl (lv_room (Nat.le_of_ble_eq_true rfl)) d_LW_spread_7 ⟨Nat.le_of_ble_eq_true rfl, Nat.le_of_ble_eq_true rfl⟩) hP hS hA0 (fun E ce q9 H locs x_7 hP hS h91 h92 h93 => ?_) (fun r_7 H locs w_7 hP hS => ?_)
  · skip
    obtain rfl := Option.some.inj (hX.symm.trans x_7)
    rcases hE with rfl | rfl
    · skip
      refine vx_catch (name := xI) hown [] ⟨0, 11, 14, 13⟩ [⟨0, 11, 18, 25⟩] htab (fun _ h => absurd h List.not_mem_nil) rfl (by decide) (hG _ vq_t137) (va_Nw.use rfl (hCx.2.2.2.2.2.1 _ (by decide))) h91 h92 h93 ?_
      refine W.eq (g2 := F0 m 14 ls [.ref q9]) rfl ?_
      refine lv_astore (lv' := [(5, .ref q9), (0, .ref h0), (1, .int x), (2, .int k), (3, .int q), (4, .ref oa)]) hx hb d_LW_spread_14 hl (by decide) rfl (fun ls hl => ?_)
      refine lv_iconst (v := 1) hx hb d_LW_spread_16 (by decide) ?_
      refine vx_ret ?_
      refine W.widen (k := 3) (n := 18) (Nat.le_of_ble_eq_true rfl) (Nat.le_of_ble_eq_true rfl) ?_
      exact W.iret (v := 1) hx hb hr (fun t ht hW => ⟨⟨1, (), rfl, by decide +kernel, trivial⟩, hS.F ht⟩) hS.2.2 d_LW_spread_17
    · skip
      refine vx_catch (name := xS) hown [⟨0, 11, 14, 13⟩] ⟨0, 11, 18, 25⟩ [] htab (List.forall_mem_cons.mpr ⟨Or.inr ⟨by decide, xI, hG _ vq_t137, hCx.2.2.2.2.2.2.1 _ (by decide) _ (by decide) (by decide)⟩, fun _ h => absurd h List.not_mem_nil⟩) rfl (by decide) (hG _ vq_t248) (va_Nw.use rfl (hCx.2.2.2.2.2.1 _ (by decide))) h91 h92 h93 ?_
      refine W.eq (g2 := F0 m 18 ls [.ref q9]) rfl ?_
      refine lv_astore (lv' := [(5, .ref q9), (0, .ref h0), (1, .int x), (2, .int k), (3, .int q), (4, .ref oa)]) hx hb d_LW_spread_18 hl (by decide) rfl (fun ls hl => ?_)
      refine lv_iconst (v := 2) hx hb d_LW_spread_20 (by decide) ?_
      refine vx_ret ?_
      refine W.widen (k := 3) (n := 18) (Nat.le_of_ble_eq_true rfl) (Nat.le_of_ble_eq_true rfl) ?_
      exact W.iret (v := 2) hx hb hr (fun t ht hW => ⟨⟨2, (), rfl, by decide +kernel, trivial⟩, hS.F ht⟩) hS.2.2 d_LW_spread_21
  exact absurd (hX.symm.trans w_7.2) (fun h => nomatch h)
set_option maxHeartbeats 4000000 in
set_option maxRecDepth 100000 in
/-- law.spread, no such pile -/
theorem h_spread_b (l : Launch) (hlT : l.stackTraces = false) (dC : Nat → ClassId) (dI : Nat → Nat → Nat) (cs : Nat → ClassId) (sz : Nat) (h0 : Nat) (aMo : Nat) (aSh : Nat) (aLa : Nat) (aDy : Nat) (aMa : Nat) (aKi : Nat) (aPi : Nat) (aLn : Nat) (zCn : Int32) (zPc : Int32) (zTo : Int32) (x : Int32) (k : Int32) (q : Int32) (oa : Nat) (fO : Nat → Int64) (hi : okP x → zPc ≤ x) : vx_Met l y_LW_spread w_LW_spread ({ frames := 8, cells := 1, slots := 6, locals := 128 }) (vq_PreR (dC, dI) cs [(h0, .inr (0, [.ref aMo, .ref aSh, .ref aLa, .ref aDy, .ref aMa, .ref aKi, .int zCn, .ref aPi, .int zPc, .ref aLn, .int zTo])), (oa, .inl ((cs 1), 1, .inr (.inl fO)))] sz [.ref h0, .int x, .int k, .int q, .ref oa]) (va_Qi (fun (r : Int32) (_ : Unit) => r = 1) (fun _ _ => True) (va_A [] sz)) (vq_X (fun E => False) sz) 1 6 (va_A [] sz) := by
  refine vx_ofWH (cc := b_LW_spread) (maxL := 6) (ret := (some .int)) (hh := [(0, 11, 14, 13), (0, 11, 18, 25)]) (by decide) rfl ?_
  intro p e s m args below meth c s₁ B hml hv
  have htab : c.exceptionTable.toList = tableOf [(0, 11, 14, 13), (0, 11, 18, 25)] := vx_table (x := y_LW_spread) B (atoms_spec (ws := w_LW_spread) B.pre _ List.mem_cons_self)
  obtain ⟨rfl, hsz, hP, hCx⟩ := hv
  have hx := B.exec
  have hb := B.bytes
  have hr := B.returns
  have hG := vq_hG (atoms_spec (ws := w_LW_spread) B.pre)
  have hown : s.vm.findClass R_LW = some m.cls := findClass_of_methodNamed B.named
  have hlocks := B.notSynchronized
  subst hsz
  have hK := hCx.1
  have hA : ∀ q : Nat, s.heap.size ≤ q → va_A [] s.heap.size q := fun q h => Or.inr h
  have hA0 : ∀ q : Nat, s.heap.size ≤ q → va_A [] s.heap.size q := fun q h => Or.inr h
  have hS : va_S (va_A [] s.heap.size) s.heap s.heap [] := va_S.rf
  have hl := lv_entry ([.ref h0, .int x, .int k, .int q, .ref oa]) (n := 6) (Nat.le_of_ble_eq_true rfl)
  rw [lg_entry_eq]
  generalize (lg_sl ([.ref h0, .int x, .int k, .int q, .ref oa]) ++ List.replicate (6 - (lg_sl ([.ref h0, .int x, .int k, .int q, .ref oa])).length) Slot.unset).toArray = ls at hl ⊢
  have hl : lv_has ls 6 [(0, .ref h0), (1, .int x), (2, .int k), (3, .int q), (4, .ref oa)] := hl
  have hP : va_P (dC, dI) vq_cl [(h0, .inr (0, [.ref aMo, .ref aSh, .ref aLa, .ref aDy, .ref aMa, .ref aKi, .int zCn, .ref aPi, .int zPc, .ref aLn, .int zTo])), (oa, .inl ((cs 1), 1, .inr (.inl fO)))] s.heap := hP
  refine lv_aload hx hb d_LW_spread_0 (lv_at hl 4 rfl) ?_
  refine lv_iconst (v := 0) hx hb d_LW_spread_2 (by decide) ?_
  refine lv_aload_n hx hb d_LW_spread_3 rfl (lv_at hl 0 rfl) ?_
  refine lv_iload_n hx hb d_LW_spread_4 rfl (lv_at hl 1 rfl) ?_
  refine lv_iload_n hx hb d_LW_spread_5 rfl (lv_at hl 2 rfl) ?_
  refine lv_iload_n hx hb d_LW_spread_6 rfl (lv_at hl 3 rfl) ?_
  refine mx_rv (vx_runV (As := [.int x, .int k, .int q]) (rest := [.int 0, .ref oa]) ⟨hx, hb, hml, hown, hG⟩ (c_spread_bad l hlT dC dI cs _ h0 aMo aSh aLa aDy aMa aKi aPi aLn zCn zPc zTo x k q hi) (cwV 3 hG (vq_gV vq_t396 vq_t397 vq_t398 vq_t1 vq_t399) rfl rfl rfl (by decide +kernel) ⟨Nat.le_of_ble_eq_true rfl, Nat.le_of_ble_eq_true rfl⟩) (vq_preVr (wc := [(h0, .inr (0, [.ref aMo, .ref aSh, .ref aLa, .ref aDy, .ref aMa, .ref aKi, .int zCn, .ref aPi, .int zPc, .ref aLn, .int zTo]))]) (va_recv hK hP (ci := 0) (q0 := 0) rfl rfl) hCx hP (vq_wk hS hA) hA [0] rfl) rfl rfl hl.1 rfl (lv_room (Nat.le_of_ble_eq_true rfl)) d_LW_spread_7 ⟨Nat.le_of_ble_eq_true rfl, Nat.le_of_ble_eq_true rfl⟩) hP hS hA0 (fun E ce q9 H locs x_7 hP hS h91 h92 h93 => ?_) (fun H locs w_7 hP hS => ?_)
  · skip
    obtain rfl := x_7
    · skip
      refine vx_catch (name := xI) hown [] ⟨0, 11, 14, 13⟩ [⟨0, 11, 18, 25⟩] htab (fun _ h => absurd h List.not_mem_nil) rfl (by decide) (hG _ vq_t137) (va_Nw.use rfl (hCx.2.2.2.2.2.1 _ (by decide))) h91 h92 h93 ?_
      refine W.eq (g2 := F0 m 14 ls [.ref q9]) rfl ?_
      refine lv_astore (lv' := [(5, .ref q9), (0, .ref h0), (1, .int x), (2, .int k), (3, .int q), (4, .ref oa)]) hx hb d_LW_spread_14 hl (by decide) rfl (fun ls hl => ?_)
      refine lv_iconst (v := 1) hx hb d_LW_spread_16 (by decide) ?_
      refine vx_ret ?_
      refine W.widen (k := 1) (n := 6) (Nat.le_of_ble_eq_true rfl) (Nat.le_of_ble_eq_true rfl) ?_
      exact W.iret (v := 1) hx hb hr (fun t ht hW => ⟨⟨1, (), rfl, rfl, trivial⟩, hS.F ht⟩) hS.2.2 d_LW_spread_17
  exact w_7.elim
set_option maxHeartbeats 4000000 in
set_option maxRecDepth 100000 in
/-- law.pileAt, where it goes through -/
theorem h_pileAt_n (l : Launch) (hlT : l.stackTraces = false) (dC : Nat → ClassId) (dI : Nat → Nat → Nat) (cs : Nat → ClassId) (sz : Nat) (h0 : Nat) (aMo : Nat) (aSh : Nat) (aLa : Nat) (aDy : Nat) (aMa : Nat) (aKi : Nat) (aPi : Nat) (aLn : Nat) (zCn : Int32) (zPc : Int32) (zTo : Int32) (fPi : Nat → Option Nat) (pa : Nat) (bLG : Nat) (bLS : Nat) (bLt : Nat) (bGS : Nat) (bGG : Nat) (bES : Nat) (bEG : Nat) (zSl : Int32) (zLy : Int32) (zGr : Int32) (zTk : Int32) (zGt : Int32) (zLt : Int32) (x : Int32) (w : Int32) (oa : Nat) (fO : Nat → Int64) (hi : okP x) (hf : fPi x.toNatClampNeg = some pa) (hz : ¬ zPc ≤ x) (hX : X_pileAt w = none) : vx_Met l y_LW_pileAt w_LW_pileAt ({ frames := 7, cells := 1, slots := 6, locals := 105 }) (vq_Pre (dC, dI) cs [(h0, .inr (0, [.ref aMo, .ref aSh, .ref aLa, .ref aDy, .ref aMa, .ref aKi, .int zCn, .ref aPi, .int zPc, .ref aLn, .int zTo])), (aPi, .inl ((cs 2), 4, .inr (.inr (.inr (.inr fPi))))), (pa, .inr (1, [.int zSl, .ref bLG, .ref bLS, .int zLy, .int zGr, .int zTk, .int zGt, .int zLt, .ref bLt, .ref bGS, .ref bGG, .ref bES, .ref bEG])), (oa, .inl ((cs 1), 1, .inr (.inl fO)))] sz [.ref h0, .int x, .int w, .ref oa]) (va_Qi (fun (r : Int32) (_ : Unit) => r = 0) (vq_B (dC, dI) cs (va_A [(h0, .inr (0, [.ref aMo, .ref aSh, .ref aLa, .ref aDy, .ref aMa, .ref aKi, .int zCn, .ref aPi, .int zPc, .ref aLn, .int zTo])), (aPi, .inl ((cs 2), 4, .inr (.inr (.inr (.inr fPi))))), (pa, .inr (1, [.int zSl, .ref bLG, .ref bLS, .int zLy, .int zGr, .int zTk, .int zGt, .int zLt, .ref bLt, .ref bGS, .ref bGG, .ref bES, .ref bEG])), (oa, .inl ((cs 1), 1, .inr (.inl fO)))] sz) (fun _ => [(h0, .inr (0, [.ref aMo, .ref aSh, .ref aLa, .ref aDy, .ref aMa, .ref aKi, .int zCn, .ref aPi, .int zPc, .ref aLn, .int zTo])), (aPi, .inl ((cs 2), 4, .inr (.inr (.inr (.inr fPi))))), (pa, .inr (1, [.int zSl, .ref bLG, .ref bLS, .int zLy, .int zGr, .int zTk, .int zGt, .int zLt, .ref bLt, .ref bGS, .ref bGG, .ref bES, .ref bEG])), (oa, .inl ((cs 1), 1, .inr (.inl (vp_updL fO (0 : Int32).toNatClampNeg ((pileAtF w zSl zTk zLy zGr zGt).toInt64)))))])) (va_A [(h0, .inr (0, [.ref aMo, .ref aSh, .ref aLa, .ref aDy, .ref aMa, .ref aKi, .int zCn, .ref aPi, .int zPc, .ref aLn, .int zTo])), (aPi, .inl ((cs 2), 4, .inr (.inr (.inr (.inr fPi))))), (pa, .inr (1, [.int zSl, .ref bLG, .ref bLS, .int zLy, .int zGr, .int zTk, .int zGt, .int zLt, .ref bLt, .ref bGS, .ref bGG, .ref bES, .ref bEG])), (oa, .inl ((cs 1), 1, .inr (.inl fO)))] sz)) (vq_X (fun E => False) sz) 1 6 (va_A [(h0, .inr (0, [.ref aMo, .ref aSh, .ref aLa, .ref aDy, .ref aMa, .ref aKi, .int zCn, .ref aPi, .int zPc, .ref aLn, .int zTo])), (aPi, .inl ((cs 2), 4, .inr (.inr (.inr (.inr fPi))))), (pa, .inr (1, [.int zSl, .ref bLG, .ref bLS, .int zLy, .int zGr, .int zTk, .int zGt, .int zLt, .ref bLt, .ref bGS, .ref bGG, .ref bES, .ref bEG])), (oa, .inl ((cs 1), 1, .inr (.inl fO)))] sz) := by
  refine vx_ofWH (cc := b_LW_pileAt) (maxL := 5) (ret := (some .int)) (hh := [(0, 10, 13, 13)]) (by decide) rfl ?_
  intro p e s m args below meth c s₁ B hml hv
  have htab : c.exceptionTable.toList = tableOf [(0, 10, 13, 13)] := vx_table (x := y_LW_pileAt) B (atoms_spec (ws := w_LW_pileAt) B.pre _ List.mem_cons_self)
  obtain ⟨rfl, hsz, hP, hD0, hCx⟩ := hv
  have hx := B.exec
  have hb := B.bytes
  have hr := B.returns
  have hG := vq_hG (atoms_spec (ws := w_LW_pileAt) B.pre)
  have hown : s.vm.findClass R_LW = some m.cls := findClass_of_methodNamed B.named
  have hlocks := B.notSynchronized
  subst hsz
  have hK := hCx.1
  have hD := hD0.self (sz := s.heap.size)
  generalize hAe : va_A [(h0, .inr (0, [.ref aMo, .ref aSh, .ref aLa, .ref aDy, .ref aMa, .ref aKi, .int zCn, .ref aPi, .int zPc, .ref aLn, .int zTo])), (aPi, .inl ((cs 2), 4, .inr (.inr (.inr (.inr fPi))))), (pa, .inr (1, [.int zSl, .ref bLG, .ref bLS, .int zLy, .int zGr, .int zTk, .int zGt, .int zLt, .ref bLt, .ref bGS, .ref bGG, .ref bES, .ref bEG])), (oa, .inl ((cs 1), 1, .inr (.inl fO)))] s.heap.size = A at hD hCx ⊢
  have hA : ∀ q : Nat, s.heap.size ≤ q → A q := fun q h => by rw [← hAe]; exact Or.inr h
  have hA0 : ∀ q : Nat, s.heap.size ≤ q → va_A [] s.heap.size q := fun q h => Or.inr h
  have hS : va_S (va_A [] s.heap.size) s.heap s.heap [] := va_S.rf
  have hl := lv_entry ([.ref h0, .int x, .int w, .ref oa]) (n := 5) (Nat.le_of_ble_eq_true rfl)
  rw [lg_entry_eq]
  generalize (lg_sl ([.ref h0, .int x, .int w, .ref oa]) ++ List.replicate (5 - (lg_sl ([.ref h0, .int x, .int w, .ref oa])).length) Slot.unset).toArray = ls at hl ⊢
  have hl : lv_has ls 5 [(0, .ref h0), (1, .int x), (2, .int w), (3, .ref oa)] := hl
  have hP : va_P (dC, dI) vq_cl [(h0, .inr (0, [.ref aMo, .ref aSh, .ref aLa, .ref aDy, .ref aMa, .ref aKi, .int zCn, .ref aPi, .int zPc, .ref aLn, .int zTo])), (aPi, .inl ((cs 2), 4, .inr (.inr (.inr (.inr fPi))))), (pa, .inr (1, [.int zSl, .ref bLG, .ref bLS, .int zLy, .int zGr, .int zTk, .int zGt, .int zLt, .ref bLt, .ref bGS, .ref bGG, .ref bES, .ref bEG])), (oa, .inl ((cs 1), 1, .inr (.inl fO)))] s.heap := hP
  refine lv_aload_n hx hb d_LW_pileAt_0 rfl (lv_at hl 3 rfl) ?_
  refine lv_iconst (v := 0) hx hb d_LW_pileAt_1 (by decide) ?_
  refine lv_aload_n hx hb d_LW_pileAt_2 rfl (lv_at hl 0 rfl) ?_
  refine lv_iload_n hx hb d_LW_pileAt_3 rfl (lv_at hl 1 rfl) ?_
  refine lv_iload_n hx hb d_LW_pileAt_4 rfl (lv_at hl 2 rfl) ?_
  refine mx_ri (vx_runV (As := [.int x, .int w]) (rest := [.int 0, .ref oa]) ⟨hx, hb, hml, hown, hG⟩ (c_pileAt l hlT dC dI cs _ h0 aMo aSh aLa aDy aMa aKi aPi aLn zCn zPc zTo fPi pa bLG bLS bLt bGS bGG bES bEG zSl zLy zGr zTk zGt zLt x w hi hf hz) (cwV 2 hG (vq_gV vq_t412 vq_t413 vq_t414 vq_t1 vq_t415) rfl rfl rfl (by decide +kernel) ⟨Nat.le_of_ble_eq_true rfl, Nat.le_of_ble_eq_true rfl⟩) (vq_preVr (wc := [(h0, .inr (0, [.ref aMo, .ref aSh, .ref aLa, .ref aDy, .ref aMa, .ref aKi, .int zCn, .ref aPi, .int zPc, .ref aLn, .int zTo])), (aPi, .inl ((cs 2), 4, .inr (.inr (.inr (.inr fPi))))), (pa, .inr (1, [.int zSl, .ref bLG, .ref bLS, .int zLy, .int zGr, .int zTk, .int zGt, .int zLt, .ref bLt, .ref bGS, .ref bGG, .ref bES, .ref bEG]))]) (va_recv hK hP (ci := 0) (q0 := 0) rfl rfl) hCx hP (vq_wk hS hA) hA [0, 1, 2] rfl) rfl rfl hl.1 rfl (lv_room (Nat.le_of_ble_eq_true rfl)) d_LW_pileAt_5 ⟨Nat.le_of_ble_eq_true rfl, Nat.le_of_ble_eq_true rfl⟩) hP hS hA0 (fun E ce q9 H locs x_5 hP hS h91 h92 h93 => absurd (hX.symm.trans x_5) (fun h => nomatch h)) (fun r_5 H locs w_5 hP hS => ?_)
  refine W.widen (k := 1) (n := 6) (Nat.le_of_ble_eq_true rfl) (Nat.le_of_ble_eq_true rfl) ?_
  obtain ⟨rfl, w_5⟩ := w_5
  refine lv_i2l hx hb d_LW_pileAt_8 rfl ?_
  have hS := vq_wk hS hA
  refine va_last (D := (dC, dI)) hx hb hK hP hD hS 3 1 rfl rfl (vq_in 1 rfl (by decide) (by decide)) d_LW_pileAt_9 (fun H locs hP hD hS => ?_)
  have hP : va_P (dC, dI) vq_cl [(h0, .inr (0, [.ref aMo, .ref aSh, .ref aLa, .ref aDy, .ref aMa, .ref aKi, .int zCn, .ref aPi, .int zPc, .ref aLn, .int zTo])), (aPi, .inl ((cs 2), 4, .inr (.inr (.inr (.inr fPi))))), (pa, .inr (1, [.int zSl, .ref bLG, .ref bLS, .int zLy, .int zGr, .int zTk, .int zGt, .int zLt, .ref bLt, .ref bGS, .ref bGG, .ref bES, .ref bEG])), (oa, .inl ((cs 1), 1, .inr (.inl (vp_updL fO (0 : Int32).toNatClampNeg ((pileAtF w zSl zTk zLy zGr zGt).toInt64)))))] H := hP
  have hD : va_D A [(h0, .inr (0, [.ref aMo, .ref aSh, .ref aLa, .ref aDy, .ref aMa, .ref aKi, .int zCn, .ref aPi, .int zPc, .ref aLn, .int zTo])), (aPi, .inl ((cs 2), 4, .inr (.inr (.inr (.inr fPi))))), (pa, .inr (1, [.int zSl, .ref bLG, .ref bLS, .int zLy, .int zGr, .int zTk, .int zGt, .int zLt, .ref bLt, .ref bGS, .ref bGG, .ref bES, .ref bEG])), (oa, .inl ((cs 1), 1, .inr (.inl (vp_updL fO (0 : Int32).toNatClampNeg ((pileAtF w zSl zTk zLy zGr zGt).toInt64)))))] := hD
  refine lv_goto (tgt := 17) hx hb d_LW_pileAt_10 (by decide) ?_
  refine lv_iconst (v := 0) hx hb d_LW_pileAt_17 (by decide) ?_
  refine vx_ret ?_
  refine W.widen (k := 1) (n := 6) (Nat.le_of_ble_eq_true rfl) (Nat.le_of_ble_eq_true rfl) ?_
  have hP9 : va_P (dC, dI) vq_cl [(h0, .inr (0, [.ref aMo, .ref aSh, .ref aLa, .ref aDy, .ref aMa, .ref aKi, .int zCn, .ref aPi, .int zPc, .ref aLn, .int zTo])), (aPi, .inl ((cs 2), 4, .inr (.inr (.inr (.inr fPi))))), (pa, .inr (1, [.int zSl, .ref bLG, .ref bLS, .int zLy, .int zGr, .int zTk, .int zGt, .int zLt, .ref bLt, .ref bGS, .ref bGG, .ref bES, .ref bEG])), (oa, .inl ((cs 1), 1, .inr (.inl (vp_updL fO (0 : Int32).toNatClampNeg ((pileAtF w zSl zTk zLy zGr zGt).toInt64)))))] _ := hP.sub [0, 1, 2, 3] rfl
  have hD9 : va_D A [(h0, .inr (0, [.ref aMo, .ref aSh, .ref aLa, .ref aDy, .ref aMa, .ref aKi, .int zCn, .ref aPi, .int zPc, .ref aLn, .int zTo])), (aPi, .inl ((cs 2), 4, .inr (.inr (.inr (.inr fPi))))), (pa, .inr (1, [.int zSl, .ref bLG, .ref bLS, .int zLy, .int zGr, .int zTk, .int zGt, .int zLt, .ref bLt, .ref bGS, .ref bGG, .ref bES, .ref bEG])), (oa, .inl ((cs 1), 1, .inr (.inl (vp_updL fO (0 : Int32).toNatClampNeg ((pileAtF w zSl zTk zLy zGr zGt).toInt64)))))] := hD.sub [0, 1, 2, 3] (by decide) rfl
  exact W.iret (v := 0) hx hb hr (fun t ht hW => ⟨⟨0, (), rfl, rfl, ⟨by rw [ht]; exact hP9, hD9⟩⟩, hS.F ht⟩) hS.2.2 d_LW_pileAt_18
set_option maxHeartbeats 4000000 in
set_option maxRecDepth 100000 in
/-- law.pileAt, where it is refused -/
theorem h_pileAt_s (l : Launch) (hlT : l.stackTraces = false) (dC : Nat → ClassId) (dI : Nat → Nat → Nat) (cs : Nat → ClassId) (sz : Nat) (h0 : Nat) (aMo : Nat) (aSh : Nat) (aLa : Nat) (aDy : Nat) (aMa : Nat) (aKi : Nat) (aPi : Nat) (aLn : Nat) (zCn : Int32) (zPc : Int32) (zTo : Int32) (fPi : Nat → Option Nat) (pa : Nat) (bLG : Nat) (bLS : Nat) (bLt : Nat) (bGS : Nat) (bGG : Nat) (bES : Nat) (bEG : Nat) (zSl : Int32) (zLy : Int32) (zGr : Int32) (zTk : Int32) (zGt : Int32) (zLt : Int32) (x : Int32) (w : Int32) (oa : Nat) (fO : Nat → Int64) (E0 : String) (hi : okP x) (hf : fPi x.toNatClampNeg = some pa) (hz : ¬ zPc ≤ x) (hX : X_pileAt w = some E0) (hE : E0 = xI) : vx_Met l y_LW_pileAt w_LW_pileAt ({ frames := 7, cells := 1, slots := 6, locals := 105 }) (vq_PreR (dC, dI) cs [(h0, .inr (0, [.ref aMo, .ref aSh, .ref aLa, .ref aDy, .ref aMa, .ref aKi, .int zCn, .ref aPi, .int zPc, .ref aLn, .int zTo])), (aPi, .inl ((cs 2), 4, .inr (.inr (.inr (.inr fPi))))), (pa, .inr (1, [.int zSl, .ref bLG, .ref bLS, .int zLy, .int zGr, .int zTk, .int zGt, .int zLt, .ref bLt, .ref bGS, .ref bGG, .ref bES, .ref bEG])), (oa, .inl ((cs 1), 1, .inr (.inl fO)))] sz [.ref h0, .int x, .int w, .ref oa]) (va_Qi (fun (r : Int32) (_ : Unit) => r = cdF [xI] E0) (fun _ _ => True) (va_A [] sz)) (vq_X (fun E => False) sz) 1 6 (va_A [] sz) := by
  refine vx_ofWH (cc := b_LW_pileAt) (maxL := 5) (ret := (some .int)) (hh := [(0, 10, 13, 13)]) (by decide) rfl ?_
  intro p e s m args below meth c s₁ B hml hv
  have htab : c.exceptionTable.toList = tableOf [(0, 10, 13, 13)] := vx_table (x := y_LW_pileAt) B (atoms_spec (ws := w_LW_pileAt) B.pre _ List.mem_cons_self)
  obtain ⟨rfl, hsz, hP, hCx⟩ := hv
  have hx := B.exec
  have hb := B.bytes
  have hr := B.returns
  have hG := vq_hG (atoms_spec (ws := w_LW_pileAt) B.pre)
  have hown : s.vm.findClass R_LW = some m.cls := findClass_of_methodNamed B.named
  have hlocks := B.notSynchronized
  subst hsz
  have hK := hCx.1
  have hA : ∀ q : Nat, s.heap.size ≤ q → va_A [] s.heap.size q := fun q h => Or.inr h
  have hA0 : ∀ q : Nat, s.heap.size ≤ q → va_A [] s.heap.size q := fun q h => Or.inr h
  have hS : va_S (va_A [] s.heap.size) s.heap s.heap [] := va_S.rf
  have hl := lv_entry ([.ref h0, .int x, .int w, .ref oa]) (n := 5) (Nat.le_of_ble_eq_true rfl)
  rw [lg_entry_eq]
  generalize (lg_sl ([.ref h0, .int x, .int w, .ref oa]) ++ List.replicate (5 - (lg_sl ([.ref h0, .int x, .int w, .ref oa])).length) Slot.unset).toArray = ls at hl ⊢
  have hl : lv_has ls 5 [(0, .ref h0), (1, .int x), (2, .int w), (3, .ref oa)] := hl
  have hP : va_P (dC, dI) vq_cl [(h0, .inr (0, [.ref aMo, .ref aSh, .ref aLa, .ref aDy, .ref aMa, .ref aKi, .int zCn, .ref aPi, .int zPc, .ref aLn, .int zTo])), (aPi, .inl ((cs 2), 4, .inr (.inr (.inr (.inr fPi))))), (pa, .inr (1, [.int zSl, .ref bLG, .ref bLS, .int zLy, .int zGr, .int zTk, .int zGt, .int zLt, .ref bLt, .ref bGS, .ref bGG, .ref bES, .ref bEG])), (oa, .inl ((cs 1), 1, .inr (.inl fO)))] s.heap := hP
  refine lv_aload_n hx hb d_LW_pileAt_0 rfl (lv_at hl 3 rfl) ?_
  refine lv_iconst (v := 0) hx hb d_LW_pileAt_1 (by decide) ?_
  refine lv_aload_n hx hb d_LW_pileAt_2 rfl (lv_at hl 0 rfl) ?_
  refine lv_iload_n hx hb d_LW_pileAt_3 rfl (lv_at hl 1 rfl) ?_
  refine lv_iload_n hx hb d_LW_pileAt_4 rfl (lv_at hl 2 rfl) ?_
  refine mx_ri (vx_runV (As := [.int x, .int w]) (rest := [.int 0, .ref oa]) ⟨hx, hb, hml, hown, hG⟩ (c_pileAt l hlT dC dI cs _ h0 aMo aSh aLa aDy aMa aKi aPi aLn zCn zPc zTo fPi pa bLG bLS bLt bGS bGG bES bEG zSl zLy zGr zTk zGt zLt x w hi hf hz) (cwV 2 hG (vq_gV vq_t412 vq_t413 vq_t414 vq_t1 vq_t415) rfl rfl rfl (by decide +kernel) ⟨Nat.le_of_ble_eq_true rfl, Nat.le_of_ble_eq_true rfl⟩) (vq_preVr (wc := [(h0, .inr (0, [.ref aMo, .ref aSh, .ref aLa, .ref aDy, .ref aMa, .ref aKi, .int zCn, .ref aPi, .int zPc, .ref aLn, .int zTo])), (aPi, .inl ((cs 2), 4, .inr (.inr (.inr (.inr fPi))))), (pa, .inr (1, [.int zSl, .ref bLG, .ref bLS, .int zLy, .int zGr, .int zTk, .int zGt, .int zLt, .ref bLt, .ref bGS, .ref bGG, .ref bES, .ref bEG]))]) (va_recv hK hP (ci := 0) (q0 := 0) rfl rfl) hCx hP (vq_wk hS hA) hA [0, 1, 2] rfl) rfl rfl hl.1 rfl (lv_room (Nat.le_of_ble_eq_true rfl)) d_LW_pileAt_5 ⟨Nat.le_of_ble_eq_true rfl, Nat.le_of_ble_eq_true rfl⟩) hP hS hA0 (fun E ce q9 H locs x_5 hP hS h91 h92 h93 => ?_) (fun r_5 H locs w_5 hP hS => ?_)
  · skip
    obtain rfl := Option.some.inj (hX.symm.trans x_5)
    obtain rfl := hE
    · skip
      refine vx_catch (name := xI) hown [] ⟨0, 10, 13, 13⟩ [] htab (fun _ h => absurd h List.not_mem_nil) rfl (by decide) (hG _ vq_t137) (va_Nw.use rfl (hCx.2.2.2.2.2.1 _ (by decide))) h91 h92 h93 ?_
      refine W.eq (g2 := F0 m 13 ls [.ref q9]) rfl ?_
      refine lv_astore (lv' := [(4, .ref q9), (0, .ref h0), (1, .int x), (2, .int w), (3, .ref oa)]) hx hb d_LW_pileAt_13 hl (by decide) rfl (fun ls hl => ?_)
      refine lv_iconst (v := 1) hx hb d_LW_pileAt_15 (by decide) ?_
      refine vx_ret ?_
      refine W.widen (k := 1) (n := 6) (Nat.le_of_ble_eq_true rfl) (Nat.le_of_ble_eq_true rfl) ?_
      exact W.iret (v := 1) hx hb hr (fun t ht hW => ⟨⟨1, (), rfl, by decide +kernel, trivial⟩, hS.F ht⟩) hS.2.2 d_LW_pileAt_16
  exact absurd (hX.symm.trans w_5.2) (fun h => nomatch h)
set_option maxHeartbeats 4000000 in
set_option maxRecDepth 100000 in
/-- law.pileAt, no such pile -/
theorem h_pileAt_b (l : Launch) (hlT : l.stackTraces = false) (dC : Nat → ClassId) (dI : Nat → Nat → Nat) (cs : Nat → ClassId) (sz : Nat) (h0 : Nat) (aMo : Nat) (aSh : Nat) (aLa : Nat) (aDy : Nat) (aMa : Nat) (aKi : Nat) (aPi : Nat) (aLn : Nat) (zCn : Int32) (zPc : Int32) (zTo : Int32) (x : Int32) (w : Int32) (oa : Nat) (fO : Nat → Int64) (hi : okP x → zPc ≤ x) : vx_Met l y_LW_pileAt w_LW_pileAt ({ frames := 8, cells := 1, slots := 6, locals := 127 }) (vq_PreR (dC, dI) cs [(h0, .inr (0, [.ref aMo, .ref aSh, .ref aLa, .ref aDy, .ref aMa, .ref aKi, .int zCn, .ref aPi, .int zPc, .ref aLn, .int zTo])), (oa, .inl ((cs 1), 1, .inr (.inl fO)))] sz [.ref h0, .int x, .int w, .ref oa]) (va_Qi (fun (r : Int32) (_ : Unit) => r = 1) (fun _ _ => True) (va_A [] sz)) (vq_X (fun E => False) sz) 1 6 (va_A [] sz) := by
  refine vx_ofWH (cc := b_LW_pileAt) (maxL := 5) (ret := (some .int)) (hh := [(0, 10, 13, 13)]) (by decide) rfl ?_
  intro p e s m args below meth c s₁ B hml hv
  have htab : c.exceptionTable.toList = tableOf [(0, 10, 13, 13)] := vx_table (x := y_LW_pileAt) B (atoms_spec (ws := w_LW_pileAt) B.pre _ List.mem_cons_self)
  obtain ⟨rfl, hsz, hP, hCx⟩ := hv
  have hx := B.exec
  have hb := B.bytes
  have hr := B.returns
  have hG := vq_hG (atoms_spec (ws := w_LW_pileAt) B.pre)
  have hown : s.vm.findClass R_LW = some m.cls := findClass_of_methodNamed B.named
  have hlocks := B.notSynchronized
  subst hsz
  have hK := hCx.1
  have hA : ∀ q : Nat, s.heap.size ≤ q → va_A [] s.heap.size q := fun q h => Or.inr h
  have hA0 : ∀ q : Nat, s.heap.size ≤ q → va_A [] s.heap.size q := fun q h => Or.inr h
  have hS : va_S (va_A [] s.heap.size) s.heap s.heap [] := va_S.rf
  have hl := lv_entry ([.ref h0, .int x, .int w, .ref oa]) (n := 5) (Nat.le_of_ble_eq_true rfl)
  rw [lg_entry_eq]
  generalize (lg_sl ([.ref h0, .int x, .int w, .ref oa]) ++ List.replicate (5 - (lg_sl ([.ref h0, .int x, .int w, .ref oa])).length) Slot.unset).toArray = ls at hl ⊢
  have hl : lv_has ls 5 [(0, .ref h0), (1, .int x), (2, .int w), (3, .ref oa)] := hl
  have hP : va_P (dC, dI) vq_cl [(h0, .inr (0, [.ref aMo, .ref aSh, .ref aLa, .ref aDy, .ref aMa, .ref aKi, .int zCn, .ref aPi, .int zPc, .ref aLn, .int zTo])), (oa, .inl ((cs 1), 1, .inr (.inl fO)))] s.heap := hP
  refine lv_aload_n hx hb d_LW_pileAt_0 rfl (lv_at hl 3 rfl) ?_
  refine lv_iconst (v := 0) hx hb d_LW_pileAt_1 (by decide) ?_
  refine lv_aload_n hx hb d_LW_pileAt_2 rfl (lv_at hl 0 rfl) ?_
  refine lv_iload_n hx hb d_LW_pileAt_3 rfl (lv_at hl 1 rfl) ?_
  refine lv_iload_n hx hb d_LW_pileAt_4 rfl (lv_at hl 2 rfl) ?_
  refine mx_rv (vx_runV (As := [.int x, .int w]) (rest := [.int 0, .ref oa]) ⟨hx, hb, hml, hown, hG⟩ (c_pileAt_bad l hlT dC dI cs _ h0 aMo aSh aLa aDy aMa aKi aPi aLn zCn zPc zTo x w hi) (cwV 2 hG (vq_gV vq_t412 vq_t413 vq_t414 vq_t1 vq_t415) rfl rfl rfl (by decide +kernel) ⟨Nat.le_of_ble_eq_true rfl, Nat.le_of_ble_eq_true rfl⟩) (vq_preVr (wc := [(h0, .inr (0, [.ref aMo, .ref aSh, .ref aLa, .ref aDy, .ref aMa, .ref aKi, .int zCn, .ref aPi, .int zPc, .ref aLn, .int zTo]))]) (va_recv hK hP (ci := 0) (q0 := 0) rfl rfl) hCx hP (vq_wk hS hA) hA [0] rfl) rfl rfl hl.1 rfl (lv_room (Nat.le_of_ble_eq_true rfl)) d_LW_pileAt_5 ⟨Nat.le_of_ble_eq_true rfl, Nat.le_of_ble_eq_true rfl⟩) hP hS hA0 (fun E ce q9 H locs x_5 hP hS h91 h92 h93 => ?_) (fun H locs w_5 hP hS => ?_)
  · skip
    obtain rfl := x_5
    · skip
      refine vx_catch (name := xI) hown [] ⟨0, 10, 13, 13⟩ [] htab (fun _ h => absurd h List.not_mem_nil) rfl (by decide) (hG _ vq_t137) (va_Nw.use rfl (hCx.2.2.2.2.2.1 _ (by decide))) h91 h92 h93 ?_
      refine W.eq (g2 := F0 m 13 ls [.ref q9]) rfl ?_
      refine lv_astore (lv' := [(4, .ref q9), (0, .ref h0), (1, .int x), (2, .int w), (3, .ref oa)]) hx hb d_LW_pileAt_13 hl (by decide) rfl (fun ls hl => ?_)
      refine lv_iconst (v := 1) hx hb d_LW_pileAt_15 (by decide) ?_
      refine vx_ret ?_
      refine W.widen (k := 1) (n := 6) (Nat.le_of_ble_eq_true rfl) (Nat.le_of_ble_eq_true rfl) ?_
      exact W.iret (v := 1) hx hb hr (fun t ht hW => ⟨⟨1, (), rfl, rfl, trivial⟩, hS.F ht⟩) hS.2.2 d_LW_pileAt_16
  exact w_5.elim
set_option maxHeartbeats 4000000 in
set_option maxRecDepth 100000 in
/-- law.mix, where it goes through -/
theorem h_mix_n (l : Launch) (hlT : l.stackTraces = false) (dC : Nat → ClassId) (dI : Nat → Nat → Nat) (cs : Nat → ClassId) (sz : Nat) (h0 : Nat) (aMo : Nat) (aSh : Nat) (aLa : Nat) (aDy : Nat) (aMa : Nat) (aKi : Nat) (aPi : Nat) (aLn : Nat) (zCn : Int32) (zPc : Int32) (zTo : Int32) (fSh : Nat → Int32) (x : Int32) (y : Int32) (k : Int32) (aim : Int32) (q : Int32) (oa : Nat) (fO : Nat → Int64) (hX : X_mix x y k aim q (fSh ((x * 4) + k).toNatClampNeg) (fSh ((y * 4) + k).toNatClampNeg) = none) : vx_Met l y_LW_mix w_LW_mix ({ frames := 8, cells := 6, slots := 36, locals := 131 }) (vq_Pre (dC, dI) cs [(h0, .inr (0, [.ref aMo, .ref aSh, .ref aLa, .ref aDy, .ref aMa, .ref aKi, .int zCn, .ref aPi, .int zPc, .ref aLn, .int zTo])), (aSh, .inl ((cs 0), 32, .inl fSh)), (oa, .inl ((cs 1), 1, .inr (.inl fO)))] sz [.ref h0, .int x, .int y, .int k, .int aim, .int q, .ref oa]) (va_Qi (fun (r : Int32) (_ : Unit) => r = 0) (vq_B (dC, dI) cs (va_A [(h0, .inr (0, [.ref aMo, .ref aSh, .ref aLa, .ref aDy, .ref aMa, .ref aKi, .int zCn, .ref aPi, .int zPc, .ref aLn, .int zTo])), (aSh, .inl ((cs 0), 32, .inl fSh)), (oa, .inl ((cs 1), 1, .inr (.inl fO)))] sz) (fun _ => [(h0, .inr (0, [.ref aMo, .ref aSh, .ref aLa, .ref aDy, .ref aMa, .ref aKi, .int zCn, .ref aPi, .int zPc, .ref aLn, .int zTo])), (aSh, .inl ((cs 0), 32, .inl fSh)), (oa, .inl ((cs 1), 1, .inr (.inl (vp_updL fO (0 : Int32).toNatClampNeg (lowF (aim - (fSh ((y * 4) + k).toNatClampNeg)).toInt64 ((fSh ((x * 4) + k).toNatClampNeg) - (fSh ((y * 4) + k).toNatClampNeg)).toInt64 q)))))])) (va_A [(h0, .inr (0, [.ref aMo, .ref aSh, .ref aLa, .ref aDy, .ref aMa, .ref aKi, .int zCn, .ref aPi, .int zPc, .ref aLn, .int zTo])), (aSh, .inl ((cs 0), 32, .inl fSh)), (oa, .inl ((cs 1), 1, .inr (.inl fO)))] sz)) (vq_X (fun E => False) sz) 6 36 (va_A [(h0, .inr (0, [.ref aMo, .ref aSh, .ref aLa, .ref aDy, .ref aMa, .ref aKi, .int zCn, .ref aPi, .int zPc, .ref aLn, .int zTo])), (aSh, .inl ((cs 0), 32, .inl fSh)), (oa, .inl ((cs 1), 1, .inr (.inl fO)))] sz) := by
  refine vx_ofWH (cc := b_LW_mix) (maxL := 8) (ret := (some .int)) (hh := [(0, 15, 18, 13), (0, 15, 22, 15), (0, 15, 26, 38)]) (by decide) rfl ?_
  intro p e s m args below meth c s₁ B hml hv
  have htab : c.exceptionTable.toList = tableOf [(0, 15, 18, 13), (0, 15, 22, 15), (0, 15, 26, 38)] := vx_table (x := y_LW_mix) B (atoms_spec (ws := w_LW_mix) B.pre _ List.mem_cons_self)
  obtain ⟨rfl, hsz, hP, hD0, hCx⟩ := hv
  have hx := B.exec
  have hb := B.bytes
  have hr := B.returns
  have hG := vq_hG (atoms_spec (ws := w_LW_mix) B.pre)
  have hown : s.vm.findClass R_LW = some m.cls := findClass_of_methodNamed B.named
  have hlocks := B.notSynchronized
  subst hsz
  have hK := hCx.1
  have hD := hD0.self (sz := s.heap.size)
  generalize hAe : va_A [(h0, .inr (0, [.ref aMo, .ref aSh, .ref aLa, .ref aDy, .ref aMa, .ref aKi, .int zCn, .ref aPi, .int zPc, .ref aLn, .int zTo])), (aSh, .inl ((cs 0), 32, .inl fSh)), (oa, .inl ((cs 1), 1, .inr (.inl fO)))] s.heap.size = A at hD hCx ⊢
  have hA : ∀ q : Nat, s.heap.size ≤ q → A q := fun q h => by rw [← hAe]; exact Or.inr h
  have hA0 : ∀ q : Nat, s.heap.size ≤ q → va_A [] s.heap.size q := fun q h => Or.inr h
  have hS : va_S (va_A [] s.heap.size) s.heap s.heap [] := va_S.rf
  have hl := lv_entry ([.ref h0, .int x, .int y, .int k, .int aim, .int q, .ref oa]) (n := 8) (Nat.le_of_ble_eq_true rfl)
  rw [lg_entry_eq]
  generalize (lg_sl ([.ref h0, .int x, .int y, .int k, .int aim, .int q, .ref oa]) ++ List.replicate (8 - (lg_sl ([.ref h0, .int x, .int y, .int k, .int aim, .int q, .ref oa])).length) Slot.unset).toArray = ls at hl ⊢
  have hl : lv_has ls 8 [(0, .ref h0), (1, .int x), (2, .int y), (3, .int k), (4, .int aim), (5, .int q), (6, .ref oa)] := hl
  have hP : va_P (dC, dI) vq_cl [(h0, .inr (0, [.ref aMo, .ref aSh, .ref aLa, .ref aDy, .ref aMa, .ref aKi, .int zCn, .ref aPi, .int zPc, .ref aLn, .int zTo])), (aSh, .inl ((cs 0), 32, .inl fSh)), (oa, .inl ((cs 1), 1, .inr (.inl fO)))] s.heap := hP
  refine lv_aload hx hb d_LW_mix_0 (lv_at hl 6 rfl) ?_
  refine lv_iconst (v := 0) hx hb d_LW_mix_2 (by decide) ?_
  refine lv_aload_n hx hb d_LW_mix_3 rfl (lv_at hl 0 rfl) ?_
  refine lv_iload_n hx hb d_LW_mix_4 rfl (lv_at hl 1 rfl) ?_
  refine lv_iload_n hx hb d_LW_mix_5 rfl (lv_at hl 2 rfl) ?_
  refine lv_iload_n hx hb d_LW_mix_6 rfl (lv_at hl 3 rfl) ?_
  refine lv_iload hx hb d_LW_mix_7 (lv_at hl 4 rfl) ?_
  refine lv_iload hx hb d_LW_mix_9 (lv_at hl 5 rfl) ?_
  refine mx_rl (vx_runV (As := [.int x, .int y, .int k, .int aim, .int q]) (rest := [.int 0, .ref oa]) ⟨hx, hb, hml, hown, hG⟩ (c_mix l hlT dC dI cs _ h0 aMo aSh aLa aDy aMa aKi aPi aLn zCn zPc zTo fSh x y k aim q) (cwV 5 hG (vq_gV vq_t420 vq_t421 vq_t422 vq_t1 vq_t423) rfl rfl rfl (by decide +kernel) ⟨Nat.le_of_ble_eq_true rfl, Nat.le_of_ble_eq_true rfl⟩) (vq_preVr (wc := [(h0, .inr (0, [.ref aMo, .ref aSh, .ref aLa, .ref aDy, .ref aMa, .ref aKi, .int zCn, .ref aPi, .int zPc, .ref aLn, .int zTo])), (aSh, .inl ((cs 0), 32, .inl fSh))]) (va_recv hK hP (ci := 0) (q0 := 0) rfl rfl) hCx hP (vq_wk hS hA) hA [0, 1] rfl) rfl rfl hl.1 rfl (lv_room (Nat.le_of_ble_eq_true rfl)) d_LW_mix_11 ⟨Nat.le_of_ble_eq_true rfl, Nat.le_of_ble_eq_true rfl⟩) hP hS hA0 (fun E ce q9 H locs x_11 hP hS h91 h92 h93 => absurd (hX.symm.trans x_11) (fun h => nomatch h)) (fun r_11 H locs w_11 hP hS => ?_)
  refine W.widen (k := 6) (n := 36) (Nat.le_of_ble_eq_true rfl) (Nat.le_of_ble_eq_true rfl) ?_
  obtain ⟨rfl, w_11⟩ := w_11
  have hS := vq_wk hS hA
  refine va_last (D := (dC, dI)) hx hb hK hP hD hS 2 1 rfl rfl (vq_in 1 rfl (by decide) (by decide)) d_LW_mix_14 (fun H locs hP hD hS => ?_)
  have hP : va_P (dC, dI) vq_cl [(h0, .inr (0, [.ref aMo, .ref aSh, .ref aLa, .ref aDy, .ref aMa, .ref aKi, .int zCn, .ref aPi, .int zPc, .ref aLn, .int zTo])), (aSh, .inl ((cs 0), 32, .inl fSh)), (oa, .inl ((cs 1), 1, .inr (.inl (vp_updL fO (0 : Int32).toNatClampNeg (lowF (aim - (fSh ((y * 4) + k).toNatClampNeg)).toInt64 ((fSh ((x * 4) + k).toNatClampNeg) - (fSh ((y * 4) + k).toNatClampNeg)).toInt64 q)))))] H := hP
  have hD : va_D A [(h0, .inr (0, [.ref aMo, .ref aSh, .ref aLa, .ref aDy, .ref aMa, .ref aKi, .int zCn, .ref aPi, .int zPc, .ref aLn, .int zTo])), (aSh, .inl ((cs 0), 32, .inl fSh)), (oa, .inl ((cs 1), 1, .inr (.inl (vp_updL fO (0 : Int32).toNatClampNeg (lowF (aim - (fSh ((y * 4) + k).toNatClampNeg)).toInt64 ((fSh ((x * 4) + k).toNatClampNeg) - (fSh ((y * 4) + k).toNatClampNeg)).toInt64 q)))))] := hD
  refine lv_goto (tgt := 30) hx hb d_LW_mix_15 (by decide) ?_
  refine lv_iconst (v := 0) hx hb d_LW_mix_30 (by decide) ?_
  refine vx_ret ?_
  refine W.widen (k := 6) (n := 36) (Nat.le_of_ble_eq_true rfl) (Nat.le_of_ble_eq_true rfl) ?_
  have hP9 : va_P (dC, dI) vq_cl [(h0, .inr (0, [.ref aMo, .ref aSh, .ref aLa, .ref aDy, .ref aMa, .ref aKi, .int zCn, .ref aPi, .int zPc, .ref aLn, .int zTo])), (aSh, .inl ((cs 0), 32, .inl fSh)), (oa, .inl ((cs 1), 1, .inr (.inl (vp_updL fO (0 : Int32).toNatClampNeg (lowF (aim - (fSh ((y * 4) + k).toNatClampNeg)).toInt64 ((fSh ((x * 4) + k).toNatClampNeg) - (fSh ((y * 4) + k).toNatClampNeg)).toInt64 q)))))] _ := hP.sub [0, 1, 2] rfl
  have hD9 : va_D A [(h0, .inr (0, [.ref aMo, .ref aSh, .ref aLa, .ref aDy, .ref aMa, .ref aKi, .int zCn, .ref aPi, .int zPc, .ref aLn, .int zTo])), (aSh, .inl ((cs 0), 32, .inl fSh)), (oa, .inl ((cs 1), 1, .inr (.inl (vp_updL fO (0 : Int32).toNatClampNeg (lowF (aim - (fSh ((y * 4) + k).toNatClampNeg)).toInt64 ((fSh ((x * 4) + k).toNatClampNeg) - (fSh ((y * 4) + k).toNatClampNeg)).toInt64 q)))))] := hD.sub [0, 1, 2] (by decide) rfl
  exact W.iret (v := 0) hx hb hr (fun t ht hW => ⟨⟨0, (), rfl, rfl, ⟨by rw [ht]; exact hP9, hD9⟩⟩, hS.F ht⟩) hS.2.2 d_LW_mix_31
set_option maxHeartbeats 4000000 in
set_option maxRecDepth 100000 in
/-- law.mix, where it is refused -/
theorem h_mix_s (l : Launch) (hlT : l.stackTraces = false) (dC : Nat → ClassId) (dI : Nat → Nat → Nat) (cs : Nat → ClassId) (sz : Nat) (h0 : Nat) (aMo : Nat) (aSh : Nat) (aLa : Nat) (aDy : Nat) (aMa : Nat) (aKi : Nat) (aPi : Nat) (aLn : Nat) (zCn : Int32) (zPc : Int32) (zTo : Int32) (fSh : Nat → Int32) (x : Int32) (y : Int32) (k : Int32) (aim : Int32) (q : Int32) (oa : Nat) (fO : Nat → Int64) (E0 : String) (hX : X_mix x y k aim q (fSh ((x * 4) + k).toNatClampNeg) (fSh ((y * 4) + k).toNatClampNeg) = some E0) (hE : E0 = xI ∨ E0 = xA ∨ E0 = xU) : vx_Met l y_LW_mix w_LW_mix ({ frames := 8, cells := 6, slots := 36, locals := 131 }) (vq_PreR (dC, dI) cs [(h0, .inr (0, [.ref aMo, .ref aSh, .ref aLa, .ref aDy, .ref aMa, .ref aKi, .int zCn, .ref aPi, .int zPc, .ref aLn, .int zTo])), (aSh, .inl ((cs 0), 32, .inl fSh)), (oa, .inl ((cs 1), 1, .inr (.inl fO)))] sz [.ref h0, .int x, .int y, .int k, .int aim, .int q, .ref oa]) (va_Qi (fun (r : Int32) (_ : Unit) => r = cdF [xI, xA, xU] E0) (fun _ _ => True) (va_A [] sz)) (vq_X (fun E => False) sz) 6 36 (va_A [] sz) := by
  refine vx_ofWH (cc := b_LW_mix) (maxL := 8) (ret := (some .int)) (hh := [(0, 15, 18, 13), (0, 15, 22, 15), (0, 15, 26, 38)]) (by decide) rfl ?_
  intro p e s m args below meth c s₁ B hml hv
  have htab : c.exceptionTable.toList = tableOf [(0, 15, 18, 13), (0, 15, 22, 15), (0, 15, 26, 38)] := vx_table (x := y_LW_mix) B (atoms_spec (ws := w_LW_mix) B.pre _ List.mem_cons_self)
  obtain ⟨rfl, hsz, hP, hCx⟩ := hv
  have hx := B.exec
  have hb := B.bytes
  have hr := B.returns
  have hG := vq_hG (atoms_spec (ws := w_LW_mix) B.pre)
  have hown : s.vm.findClass R_LW = some m.cls := findClass_of_methodNamed B.named
  have hlocks := B.notSynchronized
  subst hsz
  have hK := hCx.1
  have hA : ∀ q : Nat, s.heap.size ≤ q → va_A [] s.heap.size q := fun q h => Or.inr h
  have hA0 : ∀ q : Nat, s.heap.size ≤ q → va_A [] s.heap.size q := fun q h => Or.inr h
  have hS : va_S (va_A [] s.heap.size) s.heap s.heap [] := va_S.rf
  have hl := lv_entry ([.ref h0, .int x, .int y, .int k, .int aim, .int q, .ref oa]) (n := 8) (Nat.le_of_ble_eq_true rfl)
  rw [lg_entry_eq]
  generalize (lg_sl ([.ref h0, .int x, .int y, .int k, .int aim, .int q, .ref oa]) ++ List.replicate (8 - (lg_sl ([.ref h0, .int x, .int y, .int k, .int aim, .int q, .ref oa])).length) Slot.unset).toArray = ls at hl ⊢
  have hl : lv_has ls 8 [(0, .ref h0), (1, .int x), (2, .int y), (3, .int k), (4, .int aim), (5, .int q), (6, .ref oa)] := hl
  have hP : va_P (dC, dI) vq_cl [(h0, .inr (0, [.ref aMo, .ref aSh, .ref aLa, .ref aDy, .ref aMa, .ref aKi, .int zCn, .ref aPi, .int zPc, .ref aLn, .int zTo])), (aSh, .inl ((cs 0), 32, .inl fSh)), (oa, .inl ((cs 1), 1, .inr (.inl fO)))] s.heap := hP
  refine lv_aload hx hb d_LW_mix_0 (lv_at hl 6 rfl) ?_
  refine lv_iconst (v := 0) hx hb d_LW_mix_2 (by decide) ?_
  refine lv_aload_n hx hb d_LW_mix_3 rfl (lv_at hl 0 rfl) ?_
  refine lv_iload_n hx hb d_LW_mix_4 rfl (lv_at hl 1 rfl) ?_
  refine lv_iload_n hx hb d_LW_mix_5 rfl (lv_at hl 2 rfl) ?_
  refine lv_iload_n hx hb d_LW_mix_6 rfl (lv_at hl 3 rfl) ?_
  refine lv_iload hx hb d_LW_mix_7 (lv_at hl 4 rfl) ?_
  refine lv_iload hx hb d_LW_mix_9 (lv_at hl 5 rfl) ?_
  refine mx_rl (vx_runV (As := [.int x, .int y, .int k, .int aim, .int q]) (rest := [.int 0, .ref oa]) ⟨hx, hb, hml, hown, hG⟩ (c_mix l hlT dC dI cs _ h0 aMo aSh aLa aDy aMa aKi aPi aLn zCn zPc zTo fSh x y k aim q) (cwV 5 hG (vq_gV vq_t420 vq_t421 vq_t422 vq_t1 vq_t423) rfl rfl rfl (by decide +kernel) ⟨Nat.le_of_ble_eq_true rfl, Nat.le_of_ble_eq_true rfl⟩) (vq_preVr (wc := [(h0, .inr (0, [.ref aMo, .ref aSh, .ref aLa, .ref aDy, .ref aMa, .ref aKi, .int zCn, .ref aPi, .int zPc, .ref aLn, .int zTo])), (aSh, .inl ((cs 0), 32, .inl fSh))]) (va_recv hK hP (ci := 0) (q0 := 0) rfl rfl) hCx hP (vq_wk hS hA) hA [0, 1] rfl) rfl rfl hl.1 rfl (lv_room (Nat.le_of_ble_eq_true rfl)) d_LW_mix_11 ⟨Nat.le_of_ble_eq_true rfl, Nat.le_of_ble_eq_true rfl⟩) hP hS hA0 (fun E ce q9 H locs x_11 hP hS h91 h92 h93 => ?_) (fun r_11 H locs w_11 hP hS => ?_)
  · skip
    obtain rfl := Option.some.inj (hX.symm.trans x_11)
    rcases hE with rfl | rfl | rfl
    · skip
      refine vx_catch (name := xI) hown [] ⟨0, 15, 18, 13⟩ [⟨0, 15, 22, 15⟩, ⟨0, 15, 26, 38⟩] htab (fun _ h => absurd h List.not_mem_nil) rfl (by decide) (hG _ vq_t137) (va_Nw.use rfl (hCx.2.2.2.2.2.1 _ (by decide))) h91 h92 h93 ?_
      refine W.eq (g2 := F0 m 18 ls [.ref q9]) rfl ?_
      refine lv_astore (lv' := [(7, .ref q9), (0, .ref h0), (1, .int x), (2, .int y), (3, .int k), (4, .int aim), (5, .int q), (6, .ref oa)]) hx hb d_LW_mix_18 hl (by decide) rfl (fun ls hl => ?_)
      refine lv_iconst (v := 1) hx hb d_LW_mix_20 (by decide) ?_
      refine vx_ret ?_
      refine W.widen (k := 6) (n := 36) (Nat.le_of_ble_eq_true rfl) (Nat.le_of_ble_eq_true rfl) ?_
      exact W.iret (v := 1) hx hb hr (fun t ht hW => ⟨⟨1, (), rfl, by decide +kernel, trivial⟩, hS.F ht⟩) hS.2.2 d_LW_mix_21
    · skip
      refine vx_catch (name := xA) hown [⟨0, 15, 18, 13⟩] ⟨0, 15, 22, 15⟩ [⟨0, 15, 26, 38⟩] htab (List.forall_mem_cons.mpr ⟨Or.inr ⟨by decide, xI, hG _ vq_t137, hCx.2.2.2.2.2.2.1 _ (by decide) _ (by decide) (by decide)⟩, fun _ h => absurd h List.not_mem_nil⟩) rfl (by decide) (hG _ vq_t138) (va_Nw.use rfl (hCx.2.2.2.2.2.1 _ (by decide))) h91 h92 h93 ?_
      refine W.eq (g2 := F0 m 22 ls [.ref q9]) rfl ?_
      refine lv_astore (lv' := [(7, .ref q9), (0, .ref h0), (1, .int x), (2, .int y), (3, .int k), (4, .int aim), (5, .int q), (6, .ref oa)]) hx hb d_LW_mix_22 hl (by decide) rfl (fun ls hl => ?_)
      refine lv_iconst (v := 2) hx hb d_LW_mix_24 (by decide) ?_
      refine vx_ret ?_
      refine W.widen (k := 6) (n := 36) (Nat.le_of_ble_eq_true rfl) (Nat.le_of_ble_eq_true rfl) ?_
      exact W.iret (v := 2) hx hb hr (fun t ht hW => ⟨⟨2, (), rfl, by decide +kernel, trivial⟩, hS.F ht⟩) hS.2.2 d_LW_mix_25
    · skip
      refine vx_catch (name := xU) hown [⟨0, 15, 18, 13⟩, ⟨0, 15, 22, 15⟩] ⟨0, 15, 26, 38⟩ [] htab (List.forall_mem_cons.mpr ⟨Or.inr ⟨by decide, xI, hG _ vq_t137, hCx.2.2.2.2.2.2.1 _ (by decide) _ (by decide) (by decide)⟩, List.forall_mem_cons.mpr ⟨Or.inr ⟨by decide, xA, hG _ vq_t138, hCx.2.2.2.2.2.2.1 _ (by decide) _ (by decide) (by decide)⟩, fun _ h => absurd h List.not_mem_nil⟩⟩) rfl (by decide) (hG _ vq_t295) (va_Nw.use rfl (hCx.2.2.2.2.2.1 _ (by decide))) h91 h92 h93 ?_
      refine W.eq (g2 := F0 m 26 ls [.ref q9]) rfl ?_
      refine lv_astore (lv' := [(7, .ref q9), (0, .ref h0), (1, .int x), (2, .int y), (3, .int k), (4, .int aim), (5, .int q), (6, .ref oa)]) hx hb d_LW_mix_26 hl (by decide) rfl (fun ls hl => ?_)
      refine lv_iconst (v := 3) hx hb d_LW_mix_28 (by decide) ?_
      refine vx_ret ?_
      refine W.widen (k := 6) (n := 36) (Nat.le_of_ble_eq_true rfl) (Nat.le_of_ble_eq_true rfl) ?_
      exact W.iret (v := 3) hx hb hr (fun t ht hW => ⟨⟨3, (), rfl, by decide +kernel, trivial⟩, hS.F ht⟩) hS.2.2 d_LW_mix_29
  exact absurd (hX.symm.trans w_11.2) (fun h => nomatch h)
set_option maxHeartbeats 4000000 in
set_option maxRecDepth 100000 in
/-- law.point, where it goes through -/
theorem h_point_n (l : Launch) (hlT : l.stackTraces = false) (dC : Nat → ClassId) (dI : Nat → Nat → Nat) (cs : Nat → ClassId) (sz : Nat) (h0 : Nat) (aMo : Nat) (aSh : Nat) (aLa : Nat) (aDy : Nat) (aMa : Nat) (aKi : Nat) (aPi : Nat) (aLn : Nat) (zCn : Int32) (zPc : Int32) (zTo : Int32) (zN : Int32) (zX : Int64) (zY : Int64) (zXX : Int64) (zXY : Int64) (x : Int32) (y : Int32) (oa : Nat) (fO : Nat → Int64) (hX : X_point zN x y = none) : vx_Met l y_LW_point w_LW_point ({ frames := 8, cells := 2, slots := 12, locals := 126 }) (vq_Pre (dC, dI) cs [(h0, .inr (0, [.ref aMo, .ref aSh, .ref aLa, .ref aDy, .ref aMa, .ref aKi, .int zCn, .ref aPi, .int zPc, .ref aLn, .int zTo])), (aLn, .inr (2, [.int zN, .long zX, .long zY, .long zXX, .long zXY])), (oa, .inl ((cs 1), 1, .inr (.inl fO)))] sz [.ref h0, .int x, .int y, .ref oa]) (va_Qi (fun (r : Int32) (_ : Unit) => r = 0) (vq_B (dC, dI) cs (va_A [(h0, .inr (0, [.ref aMo, .ref aSh, .ref aLa, .ref aDy, .ref aMa, .ref aKi, .int zCn, .ref aPi, .int zPc, .ref aLn, .int zTo])), (aLn, .inr (2, [.int zN, .long zX, .long zY, .long zXX, .long zXY])), (oa, .inl ((cs 1), 1, .inr (.inl fO)))] sz) (fun _ => [(h0, .inr (0, [.ref aMo, .ref aSh, .ref aLa, .ref aDy, .ref aMa, .ref aKi, .int zCn, .ref aPi, .int zPc, .ref aLn, .int zTo])), (aLn, .inr (2, [.int (zN + 1), .long (zX + x.toInt64), .long (zY + y.toInt64), .long (zXX + (x.toInt64 * x.toInt64)), .long (zXY + (x.toInt64 * y.toInt64))])), (oa, .inl ((cs 1), 1, .inr (.inl (vp_updL fO (0 : Int32).toNatClampNeg ((zN + 1).toInt64)))))])) (va_A [(h0, .inr (0, [.ref aMo, .ref aSh, .ref aLa, .ref aDy, .ref aMa, .ref aKi, .int zCn, .ref aPi, .int zPc, .ref aLn, .int zTo])), (aLn, .inr (2, [.int zN, .long zX, .long zY, .long zXX, .long zXY])), (oa, .inl ((cs 1), 1, .inr (.inl fO)))] sz)) (vq_X (fun E => False) sz) 2 12 (va_A [(h0, .inr (0, [.ref aMo, .ref aSh, .ref aLa, .ref aDy, .ref aMa, .ref aKi, .int zCn, .ref aPi, .int zPc, .ref aLn, .int zTo])), (aLn, .inr (2, [.int zN, .long zX, .long zY, .long zXX, .long zXY])), (oa, .inl ((cs 1), 1, .inr (.inl fO)))] sz) := by
  refine vx_ofWH (cc := b_LW_point) (maxL := 5) (ret := (some .int)) (hh := [(0, 10, 13, 25), (0, 10, 17, 15)]) (by decide) rfl ?_
  intro p e s m args below meth c s₁ B hml hv
  have htab : c.exceptionTable.toList = tableOf [(0, 10, 13, 25), (0, 10, 17, 15)] := vx_table (x := y_LW_point) B (atoms_spec (ws := w_LW_point) B.pre _ List.mem_cons_self)
  obtain ⟨rfl, hsz, hP, hD0, hCx⟩ := hv
  have hx := B.exec
  have hb := B.bytes
  have hr := B.returns
  have hG := vq_hG (atoms_spec (ws := w_LW_point) B.pre)
  have hown : s.vm.findClass R_LW = some m.cls := findClass_of_methodNamed B.named
  have hlocks := B.notSynchronized
  subst hsz
  have hK := hCx.1
  have hD := hD0.self (sz := s.heap.size)
  generalize hAe : va_A [(h0, .inr (0, [.ref aMo, .ref aSh, .ref aLa, .ref aDy, .ref aMa, .ref aKi, .int zCn, .ref aPi, .int zPc, .ref aLn, .int zTo])), (aLn, .inr (2, [.int zN, .long zX, .long zY, .long zXX, .long zXY])), (oa, .inl ((cs 1), 1, .inr (.inl fO)))] s.heap.size = A at hD hCx ⊢
  have hA : ∀ q : Nat, s.heap.size ≤ q → A q := fun q h => by rw [← hAe]; exact Or.inr h
  have hA0 : ∀ q : Nat, s.heap.size ≤ q → va_A [] s.heap.size q := fun q h => Or.inr h
  have hS : va_S (va_A [] s.heap.size) s.heap s.heap [] := va_S.rf
  have hl := lv_entry ([.ref h0, .int x, .int y, .ref oa]) (n := 5) (Nat.le_of_ble_eq_true rfl)
  rw [lg_entry_eq]
  generalize (lg_sl ([.ref h0, .int x, .int y, .ref oa]) ++ List.replicate (5 - (lg_sl ([.ref h0, .int x, .int y, .ref oa])).length) Slot.unset).toArray = ls at hl ⊢
  have hl : lv_has ls 5 [(0, .ref h0), (1, .int x), (2, .int y), (3, .ref oa)] := hl
  have hP : va_P (dC, dI) vq_cl [(h0, .inr (0, [.ref aMo, .ref aSh, .ref aLa, .ref aDy, .ref aMa, .ref aKi, .int zCn, .ref aPi, .int zPc, .ref aLn, .int zTo])), (aLn, .inr (2, [.int zN, .long zX, .long zY, .long zXX, .long zXY])), (oa, .inl ((cs 1), 1, .inr (.inl fO)))] s.heap := hP
  refine lv_aload_n hx hb d_LW_point_0 rfl (lv_at hl 3 rfl) ?_
  refine lv_iconst (v := 0) hx hb d_LW_point_1 (by decide) ?_
  refine lv_aload_n hx hb d_LW_point_2 rfl (lv_at hl 0 rfl) ?_
  refine lv_iload_n hx hb d_LW_point_3 rfl (lv_at hl 1 rfl) ?_
  refine lv_iload_n hx hb d_LW_point_4 rfl (lv_at hl 2 rfl) ?_
  have hS := vq_wk hS hA
  refine mx_wi (vx_runV (As := [.int x, .int y]) (rest := [.int 0, .ref oa]) ⟨hx, hb, hml, hown, hG⟩ (c_point l hlT dC dI cs _ h0 aMo aSh aLa aDy aMa aKi aPi aLn zCn zPc zTo zN zX zY zXX zXY x y) (cwV 2 hG (vq_gV vq_t435 vq_t436 vq_t437 vq_t1 vq_t438) rfl rfl rfl (by decide +kernel) ⟨Nat.le_of_ble_eq_true rfl, Nat.le_of_ble_eq_true rfl⟩) (vq_preVw (wc := [(h0, .inr (0, [.ref aMo, .ref aSh, .ref aLa, .ref aDy, .ref aMa, .ref aKi, .int zCn, .ref aPi, .int zPc, .ref aLn, .int zTo])), (aLn, .inr (2, [.int zN, .long zX, .long zY, .long zXX, .long zXY]))]) (va_recv hK hP (ci := 0) (q0 := 0) rfl rfl) hCx hP hD hS hA [0, 1] rfl rfl (by decide)) rfl rfl hl.1 rfl (lv_room (Nat.le_of_ble_eq_true rfl)) d_LW_point_5 ⟨Nat.le_of_ble_eq_true rfl, Nat.le_of_ble_eq_true rfl⟩) hP hD hS hA [0, 1] [2] rfl rfl (by decide) (by decide) (fun E ce q9 H locs x_5 hP hS h91 h92 h93 => absurd (hX.symm.trans x_5) (fun h => nomatch h)) (fun r_5 _ H locs w_5 hP hD hS => ?_)
  have hP : va_P (dC, dI) vq_cl [(oa, .inl ((cs 1), 1, .inr (.inl fO))), (h0, .inr (0, [.ref aMo, .ref aSh, .ref aLa, .ref aDy, .ref aMa, .ref aKi, .int zCn, .ref aPi, .int zPc, .ref aLn, .int zTo])), (aLn, .inr (2, [.int (zN + 1), .long (zX + x.toInt64), .long (zY + y.toInt64), .long (zXX + (x.toInt64 * x.toInt64)), .long (zXY + (x.toInt64 * y.toInt64))]))] H := hP
  have hD : va_D A [(oa, .inl ((cs 1), 1, .inr (.inl fO))), (h0, .inr (0, [.ref aMo, .ref aSh, .ref aLa, .ref aDy, .ref aMa, .ref aKi, .int zCn, .ref aPi, .int zPc, .ref aLn, .int zTo])), (aLn, .inr (2, [.int (zN + 1), .long (zX + x.toInt64), .long (zY + y.toInt64), .long (zXX + (x.toInt64 * x.toInt64)), .long (zXY + (x.toInt64 * y.toInt64))]))] := hD
  refine W.widen (k := 2) (n := 12) (Nat.le_of_ble_eq_true rfl) (Nat.le_of_ble_eq_true rfl) ?_
  obtain ⟨rfl, w_5⟩ := w_5
  refine lv_i2l hx hb d_LW_point_8 rfl ?_
  refine va_last (D := (dC, dI)) hx hb hK hP hD hS 0 1 rfl rfl (vq_in 1 rfl (by decide) (by decide)) d_LW_point_9 (fun H locs hP hD hS => ?_)
  have hP : va_P (dC, dI) vq_cl [(oa, .inl ((cs 1), 1, .inr (.inl (vp_updL fO (0 : Int32).toNatClampNeg ((zN + 1).toInt64))))), (h0, .inr (0, [.ref aMo, .ref aSh, .ref aLa, .ref aDy, .ref aMa, .ref aKi, .int zCn, .ref aPi, .int zPc, .ref aLn, .int zTo])), (aLn, .inr (2, [.int (zN + 1), .long (zX + x.toInt64), .long (zY + y.toInt64), .long (zXX + (x.toInt64 * x.toInt64)), .long (zXY + (x.toInt64 * y.toInt64))]))] H := hP
  have hD : va_D A [(oa, .inl ((cs 1), 1, .inr (.inl (vp_updL fO (0 : Int32).toNatClampNeg ((zN + 1).toInt64))))), (h0, .inr (0, [.ref aMo, .ref aSh, .ref aLa, .ref aDy, .ref aMa, .ref aKi, .int zCn, .ref aPi, .int zPc, .ref aLn, .int zTo])), (aLn, .inr (2, [.int (zN + 1), .long (zX + x.toInt64), .long (zY + y.toInt64), .long (zXX + (x.toInt64 * x.toInt64)), .long (zXY + (x.toInt64 * y.toInt64))]))] := hD
  refine lv_goto (tgt := 21) hx hb d_LW_point_10 (by decide) ?_
  refine lv_iconst (v := 0) hx hb d_LW_point_21 (by decide) ?_
  refine vx_ret ?_
  refine W.widen (k := 2) (n := 12) (Nat.le_of_ble_eq_true rfl) (Nat.le_of_ble_eq_true rfl) ?_
  have hP9 : va_P (dC, dI) vq_cl [(h0, .inr (0, [.ref aMo, .ref aSh, .ref aLa, .ref aDy, .ref aMa, .ref aKi, .int zCn, .ref aPi, .int zPc, .ref aLn, .int zTo])), (aLn, .inr (2, [.int (zN + 1), .long (zX + x.toInt64), .long (zY + y.toInt64), .long (zXX + (x.toInt64 * x.toInt64)), .long (zXY + (x.toInt64 * y.toInt64))])), (oa, .inl ((cs 1), 1, .inr (.inl (vp_updL fO (0 : Int32).toNatClampNeg ((zN + 1).toInt64)))))] _ := hP.sub [1, 2, 0] rfl
  have hD9 : va_D A [(h0, .inr (0, [.ref aMo, .ref aSh, .ref aLa, .ref aDy, .ref aMa, .ref aKi, .int zCn, .ref aPi, .int zPc, .ref aLn, .int zTo])), (aLn, .inr (2, [.int (zN + 1), .long (zX + x.toInt64), .long (zY + y.toInt64), .long (zXX + (x.toInt64 * x.toInt64)), .long (zXY + (x.toInt64 * y.toInt64))])), (oa, .inl ((cs 1), 1, .inr (.inl (vp_updL fO (0 : Int32).toNatClampNeg ((zN + 1).toInt64)))))] := hD.sub [1, 2, 0] (by decide) rfl
  exact W.iret (v := 0) hx hb hr (fun t ht hW => ⟨⟨0, (), rfl, rfl, ⟨by rw [ht]; exact hP9, hD9⟩⟩, hS.F ht⟩) hS.2.2 d_LW_point_22
set_option maxHeartbeats 4000000 in
set_option maxRecDepth 100000 in
/-- law.point, where it is refused -/
theorem h_point_s (l : Launch) (hlT : l.stackTraces = false) (dC : Nat → ClassId) (dI : Nat → Nat → Nat) (cs : Nat → ClassId) (sz : Nat) (h0 : Nat) (aMo : Nat) (aSh : Nat) (aLa : Nat) (aDy : Nat) (aMa : Nat) (aKi : Nat) (aPi : Nat) (aLn : Nat) (zCn : Int32) (zPc : Int32) (zTo : Int32) (zN : Int32) (zX : Int64) (zY : Int64) (zXX : Int64) (zXY : Int64) (x : Int32) (y : Int32) (oa : Nat) (fO : Nat → Int64) (E0 : String) (hX : X_point zN x y = some E0) (hE : E0 = xS ∨ E0 = xA) : vx_Met l y_LW_point w_LW_point ({ frames := 8, cells := 2, slots := 12, locals := 126 }) (vq_Pre (dC, dI) cs [(h0, .inr (0, [.ref aMo, .ref aSh, .ref aLa, .ref aDy, .ref aMa, .ref aKi, .int zCn, .ref aPi, .int zPc, .ref aLn, .int zTo])), (aLn, .inr (2, [.int zN, .long zX, .long zY, .long zXX, .long zXY])), (oa, .inl ((cs 1), 1, .inr (.inl fO)))] sz [.ref h0, .int x, .int y, .ref oa]) (va_Qi (fun (r : Int32) (_ : Unit) => r = cdF [xS, xA] E0) (vq_B (dC, dI) cs (va_A [(h0, .inr (0, [.ref aMo, .ref aSh, .ref aLa, .ref aDy, .ref aMa, .ref aKi, .int zCn, .ref aPi, .int zPc, .ref aLn, .int zTo])), (aLn, .inr (2, [.int zN, .long zX, .long zY, .long zXX, .long zXY])), (oa, .inl ((cs 1), 1, .inr (.inl fO)))] sz) (fun _ => [(h0, .inr (0, [.ref aMo, .ref aSh, .ref aLa, .ref aDy, .ref aMa, .ref aKi, .int zCn, .ref aPi, .int zPc, .ref aLn, .int zTo])), (aLn, .inr (2, [.int zN, .long zX, .long zY, .long zXX, .long zXY])), (oa, .inl ((cs 1), 1, .inr (.inl fO)))])) (va_A [(h0, .inr (0, [.ref aMo, .ref aSh, .ref aLa, .ref aDy, .ref aMa, .ref aKi, .int zCn, .ref aPi, .int zPc, .ref aLn, .int zTo])), (aLn, .inr (2, [.int zN, .long zX, .long zY, .long zXX, .long zXY])), (oa, .inl ((cs 1), 1, .inr (.inl fO)))] sz)) (vq_X (fun E => False) sz) 2 12 (va_A [(h0, .inr (0, [.ref aMo, .ref aSh, .ref aLa, .ref aDy, .ref aMa, .ref aKi, .int zCn, .ref aPi, .int zPc, .ref aLn, .int zTo])), (aLn, .inr (2, [.int zN, .long zX, .long zY, .long zXX, .long zXY])), (oa, .inl ((cs 1), 1, .inr (.inl fO)))] sz) := by
  refine vx_ofWH (cc := b_LW_point) (maxL := 5) (ret := (some .int)) (hh := [(0, 10, 13, 25), (0, 10, 17, 15)]) (by decide) rfl ?_
  intro p e s m args below meth c s₁ B hml hv
  have htab : c.exceptionTable.toList = tableOf [(0, 10, 13, 25), (0, 10, 17, 15)] := vx_table (x := y_LW_point) B (atoms_spec (ws := w_LW_point) B.pre _ List.mem_cons_self)
  obtain ⟨rfl, hsz, hP, hD0, hCx⟩ := hv
  have hx := B.exec
  have hb := B.bytes
  have hr := B.returns
  have hG := vq_hG (atoms_spec (ws := w_LW_point) B.pre)
  have hown : s.vm.findClass R_LW = some m.cls := findClass_of_methodNamed B.named
  have hlocks := B.notSynchronized
  subst hsz
  have hK := hCx.1
  have hD := hD0.self (sz := s.heap.size)
  generalize hAe : va_A [(h0, .inr (0, [.ref aMo, .ref aSh, .ref aLa, .ref aDy, .ref aMa, .ref aKi, .int zCn, .ref aPi, .int zPc, .ref aLn, .int zTo])), (aLn, .inr (2, [.int zN, .long zX, .long zY, .long zXX, .long zXY])), (oa, .inl ((cs 1), 1, .inr (.inl fO)))] s.heap.size = A at hD hCx ⊢
  have hA : ∀ q : Nat, s.heap.size ≤ q → A q := fun q h => by rw [← hAe]; exact Or.inr h
  have hA0 : ∀ q : Nat, s.heap.size ≤ q → va_A [] s.heap.size q := fun q h => Or.inr h
  have hS : va_S (va_A [] s.heap.size) s.heap s.heap [] := va_S.rf
  have hl := lv_entry ([.ref h0, .int x, .int y, .ref oa]) (n := 5) (Nat.le_of_ble_eq_true rfl)
  rw [lg_entry_eq]
  generalize (lg_sl ([.ref h0, .int x, .int y, .ref oa]) ++ List.replicate (5 - (lg_sl ([.ref h0, .int x, .int y, .ref oa])).length) Slot.unset).toArray = ls at hl ⊢
  have hl : lv_has ls 5 [(0, .ref h0), (1, .int x), (2, .int y), (3, .ref oa)] := hl
  have hP : va_P (dC, dI) vq_cl [(h0, .inr (0, [.ref aMo, .ref aSh, .ref aLa, .ref aDy, .ref aMa, .ref aKi, .int zCn, .ref aPi, .int zPc, .ref aLn, .int zTo])), (aLn, .inr (2, [.int zN, .long zX, .long zY, .long zXX, .long zXY])), (oa, .inl ((cs 1), 1, .inr (.inl fO)))] s.heap := hP
  refine lv_aload_n hx hb d_LW_point_0 rfl (lv_at hl 3 rfl) ?_
  refine lv_iconst (v := 0) hx hb d_LW_point_1 (by decide) ?_
  refine lv_aload_n hx hb d_LW_point_2 rfl (lv_at hl 0 rfl) ?_
  refine lv_iload_n hx hb d_LW_point_3 rfl (lv_at hl 1 rfl) ?_
  refine lv_iload_n hx hb d_LW_point_4 rfl (lv_at hl 2 rfl) ?_
  have hS := vq_wk hS hA
  refine mx_wi (vx_runV (As := [.int x, .int y]) (rest := [.int 0, .ref oa]) ⟨hx, hb, hml, hown, hG⟩ (c_point l hlT dC dI cs _ h0 aMo aSh aLa aDy aMa aKi aPi aLn zCn zPc zTo zN zX zY zXX zXY x y) (cwV 2 hG (vq_gV vq_t435 vq_t436 vq_t437 vq_t1 vq_t438) rfl rfl rfl (by decide +kernel) ⟨Nat.le_of_ble_eq_true rfl, Nat.le_of_ble_eq_true rfl⟩) (vq_preVw (wc := [(h0, .inr (0, [.ref aMo, .ref aSh, .ref aLa, .ref aDy, .ref aMa, .ref aKi, .int zCn, .ref aPi, .int zPc, .ref aLn, .int zTo])), (aLn, .inr (2, [.int zN, .long zX, .long zY, .long zXX, .long zXY]))]) (va_recv hK hP (ci := 0) (q0 := 0) rfl rfl) hCx hP hD hS hA [0, 1] rfl rfl (by decide)) rfl rfl hl.1 rfl (lv_room (Nat.le_of_ble_eq_true rfl)) d_LW_point_5 ⟨Nat.le_of_ble_eq_true rfl, Nat.le_of_ble_eq_true rfl⟩) hP hD hS hA [0, 1] [2] rfl rfl (by decide) (by decide) (fun E ce q9 H locs x_5 hP hS h91 h92 h93 => ?_) (fun r_5 _ H locs w_5 hP hD hS => ?_)
  · skip
    obtain rfl := Option.some.inj (hX.symm.trans x_5)
    rcases hE with rfl | rfl
    · skip
      refine vx_catch (name := xS) hown [] ⟨0, 10, 13, 25⟩ [⟨0, 10, 17, 15⟩] htab (fun _ h => absurd h List.not_mem_nil) rfl (by decide) (hG _ vq_t248) (va_Nw.use rfl (hCx.2.2.2.2.2.1 _ (by decide))) h91 h92 h93 ?_
      refine W.eq (g2 := F0 m 13 ls [.ref q9]) rfl ?_
      refine lv_astore (lv' := [(4, .ref q9), (0, .ref h0), (1, .int x), (2, .int y), (3, .ref oa)]) hx hb d_LW_point_13 hl (by decide) rfl (fun ls hl => ?_)
      refine lv_iconst (v := 1) hx hb d_LW_point_15 (by decide) ?_
      refine vx_ret ?_
      refine W.widen (k := 2) (n := 12) (Nat.le_of_ble_eq_true rfl) (Nat.le_of_ble_eq_true rfl) ?_
      have hP9 : va_P (dC, dI) vq_cl [(h0, .inr (0, [.ref aMo, .ref aSh, .ref aLa, .ref aDy, .ref aMa, .ref aKi, .int zCn, .ref aPi, .int zPc, .ref aLn, .int zTo])), (aLn, .inr (2, [.int zN, .long zX, .long zY, .long zXX, .long zXY])), (oa, .inl ((cs 1), 1, .inr (.inl fO)))] _ := hP.sub [0, 1, 2] rfl
      have hD9 : va_D A [(h0, .inr (0, [.ref aMo, .ref aSh, .ref aLa, .ref aDy, .ref aMa, .ref aKi, .int zCn, .ref aPi, .int zPc, .ref aLn, .int zTo])), (aLn, .inr (2, [.int zN, .long zX, .long zY, .long zXX, .long zXY])), (oa, .inl ((cs 1), 1, .inr (.inl fO)))] := hD.sub [0, 1, 2] (by decide) rfl
      exact W.iret (v := 1) hx hb hr (fun t ht hW => ⟨⟨1, (), rfl, by decide +kernel, ⟨by rw [ht]; exact hP9, hD9⟩⟩, hS.F ht⟩) hS.2.2 d_LW_point_16
    · skip
      refine vx_catch (name := xA) hown [⟨0, 10, 13, 25⟩] ⟨0, 10, 17, 15⟩ [] htab (List.forall_mem_cons.mpr ⟨Or.inr ⟨by decide, xS, hG _ vq_t248, hCx.2.2.2.2.2.2.1 _ (by decide) _ (by decide) (by decide)⟩, fun _ h => absurd h List.not_mem_nil⟩) rfl (by decide) (hG _ vq_t138) (va_Nw.use rfl (hCx.2.2.2.2.2.1 _ (by decide))) h91 h92 h93 ?_
      refine W.eq (g2 := F0 m 17 ls [.ref q9]) rfl ?_
      refine lv_astore (lv' := [(4, .ref q9), (0, .ref h0), (1, .int x), (2, .int y), (3, .ref oa)]) hx hb d_LW_point_17 hl (by decide) rfl (fun ls hl => ?_)
      refine lv_iconst (v := 2) hx hb d_LW_point_19 (by decide) ?_
      refine vx_ret ?_
      refine W.widen (k := 2) (n := 12) (Nat.le_of_ble_eq_true rfl) (Nat.le_of_ble_eq_true rfl) ?_
      have hP9 : va_P (dC, dI) vq_cl [(h0, .inr (0, [.ref aMo, .ref aSh, .ref aLa, .ref aDy, .ref aMa, .ref aKi, .int zCn, .ref aPi, .int zPc, .ref aLn, .int zTo])), (aLn, .inr (2, [.int zN, .long zX, .long zY, .long zXX, .long zXY])), (oa, .inl ((cs 1), 1, .inr (.inl fO)))] _ := hP.sub [0, 1, 2] rfl
      have hD9 : va_D A [(h0, .inr (0, [.ref aMo, .ref aSh, .ref aLa, .ref aDy, .ref aMa, .ref aKi, .int zCn, .ref aPi, .int zPc, .ref aLn, .int zTo])), (aLn, .inr (2, [.int zN, .long zX, .long zY, .long zXX, .long zXY])), (oa, .inl ((cs 1), 1, .inr (.inl fO)))] := hD.sub [0, 1, 2] (by decide) rfl
      exact W.iret (v := 2) hx hb hr (fun t ht hW => ⟨⟨2, (), rfl, by decide +kernel, ⟨by rw [ht]; exact hP9, hD9⟩⟩, hS.F ht⟩) hS.2.2 d_LW_point_20
  have hP : va_P (dC, dI) vq_cl [(oa, .inl ((cs 1), 1, .inr (.inl fO))), (h0, .inr (0, [.ref aMo, .ref aSh, .ref aLa, .ref aDy, .ref aMa, .ref aKi, .int zCn, .ref aPi, .int zPc, .ref aLn, .int zTo])), (aLn, .inr (2, [.int (zN + 1), .long (zX + x.toInt64), .long (zY + y.toInt64), .long (zXX + (x.toInt64 * x.toInt64)), .long (zXY + (x.toInt64 * y.toInt64))]))] H := hP
  have hD : va_D A [(oa, .inl ((cs 1), 1, .inr (.inl fO))), (h0, .inr (0, [.ref aMo, .ref aSh, .ref aLa, .ref aDy, .ref aMa, .ref aKi, .int zCn, .ref aPi, .int zPc, .ref aLn, .int zTo])), (aLn, .inr (2, [.int (zN + 1), .long (zX + x.toInt64), .long (zY + y.toInt64), .long (zXX + (x.toInt64 * x.toInt64)), .long (zXY + (x.toInt64 * y.toInt64))]))] := hD
  exact absurd (hX.symm.trans w_5.2) (fun h => nomatch h)
set_option maxHeartbeats 4000000 in
set_option maxRecDepth 100000 in
/-- law.fit, where it goes through -/
theorem h_fit_n (l : Launch) (hlT : l.stackTraces = false) (dC : Nat → ClassId) (dI : Nat → Nat → Nat) (cs : Nat → ClassId) (sz : Nat) (h0 : Nat) (aMo : Nat) (aSh : Nat) (aLa : Nat) (aDy : Nat) (aMa : Nat) (aKi : Nat) (aPi : Nat) (aLn : Nat) (zCn : Int32) (zPc : Int32) (zTo : Int32) (zN : Int32) (zX : Int64) (zY : Int64) (zXX : Int64) (zXY : Int64) (w : Int32) (q : Int32) (oa : Nat) (fO : Nat → Int64) (hX : X_fit w q ((zN.toInt64 * zXX) - (zX * zX)) = none) : vx_Met l y_LW_fit w_LW_fit ({ frames := 8, cells := 2, slots := 12, locals := 126 }) (vq_Pre (dC, dI) cs [(h0, .inr (0, [.ref aMo, .ref aSh, .ref aLa, .ref aDy, .ref aMa, .ref aKi, .int zCn, .ref aPi, .int zPc, .ref aLn, .int zTo])), (aLn, .inr (2, [.int zN, .long zX, .long zY, .long zXX, .long zXY])), (oa, .inl ((cs 1), 1, .inr (.inl fO)))] sz [.ref h0, .int w, .int q, .ref oa]) (va_Qi (fun (r : Int32) (_ : Unit) => r = 0) (vq_B (dC, dI) cs (va_A [(h0, .inr (0, [.ref aMo, .ref aSh, .ref aLa, .ref aDy, .ref aMa, .ref aKi, .int zCn, .ref aPi, .int zPc, .ref aLn, .int zTo])), (aLn, .inr (2, [.int zN, .long zX, .long zY, .long zXX, .long zXY])), (oa, .inl ((cs 1), 1, .inr (.inl fO)))] sz) (fun _ => [(h0, .inr (0, [.ref aMo, .ref aSh, .ref aLa, .ref aDy, .ref aMa, .ref aKi, .int zCn, .ref aPi, .int zPc, .ref aLn, .int zTo])), (aLn, .inr (2, [.int zN, .long zX, .long zY, .long zXX, .long zXY])), (oa, .inl ((cs 1), 1, .inr (.inl (vp_updL fO (0 : Int32).toNatClampNeg (lowF (fitF w zN zX zY zXX zXY) ((zN.toInt64 * zXX) - (zX * zX)) q)))))])) (va_A [(h0, .inr (0, [.ref aMo, .ref aSh, .ref aLa, .ref aDy, .ref aMa, .ref aKi, .int zCn, .ref aPi, .int zPc, .ref aLn, .int zTo])), (aLn, .inr (2, [.int zN, .long zX, .long zY, .long zXX, .long zXY])), (oa, .inl ((cs 1), 1, .inr (.inl fO)))] sz)) (vq_X (fun E => False) sz) 2 12 (va_A [(h0, .inr (0, [.ref aMo, .ref aSh, .ref aLa, .ref aDy, .ref aMa, .ref aKi, .int zCn, .ref aPi, .int zPc, .ref aLn, .int zTo])), (aLn, .inr (2, [.int zN, .long zX, .long zY, .long zXX, .long zXY])), (oa, .inl ((cs 1), 1, .inr (.inl fO)))] sz) := by
  refine vx_ofWH (cc := b_LW_fit) (maxL := 5) (ret := (some .int)) (hh := [(0, 9, 12, 13), (0, 9, 16, 38)]) (by decide) rfl ?_
  intro p e s m args below meth c s₁ B hml hv
  have htab : c.exceptionTable.toList = tableOf [(0, 9, 12, 13), (0, 9, 16, 38)] := vx_table (x := y_LW_fit) B (atoms_spec (ws := w_LW_fit) B.pre _ List.mem_cons_self)
  obtain ⟨rfl, hsz, hP, hD0, hCx⟩ := hv
  have hx := B.exec
  have hb := B.bytes
  have hr := B.returns
  have hG := vq_hG (atoms_spec (ws := w_LW_fit) B.pre)
  have hown : s.vm.findClass R_LW = some m.cls := findClass_of_methodNamed B.named
  have hlocks := B.notSynchronized
  subst hsz
  have hK := hCx.1
  have hD := hD0.self (sz := s.heap.size)
  generalize hAe : va_A [(h0, .inr (0, [.ref aMo, .ref aSh, .ref aLa, .ref aDy, .ref aMa, .ref aKi, .int zCn, .ref aPi, .int zPc, .ref aLn, .int zTo])), (aLn, .inr (2, [.int zN, .long zX, .long zY, .long zXX, .long zXY])), (oa, .inl ((cs 1), 1, .inr (.inl fO)))] s.heap.size = A at hD hCx ⊢
  have hA : ∀ q : Nat, s.heap.size ≤ q → A q := fun q h => by rw [← hAe]; exact Or.inr h
  have hA0 : ∀ q : Nat, s.heap.size ≤ q → va_A [] s.heap.size q := fun q h => Or.inr h
  have hS : va_S (va_A [] s.heap.size) s.heap s.heap [] := va_S.rf
  have hl := lv_entry ([.ref h0, .int w, .int q, .ref oa]) (n := 5) (Nat.le_of_ble_eq_true rfl)
  rw [lg_entry_eq]
  generalize (lg_sl ([.ref h0, .int w, .int q, .ref oa]) ++ List.replicate (5 - (lg_sl ([.ref h0, .int w, .int q, .ref oa])).length) Slot.unset).toArray = ls at hl ⊢
  have hl : lv_has ls 5 [(0, .ref h0), (1, .int w), (2, .int q), (3, .ref oa)] := hl
  have hP : va_P (dC, dI) vq_cl [(h0, .inr (0, [.ref aMo, .ref aSh, .ref aLa, .ref aDy, .ref aMa, .ref aKi, .int zCn, .ref aPi, .int zPc, .ref aLn, .int zTo])), (aLn, .inr (2, [.int zN, .long zX, .long zY, .long zXX, .long zXY])), (oa, .inl ((cs 1), 1, .inr (.inl fO)))] s.heap := hP
  refine lv_aload_n hx hb d_LW_fit_0 rfl (lv_at hl 3 rfl) ?_
  refine lv_iconst (v := 0) hx hb d_LW_fit_1 (by decide) ?_
  refine lv_aload_n hx hb d_LW_fit_2 rfl (lv_at hl 0 rfl) ?_
  refine lv_iload_n hx hb d_LW_fit_3 rfl (lv_at hl 1 rfl) ?_
  refine lv_iload_n hx hb d_LW_fit_4 rfl (lv_at hl 2 rfl) ?_
  refine mx_rl (vx_runV (As := [.int w, .int q]) (rest := [.int 0, .ref oa]) ⟨hx, hb, hml, hown, hG⟩ (c_fit l hlT dC dI cs _ h0 aMo aSh aLa aDy aMa aKi aPi aLn zCn zPc zTo zN zX zY zXX zXY w q) (cwV 2 hG (vq_gV vq_t447 vq_t448 vq_t449 vq_t1 vq_t450) rfl rfl rfl (by decide +kernel) ⟨Nat.le_of_ble_eq_true rfl, Nat.le_of_ble_eq_true rfl⟩) (vq_preVr (wc := [(h0, .inr (0, [.ref aMo, .ref aSh, .ref aLa, .ref aDy, .ref aMa, .ref aKi, .int zCn, .ref aPi, .int zPc, .ref aLn, .int zTo])), (aLn, .inr (2, [.int zN, .long zX, .long zY, .long zXX, .long zXY]))]) (va_recv hK hP (ci := 0) (q0 := 0) rfl rfl) hCx hP (vq_wk hS hA) hA [0, 1] rfl) rfl rfl hl.1 rfl (lv_room (Nat.le_of_ble_eq_true rfl)) d_LW_fit_5 ⟨Nat.le_of_ble_eq_true rfl, Nat.le_of_ble_eq_true rfl⟩) hP hS hA0 (fun E ce q9 H locs x_5 hP hS h91 h92 h93 => absurd (hX.symm.trans x_5) (fun h => nomatch h)) (fun r_5 H locs w_5 hP hS => ?_)
  refine W.widen (k := 2) (n := 12) (Nat.le_of_ble_eq_true rfl) (Nat.le_of_ble_eq_true rfl) ?_
  obtain ⟨rfl, w_5⟩ := w_5
  have hS := vq_wk hS hA
  refine va_last (D := (dC, dI)) hx hb hK hP hD hS 2 1 rfl rfl (vq_in 1 rfl (by decide) (by decide)) d_LW_fit_8 (fun H locs hP hD hS => ?_)
  have hP : va_P (dC, dI) vq_cl [(h0, .inr (0, [.ref aMo, .ref aSh, .ref aLa, .ref aDy, .ref aMa, .ref aKi, .int zCn, .ref aPi, .int zPc, .ref aLn, .int zTo])), (aLn, .inr (2, [.int zN, .long zX, .long zY, .long zXX, .long zXY])), (oa, .inl ((cs 1), 1, .inr (.inl (vp_updL fO (0 : Int32).toNatClampNeg (lowF (fitF w zN zX zY zXX zXY) ((zN.toInt64 * zXX) - (zX * zX)) q)))))] H := hP
  have hD : va_D A [(h0, .inr (0, [.ref aMo, .ref aSh, .ref aLa, .ref aDy, .ref aMa, .ref aKi, .int zCn, .ref aPi, .int zPc, .ref aLn, .int zTo])), (aLn, .inr (2, [.int zN, .long zX, .long zY, .long zXX, .long zXY])), (oa, .inl ((cs 1), 1, .inr (.inl (vp_updL fO (0 : Int32).toNatClampNeg (lowF (fitF w zN zX zY zXX zXY) ((zN.toInt64 * zXX) - (zX * zX)) q)))))] := hD
  refine lv_goto (tgt := 20) hx hb d_LW_fit_9 (by decide) ?_
  refine lv_iconst (v := 0) hx hb d_LW_fit_20 (by decide) ?_
  refine vx_ret ?_
  refine W.widen (k := 2) (n := 12) (Nat.le_of_ble_eq_true rfl) (Nat.le_of_ble_eq_true rfl) ?_
  have hP9 : va_P (dC, dI) vq_cl [(h0, .inr (0, [.ref aMo, .ref aSh, .ref aLa, .ref aDy, .ref aMa, .ref aKi, .int zCn, .ref aPi, .int zPc, .ref aLn, .int zTo])), (aLn, .inr (2, [.int zN, .long zX, .long zY, .long zXX, .long zXY])), (oa, .inl ((cs 1), 1, .inr (.inl (vp_updL fO (0 : Int32).toNatClampNeg (lowF (fitF w zN zX zY zXX zXY) ((zN.toInt64 * zXX) - (zX * zX)) q)))))] _ := hP.sub [0, 1, 2] rfl
  have hD9 : va_D A [(h0, .inr (0, [.ref aMo, .ref aSh, .ref aLa, .ref aDy, .ref aMa, .ref aKi, .int zCn, .ref aPi, .int zPc, .ref aLn, .int zTo])), (aLn, .inr (2, [.int zN, .long zX, .long zY, .long zXX, .long zXY])), (oa, .inl ((cs 1), 1, .inr (.inl (vp_updL fO (0 : Int32).toNatClampNeg (lowF (fitF w zN zX zY zXX zXY) ((zN.toInt64 * zXX) - (zX * zX)) q)))))] := hD.sub [0, 1, 2] (by decide) rfl
  exact W.iret (v := 0) hx hb hr (fun t ht hW => ⟨⟨0, (), rfl, rfl, ⟨by rw [ht]; exact hP9, hD9⟩⟩, hS.F ht⟩) hS.2.2 d_LW_fit_21
set_option maxHeartbeats 4000000 in
set_option maxRecDepth 100000 in
/-- law.fit, where it is refused -/
theorem h_fit_s (l : Launch) (hlT : l.stackTraces = false) (dC : Nat → ClassId) (dI : Nat → Nat → Nat) (cs : Nat → ClassId) (sz : Nat) (h0 : Nat) (aMo : Nat) (aSh : Nat) (aLa : Nat) (aDy : Nat) (aMa : Nat) (aKi : Nat) (aPi : Nat) (aLn : Nat) (zCn : Int32) (zPc : Int32) (zTo : Int32) (zN : Int32) (zX : Int64) (zY : Int64) (zXX : Int64) (zXY : Int64) (w : Int32) (q : Int32) (oa : Nat) (fO : Nat → Int64) (E0 : String) (hX : X_fit w q ((zN.toInt64 * zXX) - (zX * zX)) = some E0) (hE : E0 = xI ∨ E0 = xU) : vx_Met l y_LW_fit w_LW_fit ({ frames := 8, cells := 2, slots := 12, locals := 126 }) (vq_PreR (dC, dI) cs [(h0, .inr (0, [.ref aMo, .ref aSh, .ref aLa, .ref aDy, .ref aMa, .ref aKi, .int zCn, .ref aPi, .int zPc, .ref aLn, .int zTo])), (aLn, .inr (2, [.int zN, .long zX, .long zY, .long zXX, .long zXY])), (oa, .inl ((cs 1), 1, .inr (.inl fO)))] sz [.ref h0, .int w, .int q, .ref oa]) (va_Qi (fun (r : Int32) (_ : Unit) => r = cdF [xI, xU] E0) (fun _ _ => True) (va_A [] sz)) (vq_X (fun E => False) sz) 2 12 (va_A [] sz) := by
  refine vx_ofWH (cc := b_LW_fit) (maxL := 5) (ret := (some .int)) (hh := [(0, 9, 12, 13), (0, 9, 16, 38)]) (by decide) rfl ?_
  intro p e s m args below meth c s₁ B hml hv
  have htab : c.exceptionTable.toList = tableOf [(0, 9, 12, 13), (0, 9, 16, 38)] := vx_table (x := y_LW_fit) B (atoms_spec (ws := w_LW_fit) B.pre _ List.mem_cons_self)
  obtain ⟨rfl, hsz, hP, hCx⟩ := hv
  have hx := B.exec
  have hb := B.bytes
  have hr := B.returns
  have hG := vq_hG (atoms_spec (ws := w_LW_fit) B.pre)
  have hown : s.vm.findClass R_LW = some m.cls := findClass_of_methodNamed B.named
  have hlocks := B.notSynchronized
  subst hsz
  have hK := hCx.1
  have hA : ∀ q : Nat, s.heap.size ≤ q → va_A [] s.heap.size q := fun q h => Or.inr h
  have hA0 : ∀ q : Nat, s.heap.size ≤ q → va_A [] s.heap.size q := fun q h => Or.inr h
  have hS : va_S (va_A [] s.heap.size) s.heap s.heap [] := va_S.rf
  have hl := lv_entry ([.ref h0, .int w, .int q, .ref oa]) (n := 5) (Nat.le_of_ble_eq_true rfl)
  rw [lg_entry_eq]
  generalize (lg_sl ([.ref h0, .int w, .int q, .ref oa]) ++ List.replicate (5 - (lg_sl ([.ref h0, .int w, .int q, .ref oa])).length) Slot.unset).toArray = ls at hl ⊢
  have hl : lv_has ls 5 [(0, .ref h0), (1, .int w), (2, .int q), (3, .ref oa)] := hl
  have hP : va_P (dC, dI) vq_cl [(h0, .inr (0, [.ref aMo, .ref aSh, .ref aLa, .ref aDy, .ref aMa, .ref aKi, .int zCn, .ref aPi, .int zPc, .ref aLn, .int zTo])), (aLn, .inr (2, [.int zN, .long zX, .long zY, .long zXX, .long zXY])), (oa, .inl ((cs 1), 1, .inr (.inl fO)))] s.heap := hP
  refine lv_aload_n hx hb d_LW_fit_0 rfl (lv_at hl 3 rfl) ?_
  refine lv_iconst (v := 0) hx hb d_LW_fit_1 (by decide) ?_
  refine lv_aload_n hx hb d_LW_fit_2 rfl (lv_at hl 0 rfl) ?_
  refine lv_iload_n hx hb d_LW_fit_3 rfl (lv_at hl 1 rfl) ?_
  refine lv_iload_n hx hb d_LW_fit_4 rfl (lv_at hl 2 rfl) ?_
  refine mx_rl (vx_runV (As := [.int w, .int q]) (rest := [.int 0, .ref oa]) ⟨hx, hb, hml, hown, hG⟩ (c_fit l hlT dC dI cs _ h0 aMo aSh aLa aDy aMa aKi aPi aLn zCn zPc zTo zN zX zY zXX zXY w q) (cwV 2 hG (vq_gV vq_t447 vq_t448 vq_t449 vq_t1 vq_t450) rfl rfl rfl (by decide +kernel) ⟨Nat.le_of_ble_eq_true rfl, Nat.le_of_ble_eq_true rfl⟩) (vq_preVr (wc := [(h0, .inr (0, [.ref aMo, .ref aSh, .ref aLa, .ref aDy, .ref aMa, .ref aKi, .int zCn, .ref aPi, .int zPc, .ref aLn, .int zTo])), (aLn, .inr (2, [.int zN, .long zX, .long zY, .long zXX, .long zXY]))]) (va_recv hK hP (ci := 0) (q0 := 0) rfl rfl) hCx hP (vq_wk hS hA) hA [0, 1] rfl) rfl rfl hl.1 rfl (lv_room (Nat.le_of_ble_eq_true rfl)) d_LW_fit_5 ⟨Nat.le_of_ble_eq_true rfl, Nat.le_of_ble_eq_true rfl⟩) hP hS hA0 (fun E ce q9 H locs x_5 hP hS h91 h92 h93 => ?_) (fun r_5 H locs w_5 hP hS => ?_)
  · skip
    obtain rfl := Option.some.inj (hX.symm.trans x_5)
    rcases hE with rfl | rfl
    · skip
      refine vx_catch (name := xI) hown [] ⟨0, 9, 12, 13⟩ [⟨0, 9, 16, 38⟩] htab (fun _ h => absurd h List.not_mem_nil) rfl (by decide) (hG _ vq_t137) (va_Nw.use rfl (hCx.2.2.2.2.2.1 _ (by decide))) h91 h92 h93 ?_
      refine W.eq (g2 := F0 m 12 ls [.ref q9]) rfl ?_
      refine lv_astore (lv' := [(4, .ref q9), (0, .ref h0), (1, .int w), (2, .int q), (3, .ref oa)]) hx hb d_LW_fit_12 hl (by decide) rfl (fun ls hl => ?_)
      refine lv_iconst (v := 1) hx hb d_LW_fit_14 (by decide) ?_
      refine vx_ret ?_
      refine W.widen (k := 2) (n := 12) (Nat.le_of_ble_eq_true rfl) (Nat.le_of_ble_eq_true rfl) ?_
      exact W.iret (v := 1) hx hb hr (fun t ht hW => ⟨⟨1, (), rfl, by decide +kernel, trivial⟩, hS.F ht⟩) hS.2.2 d_LW_fit_15
    · skip
      refine vx_catch (name := xU) hown [⟨0, 9, 12, 13⟩] ⟨0, 9, 16, 38⟩ [] htab (List.forall_mem_cons.mpr ⟨Or.inr ⟨by decide, xI, hG _ vq_t137, hCx.2.2.2.2.2.2.1 _ (by decide) _ (by decide) (by decide)⟩, fun _ h => absurd h List.not_mem_nil⟩) rfl (by decide) (hG _ vq_t295) (va_Nw.use rfl (hCx.2.2.2.2.2.1 _ (by decide))) h91 h92 h93 ?_
      refine W.eq (g2 := F0 m 16 ls [.ref q9]) rfl ?_
      refine lv_astore (lv' := [(4, .ref q9), (0, .ref h0), (1, .int w), (2, .int q), (3, .ref oa)]) hx hb d_LW_fit_16 hl (by decide) rfl (fun ls hl => ?_)
      refine lv_iconst (v := 2) hx hb d_LW_fit_18 (by decide) ?_
      refine vx_ret ?_
      refine W.widen (k := 2) (n := 12) (Nat.le_of_ble_eq_true rfl) (Nat.le_of_ble_eq_true rfl) ?_
      exact W.iret (v := 2) hx hb hr (fun t ht hW => ⟨⟨2, (), rfl, by decide +kernel, trivial⟩, hS.F ht⟩) hS.2.2 d_LW_fit_19
  exact absurd (hX.symm.trans w_5.2) (fun h => nomatch h)
set_option maxHeartbeats 4000000 in
set_option maxRecDepth 100000 in
/-- law.tick, where it goes through -/
theorem h_tick_n (l : Launch) (hlT : l.stackTraces = false) (dC : Nat → ClassId) (dI : Nat → Nat → Nat) (cs : Nat → ClassId) (sz : Nat) (h0 : Nat) (aMo : Nat) (aSh : Nat) (aLa : Nat) (aDy : Nat) (aMa : Nat) (aKi : Nat) (aPi : Nat) (aLn : Nat) (zCn : Int32) (zPc : Int32) (zTo : Int32) (x : Int32) (oa : Nat) (fO : Nat → Int64) (hX : X_tick x zTo = none) : vx_Met l y_LW_tick w_LW_tick ({ frames := 8, cells := 2, slots := 12, locals := 125 }) (vq_Pre (dC, dI) cs [(h0, .inr (0, [.ref aMo, .ref aSh, .ref aLa, .ref aDy, .ref aMa, .ref aKi, .int zCn, .ref aPi, .int zPc, .ref aLn, .int zTo])), (oa, .inl ((cs 1), 1, .inr (.inl fO)))] sz [.ref h0, .int x, .ref oa]) (va_Qi (fun (r : Int32) (_ : Unit) => r = 0) (vq_B (dC, dI) cs (va_A [(h0, .inr (0, [.ref aMo, .ref aSh, .ref aLa, .ref aDy, .ref aMa, .ref aKi, .int zCn, .ref aPi, .int zPc, .ref aLn, .int zTo])), (oa, .inl ((cs 1), 1, .inr (.inl fO)))] sz) (fun _ => [(h0, .inr (0, [.ref aMo, .ref aSh, .ref aLa, .ref aDy, .ref aMa, .ref aKi, .int zCn, .ref aPi, .int zPc, .ref aLn, .int (zTo + x)])), (oa, .inl ((cs 1), 1, .inr (.inl (vp_updL fO (0 : Int32).toNatClampNeg ((zTo + x).toInt64)))))])) (va_A [(h0, .inr (0, [.ref aMo, .ref aSh, .ref aLa, .ref aDy, .ref aMa, .ref aKi, .int zCn, .ref aPi, .int zPc, .ref aLn, .int zTo])), (oa, .inl ((cs 1), 1, .inr (.inl fO)))] sz)) (vq_X (fun E => False) sz) 2 12 (va_A [(h0, .inr (0, [.ref aMo, .ref aSh, .ref aLa, .ref aDy, .ref aMa, .ref aKi, .int zCn, .ref aPi, .int zPc, .ref aLn, .int zTo])), (oa, .inl ((cs 1), 1, .inr (.inl fO)))] sz) := by
  refine vx_ofWH (cc := b_LW_tick) (maxL := 4) (ret := (some .int)) (hh := [(0, 9, 12, 15)]) (by decide) rfl ?_
  intro p e s m args below meth c s₁ B hml hv
  have htab : c.exceptionTable.toList = tableOf [(0, 9, 12, 15)] := vx_table (x := y_LW_tick) B (atoms_spec (ws := w_LW_tick) B.pre _ List.mem_cons_self)
  obtain ⟨rfl, hsz, hP, hD0, hCx⟩ := hv
  have hx := B.exec
  have hb := B.bytes
  have hr := B.returns
  have hG := vq_hG (atoms_spec (ws := w_LW_tick) B.pre)
  have hown : s.vm.findClass R_LW = some m.cls := findClass_of_methodNamed B.named
  have hlocks := B.notSynchronized
  subst hsz
  have hK := hCx.1
  have hD := hD0.self (sz := s.heap.size)
  generalize hAe : va_A [(h0, .inr (0, [.ref aMo, .ref aSh, .ref aLa, .ref aDy, .ref aMa, .ref aKi, .int zCn, .ref aPi, .int zPc, .ref aLn, .int zTo])), (oa, .inl ((cs 1), 1, .inr (.inl fO)))] s.heap.size = A at hD hCx ⊢
  have hA : ∀ q : Nat, s.heap.size ≤ q → A q := fun q h => by rw [← hAe]; exact Or.inr h
  have hA0 : ∀ q : Nat, s.heap.size ≤ q → va_A [] s.heap.size q := fun q h => Or.inr h
  have hS : va_S (va_A [] s.heap.size) s.heap s.heap [] := va_S.rf
  have hl := lv_entry ([.ref h0, .int x, .ref oa]) (n := 4) (Nat.le_of_ble_eq_true rfl)
  rw [lg_entry_eq]
  generalize (lg_sl ([.ref h0, .int x, .ref oa]) ++ List.replicate (4 - (lg_sl ([.ref h0, .int x, .ref oa])).length) Slot.unset).toArray = ls at hl ⊢
  have hl : lv_has ls 4 [(0, .ref h0), (1, .int x), (2, .ref oa)] := hl
  have hP : va_P (dC, dI) vq_cl [(h0, .inr (0, [.ref aMo, .ref aSh, .ref aLa, .ref aDy, .ref aMa, .ref aKi, .int zCn, .ref aPi, .int zPc, .ref aLn, .int zTo])), (oa, .inl ((cs 1), 1, .inr (.inl fO)))] s.heap := hP
  refine lv_aload_n hx hb d_LW_tick_0 rfl (lv_at hl 2 rfl) ?_
  refine lv_iconst (v := 0) hx hb d_LW_tick_1 (by decide) ?_
  refine lv_aload_n hx hb d_LW_tick_2 rfl (lv_at hl 0 rfl) ?_
  refine lv_iload_n hx hb d_LW_tick_3 rfl (lv_at hl 1 rfl) ?_
  have hS := vq_wk hS hA
  refine mx_wi (vx_runV (As := [.int x]) (rest := [.int 0, .ref oa]) ⟨hx, hb, hml, hown, hG⟩ (c_tick l hlT dC dI cs _ h0 aMo aSh aLa aDy aMa aKi aPi aLn zCn zPc zTo x) (cwV 1 hG (vq_gV vq_t467 vq_t468 vq_t469 vq_t1 vq_t470) rfl rfl rfl (by decide +kernel) ⟨Nat.le_of_ble_eq_true rfl, Nat.le_of_ble_eq_true rfl⟩) (vq_preVw (wc := [(h0, .inr (0, [.ref aMo, .ref aSh, .ref aLa, .ref aDy, .ref aMa, .ref aKi, .int zCn, .ref aPi, .int zPc, .ref aLn, .int zTo]))]) (va_recv hK hP (ci := 0) (q0 := 0) rfl rfl) hCx hP hD hS hA [0] rfl rfl (by decide)) rfl rfl hl.1 rfl (lv_room (Nat.le_of_ble_eq_true rfl)) d_LW_tick_4 ⟨Nat.le_of_ble_eq_true rfl, Nat.le_of_ble_eq_true rfl⟩) hP hD hS hA [0] [1] rfl rfl (by decide) (by decide) (fun E ce q9 H locs x_4 hP hS h91 h92 h93 => absurd (hX.symm.trans x_4) (fun h => nomatch h)) (fun r_4 _ H locs w_4 hP hD hS => ?_)
  have hP : va_P (dC, dI) vq_cl [(oa, .inl ((cs 1), 1, .inr (.inl fO))), (h0, .inr (0, [.ref aMo, .ref aSh, .ref aLa, .ref aDy, .ref aMa, .ref aKi, .int zCn, .ref aPi, .int zPc, .ref aLn, .int (zTo + x)]))] H := hP
  have hD : va_D A [(oa, .inl ((cs 1), 1, .inr (.inl fO))), (h0, .inr (0, [.ref aMo, .ref aSh, .ref aLa, .ref aDy, .ref aMa, .ref aKi, .int zCn, .ref aPi, .int zPc, .ref aLn, .int (zTo + x)]))] := hD
  refine W.widen (k := 2) (n := 12) (Nat.le_of_ble_eq_true rfl) (Nat.le_of_ble_eq_true rfl) ?_
  obtain ⟨rfl, w_4⟩ := w_4
  refine lv_i2l hx hb d_LW_tick_7 rfl ?_
  refine va_last (D := (dC, dI)) hx hb hK hP hD hS 0 1 rfl rfl (vq_in 1 rfl (by decide) (by decide)) d_LW_tick_8 (fun H locs hP hD hS => ?_)
  have hP : va_P (dC, dI) vq_cl [(oa, .inl ((cs 1), 1, .inr (.inl (vp_updL fO (0 : Int32).toNatClampNeg ((zTo + x).toInt64))))), (h0, .inr (0, [.ref aMo, .ref aSh, .ref aLa, .ref aDy, .ref aMa, .ref aKi, .int zCn, .ref aPi, .int zPc, .ref aLn, .int (zTo + x)]))] H := hP
  have hD : va_D A [(oa, .inl ((cs 1), 1, .inr (.inl (vp_updL fO (0 : Int32).toNatClampNeg ((zTo + x).toInt64))))), (h0, .inr (0, [.ref aMo, .ref aSh, .ref aLa, .ref aDy, .ref aMa, .ref aKi, .int zCn, .ref aPi, .int zPc, .ref aLn, .int (zTo + x)]))] := hD
  refine lv_goto (tgt := 15) hx hb d_LW_tick_9 (by decide) ?_
  refine lv_iconst (v := 0) hx hb d_LW_tick_15 (by decide) ?_
  refine vx_ret ?_
  refine W.widen (k := 2) (n := 12) (Nat.le_of_ble_eq_true rfl) (Nat.le_of_ble_eq_true rfl) ?_
  have hP9 : va_P (dC, dI) vq_cl [(h0, .inr (0, [.ref aMo, .ref aSh, .ref aLa, .ref aDy, .ref aMa, .ref aKi, .int zCn, .ref aPi, .int zPc, .ref aLn, .int (zTo + x)])), (oa, .inl ((cs 1), 1, .inr (.inl (vp_updL fO (0 : Int32).toNatClampNeg ((zTo + x).toInt64)))))] _ := hP.sub [1, 0] rfl
  have hD9 : va_D A [(h0, .inr (0, [.ref aMo, .ref aSh, .ref aLa, .ref aDy, .ref aMa, .ref aKi, .int zCn, .ref aPi, .int zPc, .ref aLn, .int (zTo + x)])), (oa, .inl ((cs 1), 1, .inr (.inl (vp_updL fO (0 : Int32).toNatClampNeg ((zTo + x).toInt64)))))] := hD.sub [1, 0] (by decide) rfl
  exact W.iret (v := 0) hx hb hr (fun t ht hW => ⟨⟨0, (), rfl, rfl, ⟨by rw [ht]; exact hP9, hD9⟩⟩, hS.F ht⟩) hS.2.2 d_LW_tick_16
set_option maxHeartbeats 4000000 in
set_option maxRecDepth 100000 in
/-- law.tick, where it is refused -/
theorem h_tick_s (l : Launch) (hlT : l.stackTraces = false) (dC : Nat → ClassId) (dI : Nat → Nat → Nat) (cs : Nat → ClassId) (sz : Nat) (h0 : Nat) (aMo : Nat) (aSh : Nat) (aLa : Nat) (aDy : Nat) (aMa : Nat) (aKi : Nat) (aPi : Nat) (aLn : Nat) (zCn : Int32) (zPc : Int32) (zTo : Int32) (x : Int32) (oa : Nat) (fO : Nat → Int64) (E0 : String) (hX : X_tick x zTo = some E0) (hE : E0 = xA) : vx_Met l y_LW_tick w_LW_tick ({ frames := 8, cells := 2, slots := 12, locals := 125 }) (vq_Pre (dC, dI) cs [(h0, .inr (0, [.ref aMo, .ref aSh, .ref aLa, .ref aDy, .ref aMa, .ref aKi, .int zCn, .ref aPi, .int zPc, .ref aLn, .int zTo])), (oa, .inl ((cs 1), 1, .inr (.inl fO)))] sz [.ref h0, .int x, .ref oa]) (va_Qi (fun (r : Int32) (_ : Unit) => r = cdF [xA] E0) (vq_B (dC, dI) cs (va_A [(h0, .inr (0, [.ref aMo, .ref aSh, .ref aLa, .ref aDy, .ref aMa, .ref aKi, .int zCn, .ref aPi, .int zPc, .ref aLn, .int zTo])), (oa, .inl ((cs 1), 1, .inr (.inl fO)))] sz) (fun _ => [(h0, .inr (0, [.ref aMo, .ref aSh, .ref aLa, .ref aDy, .ref aMa, .ref aKi, .int zCn, .ref aPi, .int zPc, .ref aLn, .int zTo])), (oa, .inl ((cs 1), 1, .inr (.inl fO)))])) (va_A [(h0, .inr (0, [.ref aMo, .ref aSh, .ref aLa, .ref aDy, .ref aMa, .ref aKi, .int zCn, .ref aPi, .int zPc, .ref aLn, .int zTo])), (oa, .inl ((cs 1), 1, .inr (.inl fO)))] sz)) (vq_X (fun E => False) sz) 2 12 (va_A [(h0, .inr (0, [.ref aMo, .ref aSh, .ref aLa, .ref aDy, .ref aMa, .ref aKi, .int zCn, .ref aPi, .int zPc, .ref aLn, .int zTo])), (oa, .inl ((cs 1), 1, .inr (.inl fO)))] sz) := by
  refine vx_ofWH (cc := b_LW_tick) (maxL := 4) (ret := (some .int)) (hh := [(0, 9, 12, 15)]) (by decide) rfl ?_
  intro p e s m args below meth c s₁ B hml hv
  have htab : c.exceptionTable.toList = tableOf [(0, 9, 12, 15)] := vx_table (x := y_LW_tick) B (atoms_spec (ws := w_LW_tick) B.pre _ List.mem_cons_self)
  obtain ⟨rfl, hsz, hP, hD0, hCx⟩ := hv
  have hx := B.exec
  have hb := B.bytes
  have hr := B.returns
  have hG := vq_hG (atoms_spec (ws := w_LW_tick) B.pre)
  have hown : s.vm.findClass R_LW = some m.cls := findClass_of_methodNamed B.named
  have hlocks := B.notSynchronized
  subst hsz
  have hK := hCx.1
  have hD := hD0.self (sz := s.heap.size)
  generalize hAe : va_A [(h0, .inr (0, [.ref aMo, .ref aSh, .ref aLa, .ref aDy, .ref aMa, .ref aKi, .int zCn, .ref aPi, .int zPc, .ref aLn, .int zTo])), (oa, .inl ((cs 1), 1, .inr (.inl fO)))] s.heap.size = A at hD hCx ⊢
  have hA : ∀ q : Nat, s.heap.size ≤ q → A q := fun q h => by rw [← hAe]; exact Or.inr h
  have hA0 : ∀ q : Nat, s.heap.size ≤ q → va_A [] s.heap.size q := fun q h => Or.inr h
  have hS : va_S (va_A [] s.heap.size) s.heap s.heap [] := va_S.rf
  have hl := lv_entry ([.ref h0, .int x, .ref oa]) (n := 4) (Nat.le_of_ble_eq_true rfl)
  rw [lg_entry_eq]
  generalize (lg_sl ([.ref h0, .int x, .ref oa]) ++ List.replicate (4 - (lg_sl ([.ref h0, .int x, .ref oa])).length) Slot.unset).toArray = ls at hl ⊢
  have hl : lv_has ls 4 [(0, .ref h0), (1, .int x), (2, .ref oa)] := hl
  have hP : va_P (dC, dI) vq_cl [(h0, .inr (0, [.ref aMo, .ref aSh, .ref aLa, .ref aDy, .ref aMa, .ref aKi, .int zCn, .ref aPi, .int zPc, .ref aLn, .int zTo])), (oa, .inl ((cs 1), 1, .inr (.inl fO)))] s.heap := hP
  refine lv_aload_n hx hb d_LW_tick_0 rfl (lv_at hl 2 rfl) ?_
  refine lv_iconst (v := 0) hx hb d_LW_tick_1 (by decide) ?_
  refine lv_aload_n hx hb d_LW_tick_2 rfl (lv_at hl 0 rfl) ?_
  refine lv_iload_n hx hb d_LW_tick_3 rfl (lv_at hl 1 rfl) ?_
  have hS := vq_wk hS hA
  refine mx_wi (vx_runV (As := [.int x]) (rest := [.int 0, .ref oa]) ⟨hx, hb, hml, hown, hG⟩ (c_tick l hlT dC dI cs _ h0 aMo aSh aLa aDy aMa aKi aPi aLn zCn zPc zTo x) (cwV 1 hG (vq_gV vq_t467 vq_t468 vq_t469 vq_t1 vq_t470) rfl rfl rfl (by decide +kernel) ⟨Nat.le_of_ble_eq_true rfl, Nat.le_of_ble_eq_true rfl⟩) (vq_preVw (wc := [(h0, .inr (0, [.ref aMo, .ref aSh, .ref aLa, .ref aDy, .ref aMa, .ref aKi, .int zCn, .ref aPi, .int zPc, .ref aLn, .int zTo]))]) (va_recv hK hP (ci := 0) (q0 := 0) rfl rfl) hCx hP hD hS hA [0] rfl rfl (by decide)) rfl rfl hl.1 rfl (lv_room (Nat.le_of_ble_eq_true rfl)) d_LW_tick_4 ⟨Nat.le_of_ble_eq_true rfl, Nat.le_of_ble_eq_true rfl⟩) hP hD hS hA [0] [1] rfl rfl (by decide) (by decide) (fun E ce q9 H locs x_4 hP hS h91 h92 h93 => ?_) (fun r_4 _ H locs w_4 hP hD hS => ?_)
  · skip
    obtain rfl := Option.some.inj (hX.symm.trans x_4)
    obtain rfl := hE
    · skip
      refine vx_catch (name := xA) hown [] ⟨0, 9, 12, 15⟩ [] htab (fun _ h => absurd h List.not_mem_nil) rfl (by decide) (hG _ vq_t138) (va_Nw.use rfl (hCx.2.2.2.2.2.1 _ (by decide))) h91 h92 h93 ?_
      refine W.eq (g2 := F0 m 12 ls [.ref q9]) rfl ?_
      refine lv_astore_n (lv' := [(3, .ref q9), (0, .ref h0), (1, .int x), (2, .ref oa)]) hx hb d_LW_tick_12 rfl hl (by decide) rfl (fun ls hl => ?_)
      refine lv_iconst (v := 1) hx hb d_LW_tick_13 (by decide) ?_
      refine vx_ret ?_
      refine W.widen (k := 2) (n := 12) (Nat.le_of_ble_eq_true rfl) (Nat.le_of_ble_eq_true rfl) ?_
      have hP9 : va_P (dC, dI) vq_cl [(h0, .inr (0, [.ref aMo, .ref aSh, .ref aLa, .ref aDy, .ref aMa, .ref aKi, .int zCn, .ref aPi, .int zPc, .ref aLn, .int zTo])), (oa, .inl ((cs 1), 1, .inr (.inl fO)))] _ := hP.sub [0, 1] rfl
      have hD9 : va_D A [(h0, .inr (0, [.ref aMo, .ref aSh, .ref aLa, .ref aDy, .ref aMa, .ref aKi, .int zCn, .ref aPi, .int zPc, .ref aLn, .int zTo])), (oa, .inl ((cs 1), 1, .inr (.inl fO)))] := hD.sub [0, 1] (by decide) rfl
      exact W.iret (v := 1) hx hb hr (fun t ht hW => ⟨⟨1, (), rfl, by decide +kernel, ⟨by rw [ht]; exact hP9, hD9⟩⟩, hS.F ht⟩) hS.2.2 d_LW_tick_14
  have hP : va_P (dC, dI) vq_cl [(oa, .inl ((cs 1), 1, .inr (.inl fO))), (h0, .inr (0, [.ref aMo, .ref aSh, .ref aLa, .ref aDy, .ref aMa, .ref aKi, .int zCn, .ref aPi, .int zPc, .ref aLn, .int (zTo + x)]))] H := hP
  have hD : va_D A [(oa, .inl ((cs 1), 1, .inr (.inl fO))), (h0, .inr (0, [.ref aMo, .ref aSh, .ref aLa, .ref aDy, .ref aMa, .ref aKi, .int zCn, .ref aPi, .int zPc, .ref aLn, .int (zTo + x)]))] := hD
  exact absurd (hX.symm.trans w_4.2) (fun h => nomatch h)
