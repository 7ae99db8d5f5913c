set_option maxHeartbeats 4000000 in
set_option maxRecDepth 100000 in
/-- Line() -/
theorem c_Line_init (l : Launch) (dC : Nat → ClassId) (dI : Nat → Nat → Nat) (cs : Nat → ClassId) (sz : Nat) (aLn : Nat) (zN : Int32) (zX : Int64) (zY : Int64) (zXX : Int64) (zXY : Int64) : Met l y_LI_init w_LI_init ({ frames := 1, cells := 0, slots := 0, locals := 12 }) (vq_Pre (dC, dI) cs [(aLn, .inr (2, [.int zN, .long zX, .long zY, .long zXX, .long zXY]))] sz [.ref aLn]) (va_Qv (fun (_ : Unit) => True) (vq_B (dC, dI) cs (va_A [(aLn, .inr (2, [.int zN, .long zX, .long zY, .long zXX, .long zXY]))] sz) (fun _ => [(aLn, .inr (2, [.int zN, .long zX, .long zY, .long zXX, .long zXY]))])) (va_A [(aLn, .inr (2, [.int zN, .long zX, .long zY, .long zXX, .long zXY]))] sz)) 0 0 (va_A [(aLn, .inr (2, [.int zN, .long zX, .long zY, .long zXX, .long zXY]))] sz) := by
  refine Met.ofW (cc := b_LI_init) (maxL := 1) (ret := none) (by decide) rfl ?_
  intro p e s m args below meth c s₁ B hml hv
  obtain ⟨rfl, hsz, hP, hD0, hCx⟩ := hv
  have hx := B.exec
  have hb := B.bytes
  have hr := B.returns
  have hG := vq_hG (atoms_spec (ws := w_LI_init) B.pre)
  have hown : s.vm.findClass R_LI = some m.cls := findClass_of_methodNamed B.named
  have hlocks := B.notSynchronized
  have hin : meth.name = "<init>" := (name_of_methodNamed B.named B.method).1
  subst hsz
  have hK := hCx.1
  have hD := hD0.self (sz := s.heap.size)
  generalize hAe : va_A [(aLn, .inr (2, [.int zN, .long zX, .long zY, .long zXX, .long zXY]))] s.heap.size = A at hD hCx ⊢
  have hA : ∀ q : Nat, s.heap.size ≤ q → A q := fun q h => by rw [← hAe]; exact Or.inr h
  have hA0 : ∀ q : Nat, s.heap.size ≤ q → va_A [] s.heap.size q := fun q h => Or.inr h
  have hS : va_S (va_A [] s.heap.size) s.heap s.heap [] := va_S.rf
  have hl := lv_entry ([.ref aLn]) (n := 1) (Nat.le_of_ble_eq_true rfl)
  rw [lg_entry_eq]
  generalize (lg_sl ([.ref aLn]) ++ List.replicate (1 - (lg_sl ([.ref aLn])).length) Slot.unset).toArray = ls at hl ⊢
  have hl : lv_has ls 1 [(0, .ref aLn)] := hl
  have hP : va_P (dC, dI) vq_cl [(aLn, .inr (2, [.int zN, .long zX, .long zY, .long zXX, .long zXY]))] s.heap := hP
  refine lv_aload_n hx hb d_LI_init_0 rfl (lv_at hl 0 rfl) ?_
  refine W.objInit hx hb hown (hG _ vq_t28) (hG _ wOI_inst) (hG _ wOI_code) rfl (by rw [hml]; exact hl.1) rfl d_LI_init_1 (Nat.le_of_ble_eq_true rfl) (Nat.le_of_ble_eq_true rfl) ?_
  refine W.eq (g2 := F0 m 4 ls []) rfl ?_
  have hS := vq_wk hS hA
  refine W.widen (k := 0) (n := 0) (Nat.le_of_ble_eq_true rfl) (Nat.le_of_ble_eq_true rfl) ?_
  have hP9 : va_P (dC, dI) vq_cl [(aLn, .inr (2, [.int zN, .long zX, .long zY, .long zXX, .long zXY]))] _ := hP.sub [0] rfl
  have hD9 : va_D A [(aLn, .inr (2, [.int zN, .long zX, .long zY, .long zXX, .long zXY]))] := hD.sub [0] (by decide) rfl
  exact W.vret hx hb hr (fun t ht hW => ⟨⟨(), rfl, trivial, ⟨by rw [ht]; exact hP9, hD9⟩⟩, hS.F ht⟩) hS.2.2 d_LI_init_4
set_option maxHeartbeats 4000000 in
set_option maxRecDepth 100000 in
/-- addPoint -/
theorem c_addPoint (l : Launch) (dC : Nat → ClassId) (dI : Nat → Nat → Nat) (cs : Nat → ClassId) (sz : Nat) (aLn : Nat) (zN : Int32) (zX : Int64) (zY : Int64) (zXX : Int64) (zXY : Int64) (x : Int32) (y : Int32) : Met l y_LI_addPoint w_LI_addPoint ({ frames := 0, cells := 0, slots := 0, locals := 0 }) (vq_Pre (dC, dI) cs [(aLn, .inr (2, [.int zN, .long zX, .long zY, .long zXX, .long zXY]))] sz [.ref aLn, .int x, .int y]) (va_Qv (fun (_ : Unit) => True) (vq_B (dC, dI) cs (va_A [(aLn, .inr (2, [.int zN, .long zX, .long zY, .long zXX, .long zXY]))] sz) (fun _ => [(aLn, .inr (2, [.int (zN + 1), .long (zX + x.toInt64), .long (zY + y.toInt64), .long (zXX + (x.toInt64 * x.toInt64)), .long (zXY + (x.toInt64 * y.toInt64))]))])) (va_A [(aLn, .inr (2, [.int zN, .long zX, .long zY, .long zXX, .long zXY]))] sz)) 0 0 (va_A [(aLn, .inr (2, [.int zN, .long zX, .long zY, .long zXX, .long zXY]))] sz) := by
  refine Met.ofW (cc := b_LI_addPoint) (maxL := 3) (ret := none) (by decide) rfl ?_
  intro p e s m args below meth c s₁ B hml hv
  obtain ⟨rfl, hsz, hP, hD0, hCx⟩ := hv
  have hx := B.exec
  have hb := B.bytes
  have hr := B.returns
  have hG := vq_hG (atoms_spec (ws := w_LI_addPoint) B.pre)
  have hown : s.vm.findClass R_LI = some m.cls := findClass_of_methodNamed B.named
  have hlocks := B.notSynchronized
  subst hsz
  have hK := hCx.1
  have hD := hD0.self (sz := s.heap.size)
  generalize hAe : va_A [(aLn, .inr (2, [.int zN, .long zX, .long zY, .long zXX, .long zXY]))] s.heap.size = A at hD hCx ⊢
  have hA : ∀ q : Nat, s.heap.size ≤ q → A q := fun q h => by rw [← hAe]; exact Or.inr h
  have hA0 : ∀ q : Nat, s.heap.size ≤ q → va_A [] s.heap.size q := fun q h => Or.inr h
  have hS : va_S (va_A [] s.heap.size) s.heap s.heap [] := va_S.rf
  have hl := lv_entry ([.ref aLn, .int x, .int y]) (n := 3) (Nat.le_of_ble_eq_true rfl)
  rw [lg_entry_eq]
  generalize (lg_sl ([.ref aLn, .int x, .int y]) ++ List.replicate (3 - (lg_sl ([.ref aLn, .int x, .int y])).length) Slot.unset).toArray = ls at hl ⊢
  have hl : lv_has ls 3 [(0, .ref aLn), (1, .int x), (2, .int y)] := hl
  have hP : va_P (dC, dI) vq_cl [(aLn, .inr (2, [.int zN, .long zX, .long zY, .long zXX, .long zXY]))] s.heap := hP
  refine lv_aload_n hx hb d_LI_addPoint_0 rfl (lv_at hl 0 rfl) ?_
  refine lv_dup hx hb d_LI_addPoint_1 rfl ?_
  refine va_get (D := (dC, dI)) (ci := 2) (v := .int zN) (C := R_LI) (T := F_LI) (N := 5) hx hb hG i_LI hown hK hP 0 rfl rfl 0 (by decide) (hG _ vq_t29) (fun _ h9 => h9) rfl d_LI_addPoint_2 ?_
  refine lv_iconst (v := 1) hx hb d_LI_addPoint_5 (by decide) ?_
  refine lv_iadd hx hb d_LI_addPoint_6 ?_
  have hS := vq_wk hS hA
  refine va_put (D := (dC, dI)) (ci := 2) (v := .int (zN + 1)) (ty := .int) (C := R_LI) (T := F_LI) (N := 5) hx hb hG i_LI t_LI t_LI_ok n_LI hown hK hP hD hS 0 rfl rfl 0 (by decide) (hG _ vq_t29) (fun _ h9 => h9) rfl (by decide +kernel) rfl rfl (Nat.le_of_ble_eq_true rfl) d_LI_addPoint_7 (fun H locs hP hD hS => ?_)
  have hP : va_P (dC, dI) vq_cl [(aLn, .inr (2, [.int (zN + 1), .long zX, .long zY, .long zXX, .long zXY]))] H := hP
  have hD : va_D A [(aLn, .inr (2, [.int (zN + 1), .long zX, .long zY, .long zXX, .long zXY]))] := hD
  refine lv_aload_n hx hb d_LI_addPoint_10 rfl (lv_at hl 0 rfl) ?_
  refine lv_dup hx hb d_LI_addPoint_11 rfl ?_
  refine va_get (D := (dC, dI)) (ci := 2) (v := .long zX) (C := R_LI) (T := F_LI) (N := 5) hx hb hG i_LI hown hK hP 0 rfl rfl 1 (by decide) (hG _ vq_t31) (fun _ h9 => h9) rfl d_LI_addPoint_12 ?_
  refine lv_iload_n hx hb d_LI_addPoint_15 rfl (lv_at hl 1 rfl) ?_
  refine lv_i2l hx hb d_LI_addPoint_16 rfl ?_
  refine lv_ladd hx hb d_LI_addPoint_17 ?_
  refine va_put (D := (dC, dI)) (ci := 2) (v := .long (zX + x.toInt64)) (ty := .long) (C := R_LI) (T := F_LI) (N := 5) hx hb hG i_LI t_LI t_LI_ok n_LI hown hK hP hD hS 0 rfl rfl 1 (by decide) (hG _ vq_t31) (fun _ h9 => h9) rfl (by decide +kernel) rfl rfl (Nat.le_of_ble_eq_true rfl) d_LI_addPoint_18 (fun H locs hP hD hS => ?_)
  have hP : va_P (dC, dI) vq_cl [(aLn, .inr (2, [.int (zN + 1), .long (zX + x.toInt64), .long zY, .long zXX, .long zXY]))] H := hP
  have hD : va_D A [(aLn, .inr (2, [.int (zN + 1), .long (zX + x.toInt64), .long zY, .long zXX, .long zXY]))] := hD
  refine lv_aload_n hx hb d_LI_addPoint_21 rfl (lv_at hl 0 rfl) ?_
  refine lv_dup hx hb d_LI_addPoint_22 rfl ?_
  refine va_get (D := (dC, dI)) (ci := 2) (v := .long zY) (C := R_LI) (T := F_LI) (N := 5) hx hb hG i_LI hown hK hP 0 rfl rfl 2 (by decide) (hG _ vq_t32) (fun _ h9 => h9) rfl d_LI_addPoint_23 ?_
  refine lv_iload_n hx hb d_LI_addPoint_26 rfl (lv_at hl 2 rfl) ?_
  refine lv_i2l hx hb d_LI_addPoint_27 rfl ?_
  refine lv_ladd hx hb d_LI_addPoint_28 ?_
  refine va_put (D := (dC, dI)) (ci := 2) (v := .long (zY + y.toInt64)) (ty := .long) (C := R_LI) (T := F_LI) (N := 5) hx hb hG i_LI t_LI t_LI_ok n_LI hown hK hP hD hS 0 rfl rfl 2 (by decide) (hG _ vq_t32) (fun _ h9 => h9) rfl (by decide +kernel) rfl rfl (Nat.le_of_ble_eq_true rfl) d_LI_addPoint_29 (fun H locs hP hD hS => ?_)
  have hP : va_P (dC, dI) vq_cl [(aLn, .inr (2, [.int (zN + 1), .long (zX + x.toInt64), .long (zY + y.toInt64), .long zXX, .long zXY]))] H := hP
  have hD : va_D A [(aLn, .inr (2, [.int (zN + 1), .long (zX + x.toInt64), .long (zY + y.toInt64), .long zXX, .long zXY]))] := hD
  refine lv_aload_n hx hb d_LI_addPoint_32 rfl (lv_at hl 0 rfl) ?_
  refine lv_dup hx hb d_LI_addPoint_33 rfl ?_
  refine va_get (D := (dC, dI)) (ci := 2) (v := .long zXX) (C := R_LI) (T := F_LI) (N := 5) hx hb hG i_LI hown hK hP 0 rfl rfl 3 (by decide) (hG _ vq_t33) (fun _ h9 => h9) rfl d_LI_addPoint_34 ?_
  refine lv_iload_n hx hb d_LI_addPoint_37 rfl (lv_at hl 1 rfl) ?_
  refine lv_i2l hx hb d_LI_addPoint_38 rfl ?_
  refine lv_iload_n hx hb d_LI_addPoint_39 rfl (lv_at hl 1 rfl) ?_
  refine lv_i2l hx hb d_LI_addPoint_40 rfl ?_
  refine lv_lmul hx hb d_LI_addPoint_41 ?_
  refine lv_ladd hx hb d_LI_addPoint_42 ?_
  refine va_put (D := (dC, dI)) (ci := 2) (v := .long (zXX + (x.toInt64 * x.toInt64))) (ty := .long) (C := R_LI) (T := F_LI) (N := 5) hx hb hG i_LI t_LI t_LI_ok n_LI hown hK hP hD hS 0 rfl rfl 3 (by decide) (hG _ vq_t33) (fun _ h9 => h9) rfl (by decide +kernel) rfl rfl (Nat.le_of_ble_eq_true rfl) d_LI_addPoint_43 (fun H locs hP hD hS => ?_)
  have hP : va_P (dC, dI) vq_cl [(aLn, .inr (2, [.int (zN + 1), .long (zX + x.toInt64), .long (zY + y.toInt64), .long (zXX + (x.toInt64 * x.toInt64)), .long zXY]))] H := hP
  have hD : va_D A [(aLn, .inr (2, [.int (zN + 1), .long (zX + x.toInt64), .long (zY + y.toInt64), .long (zXX + (x.toInt64 * x.toInt64)), .long zXY]))] := hD
  refine lv_aload_n hx hb d_LI_addPoint_46 rfl (lv_at hl 0 rfl) ?_
  refine lv_dup hx hb d_LI_addPoint_47 rfl ?_
  refine va_get (D := (dC, dI)) (ci := 2) (v := .long zXY) (C := R_LI) (T := F_LI) (N := 5) hx hb hG i_LI hown hK hP 0 rfl rfl 4 (by decide) (hG _ vq_t34) (fun _ h9 => h9) rfl d_LI_addPoint_48 ?_
  refine lv_iload_n hx hb d_LI_addPoint_51 rfl (lv_at hl 1 rfl) ?_
  refine lv_i2l hx hb d_LI_addPoint_52 rfl ?_
  refine lv_iload_n hx hb d_LI_addPoint_53 rfl (lv_at hl 2 rfl) ?_
  refine lv_i2l hx hb d_LI_addPoint_54 rfl ?_
  refine lv_lmul hx hb d_LI_addPoint_55 ?_
  refine lv_ladd hx hb d_LI_addPoint_56 ?_
  refine va_put (D := (dC, dI)) (ci := 2) (v := .long (zXY + (x.toInt64 * y.toInt64))) (ty := .long) (C := R_LI) (T := F_LI) (N := 5) hx hb hG i_LI t_LI t_LI_ok n_LI hown hK hP hD hS 0 rfl rfl 4 (by decide) (hG _ vq_t34) (fun _ h9 => h9) rfl (by decide +kernel) rfl rfl (Nat.le_of_ble_eq_true rfl) d_LI_addPoint_57 (fun H locs hP hD hS => ?_)
  have hP : va_P (dC, dI) vq_cl [(aLn, .inr (2, [.int (zN + 1), .long (zX + x.toInt64), .long (zY + y.toInt64), .long (zXX + (x.toInt64 * x.toInt64)), .long (zXY + (x.toInt64 * y.toInt64))]))] H := hP
  have hD : va_D A [(aLn, .inr (2, [.int (zN + 1), .long (zX + x.toInt64), .long (zY + y.toInt64), .long (zXX + (x.toInt64 * x.toInt64)), .long (zXY + (x.toInt64 * y.toInt64))]))] := hD
  refine W.widen (k := 0) (n := 0) (Nat.le_of_ble_eq_true rfl) (Nat.le_of_ble_eq_true rfl) ?_
  have hP9 : va_P (dC, dI) vq_cl [(aLn, .inr (2, [.int (zN + 1), .long (zX + x.toInt64), .long (zY + y.toInt64), .long (zXX + (x.toInt64 * x.toInt64)), .long (zXY + (x.toInt64 * y.toInt64))]))] _ := hP.sub [0] rfl
  have hD9 : va_D A [(aLn, .inr (2, [.int (zN + 1), .long (zX + x.toInt64), .long (zY + y.toInt64), .long (zXX + (x.toInt64 * x.toInt64)), .long (zXY + (x.toInt64 * y.toInt64))]))] := hD.sub [0] (by decide) rfl
  exact W.vret hx hb hr (fun t ht hW => ⟨⟨(), rfl, trivial, ⟨by rw [ht]; exact hP9, hD9⟩⟩, hS.F ht⟩) hS.2.2 d_LI_addPoint_60
set_option maxHeartbeats 4000000 in
set_option maxRecDepth 100000 in
/-- slopeUpper -/
theorem c_slopeUpper (l : Launch) (dC : Nat → ClassId) (dI : Nat → Nat → Nat) (cs : Nat → ClassId) (sz : Nat) (aLn : Nat) (zN : Int32) (zX : Int64) (zY : Int64) (zXX : Int64) (zXY : Int64) : Met l y_LI_slopeUpper w_LI_slopeUpper ({ frames := 0, cells := 0, slots := 0, locals := 0 }) (vq_PreR (dC, dI) cs [(aLn, .inr (2, [.int zN, .long zX, .long zY, .long zXX, .long zXY]))] sz [.ref aLn]) (va_Ql (fun (r : Int64) (_ : Unit) => r = ((zN.toInt64 * zXY) - (zX * zY))) (fun _ _ => True) (va_A [] sz)) 0 0 (va_A [] sz) := by
  refine Met.ofW (cc := b_LI_slopeUpper) (maxL := 1) (ret := (some .long)) (by decide) rfl ?_
  intro p e s m args below meth c s₁ B hml hv
  obtain ⟨rfl, hsz, hP, hCx⟩ := hv
  have hx := B.exec
  have hb := B.bytes
  have hr := B.returns
  have hG := vq_hG (atoms_spec (ws := w_LI_slopeUpper) B.pre)
  have hown : s.vm.findClass R_LI = some m.cls := findClass_of_methodNamed B.named
  have hlocks := B.notSynchronized
  subst hsz
  have hK := hCx.1
  have hA : ∀ q : Nat, s.heap.size ≤ q → va_A [] s.heap.size q := fun q h => Or.inr h
  have hA0 : ∀ q : Nat, s.heap.size ≤ q → va_A [] s.heap.size q := fun q h => Or.inr h
  have hS : va_S (va_A [] s.heap.size) s.heap s.heap [] := va_S.rf
  have hl := lv_entry ([.ref aLn]) (n := 1) (Nat.le_of_ble_eq_true rfl)
  rw [lg_entry_eq]
  generalize (lg_sl ([.ref aLn]) ++ List.replicate (1 - (lg_sl ([.ref aLn])).length) Slot.unset).toArray = ls at hl ⊢
  have hl : lv_has ls 1 [(0, .ref aLn)] := hl
  have hP : va_P (dC, dI) vq_cl [(aLn, .inr (2, [.int zN, .long zX, .long zY, .long zXX, .long zXY]))] s.heap := hP
  refine lv_aload_n hx hb d_LI_slopeUpper_0 rfl (lv_at hl 0 rfl) ?_
  refine va_get (D := (dC, dI)) (ci := 2) (v := .int zN) (C := R_LI) (T := F_LI) (N := 5) hx hb hG i_LI hown hK hP 0 rfl rfl 0 (by decide) (hG _ vq_t29) (fun _ h9 => h9) rfl d_LI_slopeUpper_1 ?_
  refine lv_i2l hx hb d_LI_slopeUpper_4 rfl ?_
  refine lv_aload_n hx hb d_LI_slopeUpper_5 rfl (lv_at hl 0 rfl) ?_
  refine va_get (D := (dC, dI)) (ci := 2) (v := .long zXY) (C := R_LI) (T := F_LI) (N := 5) hx hb hG i_LI hown hK hP 0 rfl rfl 4 (by decide) (hG _ vq_t34) (fun _ h9 => h9) rfl d_LI_slopeUpper_6 ?_
  refine lv_lmul hx hb d_LI_slopeUpper_9 ?_
  refine lv_aload_n hx hb d_LI_slopeUpper_10 rfl (lv_at hl 0 rfl) ?_
  refine va_get (D := (dC, dI)) (ci := 2) (v := .long zX) (C := R_LI) (T := F_LI) (N := 5) hx hb hG i_LI hown hK hP 0 rfl rfl 1 (by decide) (hG _ vq_t31) (fun _ h9 => h9) rfl d_LI_slopeUpper_11 ?_
  refine lv_aload_n hx hb d_LI_slopeUpper_14 rfl (lv_at hl 0 rfl) ?_
  refine va_get (D := (dC, dI)) (ci := 2) (v := .long zY) (C := R_LI) (T := F_LI) (N := 5) hx hb hG i_LI hown hK hP 0 rfl rfl 2 (by decide) (hG _ vq_t32) (fun _ h9 => h9) rfl d_LI_slopeUpper_15 ?_
  refine lv_lmul hx hb d_LI_slopeUpper_18 ?_
  refine lv_lsub hx hb d_LI_slopeUpper_19 ?_
  refine W.widen (k := 0) (n := 0) (Nat.le_of_ble_eq_true rfl) (Nat.le_of_ble_eq_true rfl) ?_
  exact W.lret (v := ((zN.toInt64 * zXY) - (zX * zY))) hx hb hr (fun t ht hW => ⟨⟨((zN.toInt64 * zXY) - (zX * zY)), (), rfl, rfl, trivial⟩, hS.F ht⟩) hS.2.2 d_LI_slopeUpper_20
set_option maxHeartbeats 4000000 in
set_option maxRecDepth 100000 in
/-- heightUpper -/
theorem c_heightUpper (l : Launch) (dC : Nat → ClassId) (dI : Nat → Nat → Nat) (cs : Nat → ClassId) (sz : Nat) (aLn : Nat) (zN : Int32) (zX : Int64) (zY : Int64) (zXX : Int64) (zXY : Int64) : Met l y_LI_heightUpper w_LI_heightUpper ({ frames := 0, cells := 0, slots := 0, locals := 0 }) (vq_PreR (dC, dI) cs [(aLn, .inr (2, [.int zN, .long zX, .long zY, .long zXX, .long zXY]))] sz [.ref aLn]) (va_Ql (fun (r : Int64) (_ : Unit) => r = ((zY * zXX) - (zX * zXY))) (fun _ _ => True) (va_A [] sz)) 0 0 (va_A [] sz) := by
  refine Met.ofW (cc := b_LI_heightUpper) (maxL := 1) (ret := (some .long)) (by decide) rfl ?_
  intro p e s m args below meth c s₁ B hml hv
  obtain ⟨rfl, hsz, hP, hCx⟩ := hv
  have hx := B.exec
  have hb := B.bytes
  have hr := B.returns
  have hG := vq_hG (atoms_spec (ws := w_LI_heightUpper) B.pre)
  have hown : s.vm.findClass R_LI = some m.cls := findClass_of_methodNamed B.named
  have hlocks := B.notSynchronized
  subst hsz
  have hK := hCx.1
  have hA : ∀ q : Nat, s.heap.size ≤ q → va_A [] s.heap.size q := fun q h => Or.inr h
  have hA0 : ∀ q : Nat, s.heap.size ≤ q → va_A [] s.heap.size q := fun q h => Or.inr h
  have hS : va_S (va_A [] s.heap.size) s.heap s.heap [] := va_S.rf
  have hl := lv_entry ([.ref aLn]) (n := 1) (Nat.le_of_ble_eq_true rfl)
  rw [lg_entry_eq]
  generalize (lg_sl ([.ref aLn]) ++ List.replicate (1 - (lg_sl ([.ref aLn])).length) Slot.unset).toArray = ls at hl ⊢
  have hl : lv_has ls 1 [(0, .ref aLn)] := hl
  have hP : va_P (dC, dI) vq_cl [(aLn, .inr (2, [.int zN, .long zX, .long zY, .long zXX, .long zXY]))] s.heap := hP
  refine lv_aload_n hx hb d_LI_heightUpper_0 rfl (lv_at hl 0 rfl) ?_
  refine va_get (D := (dC, dI)) (ci := 2) (v := .long zY) (C := R_LI) (T := F_LI) (N := 5) hx hb hG i_LI hown hK hP 0 rfl rfl 2 (by decide) (hG _ vq_t32) (fun _ h9 => h9) rfl d_LI_heightUpper_1 ?_
  refine lv_aload_n hx hb d_LI_heightUpper_4 rfl (lv_at hl 0 rfl) ?_
  refine va_get (D := (dC, dI)) (ci := 2) (v := .long zXX) (C := R_LI) (T := F_LI) (N := 5) hx hb hG i_LI hown hK hP 0 rfl rfl 3 (by decide) (hG _ vq_t33) (fun _ h9 => h9) rfl d_LI_heightUpper_5 ?_
  refine lv_lmul hx hb d_LI_heightUpper_8 ?_
  refine lv_aload_n hx hb d_LI_heightUpper_9 rfl (lv_at hl 0 rfl) ?_
  refine va_get (D := (dC, dI)) (ci := 2) (v := .long zX) (C := R_LI) (T := F_LI) (N := 5) hx hb hG i_LI hown hK hP 0 rfl rfl 1 (by decide) (hG _ vq_t31) (fun _ h9 => h9) rfl d_LI_heightUpper_10 ?_
  refine lv_aload_n hx hb d_LI_heightUpper_13 rfl (lv_at hl 0 rfl) ?_
  refine va_get (D := (dC, dI)) (ci := 2) (v := .long zXY) (C := R_LI) (T := F_LI) (N := 5) hx hb hG i_LI hown hK hP 0 rfl rfl 4 (by decide) (hG _ vq_t34) (fun _ h9 => h9) rfl d_LI_heightUpper_14 ?_
  refine lv_lmul hx hb d_LI_heightUpper_17 ?_
  refine lv_lsub hx hb d_LI_heightUpper_18 ?_
  refine W.widen (k := 0) (n := 0) (Nat.le_of_ble_eq_true rfl) (Nat.le_of_ble_eq_true rfl) ?_
  exact W.lret (v := ((zY * zXX) - (zX * zXY))) hx hb hr (fun t ht hW => ⟨⟨((zY * zXX) - (zX * zXY)), (), rfl, rfl, trivial⟩, hS.F ht⟩) hS.2.2 d_LI_heightUpper_19
set_option maxHeartbeats 4000000 in
set_option maxRecDepth 100000 in
/-- lower -/
theorem c_lower (l : Launch) (dC : Nat → ClassId) (dI : Nat → Nat → Nat) (cs : Nat → ClassId) (sz : Nat) (aLn : Nat) (zN : Int32) (zX : Int64) (zY : Int64) (zXX : Int64) (zXY : Int64) : Met l y_LI_lower w_LI_lower ({ frames := 0, cells := 0, slots := 0, locals := 0 }) (vq_PreR (dC, dI) cs [(aLn, .inr (2, [.int zN, .long zX, .long zY, .long zXX, .long zXY]))] sz [.ref aLn]) (va_Ql (fun (r : Int64) (_ : Unit) => r = ((zN.toInt64 * zXX) - (zX * zX))) (fun _ _ => True) (va_A [] sz)) 0 0 (va_A [] sz) := by
  refine Met.ofW (cc := b_LI_lower) (maxL := 1) (ret := (some .long)) (by decide) rfl ?_
  intro p e s m args below meth c s₁ B hml hv
  obtain ⟨rfl, hsz, hP, hCx⟩ := hv
  have hx := B.exec
  have hb := B.bytes
  have hr := B.returns
  have hG := vq_hG (atoms_spec (ws := w_LI_lower) B.pre)
  have hown : s.vm.findClass R_LI = some m.cls := findClass_of_methodNamed B.named
  have hlocks := B.notSynchronized
  subst hsz
  have hK := hCx.1
  have hA : ∀ q : Nat, s.heap.size ≤ q → va_A [] s.heap.size q := fun q h => Or.inr h
  have hA0 : ∀ q : Nat, s.heap.size ≤ q → va_A [] s.heap.size q := fun q h => Or.inr h
  have hS : va_S (va_A [] s.heap.size) s.heap s.heap [] := va_S.rf
  have hl := lv_entry ([.ref aLn]) (n := 1) (Nat.le_of_ble_eq_true rfl)
  rw [lg_entry_eq]
  generalize (lg_sl ([.ref aLn]) ++ List.replicate (1 - (lg_sl ([.ref aLn])).length) Slot.unset).toArray = ls at hl ⊢
  have hl : lv_has ls 1 [(0, .ref aLn)] := hl
  have hP : va_P (dC, dI) vq_cl [(aLn, .inr (2, [.int zN, .long zX, .long zY, .long zXX, .long zXY]))] s.heap := hP
  refine lv_aload_n hx hb d_LI_lower_0 rfl (lv_at hl 0 rfl) ?_
  refine va_get (D := (dC, dI)) (ci := 2) (v := .int zN) (C := R_LI) (T := F_LI) (N := 5) hx hb hG i_LI hown hK hP 0 rfl rfl 0 (by decide) (hG _ vq_t29) (fun _ h9 => h9) rfl d_LI_lower_1 ?_
  refine lv_i2l hx hb d_LI_lower_4 rfl ?_
  refine lv_aload_n hx hb d_LI_lower_5 rfl (lv_at hl 0 rfl) ?_
  refine va_get (D := (dC, dI)) (ci := 2) (v := .long zXX) (C := R_LI) (T := F_LI) (N := 5) hx hb hG i_LI hown hK hP 0 rfl rfl 3 (by decide) (hG _ vq_t33) (fun _ h9 => h9) rfl d_LI_lower_6 ?_
  refine lv_lmul hx hb d_LI_lower_9 ?_
  refine lv_aload_n hx hb d_LI_lower_10 rfl (lv_at hl 0 rfl) ?_
  refine va_get (D := (dC, dI)) (ci := 2) (v := .long zX) (C := R_LI) (T := F_LI) (N := 5) hx hb hG i_LI hown hK hP 0 rfl rfl 1 (by decide) (hG _ vq_t31) (fun _ h9 => h9) rfl d_LI_lower_11 ?_
  refine lv_aload_n hx hb d_LI_lower_14 rfl (lv_at hl 0 rfl) ?_
  refine va_get (D := (dC, dI)) (ci := 2) (v := .long zX) (C := R_LI) (T := F_LI) (N := 5) hx hb hG i_LI hown hK hP 0 rfl rfl 1 (by decide) (hG _ vq_t31) (fun _ h9 => h9) rfl d_LI_lower_15 ?_
  refine lv_lmul hx hb d_LI_lower_18 ?_
  refine lv_lsub hx hb d_LI_lower_19 ?_
  refine W.widen (k := 0) (n := 0) (Nat.le_of_ble_eq_true rfl) (Nat.le_of_ble_eq_true rfl) ?_
  exact W.lret (v := ((zN.toInt64 * zXX) - (zX * zX))) hx hb hr (fun t ht hW => ⟨⟨((zN.toInt64 * zXX) - (zX * zX)), (), rfl, rfl, trivial⟩, hS.F ht⟩) hS.2.2 d_LI_lower_20
