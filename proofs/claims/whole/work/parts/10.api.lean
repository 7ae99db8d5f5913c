set_option maxHeartbeats 4000000 in
set_option maxRecDepth 100000 in
/-- BlendRows() -/
theorem c_BR_init (l : Launch) (dC : Nat → ClassId) (dI : Nat → Nat → Nat) (cs : Nat → ClassId) (sz : Nat) (h0 : Nat) : Met l y_BR_init w_BR_init ({ frames := 2, cells := 40, slots := 709, locals := 32 }) (vq_Pre (dC, dI) cs [(h0, .inr (0, [.null, .null, .null, .null, .null, .null, .int 0, .null, .int 0, .null, .int 0]))] sz [.ref h0]) (va_Qv (fun (_ : Nat × Nat × Nat × Nat × Nat × Nat × Nat × Nat × Nat × Nat × Nat × Nat × Nat × Nat × Nat × Nat × Nat × Nat × Nat × Nat × Nat × Nat × Nat × Nat × Nat × Nat × Nat × Nat × Nat × Nat × Nat × Nat × Nat × Nat × Nat × Nat × Nat × Nat × Nat × Nat) => True) (vq_B (dC, dI) cs (va_A [(h0, .inr (0, [.null, .null, .null, .null, .null, .null, .int 0, .null, .int 0, .null, .int 0]))] sz) (fun u => [(h0, .inr (0, [.ref u.1, .ref u.2.1, .ref u.2.2.1, .ref u.2.2.2.1, .ref u.2.2.2.2.1, .ref u.2.2.2.2.2.1, .int 0, .ref u.2.2.2.2.2.2.1, .int 0, .ref u.2.2.2.2.2.2.2.1, .int 0])), (u.1, .inl ((cs 0), 8, .inl (fun _ => 0))), (u.2.1, .inl ((cs 0), 32, .inl (fun _ => 0))), (u.2.2.1, .inl ((cs 0), 8, .inl (fun _ => 0))), (u.2.2.2.1, .inl ((cs 0), 40, .inl (fun _ => 0))), (u.2.2.2.2.1, .inl ((cs 0), 40, .inl (fun _ => 0))), (u.2.2.2.2.2.1, .inl ((cs 0), 40, .inl (fun _ => 0))), (u.2.2.2.2.2.2.1, .inl ((cs 2), 4, .inr (.inr (.inr (.inr (va_up (va_up (va_up (va_up (fun _ => none) (0 : Int32).toNatClampNeg (some u.2.2.2.2.2.2.2.2.1)) (1 : Int32).toNatClampNeg (some u.2.2.2.2.2.2.2.2.2.2.2.2.2.2.2.2.1)) (2 : Int32).toNatClampNeg (some u.2.2.2.2.2.2.2.2.2.2.2.2.2.2.2.2.2.2.2.2.2.2.2.2.1)) (3 : Int32).toNatClampNeg (some u.2.2.2.2.2.2.2.2.2.2.2.2.2.2.2.2.2.2.2.2.2.2.2.2.2.2.2.2.2.2.2.2.1))))))), (u.2.2.2.2.2.2.2.1, .inr (2, [.int 0, .long 0, .long 0, .long 0, .long 0])), (u.2.2.2.2.2.2.2.2.1, .inr (1, [.int 0, .ref u.2.2.2.2.2.2.2.2.2.1, .ref u.2.2.2.2.2.2.2.2.2.2.1, .int 0, .int 0, .int 0, .int 0, .int 0, .ref u.2.2.2.2.2.2.2.2.2.2.2.1, .ref u.2.2.2.2.2.2.2.2.2.2.2.2.1, .ref u.2.2.2.2.2.2.2.2.2.2.2.2.2.1, .ref u.2.2.2.2.2.2.2.2.2.2.2.2.2.2.1, .ref u.2.2.2.2.2.2.2.2.2.2.2.2.2.2.2.1])), (u.2.2.2.2.2.2.2.2.2.1, .inl ((cs 0), 20, .inl (fun _ => 0))), (u.2.2.2.2.2.2.2.2.2.2.1, .inl ((cs 0), 80, .inl (fun _ => 0))), (u.2.2.2.2.2.2.2.2.2.2.2.1, .inl ((cs 1), 4, .inr (.inl (fun _ => 0)))), (u.2.2.2.2.2.2.2.2.2.2.2.2.1, .inl ((cs 1), 4, .inr (.inl (fun _ => 0)))), (u.2.2.2.2.2.2.2.2.2.2.2.2.2.1, .inl ((cs 0), 4, .inl (fun _ => 0))), (u.2.2.2.2.2.2.2.2.2.2.2.2.2.2.1, .inl ((cs 1), 4, .inr (.inl (fun _ => 0)))), (u.2.2.2.2.2.2.2.2.2.2.2.2.2.2.2.1, .inl ((cs 0), 4, .inl (fun _ => 0))), (u.2.2.2.2.2.2.2.2.2.2.2.2.2.2.2.2.1, .inr (1, [.int 0, .ref u.2.2.2.2.2.2.2.2.2.2.2.2.2.2.2.2.2.1, .ref u.2.2.2.2.2.2.2.2.2.2.2.2.2.2.2.2.2.2.1, .int 0, .int 0, .int 0, .int 0, .int 0, .ref u.2.2.2.2.2.2.2.2.2.2.2.2.2.2.2.2.2.2.2.1, .ref u.2.2.2.2.2.2.2.2.2.2.2.2.2.2.2.2.2.2.2.2.1, .ref u.2.2.2.2.2.2.2.2.2.2.2.2.2.2.2.2.2.2.2.2.2.1, .ref u.2.2.2.2.2.2.2.2.2.2.2.2.2.2.2.2.2.2.2.2.2.2.1, .ref u.2.2.2.2.2.2.2.2.2.2.2.2.2.2.2.2.2.2.2.2.2.2.2.1])), (u.2.2.2.2.2.2.2.2.2.2.2.2.2.2.2.2.2.1, .inl ((cs 0), 20, .inl (fun _ => 0))), (u.2.2.2.2.2.2.2.2.2.2.2.2.2.2.2.2.2.2.1, .inl ((cs 0), 80, .inl (fun _ => 0))), (u.2.2.2.2.2.2.2.2.2.2.2.2.2.2.2.2.2.2.2.1, .inl ((cs 1), 4, .inr (.inl (fun _ => 0)))), (u.2.2.2.2.2.2.2.2.2.2.2.2.2.2.2.2.2.2.2.2.1, .inl ((cs 1), 4, .inr (.inl (fun _ => 0)))), (u.2.2.2.2.2.2.2.2.2.2.2.2.2.2.2.2.2.2.2.2.2.1, .inl ((cs 0), 4, .inl (fun _ => 0))), (u.2.2.2.2.2.2.2.2.2.2.2.2.2.2.2.2.2.2.2.2.2.2.1, .inl ((cs 1), 4, .inr (.inl (fun _ => 0)))), (u.2.2.2.2.2.2.2.2.2.2.2.2.2.2.2.2.2.2.2.2.2.2.2.1, .inl ((cs 0), 4, .inl (fun _ => 0))), (u.2.2.2.2.2.2.2.2.2.2.2.2.2.2.2.2.2.2.2.2.2.2.2.2.1, .inr (1, [.int 0, .ref u.2.2.2.2.2.2.2.2.2.2.2.2.2.2.2.2.2.2.2.2.2.2.2.2.2.1, .ref u.2.2.2.2.2.2.2.2.2.2.2.2.2.2.2.2.2.2.2.2.2.2.2.2.2.2.1, .int 0, .int 0, .int 0, .int 0, .int 0, .ref u.2.2.2.2.2.2.2.2.2.2.2.2.2.2.2.2.2.2.2.2.2.2.2.2.2.2.2.1, .ref u.2.2.2.2.2.2.2.2.2.2.2.2.2.2.2.2.2.2.2.2.2.2.2.2.2.2.2.2.1, .ref u.2.2.2.2.2.2.2.2.2.2.2.2.2.2.2.2.2.2.2.2.2.2.2.2.2.2.2.2.2.1, .ref u.2.2.2.2.2.2.2.2.2.2.2.2.2.2.2.2.2.2.2.2.2.2.2.2.2.2.2.2.2.2.1, .ref u.2.2.2.2.2.2.2.2.2.2.2.2.2.2.2.2.2.2.2.2.2.2.2.2.2.2.2.2.2.2.2.1])), (u.2.2.2.2.2.2.2.2.2.2.2.2.2.2.2.2.2.2.2.2.2.2.2.2.2.1, .inl ((cs 0), 20, .inl (fun _ => 0))), (u.2.2.2.2.2.2.2.2.2.2.2.2.2.2.2.2.2.2.2.2.2.2.2.2.2.2.1, .inl ((cs 0), 80, .inl (fun _ => 0))), (u.2.2.2.2.2.2.2.2.2.2.2.2.2.2.2.2.2.2.2.2.2.2.2.2.2.2.2.1, .inl ((cs 1), 4, .inr (.inl (fun _ => 0)))), (u.2.2.2.2.2.2.2.2.2.2.2.2.2.2.2.2.2.2.2.2.2.2.2.2.2.2.2.2.1, .inl ((cs 1), 4, .inr (.inl (fun _ => 0)))), (u.2.2.2.2.2.2.2.2.2.2.2.2.2.2.2.2.2.2.2.2.2.2.2.2.2.2.2.2.2.1, .inl ((cs 0), 4, .inl (fun _ => 0))), (u.2.2.2.2.2.2.2.2.2.2.2.2.2.2.2.2.2.2.2.2.2.2.2.2.2.2.2.2.2.2.1, .inl ((cs 1), 4, .inr (.inl (fun _ => 0)))), (u.2.2.2.2.2.2.2.2.2.2.2.2.2.2.2.2.2.2.2.2.2.2.2.2.2.2.2.2.2.2.2.1, .inl ((cs 0), 4, .inl (fun _ => 0))), (u.2.2.2.2.2.2.2.2.2.2.2.2.2.2.2.2.2.2.2.2.2.2.2.2.2.2.2.2.2.2.2.2.1, .inr (1, [.int 0, .ref u.2.2.2.2.2.2.2.2.2.2.2.2.2.2.2.2.2.2.2.2.2.2.2.2.2.2.2.2.2.2.2.2.2.1, .ref u.2.2.2.2.2.2.2.2.2.2.2.2.2.2.2.2.2.2.2.2.2.2.2.2.2.2.2.2.2.2.2.2.2.2.1, .int 0, .int 0, .int 0, .int 0, .int 0, .ref u.2.2.2.2.2.2.2.2.2.2.2.2.2.2.2.2.2.2.2.2.2.2.2.2.2.2.2.2.2.2.2.2.2.2.2.1, .ref u.2.2.2.2.2.2.2.2.2.2.2.2.2.2.2.2.2.2.2.2.2.2.2.2.2.2.2.2.2.2.2.2.2.2.2.2.1, .ref u.2.2.2.2.2.2.2.2.2.2.2.2.2.2.2.2.2.2.2.2.2.2.2.2.2.2.2.2.2.2.2.2.2.2.2.2.2.1, .ref u.2.2.2.2.2.2.2.2.2.2.2.2.2.2.2.2.2.2.2.2.2.2.2.2.2.2.2.2.2.2.2.2.2.2.2.2.2.2.1, .ref u.2.2.2.2.2.2.2.2.2.2.2.2.2.2.2.2.2.2.2.2.2.2.2.2.2.2.2.2.2.2.2.2.2.2.2.2.2.2.2])), (u.2.2.2.2.2.2.2.2.2.2.2.2.2.2.2.2.2.2.2.2.2.2.2.2.2.2.2.2.2.2.2.2.2.1, .inl ((cs 0), 20, .inl (fun _ => 0))), (u.2.2.2.2.2.2.2.2.2.2.2.2.2.2.2.2.2.2.2.2.2.2.2.2.2.2.2.2.2.2.2.2.2.2.1, .inl ((cs 0), 80, .inl (fun _ => 0))), (u.2.2.2.2.2.2.2.2.2.2.2.2.2.2.2.2.2.2.2.2.2.2.2.2.2.2.2.2.2.2.2.2.2.2.2.1, .inl ((cs 1), 4, .inr (.inl (fun _ => 0)))), (u.2.2.2.2.2.2.2.2.2.2.2.2.2.2.2.2.2.2.2.2.2.2.2.2.2.2.2.2.2.2.2.2.2.2.2.2.1, .inl ((cs 1), 4, .inr (.inl (fun _ => 0)))), (u.2.2.2.2.2.2.2.2.2.2.2.2.2.2.2.2.2.2.2.2.2.2.2.2.2.2.2.2.2.2.2.2.2.2.2.2.2.1, .inl ((cs 0), 4, .inl (fun _ => 0))), (u.2.2.2.2.2.2.2.2.2.2.2.2.2.2.2.2.2.2.2.2.2.2.2.2.2.2.2.2.2.2.2.2.2.2.2.2.2.2.1, .inl ((cs 1), 4, .inr (.inl (fun _ => 0)))), (u.2.2.2.2.2.2.2.2.2.2.2.2.2.2.2.2.2.2.2.2.2.2.2.2.2.2.2.2.2.2.2.2.2.2.2.2.2.2.2, .inl ((cs 0), 4, .inl (fun _ => 0)))])) (va_A [(h0, .inr (0, [.null, .null, .null, .null, .null, .null, .int 0, .null, .int 0, .null, .int 0]))] sz)) 40 709 (va_A [(h0, .inr (0, [.null, .null, .null, .null, .null, .null, .int 0, .null, .int 0, .null, .int 0]))] sz) := by
  refine Met.ofW (cc := b_BR_init) (maxL := 2) (ret := none) (by decide) rfl ?_
  intro p e s m args below meth c s₁ B hml hv
  obtain ⟨rfl, hsz, hP, hD0, hCx⟩ := hv
  have hx := B.exec
  have hb := B.bytes
  have hr := B.returns
  have hG := vq_hG (atoms_spec (ws := w_BR_init) B.pre)
  have hown : s.vm.findClass R_BR = some m.cls := findClass_of_methodNamed B.named
  have hlocks := B.notSynchronized
  have hin : meth.name = "<init>" := (name_of_methodNamed B.named B.method).1
  subst hsz
  have hK := hCx.1
  have hD := hD0.self (sz := s.heap.size)
  generalize hAe : va_A [(h0, .inr (0, [.null, .null, .null, .null, .null, .null, .int 0, .null, .int 0, .null, .int 0]))] s.heap.size = A at hD hCx ⊢
  have hA : ∀ q : Nat, s.heap.size ≤ q → A q := fun q h => by rw [← hAe]; exact Or.inr h
  have hA0 : ∀ q : Nat, s.heap.size ≤ q → va_A [] s.heap.size q := fun q h => Or.inr h
  have hS : va_S (va_A [] s.heap.size) s.heap s.heap [] := va_S.rf
  have hl := lv_entry ([.ref h0]) (n := 2) (Nat.le_of_ble_eq_true rfl)
  rw [lg_entry_eq]
  generalize (lg_sl ([.ref h0]) ++ List.replicate (2 - (lg_sl ([.ref h0])).length) Slot.unset).toArray = ls at hl ⊢
  have hl : lv_has ls 2 [(0, .ref h0)] := hl
  have hP : va_P (dC, dI) vq_cl [(h0, .inr (0, [.null, .null, .null, .null, .null, .null, .int 0, .null, .int 0, .null, .int 0]))] s.heap := hP
  refine lv_aload_n hx hb d_BR_init_0 rfl (lv_at hl 0 rfl) ?_
  refine W.objInit hx hb hown (hG _ vq_t18) (hG _ wOI_inst) (hG _ wOI_code) rfl (by rw [hml]; exact hl.1) rfl d_BR_init_1 (Nat.le_of_ble_eq_true rfl) (Nat.le_of_ble_eq_true rfl) ?_
  refine W.eq (g2 := F0 m 4 ls []) rfl ?_
  refine lv_aload_n hx hb d_BR_init_4 rfl (lv_at hl 0 rfl) ?_
  refine lv_bipush (v := 8) hx hb d_BR_init_5 (by decide) ?_
  have hS := vq_wk hS hA
  refine vq_newI (N := 8) hx hb hG hCx hP hD hS hA (by decide) rfl (by decide) (Nat.le_of_ble_eq_true rfl) (Nat.le_of_ble_eq_true rfl) d_BR_init_7 (fun q7 H hP hD hS => ?_)
  have hP : va_P (dC, dI) vq_cl [(h0, .inr (0, [.null, .null, .null, .null, .null, .null, .int 0, .null, .int 0, .null, .int 0])), (q7, .inl ((cs 0), 8, .inl (fun _ => 0)))] H := hP
  have hD : va_D A [(h0, .inr (0, [.null, .null, .null, .null, .null, .null, .int 0, .null, .int 0, .null, .int 0])), (q7, .inl ((cs 0), 8, .inl (fun _ => 0)))] := hD
  refine W.widen (k := 1) (n := 8) (Nat.le_of_ble_eq_true rfl) (Nat.le_of_ble_eq_true rfl) ?_
  refine va_putF (D := (dC, dI)) (ci := 0) (v := .ref q7) (ty := (.array .int)) (C := R_BR) (T := F_BR) (N := 11) hx hb hG i_BR t_BR t_BR_ok n_BR hown hK hP hD hS 0 rfl rfl 0 (by decide) (hG _ vq_t100) (fun _ h9 => h9) rfl hin rfl (by decide +kernel) rfl rfl (Nat.le_of_ble_eq_true rfl) d_BR_init_9 (fun H locs hP hD hS => ?_)
  have hP : va_P (dC, dI) vq_cl [(h0, .inr (0, [.ref q7, .null, .null, .null, .null, .null, .int 0, .null, .int 0, .null, .int 0])), (q7, .inl ((cs 0), 8, .inl (fun _ => 0)))] H := hP
  have hD : va_D A [(h0, .inr (0, [.ref q7, .null, .null, .null, .null, .null, .int 0, .null, .int 0, .null, .int 0])), (q7, .inl ((cs 0), 8, .inl (fun _ => 0)))] := hD
  refine lv_aload_n hx hb d_BR_init_12 rfl (lv_at hl 0 rfl) ?_
  refine lv_bipush (v := 32) hx hb d_BR_init_13 (by decide) ?_
  refine vq_newI (N := 32) hx hb hG hCx hP hD hS hA (by decide) rfl (by decide) (Nat.le_of_ble_eq_true rfl) (Nat.le_of_ble_eq_true rfl) d_BR_init_15 (fun q15 H hP hD hS => ?_)
  have hP : va_P (dC, dI) vq_cl [(h0, .inr (0, [.ref q7, .null, .null, .null, .null, .null, .int 0, .null, .int 0, .null, .int 0])), (q7, .inl ((cs 0), 8, .inl (fun _ => 0))), (q15, .inl ((cs 0), 32, .inl (fun _ => 0)))] H := hP
  have hD : va_D A [(h0, .inr (0, [.ref q7, .null, .null, .null, .null, .null, .int 0, .null, .int 0, .null, .int 0])), (q7, .inl ((cs 0), 8, .inl (fun _ => 0))), (q15, .inl ((cs 0), 32, .inl (fun _ => 0)))] := hD
  refine W.widen (k := 2) (n := 40) (Nat.le_of_ble_eq_true rfl) (Nat.le_of_ble_eq_true rfl) ?_
  refine va_putF (D := (dC, dI)) (ci := 0) (v := .ref q15) (ty := (.array .int)) (C := R_BR) (T := F_BR) (N := 11) hx hb hG i_BR t_BR t_BR_ok n_BR hown hK hP hD hS 0 rfl rfl 1 (by decide) (hG _ vq_t101) (fun _ h9 => h9) rfl hin rfl (by decide +kernel) rfl rfl (Nat.le_of_ble_eq_true rfl) d_BR_init_17 (fun H locs hP hD hS => ?_)
  have hP : va_P (dC, dI) vq_cl [(h0, .inr (0, [.ref q7, .ref q15, .null, .null, .null, .null, .int 0, .null, .int 0, .null, .int 0])), (q7, .inl ((cs 0), 8, .inl (fun _ => 0))), (q15, .inl ((cs 0), 32, .inl (fun _ => 0)))] H := hP
  have hD : va_D A [(h0, .inr (0, [.ref q7, .ref q15, .null, .null, .null, .null, .int 0, .null, .int 0, .null, .int 0])), (q7, .inl ((cs 0), 8, .inl (fun _ => 0))), (q15, .inl ((cs 0), 32, .inl (fun _ => 0)))] := hD
  refine lv_aload_n hx hb d_BR_init_20 rfl (lv_at hl 0 rfl) ?_
  refine lv_bipush (v := 8) hx hb d_BR_init_21 (by decide) ?_
  refine vq_newI (N := 8) hx hb hG hCx hP hD hS hA (by decide) rfl (by decide) (Nat.le_of_ble_eq_true rfl) (Nat.le_of_ble_eq_true rfl) d_BR_init_23 (fun q23 H hP hD hS => ?_)
  have hP : va_P (dC, dI) vq_cl [(h0, .inr (0, [.ref q7, .ref q15, .null, .null, .null, .null, .int 0, .null, .int 0, .null, .int 0])), (q7, .inl ((cs 0), 8, .inl (fun _ => 0))), (q15, .inl ((cs 0), 32, .inl (fun _ => 0))), (q23, .inl ((cs 0), 8, .inl (fun _ => 0)))] H := hP
  have hD : va_D A [(h0, .inr (0, [.ref q7, .ref q15, .null, .null, .null, .null, .int 0, .null, .int 0, .null, .int 0])), (q7, .inl ((cs 0), 8, .inl (fun _ => 0))), (q15, .inl ((cs 0), 32, .inl (fun _ => 0))), (q23, .inl ((cs 0), 8, .inl (fun _ => 0)))] := hD
  refine W.widen (k := 3) (n := 48) (Nat.le_of_ble_eq_true rfl) (Nat.le_of_ble_eq_true rfl) ?_
  refine va_putF (D := (dC, dI)) (ci := 0) (v := .ref q23) (ty := (.array .int)) (C := R_BR) (T := F_BR) (N := 11) hx hb hG i_BR t_BR t_BR_ok n_BR hown hK hP hD hS 0 rfl rfl 2 (by decide) (hG _ vq_t102) (fun _ h9 => h9) rfl hin rfl (by decide +kernel) rfl rfl (Nat.le_of_ble_eq_true rfl) d_BR_init_25 (fun H locs hP hD hS => ?_)
  have hP : va_P (dC, dI) vq_cl [(h0, .inr (0, [.ref q7, .ref q15, .ref q23, .null, .null, .null, .int 0, .null, .int 0, .null, .int 0])), (q7, .inl ((cs 0), 8, .inl (fun _ => 0))), (q15, .inl ((cs 0), 32, .inl (fun _ => 0))), (q23, .inl ((cs 0), 8, .inl (fun _ => 0)))] H := hP
  have hD : va_D A [(h0, .inr (0, [.ref q7, .ref q15, .ref q23, .null, .null, .null, .int 0, .null, .int 0, .null, .int 0])), (q7, .inl ((cs 0), 8, .inl (fun _ => 0))), (q15, .inl ((cs 0), 32, .inl (fun _ => 0))), (q23, .inl ((cs 0), 8, .inl (fun _ => 0)))] := hD
  refine lv_aload_n hx hb d_BR_init_28 rfl (lv_at hl 0 rfl) ?_
  refine lv_bipush (v := 40) hx hb d_BR_init_29 (by decide) ?_
  refine vq_newI (N := 40) hx hb hG hCx hP hD hS hA (by decide) rfl (by decide) (Nat.le_of_ble_eq_true rfl) (Nat.le_of_ble_eq_true rfl) d_BR_init_31 (fun q31 H hP hD hS => ?_)
  have hP : va_P (dC, dI) vq_cl [(h0, .inr (0, [.ref q7, .ref q15, .ref q23, .null, .null, .null, .int 0, .null, .int 0, .null, .int 0])), (q7, .inl ((cs 0), 8, .inl (fun _ => 0))), (q15, .inl ((cs 0), 32, .inl (fun _ => 0))), (q23, .inl ((cs 0), 8, .inl (fun _ => 0))), (q31, .inl ((cs 0), 40, .inl (fun _ => 0)))] H := hP
  have hD : va_D A [(h0, .inr (0, [.ref q7, .ref q15, .ref q23, .null, .null, .null, .int 0, .null, .int 0, .null, .int 0])), (q7, .inl ((cs 0), 8, .inl (fun _ => 0))), (q15, .inl ((cs 0), 32, .inl (fun _ => 0))), (q23, .inl ((cs 0), 8, .inl (fun _ => 0))), (q31, .inl ((cs 0), 40, .inl (fun _ => 0)))] := hD
  refine W.widen (k := 4) (n := 88) (Nat.le_of_ble_eq_true rfl) (Nat.le_of_ble_eq_true rfl) ?_
  refine va_putF (D := (dC, dI)) (ci := 0) (v := .ref q31) (ty := (.array .int)) (C := R_BR) (T := F_BR) (N := 11) hx hb hG i_BR t_BR t_BR_ok n_BR hown hK hP hD hS 0 rfl rfl 3 (by decide) (hG _ vq_t103) (fun _ h9 => h9) rfl hin rfl (by decide +kernel) rfl rfl (Nat.le_of_ble_eq_true rfl) d_BR_init_33 (fun H locs hP hD hS => ?_)
  have hP : va_P (dC, dI) vq_cl [(h0, .inr (0, [.ref q7, .ref q15, .ref q23, .ref q31, .null, .null, .int 0, .null, .int 0, .null, .int 0])), (q7, .inl ((cs 0), 8, .inl (fun _ => 0))), (q15, .inl ((cs 0), 32, .inl (fun _ => 0))), (q23, .inl ((cs 0), 8, .inl (fun _ => 0))), (q31, .inl ((cs 0), 40, .inl (fun _ => 0)))] H := hP
  have hD : va_D A [(h0, .inr (0, [.ref q7, .ref q15, .ref q23, .ref q31, .null, .null, .int 0, .null, .int 0, .null, .int 0])), (q7, .inl ((cs 0), 8, .inl (fun _ => 0))), (q15, .inl ((cs 0), 32, .inl (fun _ => 0))), (q23, .inl ((cs 0), 8, .inl (fun _ => 0))), (q31, .inl ((cs 0), 40, .inl (fun _ => 0)))] := hD
  refine lv_aload_n hx hb d_BR_init_36 rfl (lv_at hl 0 rfl) ?_
  refine lv_bipush (v := 40) hx hb d_BR_init_37 (by decide) ?_
  refine vq_newI (N := 40) hx hb hG hCx hP hD hS hA (by decide) rfl (by decide) (Nat.le_of_ble_eq_true rfl) (Nat.le_of_ble_eq_true rfl) d_BR_init_39 (fun q39 H hP hD hS => ?_)
  have hP : va_P (dC, dI) vq_cl [(h0, .inr (0, [.ref q7, .ref q15, .ref q23, .ref q31, .null, .null, .int 0, .null, .int 0, .null, .int 0])), (q7, .inl ((cs 0), 8, .inl (fun _ => 0))), (q15, .inl ((cs 0), 32, .inl (fun _ => 0))), (q23, .inl ((cs 0), 8, .inl (fun _ => 0))), (q31, .inl ((cs 0), 40, .inl (fun _ => 0))), (q39, .inl ((cs 0), 40, .inl (fun _ => 0)))] H := hP
  have hD : va_D A [(h0, .inr (0, [.ref q7, .ref q15, .ref q23, .ref q31, .null, .null, .int 0, .null, .int 0, .null, .int 0])), (q7, .inl ((cs 0), 8, .inl (fun _ => 0))), (q15, .inl ((cs 0), 32, .inl (fun _ => 0))), (q23, .inl ((cs 0), 8, .inl (fun _ => 0))), (q31, .inl ((cs 0), 40, .inl (fun _ => 0))), (q39, .inl ((cs 0), 40, .inl (fun _ => 0)))] := hD
  refine W.widen (k := 5) (n := 128) (Nat.le_of_ble_eq_true rfl) (Nat.le_of_ble_eq_true rfl) ?_
  refine va_putF (D := (dC, dI)) (ci := 0) (v := .ref q39) (ty := (.array .int)) (C := R_BR) (T := F_BR) (N := 11) hx hb hG i_BR t_BR t_BR_ok n_BR hown hK hP hD hS 0 rfl rfl 4 (by decide) (hG _ vq_t104) (fun _ h9 => h9) rfl hin rfl (by decide +kernel) rfl rfl (Nat.le_of_ble_eq_true rfl) d_BR_init_41 (fun H locs hP hD hS => ?_)
  have hP : va_P (dC, dI) vq_cl [(h0, .inr (0, [.ref q7, .ref q15, .ref q23, .ref q31, .ref q39, .null, .int 0, .null, .int 0, .null, .int 0])), (q7, .inl ((cs 0), 8, .inl (fun _ => 0))), (q15, .inl ((cs 0), 32, .inl (fun _ => 0))), (q23, .inl ((cs 0), 8, .inl (fun _ => 0))), (q31, .inl ((cs 0), 40, .inl (fun _ => 0))), (q39, .inl ((cs 0), 40, .inl (fun _ => 0)))] H := hP
  have hD : va_D A [(h0, .inr (0, [.ref q7, .ref q15, .ref q23, .ref q31, .ref q39, .null, .int 0, .null, .int 0, .null, .int 0])), (q7, .inl ((cs 0), 8, .inl (fun _ => 0))), (q15, .inl ((cs 0), 32, .inl (fun _ => 0))), (q23, .inl ((cs 0), 8, .inl (fun _ => 0))), (q31, .inl ((cs 0), 40, .inl (fun _ => 0))), (q39, .inl ((cs 0), 40, .inl (fun _ => 0)))] := hD
  refine lv_aload_n hx hb d_BR_init_44 rfl (lv_at hl 0 rfl) ?_
  refine lv_bipush (v := 40) hx hb d_BR_init_45 (by decide) ?_
  refine vq_newI (N := 40) hx hb hG hCx hP hD hS hA (by decide) rfl (by decide) (Nat.le_of_ble_eq_true rfl) (Nat.le_of_ble_eq_true rfl) d_BR_init_47 (fun q47 H hP hD hS => ?_)
  have hP : va_P (dC, dI) vq_cl [(h0, .inr (0, [.ref q7, .ref q15, .ref q23, .ref q31, .ref q39, .null, .int 0, .null, .int 0, .null, .int 0])), (q7, .inl ((cs 0), 8, .inl (fun _ => 0))), (q15, .inl ((cs 0), 32, .inl (fun _ => 0))), (q23, .inl ((cs 0), 8, .inl (fun _ => 0))), (q31, .inl ((cs 0), 40, .inl (fun _ => 0))), (q39, .inl ((cs 0), 40, .inl (fun _ => 0))), (q47, .inl ((cs 0), 40, .inl (fun _ => 0)))] H := hP
  have hD : va_D A [(h0, .inr (0, [.ref q7, .ref q15, .ref q23, .ref q31, .ref q39, .null, .int 0, .null, .int 0, .null, .int 0])), (q7, .inl ((cs 0), 8, .inl (fun _ => 0))), (q15, .inl ((cs 0), 32, .inl (fun _ => 0))), (q23, .inl ((cs 0), 8, .inl (fun _ => 0))), (q31, .inl ((cs 0), 40, .inl (fun _ => 0))), (q39, .inl ((cs 0), 40, .inl (fun _ => 0))), (q47, .inl ((cs 0), 40, .inl (fun _ => 0)))] := hD
  refine W.widen (k := 6) (n := 168) (Nat.le_of_ble_eq_true rfl) (Nat.le_of_ble_eq_true rfl) ?_
  refine va_putF (D := (dC, dI)) (ci := 0) (v := .ref q47) (ty := (.array .int)) (C := R_BR) (T := F_BR) (N := 11) hx hb hG i_BR t_BR t_BR_ok n_BR hown hK hP hD hS 0 rfl rfl 5 (by decide) (hG _ vq_t105) (fun _ h9 => h9) rfl hin rfl (by decide +kernel) rfl rfl (Nat.le_of_ble_eq_true rfl) d_BR_init_49 (fun H locs hP hD hS => ?_)
  have hP : va_P (dC, dI) vq_cl [(h0, .inr (0, [.ref q7, .ref q15, .ref q23, .ref q31, .ref q39, .ref q47, .int 0, .null, .int 0, .null, .int 0])), (q7, .inl ((cs 0), 8, .inl (fun _ => 0))), (q15, .inl ((cs 0), 32, .inl (fun _ => 0))), (q23, .inl ((cs 0), 8, .inl (fun _ => 0))), (q31, .inl ((cs 0), 40, .inl (fun _ => 0))), (q39, .inl ((cs 0), 40, .inl (fun _ => 0))), (q47, .inl ((cs 0), 40, .inl (fun _ => 0)))] H := hP
  have hD : va_D A [(h0, .inr (0, [.ref q7, .ref q15, .ref q23, .ref q31, .ref q39, .ref q47, .int 0, .null, .int 0, .null, .int 0])), (q7, .inl ((cs 0), 8, .inl (fun _ => 0))), (q15, .inl ((cs 0), 32, .inl (fun _ => 0))), (q23, .inl ((cs 0), 8, .inl (fun _ => 0))), (q31, .inl ((cs 0), 40, .inl (fun _ => 0))), (q39, .inl ((cs 0), 40, .inl (fun _ => 0))), (q47, .inl ((cs 0), 40, .inl (fun _ => 0)))] := hD
  refine lv_aload_n hx hb d_BR_init_52 rfl (lv_at hl 0 rfl) ?_
  refine lv_iconst (v := 4) hx hb d_BR_init_53 (by decide) ?_
  refine vq_newR (N := 4) 2 hx hb hown (hG _ vq_t21) hCx (by decide) rfl hP hD hS hA (by decide) rfl (by decide) (Nat.le_of_ble_eq_true rfl) (Nat.le_of_ble_eq_true rfl) d_BR_init_54 (fun q54 H hP hD hS => ?_)
  have hP : va_P (dC, dI) vq_cl [(h0, .inr (0, [.ref q7, .ref q15, .ref q23, .ref q31, .ref q39, .ref q47, .int 0, .null, .int 0, .null, .int 0])), (q7, .inl ((cs 0), 8, .inl (fun _ => 0))), (q15, .inl ((cs 0), 32, .inl (fun _ => 0))), (q23, .inl ((cs 0), 8, .inl (fun _ => 0))), (q31, .inl ((cs 0), 40, .inl (fun _ => 0))), (q39, .inl ((cs 0), 40, .inl (fun _ => 0))), (q47, .inl ((cs 0), 40, .inl (fun _ => 0))), (q54, .inl ((cs 2), 4, .inr (.inr (.inr (.inr (fun _ => none))))))] H := hP
  have hD : va_D A [(h0, .inr (0, [.ref q7, .ref q15, .ref q23, .ref q31, .ref q39, .ref q47, .int 0, .null, .int 0, .null, .int 0])), (q7, .inl ((cs 0), 8, .inl (fun _ => 0))), (q15, .inl ((cs 0), 32, .inl (fun _ => 0))), (q23, .inl ((cs 0), 8, .inl (fun _ => 0))), (q31, .inl ((cs 0), 40, .inl (fun _ => 0))), (q39, .inl ((cs 0), 40, .inl (fun _ => 0))), (q47, .inl ((cs 0), 40, .inl (fun _ => 0))), (q54, .inl ((cs 2), 4, .inr (.inr (.inr (.inr (fun _ => none))))))] := hD
  refine W.widen (k := 7) (n := 172) (Nat.le_of_ble_eq_true rfl) (Nat.le_of_ble_eq_true rfl) ?_
  refine va_putF (D := (dC, dI)) (ci := 0) (v := .ref q54) (ty := (.array (.object "BlendRows$Pile"))) (C := R_BR) (T := F_BR) (N := 11) hx hb hG i_BR t_BR t_BR_ok n_BR hown hK hP hD hS 0 rfl rfl 7 (by decide) (hG _ vq_t107) (fun _ h9 => h9) rfl hin rfl (by decide +kernel) rfl rfl (Nat.le_of_ble_eq_true rfl) d_BR_init_57 (fun H locs hP hD hS => ?_)
  have hP : va_P (dC, dI) vq_cl [(h0, .inr (0, [.ref q7, .ref q15, .ref q23, .ref q31, .ref q39, .ref q47, .int 0, .ref q54, .int 0, .null, .int 0])), (q7, .inl ((cs 0), 8, .inl (fun _ => 0))), (q15, .inl ((cs 0), 32, .inl (fun _ => 0))), (q23, .inl ((cs 0), 8, .inl (fun _ => 0))), (q31, .inl ((cs 0), 40, .inl (fun _ => 0))), (q39, .inl ((cs 0), 40, .inl (fun _ => 0))), (q47, .inl ((cs 0), 40, .inl (fun _ => 0))), (q54, .inl ((cs 2), 4, .inr (.inr (.inr (.inr (fun _ => none))))))] H := hP
  have hD : va_D A [(h0, .inr (0, [.ref q7, .ref q15, .ref q23, .ref q31, .ref q39, .ref q47, .int 0, .ref q54, .int 0, .null, .int 0])), (q7, .inl ((cs 0), 8, .inl (fun _ => 0))), (q15, .inl ((cs 0), 32, .inl (fun _ => 0))), (q23, .inl ((cs 0), 8, .inl (fun _ => 0))), (q31, .inl ((cs 0), 40, .inl (fun _ => 0))), (q39, .inl ((cs 0), 40, .inl (fun _ => 0))), (q47, .inl ((cs 0), 40, .inl (fun _ => 0))), (q54, .inl ((cs 2), 4, .inr (.inr (.inr (.inr (fun _ => none))))))] := hD
  refine lv_aload_n hx hb d_BR_init_60 rfl (lv_at hl 0 rfl) ?_
  refine va_new (ci := 2) (fs := [.int 0, .long 0, .long 0, .long 0, .long 0]) (C := R_LI) (T := F_LI) (N := 5) hx hb hG i_LI t_LI t_LI_ok hown (hG _ vq_t23) (hG _ vq_t24) (hG _ vq_t2) hK hP hD hS hA rfl (fun j hj => by rcases (show j = 0 ∨ j = 1 ∨ j = 2 ∨ j = 3 ∨ j = 4 by omega) with rfl | rfl | rfl | rfl | rfl <;> rfl) (Nat.le_of_ble_eq_true rfl) (Nat.le_of_ble_eq_true rfl) d_BR_init_61 (fun q61 H hP hD hS => ?_)
  have hP : va_P (dC, dI) vq_cl [(h0, .inr (0, [.ref q7, .ref q15, .ref q23, .ref q31, .ref q39, .ref q47, .int 0, .ref q54, .int 0, .null, .int 0])), (q7, .inl ((cs 0), 8, .inl (fun _ => 0))), (q15, .inl ((cs 0), 32, .inl (fun _ => 0))), (q23, .inl ((cs 0), 8, .inl (fun _ => 0))), (q31, .inl ((cs 0), 40, .inl (fun _ => 0))), (q39, .inl ((cs 0), 40, .inl (fun _ => 0))), (q47, .inl ((cs 0), 40, .inl (fun _ => 0))), (q54, .inl ((cs 2), 4, .inr (.inr (.inr (.inr (fun _ => none)))))), (q61, .inr (2, [.int 0, .long 0, .long 0, .long 0, .long 0]))] H := hP
  have hD : va_D A [(h0, .inr (0, [.ref q7, .ref q15, .ref q23, .ref q31, .ref q39, .ref q47, .int 0, .ref q54, .int 0, .null, .int 0])), (q7, .inl ((cs 0), 8, .inl (fun _ => 0))), (q15, .inl ((cs 0), 32, .inl (fun _ => 0))), (q23, .inl ((cs 0), 8, .inl (fun _ => 0))), (q31, .inl ((cs 0), 40, .inl (fun _ => 0))), (q39, .inl ((cs 0), 40, .inl (fun _ => 0))), (q47, .inl ((cs 0), 40, .inl (fun _ => 0))), (q54, .inl ((cs 2), 4, .inr (.inr (.inr (.inr (fun _ => none)))))), (q61, .inr (2, [.int 0, .long 0, .long 0, .long 0, .long 0]))] := hD
  refine W.widen (k := 8) (n := 177) (Nat.le_of_ble_eq_true rfl) (Nat.le_of_ble_eq_true rfl) ?_
  refine lv_dup hx hb d_BR_init_64 rfl ?_
  refine mk_wv (va_runIN (As := []) (rest := [.ref q61, .ref h0]) ⟨hx, hb, hml, hown, hG⟩ (c_Line_init l dC dI cs _ q61 0 0 0 0 0) ⟨va_cnB 0 hG (vq_gI vq_t27) rfl rfl rfl (hCx.2.2.1 _ vq_nm0) (hG _ vq_t2) (by decide +kernel) ⟨Nat.le_of_ble_eq_true rfl, Nat.le_of_ble_eq_true rfl⟩, rfl, hG _ vq_t26⟩ (vq_preSw (wc := [(q61, .inr (2, [.int 0, .long 0, .long 0, .long 0, .long 0]))]) hCx hP hD hS hA [8] rfl rfl (by decide)) rfl rfl hl.1 rfl (lv_room (Nat.le_of_ble_eq_true rfl)) d_BR_init_65 ⟨Nat.le_of_ble_eq_true rfl, Nat.le_of_ble_eq_true rfl⟩) hP hD hS hA [8] [0, 1, 2, 3, 4, 5, 6, 7] rfl rfl (by decide) (by decide) (fun _ H locs w_65 hP hD hS => ?_)
  have hP : va_P (dC, dI) vq_cl [(h0, .inr (0, [.ref q7, .ref q15, .ref q23, .ref q31, .ref q39, .ref q47, .int 0, .ref q54, .int 0, .null, .int 0])), (q7, .inl ((cs 0), 8, .inl (fun _ => 0))), (q15, .inl ((cs 0), 32, .inl (fun _ => 0))), (q23, .inl ((cs 0), 8, .inl (fun _ => 0))), (q31, .inl ((cs 0), 40, .inl (fun _ => 0))), (q39, .inl ((cs 0), 40, .inl (fun _ => 0))), (q47, .inl ((cs 0), 40, .inl (fun _ => 0))), (q54, .inl ((cs 2), 4, .inr (.inr (.inr (.inr (fun _ => none)))))), (q61, .inr (2, [.int 0, .long 0, .long 0, .long 0, .long 0]))] H := hP
  have hD : va_D A [(h0, .inr (0, [.ref q7, .ref q15, .ref q23, .ref q31, .ref q39, .ref q47, .int 0, .ref q54, .int 0, .null, .int 0])), (q7, .inl ((cs 0), 8, .inl (fun _ => 0))), (q15, .inl ((cs 0), 32, .inl (fun _ => 0))), (q23, .inl ((cs 0), 8, .inl (fun _ => 0))), (q31, .inl ((cs 0), 40, .inl (fun _ => 0))), (q39, .inl ((cs 0), 40, .inl (fun _ => 0))), (q47, .inl ((cs 0), 40, .inl (fun _ => 0))), (q54, .inl ((cs 2), 4, .inr (.inr (.inr (.inr (fun _ => none)))))), (q61, .inr (2, [.int 0, .long 0, .long 0, .long 0, .long 0]))] := hD
  refine va_putF (D := (dC, dI)) (ci := 0) (v := .ref q61) (ty := (.object "BlendRows$Line")) (C := R_BR) (T := F_BR) (N := 11) hx hb hG i_BR t_BR t_BR_ok n_BR hown hK hP hD hS 0 rfl rfl 9 (by decide) (hG _ vq_t109) (fun _ h9 => h9) rfl hin rfl (by decide +kernel) rfl rfl (Nat.le_of_ble_eq_true rfl) d_BR_init_68 (fun H locs hP hD hS => ?_)
  have hP : va_P (dC, dI) vq_cl [(h0, .inr (0, [.ref q7, .ref q15, .ref q23, .ref q31, .ref q39, .ref q47, .int 0, .ref q54, .int 0, .ref q61, .int 0])), (q7, .inl ((cs 0), 8, .inl (fun _ => 0))), (q15, .inl ((cs 0), 32, .inl (fun _ => 0))), (q23, .inl ((cs 0), 8, .inl (fun _ => 0))), (q31, .inl ((cs 0), 40, .inl (fun _ => 0))), (q39, .inl ((cs 0), 40, .inl (fun _ => 0))), (q47, .inl ((cs 0), 40, .inl (fun _ => 0))), (q54, .inl ((cs 2), 4, .inr (.inr (.inr (.inr (fun _ => none)))))), (q61, .inr (2, [.int 0, .long 0, .long 0, .long 0, .long 0]))] H := hP
  have hD : va_D A [(h0, .inr (0, [.ref q7, .ref q15, .ref q23, .ref q31, .ref q39, .ref q47, .int 0, .ref q54, .int 0, .ref q61, .int 0])), (q7, .inl ((cs 0), 8, .inl (fun _ => 0))), (q15, .inl ((cs 0), 32, .inl (fun _ => 0))), (q23, .inl ((cs 0), 8, .inl (fun _ => 0))), (q31, .inl ((cs 0), 40, .inl (fun _ => 0))), (q39, .inl ((cs 0), 40, .inl (fun _ => 0))), (q47, .inl ((cs 0), 40, .inl (fun _ => 0))), (q54, .inl ((cs 2), 4, .inr (.inr (.inr (.inr (fun _ => none)))))), (q61, .inr (2, [.int 0, .long 0, .long 0, .long 0, .long 0]))] := hD
  refine lv_iconst (v := 0) hx hb d_BR_init_71 (by decide) ?_
  refine lv_istore_n (lv' := [(1, .int 0), (0, .ref h0)]) hx hb d_BR_init_72 rfl hl (by decide) rfl (fun ls hl => ?_)
  refine lv_iload_n hx hb d_BR_init_73 rfl (lv_at hl 0 rfl) ?_
  refine lv_iconst (v := 4) hx hb d_BR_init_74 (by decide) ?_
  refine lv_icmp_ge (tgt := 97) hx hb d_BR_init_75 (by decide) (fun c_75 => ?_) (fun c_75 => ?_)
  · skip
    exact absurd c_75 (by decide)
  · skip
    refine lv_aload_n hx hb d_BR_init_78 rfl (lv_at hl 1 rfl) ?_
    refine va_get (D := (dC, dI)) (ci := 0) (v := .ref q54) (C := R_BR) (T := F_BR) (N := 11) hx hb hG i_BR hown hK hP 0 rfl rfl 7 (by decide) (hG _ vq_t107) (fun _ h9 => h9) rfl d_BR_init_79 ?_
    refine lv_iload_n hx hb d_BR_init_82 rfl (lv_at hl 0 rfl) ?_
    refine va_new (ci := 1) (fs := [.int 0, .null, .null, .int 0, .int 0, .int 0, .int 0, .int 0, .null, .null, .null, .null, .null]) (C := R_PI) (T := F_PI) (N := 13) hx hb hG i_PI t_PI t_PI_ok hown (hG _ vq_t21) (hG _ vq_t47) (hG _ vq_t3) hK hP hD hS hA rfl (fun j hj => by rcases (show j = 0 ∨ j = 1 ∨ j = 2 ∨ j = 3 ∨ j = 4 ∨ j = 5 ∨ j = 6 ∨ j = 7 ∨ j = 8 ∨ j = 9 ∨ j = 10 ∨ j = 11 ∨ j = 12 by omega) with rfl | rfl | rfl | rfl | rfl | rfl | rfl | rfl | rfl | rfl | rfl | rfl | rfl <;> rfl) (Nat.le_of_ble_eq_true rfl) (Nat.le_of_ble_eq_true rfl) d_BR_init_83 (fun q83 H hP hD hS => ?_)
    have hP : va_P (dC, dI) vq_cl [(h0, .inr (0, [.ref q7, .ref q15, .ref q23, .ref q31, .ref q39, .ref q47, .int 0, .ref q54, .int 0, .ref q61, .int 0])), (q7, .inl ((cs 0), 8, .inl (fun _ => 0))), (q15, .inl ((cs 0), 32, .inl (fun _ => 0))), (q23, .inl ((cs 0), 8, .inl (fun _ => 0))), (q31, .inl ((cs 0), 40, .inl (fun _ => 0))), (q39, .inl ((cs 0), 40, .inl (fun _ => 0))), (q47, .inl ((cs 0), 40, .inl (fun _ => 0))), (q54, .inl ((cs 2), 4, .inr (.inr (.inr (.inr (fun _ => none)))))), (q61, .inr (2, [.int 0, .long 0, .long 0, .long 0, .long 0])), (q83, .inr (1, [.int 0, .null, .null, .int 0, .int 0, .int 0, .int 0, .int 0, .null, .null, .null, .null, .null]))] H := hP
    have hD : va_D A [(h0, .inr (0, [.ref q7, .ref q15, .ref q23, .ref q31, .ref q39, .ref q47, .int 0, .ref q54, .int 0, .ref q61, .int 0])), (q7, .inl ((cs 0), 8, .inl (fun _ => 0))), (q15, .inl ((cs 0), 32, .inl (fun _ => 0))), (q23, .inl ((cs 0), 8, .inl (fun _ => 0))), (q31, .inl ((cs 0), 40, .inl (fun _ => 0))), (q39, .inl ((cs 0), 40, .inl (fun _ => 0))), (q47, .inl ((cs 0), 40, .inl (fun _ => 0))), (q54, .inl ((cs 2), 4, .inr (.inr (.inr (.inr (fun _ => none)))))), (q61, .inr (2, [.int 0, .long 0, .long 0, .long 0, .long 0])), (q83, .inr (1, [.int 0, .null, .null, .int 0, .int 0, .int 0, .int 0, .int 0, .null, .null, .null, .null, .null]))] := hD
    refine W.widen (k := 9) (n := 190) (Nat.le_of_ble_eq_true rfl) (Nat.le_of_ble_eq_true rfl) ?_
    refine lv_dup hx hb d_BR_init_86 rfl ?_
    refine mk_wv (va_runIN (As := []) (rest := [.ref q83, .int 0, .ref q54]) ⟨hx, hb, hml, hown, hG⟩ (c_Pile_init l dC dI cs _ q83) ⟨va_cnB 0 hG (vq_gI vq_t50) rfl rfl rfl (hCx.2.2.1 _ vq_nm1) (hG _ vq_t3) (by decide +kernel) ⟨Nat.le_of_ble_eq_true rfl, Nat.le_of_ble_eq_true rfl⟩, rfl, hG _ vq_t49⟩ (vq_preSw (wc := [(q83, .inr (1, [.int 0, .null, .null, .int 0, .int 0, .int 0, .int 0, .int 0, .null, .null, .null, .null, .null]))]) hCx hP hD hS hA [9] rfl rfl (by decide)) rfl rfl hl.1 rfl (lv_room (Nat.le_of_ble_eq_true rfl)) d_BR_init_87 ⟨Nat.le_of_ble_eq_true rfl, Nat.le_of_ble_eq_true rfl⟩) hP hD hS hA [9] [0, 1, 2, 3, 4, 5, 6, 7, 8] rfl rfl (by decide) (by decide) (fun u_87 H locs w_87 hP hD hS => ?_)
    obtain ⟨bLG_87, bLS_87, bLt_87, bGS_87, bGG_87, bES_87, bEG_87⟩ := u_87
    have hP : va_P (dC, dI) vq_cl [(h0, .inr (0, [.ref q7, .ref q15, .ref q23, .ref q31, .ref q39, .ref q47, .int 0, .ref q54, .int 0, .ref q61, .int 0])), (q7, .inl ((cs 0), 8, .inl (fun _ => 0))), (q15, .inl ((cs 0), 32, .inl (fun _ => 0))), (q23, .inl ((cs 0), 8, .inl (fun _ => 0))), (q31, .inl ((cs 0), 40, .inl (fun _ => 0))), (q39, .inl ((cs 0), 40, .inl (fun _ => 0))), (q47, .inl ((cs 0), 40, .inl (fun _ => 0))), (q54, .inl ((cs 2), 4, .inr (.inr (.inr (.inr (fun _ => none)))))), (q61, .inr (2, [.int 0, .long 0, .long 0, .long 0, .long 0])), (q83, .inr (1, [.int 0, .ref bLG_87, .ref bLS_87, .int 0, .int 0, .int 0, .int 0, .int 0, .ref bLt_87, .ref bGS_87, .ref bGG_87, .ref bES_87, .ref bEG_87])), (bLG_87, .inl ((cs 0), 20, .inl (fun _ => 0))), (bLS_87, .inl ((cs 0), 80, .inl (fun _ => 0))), (bLt_87, .inl ((cs 1), 4, .inr (.inl (fun _ => 0)))), (bGS_87, .inl ((cs 1), 4, .inr (.inl (fun _ => 0)))), (bGG_87, .inl ((cs 0), 4, .inl (fun _ => 0))), (bES_87, .inl ((cs 1), 4, .inr (.inl (fun _ => 0)))), (bEG_87, .inl ((cs 0), 4, .inl (fun _ => 0)))] H := hP
    have hD : va_D A [(h0, .inr (0, [.ref q7, .ref q15, .ref q23, .ref q31, .ref q39, .ref q47, .int 0, .ref q54, .int 0, .ref q61, .int 0])), (q7, .inl ((cs 0), 8, .inl (fun _ => 0))), (q15, .inl ((cs 0), 32, .inl (fun _ => 0))), (q23, .inl ((cs 0), 8, .inl (fun _ => 0))), (q31, .inl ((cs 0), 40, .inl (fun _ => 0))), (q39, .inl ((cs 0), 40, .inl (fun _ => 0))), (q47, .inl ((cs 0), 40, .inl (fun _ => 0))), (q54, .inl ((cs 2), 4, .inr (.inr (.inr (.inr (fun _ => none)))))), (q61, .inr (2, [.int 0, .long 0, .long 0, .long 0, .long 0])), (q83, .inr (1, [.int 0, .ref bLG_87, .ref bLS_87, .int 0, .int 0, .int 0, .int 0, .int 0, .ref bLt_87, .ref bGS_87, .ref bGG_87, .ref bES_87, .ref bEG_87])), (bLG_87, .inl ((cs 0), 20, .inl (fun _ => 0))), (bLS_87, .inl ((cs 0), 80, .inl (fun _ => 0))), (bLt_87, .inl ((cs 1), 4, .inr (.inl (fun _ => 0)))), (bGS_87, .inl ((cs 1), 4, .inr (.inl (fun _ => 0)))), (bGG_87, .inl ((cs 0), 4, .inl (fun _ => 0))), (bES_87, .inl ((cs 1), 4, .inr (.inl (fun _ => 0)))), (bEG_87, .inl ((cs 0), 4, .inl (fun _ => 0)))] := hD
    refine W.widen (k := 16) (n := 310) (Nat.le_of_ble_eq_true rfl) (Nat.le_of_ble_eq_true rfl) ?_
    refine va_astq (D := (dC, dI)) hx hb hK hP hD hS 7 2 9 1 rfl rfl rfl rfl (vq_in 4 rfl (by decide) (by decide)) d_BR_init_90 (fun H locs hP hD hS => ?_)
    have hP : va_P (dC, dI) vq_cl [(h0, .inr (0, [.ref q7, .ref q15, .ref q23, .ref q31, .ref q39, .ref q47, .int 0, .ref q54, .int 0, .ref q61, .int 0])), (q7, .inl ((cs 0), 8, .inl (fun _ => 0))), (q15, .inl ((cs 0), 32, .inl (fun _ => 0))), (q23, .inl ((cs 0), 8, .inl (fun _ => 0))), (q31, .inl ((cs 0), 40, .inl (fun _ => 0))), (q39, .inl ((cs 0), 40, .inl (fun _ => 0))), (q47, .inl ((cs 0), 40, .inl (fun _ => 0))), (q54, .inl ((cs 2), 4, .inr (.inr (.inr (.inr (va_up (fun _ => none) (0 : Int32).toNatClampNeg (some q83))))))), (q61, .inr (2, [.int 0, .long 0, .long 0, .long 0, .long 0])), (q83, .inr (1, [.int 0, .ref bLG_87, .ref bLS_87, .int 0, .int 0, .int 0, .int 0, .int 0, .ref bLt_87, .ref bGS_87, .ref bGG_87, .ref bES_87, .ref bEG_87])), (bLG_87, .inl ((cs 0), 20, .inl (fun _ => 0))), (bLS_87, .inl ((cs 0), 80, .inl (fun _ => 0))), (bLt_87, .inl ((cs 1), 4, .inr (.inl (fun _ => 0)))), (bGS_87, .inl ((cs 1), 4, .inr (.inl (fun _ => 0)))), (bGG_87, .inl ((cs 0), 4, .inl (fun _ => 0))), (bES_87, .inl ((cs 1), 4, .inr (.inl (fun _ => 0)))), (bEG_87, .inl ((cs 0), 4, .inl (fun _ => 0)))] H := hP
    have hD : va_D A [(h0, .inr (0, [.ref q7, .ref q15, .ref q23, .ref q31, .ref q39, .ref q47, .int 0, .ref q54, .int 0, .ref q61, .int 0])), (q7, .inl ((cs 0), 8, .inl (fun _ => 0))), (q15, .inl ((cs 0), 32, .inl (fun _ => 0))), (q23, .inl ((cs 0), 8, .inl (fun _ => 0))), (q31, .inl ((cs 0), 40, .inl (fun _ => 0))), (q39, .inl ((cs 0), 40, .inl (fun _ => 0))), (q47, .inl ((cs 0), 40, .inl (fun _ => 0))), (q54, .inl ((cs 2), 4, .inr (.inr (.inr (.inr (va_up (fun _ => none) (0 : Int32).toNatClampNeg (some q83))))))), (q61, .inr (2, [.int 0, .long 0, .long 0, .long 0, .long 0])), (q83, .inr (1, [.int 0, .ref bLG_87, .ref bLS_87, .int 0, .int 0, .int 0, .int 0, .int 0, .ref bLt_87, .ref bGS_87, .ref bGG_87, .ref bES_87, .ref bEG_87])), (bLG_87, .inl ((cs 0), 20, .inl (fun _ => 0))), (bLS_87, .inl ((cs 0), 80, .inl (fun _ => 0))), (bLt_87, .inl ((cs 1), 4, .inr (.inl (fun _ => 0)))), (bGS_87, .inl ((cs 1), 4, .inr (.inl (fun _ => 0)))), (bGG_87, .inl ((cs 0), 4, .inl (fun _ => 0))), (bES_87, .inl ((cs 1), 4, .inr (.inl (fun _ => 0)))), (bEG_87, .inl ((cs 0), 4, .inl (fun _ => 0)))] := hD
    refine lv_iinc (v := 1) (lv' := [(1, .int 1), (0, .ref h0)]) hx hb d_BR_init_91 hl (k := 0) rfl (by decide) (by decide) rfl (fun ls hl => ?_)
    refine lv_goto (tgt := 73) hx hb d_BR_init_94 (by decide) ?_
    refine lv_iload_n hx hb d_BR_init_73 rfl (lv_at hl 0 rfl) ?_
    refine lv_iconst (v := 4) hx hb d_BR_init_74 (by decide) ?_
    refine lv_icmp_ge (tgt := 97) hx hb d_BR_init_75 (by decide) (fun c_75 => ?_) (fun c_75 => ?_)
    · skip
      exact absurd c_75 (by decide)
    · skip
      refine lv_aload_n hx hb d_BR_init_78 rfl (lv_at hl 1 rfl) ?_
      refine va_get (D := (dC, dI)) (ci := 0) (v := .ref q54) (C := R_BR) (T := F_BR) (N := 11) hx hb hG i_BR hown hK hP 0 rfl rfl 7 (by decide) (hG _ vq_t107) (fun _ h9 => h9) rfl d_BR_init_79 ?_
      refine lv_iload_n hx hb d_BR_init_82 rfl (lv_at hl 0 rfl) ?_
      refine va_new (ci := 1) (fs := [.int 0, .null, .null, .int 0, .int 0, .int 0, .int 0, .int 0, .null, .null, .null, .null, .null]) (C := R_PI) (T := F_PI) (N := 13) hx hb hG i_PI t_PI t_PI_ok hown (hG _ vq_t21) (hG _ vq_t47) (hG _ vq_t3) hK hP hD hS hA rfl (fun j hj => by rcases (show j = 0 ∨ j = 1 ∨ j = 2 ∨ j = 3 ∨ j = 4 ∨ j = 5 ∨ j = 6 ∨ j = 7 ∨ j = 8 ∨ j = 9 ∨ j = 10 ∨ j = 11 ∨ j = 12 by omega) with rfl | rfl | rfl | rfl | rfl | rfl | rfl | rfl | rfl | rfl | rfl | rfl | rfl <;> rfl) (Nat.le_of_ble_eq_true rfl) (Nat.le_of_ble_eq_true rfl) d_BR_init_83 (fun q83_2 H hP hD hS => ?_)
      have hP : va_P (dC, dI) vq_cl [(h0, .inr (0, [.ref q7, .ref q15, .ref q23, .ref q31, .ref q39, .ref q47, .int 0, .ref q54, .int 0, .ref q61, .int 0])), (q7, .inl ((cs 0), 8, .inl (fun _ => 0))), (q15, .inl ((cs 0), 32, .inl (fun _ => 0))), (q23, .inl ((cs 0), 8, .inl (fun _ => 0))), (q31, .inl ((cs 0), 40, .inl (fun _ => 0))), (q39, .inl ((cs 0), 40, .inl (fun _ => 0))), (q47, .inl ((cs 0), 40, .inl (fun _ => 0))), (q54, .inl ((cs 2), 4, .inr (.inr (.inr (.inr (va_up (fun _ => none) (0 : Int32).toNatClampNeg (some q83))))))), (q61, .inr (2, [.int 0, .long 0, .long 0, .long 0, .long 0])), (q83, .inr (1, [.int 0, .ref bLG_87, .ref bLS_87, .int 0, .int 0, .int 0, .int 0, .int 0, .ref bLt_87, .ref bGS_87, .ref bGG_87, .ref bES_87, .ref bEG_87])), (bLG_87, .inl ((cs 0), 20, .inl (fun _ => 0))), (bLS_87, .inl ((cs 0), 80, .inl (fun _ => 0))), (bLt_87, .inl ((cs 1), 4, .inr (.inl (fun _ => 0)))), (bGS_87, .inl ((cs 1), 4, .inr (.inl (fun _ => 0)))), (bGG_87, .inl ((cs 0), 4, .inl (fun _ => 0))), (bES_87, .inl ((cs 1), 4, .inr (.inl (fun _ => 0)))), (bEG_87, .inl ((cs 0), 4, .inl (fun _ => 0))), (q83_2, .inr (1, [.int 0, .null, .null, .int 0, .int 0, .int 0, .int 0, .int 0, .null, .null, .null, .null, .null]))] H := hP
      have hD : va_D A [(h0, .inr (0, [.ref q7, .ref q15, .ref q23, .ref q31, .ref q39, .ref q47, .int 0, .ref q54, .int 0, .ref q61, .int 0])), (q7, .inl ((cs 0), 8, .inl (fun _ => 0))), (q15, .inl ((cs 0), 32, .inl (fun _ => 0))), (q23, .inl ((cs 0), 8, .inl (fun _ => 0))), (q31, .inl ((cs 0), 40, .inl (fun _ => 0))), (q39, .inl ((cs 0), 40, .inl (fun _ => 0))), (q47, .inl ((cs 0), 40, .inl (fun _ => 0))), (q54, .inl ((cs 2), 4, .inr (.inr (.inr (.inr (va_up (fun _ => none) (0 : Int32).toNatClampNeg (some q83))))))), (q61, .inr (2, [.int 0, .long 0, .long 0, .long 0, .long 0])), (q83, .inr (1, [.int 0, .ref bLG_87, .ref bLS_87, .int 0, .int 0, .int 0, .int 0, .int 0, .ref bLt_87, .ref bGS_87, .ref bGG_87, .ref bES_87, .ref bEG_87])), (bLG_87, .inl ((cs 0), 20, .inl (fun _ => 0))), (bLS_87, .inl ((cs 0), 80, .inl (fun _ => 0))), (bLt_87, .inl ((cs 1), 4, .inr (.inl (fun _ => 0)))), (bGS_87, .inl ((cs 1), 4, .inr (.inl (fun _ => 0)))), (bGG_87, .inl ((cs 0), 4, .inl (fun _ => 0))), (bES_87, .inl ((cs 1), 4, .inr (.inl (fun _ => 0)))), (bEG_87, .inl ((cs 0), 4, .inl (fun _ => 0))), (q83_2, .inr (1, [.int 0, .null, .null, .int 0, .int 0, .int 0, .int 0, .int 0, .null, .null, .null, .null, .null]))] := hD
      refine W.widen (k := 17) (n := 323) (Nat.le_of_ble_eq_true rfl) (Nat.le_of_ble_eq_true rfl) ?_
      refine lv_dup hx hb d_BR_init_86 rfl ?_
      refine mk_wv (va_runIN (As := []) (rest := [.ref q83_2, .int 1, .ref q54]) ⟨hx, hb, hml, hown, hG⟩ (c_Pile_init l dC dI cs _ q83_2) ⟨va_cnB 0 hG (vq_gI vq_t50) rfl rfl rfl (hCx.2.2.1 _ vq_nm1) (hG _ vq_t3) (by decide +kernel) ⟨Nat.le_of_ble_eq_true rfl, Nat.le_of_ble_eq_true rfl⟩, rfl, hG _ vq_t49⟩ (vq_preSw (wc := [(q83_2, .inr (1, [.int 0, .null, .null, .int 0, .int 0, .int 0, .int 0, .int 0, .null, .null, .null, .null, .null]))]) hCx hP hD hS hA [17] rfl rfl (by decide)) rfl rfl hl.1 rfl (lv_room (Nat.le_of_ble_eq_true rfl)) d_BR_init_87 ⟨Nat.le_of_ble_eq_true rfl, Nat.le_of_ble_eq_true rfl⟩) hP hD hS hA [17] [0, 1, 2, 3, 4, 5, 6, 7, 8, 9, 10, 11, 12, 13, 14, 15, 16] rfl rfl (by decide) (by decide) (fun u_87 H locs w_87 hP hD hS => ?_)
      obtain ⟨bLG_87_2, bLS_87_2, bLt_87_2, bGS_87_2, bGG_87_2, bES_87_2, bEG_87_2⟩ := u_87
      have hP : va_P (dC, dI) vq_cl [(h0, .inr (0, [.ref q7, .ref q15, .ref q23, .ref q31, .ref q39, .ref q47, .int 0, .ref q54, .int 0, .ref q61, .int 0])), (q7, .inl ((cs 0), 8, .inl (fun _ => 0))), (q15, .inl ((cs 0), 32, .inl (fun _ => 0))), (q23, .inl ((cs 0), 8, .inl (fun _ => 0))), (q31, .inl ((cs 0), 40, .inl (fun _ => 0))), (q39, .inl ((cs 0), 40, .inl (fun _ => 0))), (q47, .inl ((cs 0), 40, .inl (fun _ => 0))), (q54, .inl ((cs 2), 4, .inr (.inr (.inr (.inr (va_up (fun _ => none) (0 : Int32).toNatClampNeg (some q83))))))), (q61, .inr (2, [.int 0, .long 0, .long 0, .long 0, .long 0])), (q83, .inr (1, [.int 0, .ref bLG_87, .ref bLS_87, .int 0, .int 0, .int 0, .int 0, .int 0, .ref bLt_87, .ref bGS_87, .ref bGG_87, .ref bES_87, .ref bEG_87])), (bLG_87, .inl ((cs 0), 20, .inl (fun _ => 0))), (bLS_87, .inl ((cs 0), 80, .inl (fun _ => 0))), (bLt_87, .inl ((cs 1), 4, .inr (.inl (fun _ => 0)))), (bGS_87, .inl ((cs 1), 4, .inr (.inl (fun _ => 0)))), (bGG_87, .inl ((cs 0), 4, .inl (fun _ => 0))), (bES_87, .inl ((cs 1), 4, .inr (.inl (fun _ => 0)))), (bEG_87, .inl ((cs 0), 4, .inl (fun _ => 0))), (q83_2, .inr (1, [.int 0, .ref bLG_87_2, .ref bLS_87_2, .int 0, .int 0, .int 0, .int 0, .int 0, .ref bLt_87_2, .ref bGS_87_2, .ref bGG_87_2, .ref bES_87_2, .ref bEG_87_2])), (bLG_87_2, .inl ((cs 0), 20, .inl (fun _ => 0))), (bLS_87_2, .inl ((cs 0), 80, .inl (fun _ => 0))), (bLt_87_2, .inl ((cs 1), 4, .inr (.inl (fun _ => 0)))), (bGS_87_2, .inl ((cs 1), 4, .inr (.inl (fun _ => 0)))), (bGG_87_2, .inl ((cs 0), 4, .inl (fun _ => 0))), (bES_87_2, .inl ((cs 1), 4, .inr (.inl (fun _ => 0)))), (bEG_87_2, .inl ((cs 0), 4, .inl (fun _ => 0)))] H := hP
      have hD : va_D A [(h0, .inr (0, [.ref q7, .ref q15, .ref q23, .ref q31, .ref q39, .ref q47, .int 0, .ref q54, .int 0, .ref q61, .int 0])), (q7, .inl ((cs 0), 8, .inl (fun _ => 0))), (q15, .inl ((cs 0), 32, .inl (fun _ => 0))), (q23, .inl ((cs 0), 8, .inl (fun _ => 0))), (q31, .inl ((cs 0), 40, .inl (fun _ => 0))), (q39, .inl ((cs 0), 40, .inl (fun _ => 0))), (q47, .inl ((cs 0), 40, .inl (fun _ => 0))), (q54, .inl ((cs 2), 4, .inr (.inr (.inr (.inr (va_up (fun _ => none) (0 : Int32).toNatClampNeg (some q83))))))), (q61, .inr (2, [.int 0, .long 0, .long 0, .long 0, .long 0])), (q83, .inr (1, [.int 0, .ref bLG_87, .ref bLS_87, .int 0, .int 0, .int 0, .int 0, .int 0, .ref bLt_87, .ref bGS_87, .ref bGG_87, .ref bES_87, .ref bEG_87])), (bLG_87, .inl ((cs 0), 20, .inl (fun _ => 0))), (bLS_87, .inl ((cs 0), 80, .inl (fun _ => 0))), (bLt_87, .inl ((cs 1), 4, .inr (.inl (fun _ => 0)))), (bGS_87, .inl ((cs 1), 4, .inr (.inl (fun _ => 0)))), (bGG_87, .inl ((cs 0), 4, .inl (fun _ => 0))), (bES_87, .inl ((cs 1), 4, .inr (.inl (fun _ => 0)))), (bEG_87, .inl ((cs 0), 4, .inl (fun _ => 0))), (q83_2, .inr (1, [.int 0, .ref bLG_87_2, .ref bLS_87_2, .int 0, .int 0, .int 0, .int 0, .int 0, .ref bLt_87_2, .ref bGS_87_2, .ref bGG_87_2, .ref bES_87_2, .ref bEG_87_2])), (bLG_87_2, .inl ((cs 0), 20, .inl (fun _ => 0))), (bLS_87_2, .inl ((cs 0), 80, .inl (fun _ => 0))), (bLt_87_2, .inl ((cs 1), 4, .inr (.inl (fun _ => 0)))), (bGS_87_2, .inl ((cs 1), 4, .inr (.inl (fun _ => 0)))), (bGG_87_2, .inl ((cs 0), 4, .inl (fun _ => 0))), (bES_87_2, .inl ((cs 1), 4, .inr (.inl (fun _ => 0)))), (bEG_87_2, .inl ((cs 0), 4, .inl (fun _ => 0)))] := hD
      refine W.widen (k := 24) (n := 443) (Nat.le_of_ble_eq_true rfl) (Nat.le_of_ble_eq_true rfl) ?_
      refine va_astq (D := (dC, dI)) hx hb hK hP hD hS 7 2 17 1 rfl rfl rfl rfl (vq_in 4 rfl (by decide) (by decide)) d_BR_init_90 (fun H locs hP hD hS => ?_)
      have hP : va_P (dC, dI) vq_cl [(h0, .inr (0, [.ref q7, .ref q15, .ref q23, .ref q31, .ref q39, .ref q47, .int 0, .ref q54, .int 0, .ref q61, .int 0])), (q7, .inl ((cs 0), 8, .inl (fun _ => 0))), (q15, .inl ((cs 0), 32, .inl (fun _ => 0))), (q23, .inl ((cs 0), 8, .inl (fun _ => 0))), (q31, .inl ((cs 0), 40, .inl (fun _ => 0))), (q39, .inl ((cs 0), 40, .inl (fun _ => 0))), (q47, .inl ((cs 0), 40, .inl (fun _ => 0))), (q54, .inl ((cs 2), 4, .inr (.inr (.inr (.inr (va_up (va_up (fun _ => none) (0 : Int32).toNatClampNeg (some q83)) (1 : Int32).toNatClampNeg (some q83_2))))))), (q61, .inr (2, [.int 0, .long 0, .long 0, .long 0, .long 0])), (q83, .inr (1, [.int 0, .ref bLG_87, .ref bLS_87, .int 0, .int 0, .int 0, .int 0, .int 0, .ref bLt_87, .ref bGS_87, .ref bGG_87, .ref bES_87, .ref bEG_87])), (bLG_87, .inl ((cs 0), 20, .inl (fun _ => 0))), (bLS_87, .inl ((cs 0), 80, .inl (fun _ => 0))), (bLt_87, .inl ((cs 1), 4, .inr (.inl (fun _ => 0)))), (bGS_87, .inl ((cs 1), 4, .inr (.inl (fun _ => 0)))), (bGG_87, .inl ((cs 0), 4, .inl (fun _ => 0))), (bES_87, .inl ((cs 1), 4, .inr (.inl (fun _ => 0)))), (bEG_87, .inl ((cs 0), 4, .inl (fun _ => 0))), (q83_2, .inr (1, [.int 0, .ref bLG_87_2, .ref bLS_87_2, .int 0, .int 0, .int 0, .int 0, .int 0, .ref bLt_87_2, .ref bGS_87_2, .ref bGG_87_2, .ref bES_87_2, .ref bEG_87_2])), (bLG_87_2, .inl ((cs 0), 20, .inl (fun _ => 0))), (bLS_87_2, .inl ((cs 0), 80, .inl (fun _ => 0))), (bLt_87_2, .inl ((cs 1), 4, .inr (.inl (fun _ => 0)))), (bGS_87_2, .inl ((cs 1), 4, .inr (.inl (fun _ => 0)))), (bGG_87_2, .inl ((cs 0), 4, .inl (fun _ => 0))), (bES_87_2, .inl ((cs 1), 4, .inr (.inl (fun _ => 0)))), (bEG_87_2, .inl ((cs 0), 4, .inl (fun _ => 0)))] H := hP
      have hD : va_D A [(h0, .inr (0, [.ref q7, .ref q15, .ref q23, .ref q31, .ref q39, .ref q47, .int 0, .ref q54, .int 0, .ref q61, .int 0])), (q7, .inl ((cs 0), 8, .inl (fun _ => 0))), (q15, .inl ((cs 0), 32, .inl (fun _ => 0))), (q23, .inl ((cs 0), 8, .inl (fun _ => 0))), (q31, .inl ((cs 0), 40, .inl (fun _ => 0))), (q39, .inl ((cs 0), 40, .inl (fun _ => 0))), (q47, .inl ((cs 0), 40, .inl (fun _ => 0))), (q54, .inl ((cs 2), 4, .inr (.inr (.inr (.inr (va_up (va_up (fun _ => none) (0 : Int32).toNatClampNeg (some q83)) (1 : Int32).toNatClampNeg (some q83_2))))))), (q61, .inr (2, [.int 0, .long 0, .long 0, .long 0, .long 0])), (q83, .inr (1, [.int 0, .ref bLG_87, .ref bLS_87, .int 0, .int 0, .int 0, .int 0, .int 0, .ref bLt_87, .ref bGS_87, .ref bGG_87, .ref bES_87, .ref bEG_87])), (bLG_87, .inl ((cs 0), 20, .inl (fun _ => 0))), (bLS_87, .inl ((cs 0), 80, .inl (fun _ => 0))), (bLt_87, .inl ((cs 1), 4, .inr (.inl (fun _ => 0)))), (bGS_87, .inl ((cs 1), 4, .inr (.inl (fun _ => 0)))), (bGG_87, .inl ((cs 0), 4, .inl (fun _ => 0))), (bES_87, .inl ((cs 1), 4, .inr (.inl (fun _ => 0)))), (bEG_87, .inl ((cs 0), 4, .inl (fun _ => 0))), (q83_2, .inr (1, [.int 0, .ref bLG_87_2, .ref bLS_87_2, .int 0, .int 0, .int 0, .int 0, .int 0, .ref bLt_87_2, .ref bGS_87_2, .ref bGG_87_2, .ref bES_87_2, .ref bEG_87_2])), (bLG_87_2, .inl ((cs 0), 20, .inl (fun _ => 0))), (bLS_87_2, .inl ((cs 0), 80, .inl (fun _ => 0))), (bLt_87_2, .inl ((cs 1), 4, .inr (.inl (fun _ => 0)))), (bGS_87_2, .inl ((cs 1), 4, .inr (.inl (fun _ => 0)))), (bGG_87_2, .inl ((cs 0), 4, .inl (fun _ => 0))), (bES_87_2, .inl ((cs 1), 4, .inr (.inl (fun _ => 0)))), (bEG_87_2, .inl ((cs 0), 4, .inl (fun _ => 0)))] := hD
      refine lv_iinc (v := 2) (lv' := [(1, .int 2), (0, .ref h0)]) hx hb d_BR_init_91 hl (k := 0) rfl (by decide) (by decide) rfl (fun ls hl => ?_)
      refine lv_goto (tgt := 73) hx hb d_BR_init_94 (by decide) ?_
      refine lv_iload_n hx hb d_BR_init_73 rfl (lv_at hl 0 rfl) ?_
      refine lv_iconst (v := 4) hx hb d_BR_init_74 (by decide) ?_
      refine lv_icmp_ge (tgt := 97) hx hb d_BR_init_75 (by decide) (fun c_75 => ?_) (fun c_75 => ?_)
      · skip
        exact absurd c_75 (by decide)
      · skip
        refine lv_aload_n hx hb d_BR_init_78 rfl (lv_at hl 1 rfl) ?_
        refine va_get (D := (dC, dI)) (ci := 0) (v := .ref q54) (C := R_BR) (T := F_BR) (N := 11) hx hb hG i_BR hown hK hP 0 rfl rfl 7 (by decide) (hG _ vq_t107) (fun _ h9 => h9) rfl d_BR_init_79 ?_
        refine lv_iload_n hx hb d_BR_init_82 rfl (lv_at hl 0 rfl) ?_
        refine va_new (ci := 1) (fs := [.int 0, .null, .null, .int 0, .int 0, .int 0, .int 0, .int 0, .null, .null, .null, .null, .null]) (C := R_PI) (T := F_PI) (N := 13) hx hb hG i_PI t_PI t_PI_ok hown (hG _ vq_t21) (hG _ vq_t47) (hG _ vq_t3) hK hP hD hS hA rfl (fun j hj => by rcases (show j = 0 ∨ j = 1 ∨ j = 2 ∨ j = 3 ∨ j = 4 ∨ j = 5 ∨ j = 6 ∨ j = 7 ∨ j = 8 ∨ j = 9 ∨ j = 10 ∨ j = 11 ∨ j = 12 by omega) with rfl | rfl | rfl | rfl | rfl | rfl | rfl | rfl | rfl | rfl | rfl | rfl | rfl <;> rfl) (Nat.le_of_ble_eq_true rfl) (Nat.le_of_ble_eq_true rfl) d_BR_init_83 (fun q83_3 H hP hD hS => ?_)
        have hP : va_P (dC, dI) vq_cl [(h0, .inr (0, [.ref q7, .ref q15, .ref q23, .ref q31, .ref q39, .ref q47, .int 0, .ref q54, .int 0, .ref q61, .int 0])), (q7, .inl ((cs 0), 8, .inl (fun _ => 0))), (q15, .inl ((cs 0), 32, .inl (fun _ => 0))), (q23, .inl ((cs 0), 8, .inl (fun _ => 0))), (q31, .inl ((cs 0), 40, .inl (fun _ => 0))), (q39, .inl ((cs 0), 40, .inl (fun _ => 0))), (q47, .inl ((cs 0), 40, .inl (fun _ => 0))), (q54, .inl ((cs 2), 4, .inr (.inr (.inr (.inr (va_up (va_up (fun _ => none) (0 : Int32).toNatClampNeg (some q83)) (1 : Int32).toNatClampNeg (some q83_2))))))), (q61, .inr (2, [.int 0, .long 0, .long 0, .long 0, .long 0])), (q83, .inr (1, [.int 0, .ref bLG_87, .ref bLS_87, .int 0, .int 0, .int 0, .int 0, .int 0, .ref bLt_87, .ref bGS_87, .ref bGG_87, .ref bES_87, .ref bEG_87])), (bLG_87, .inl ((cs 0), 20, .inl (fun _ => 0))), (bLS_87, .inl ((cs 0), 80, .inl (fun _ => 0))), (bLt_87, .inl ((cs 1), 4, .inr (.inl (fun _ => 0)))), (bGS_87, .inl ((cs 1), 4, .inr (.inl (fun _ => 0)))), (bGG_87, .inl ((cs 0), 4, .inl (fun _ => 0))), (bES_87, .inl ((cs 1), 4, .inr (.inl (fun _ => 0)))), (bEG_87, .inl ((cs 0), 4, .inl (fun _ => 0))), (q83_2, .inr (1, [.int 0, .ref bLG_87_2, .ref bLS_87_2, .int 0, .int 0, .int 0, .int 0, .int 0, .ref bLt_87_2, .ref bGS_87_2, .ref bGG_87_2, .ref bES_87_2, .ref bEG_87_2])), (bLG_87_2, .inl ((cs 0), 20, .inl (fun _ => 0))), (bLS_87_2, .inl ((cs 0), 80, .inl (fun _ => 0))), (bLt_87_2, .inl ((cs 1), 4, .inr (.inl (fun _ => 0)))), (bGS_87_2, .inl ((cs 1), 4, .inr (.inl (fun _ => 0)))), (bGG_87_2, .inl ((cs 0), 4, .inl (fun _ => 0))), (bES_87_2, .inl ((cs 1), 4, .inr (.inl (fun _ => 0)))), (bEG_87_2, .inl ((cs 0), 4, .inl (fun _ => 0))), (q83_3, .inr (1, [.int 0, .null, .null, .int 0, .int 0, .int 0, .int 0, .int 0, .null, .null, .null, .null, .null]))] H := hP
        have hD : va_D A [(h0, .inr (0, [.ref q7, .ref q15, .ref q23, .ref q31, .ref q39, .ref q47, .int 0, .ref q54, .int 0, .ref q61, .int 0])), (q7, .inl ((cs 0), 8, .inl (fun _ => 0))), (q15, .inl ((cs 0), 32, .inl (fun _ => 0))), (q23, .inl ((cs 0), 8, .inl (fun _ => 0))), (q31, .inl ((cs 0), 40, .inl (fun _ => 0))), (q39, .inl ((cs 0), 40, .inl (fun _ => 0))), (q47, .inl ((cs 0), 40, .inl (fun _ => 0))), (q54, .inl ((cs 2), 4, .inr (.inr (.inr (.inr (va_up (va_up (fun _ => none) (0 : Int32).toNatClampNeg (some q83)) (1 : Int32).toNatClampNeg (some q83_2))))))), (q61, .inr (2, [.int 0, .long 0, .long 0, .long 0, .long 0])), (q83, .inr (1, [.int 0, .ref bLG_87, .ref bLS_87, .int 0, .int 0, .int 0, .int 0, .int 0, .ref bLt_87, .ref bGS_87, .ref bGG_87, .ref bES_87, .ref bEG_87])), (bLG_87, .inl ((cs 0), 20, .inl (fun _ => 0))), (bLS_87, .inl ((cs 0), 80, .inl (fun _ => 0))), (bLt_87, .inl ((cs 1), 4, .inr (.inl (fun _ => 0)))), (bGS_87, .inl ((cs 1), 4, .inr (.inl (fun _ => 0)))), (bGG_87, .inl ((cs 0), 4, .inl (fun _ => 0))), (bES_87, .inl ((cs 1), 4, .inr (.inl (fun _ => 0)))), (bEG_87, .inl ((cs 0), 4, .inl (fun _ => 0))), (q83_2, .inr (1, [.int 0, .ref bLG_87_2, .ref bLS_87_2, .int 0, .int 0, .int 0, .int 0, .int 0, .ref bLt_87_2, .ref bGS_87_2, .ref bGG_87_2, .ref bES_87_2, .ref bEG_87_2])), (bLG_87_2, .inl ((cs 0), 20, .inl (fun _ => 0))), (bLS_87_2, .inl ((cs 0), 80, .inl (fun _ => 0))), (bLt_87_2, .inl ((cs 1), 4, .inr (.inl (fun _ => 0)))), (bGS_87_2, .inl ((cs 1), 4, .inr (.inl (fun _ => 0)))), (bGG_87_2, .inl ((cs 0), 4, .inl (fun _ => 0))), (bES_87_2, .inl ((cs 1), 4, .inr (.inl (fun _ => 0)))), (bEG_87_2, .inl ((cs 0), 4, .inl (fun _ => 0))), (q83_3, .inr (1, [.int 0, .null, .null, .int 0, .int 0, .int 0, .int 0, .int 0, .null, .null, .null, .null, .null]))] := hD
        refine W.widen (k := 25) (n := 456) (Nat.le_of_ble_eq_true rfl) (Nat.le_of_ble_eq_true rfl) ?_
        refine lv_dup hx hb d_BR_init_86 rfl ?_
        refine mk_wv (va_runIN (As := []) (rest := [.ref q83_3, .int 2, .ref q54]) ⟨hx, hb, hml, hown, hG⟩ (c_Pile_init l dC dI cs _ q83_3) ⟨va_cnB 0 hG (vq_gI vq_t50) rfl rfl rfl (hCx.2.2.1 _ vq_nm1) (hG _ vq_t3) (by decide +kernel) ⟨Nat.le_of_ble_eq_true rfl, Nat.le_of_ble_eq_true rfl⟩, rfl, hG _ vq_t49⟩ (vq_preSw (wc := [(q83_3, .inr (1, [.int 0, .null, .null, .int 0, .int 0, .int 0, .int 0, .int 0, .null, .null, .null, .null, .null]))]) hCx hP hD hS hA [25] rfl rfl (by decide)) rfl rfl hl.1 rfl (lv_room (Nat.le_of_ble_eq_true rfl)) d_BR_init_87 ⟨Nat.le_of_ble_eq_true rfl, Nat.le_of_ble_eq_true rfl⟩) hP hD hS hA [25] [0, 1, 2, 3, 4, 5, 6, 7, 8, 9, 10, 11, 12, 13, 14, 15, 16, 17, 18, 19, 20, 21, 22, 23, 24] rfl rfl (by decide) (by decide) (fun u_87 H locs w_87 hP hD hS => ?_)
        obtain ⟨bLG_87_3, bLS_87_3, bLt_87_3, bGS_87_3, bGG_87_3, bES_87_3, bEG_87_3⟩ := u_87
        have hP : va_P (dC, dI) vq_cl [(h0, .inr (0, [.ref q7, .ref q15, .ref q23, .ref q31, .ref q39, .ref q47, .int 0, .ref q54, .int 0, .ref q61, .int 0])), (q7, .inl ((cs 0), 8, .inl (fun _ => 0))), (q15, .inl ((cs 0), 32, .inl (fun _ => 0))), (q23, .inl ((cs 0), 8, .inl (fun _ => 0))), (q31, .inl ((cs 0), 40, .inl (fun _ => 0))), (q39, .inl ((cs 0), 40, .inl (fun _ => 0))), (q47, .inl ((cs 0), 40, .inl (fun _ => 0))), (q54, .inl ((cs 2), 4, .inr (.inr (.inr (.inr (va_up (va_up (fun _ => none) (0 : Int32).toNatClampNeg (some q83)) (1 : Int32).toNatClampNeg (some q83_2))))))), (q61, .inr (2, [.int 0, .long 0, .long 0, .long 0, .long 0])), (q83, .inr (1, [.int 0, .ref bLG_87, .ref bLS_87, .int 0, .int 0, .int 0, .int 0, .int 0, .ref bLt_87, .ref bGS_87, .ref bGG_87, .ref bES_87, .ref bEG_87])), (bLG_87, .inl ((cs 0), 20, .inl (fun _ => 0))), (bLS_87, .inl ((cs 0), 80, .inl (fun _ => 0))), (bLt_87, .inl ((cs 1), 4, .inr (.inl (fun _ => 0)))), (bGS_87, .inl ((cs 1), 4, .inr (.inl (fun _ => 0)))), (bGG_87, .inl ((cs 0), 4, .inl (fun _ => 0))), (bES_87, .inl ((cs 1), 4, .inr (.inl (fun _ => 0)))), (bEG_87, .inl ((cs 0), 4, .inl (fun _ => 0))), (q83_2, .inr (1, [.int 0, .ref bLG_87_2, .ref bLS_87_2, .int 0, .int 0, .int 0, .int 0, .int 0, .ref bLt_87_2, .ref bGS_87_2, .ref bGG_87_2, .ref bES_87_2, .ref bEG_87_2])), (bLG_87_2, .inl ((cs 0), 20, .inl (fun _ => 0))), (bLS_87_2, .inl ((cs 0), 80, .inl (fun _ => 0))), (bLt_87_2, .inl ((cs 1), 4, .inr (.inl (fun _ => 0)))), (bGS_87_2, .inl ((cs 1), 4, .inr (.inl (fun _ => 0)))), (bGG_87_2, .inl ((cs 0), 4, .inl (fun _ => 0))), (bES_87_2, .inl ((cs 1), 4, .inr (.inl (fun _ => 0)))), (bEG_87_2, .inl ((cs 0), 4, .inl (fun _ => 0))), (q83_3, .inr (1, [.int 0, .ref bLG_87_3, .ref bLS_87_3, .int 0, .int 0, .int 0, .int 0, .int 0, .ref bLt_87_3, .ref bGS_87_3, .ref bGG_87_3, .ref bES_87_3, .ref bEG_87_3])), (bLG_87_3, .inl ((cs 0), 20, .inl (fun _ => 0))), (bLS_87_3, .inl ((cs 0), 80, .inl (fun _ => 0))), (bLt_87_3, .inl ((cs 1), 4, .inr (.inl (fun _ => 0)))), (bGS_87_3, .inl ((cs 1), 4, .inr (.inl (fun _ => 0)))), (bGG_87_3, .inl ((cs 0), 4, .inl (fun _ => 0))), (bES_87_3, .inl ((cs 1), 4, .inr (.inl (fun _ => 0)))), (bEG_87_3, .inl ((cs 0), 4, .inl (fun _ => 0)))] H := hP
        have hD : va_D A [(h0, .inr (0, [.ref q7, .ref q15, .ref q23, .ref q31, .ref q39, .ref q47, .int 0, .ref q54, .int 0, .ref q61, .int 0])), (q7, .inl ((cs 0), 8, .inl (fun _ => 0))), (q15, .inl ((cs 0), 32, .inl (fun _ => 0))), (q23, .inl ((cs 0), 8, .inl (fun _ => 0))), (q31, .inl ((cs 0), 40, .inl (fun _ => 0))), (q39, .inl ((cs 0), 40, .inl (fun _ => 0))), (q47, .inl ((cs 0), 40, .inl (fun _ => 0))), (q54, .inl ((cs 2), 4, .inr (.inr (.inr (.inr (va_up (va_up (fun _ => none) (0 : Int32).toNatClampNeg (some q83)) (1 : Int32).toNatClampNeg (some q83_2))))))), (q61, .inr (2, [.int 0, .long 0, .long 0, .long 0, .long 0])), (q83, .inr (1, [.int 0, .ref bLG_87, .ref bLS_87, .int 0, .int 0, .int 0, .int 0, .int 0, .ref bLt_87, .ref bGS_87, .ref bGG_87, .ref bES_87, .ref bEG_87])), (bLG_87, .inl ((cs 0), 20, .inl (fun _ => 0))), (bLS_87, .inl ((cs 0), 80, .inl (fun _ => 0))), (bLt_87, .inl ((cs 1), 4, .inr (.inl (fun _ => 0)))), (bGS_87, .inl ((cs 1), 4, .inr (.inl (fun _ => 0)))), (bGG_87, .inl ((cs 0), 4, .inl (fun _ => 0))), (bES_87, .inl ((cs 1), 4, .inr (.inl (fun _ => 0)))), (bEG_87, .inl ((cs 0), 4, .inl (fun _ => 0))), (q83_2, .inr (1, [.int 0, .ref bLG_87_2, .ref bLS_87_2, .int 0, .int 0, .int 0, .int 0, .int 0, .ref bLt_87_2, .ref bGS_87_2, .ref bGG_87_2, .ref bES_87_2, .ref bEG_87_2])), (bLG_87_2, .inl ((cs 0), 20, .inl (fun _ => 0))), (bLS_87_2, .inl ((cs 0), 80, .inl (fun _ => 0))), (bLt_87_2, .inl ((cs 1), 4, .inr (.inl (fun _ => 0)))), (bGS_87_2, .inl ((cs 1), 4, .inr (.inl (fun _ => 0)))), (bGG_87_2, .inl ((cs 0), 4, .inl (fun _ => 0))), (bES_87_2, .inl ((cs 1), 4, .inr (.inl (fun _ => 0)))), (bEG_87_2, .inl ((cs 0), 4, .inl (fun _ => 0))), (q83_3, .inr (1, [.int 0, .ref bLG_87_3, .ref bLS_87_3, .int 0, .int 0, .int 0, .int 0, .int 0, .ref bLt_87_3, .ref bGS_87_3, .ref bGG_87_3, .ref bES_87_3, .ref bEG_87_3])), (bLG_87_3, .inl ((cs 0), 20, .inl (fun _ => 0))), (bLS_87_3, .inl ((cs 0), 80, .inl (fun _ => 0))), (bLt_87_3, .inl ((cs 1), 4, .inr (.inl (fun _ => 0)))), (bGS_87_3, .inl ((cs 1), 4, .inr (.inl (fun _ => 0)))), (bGG_87_3, .inl ((cs 0), 4, .inl (fun _ => 0))), (bES_87_3, .inl ((cs 1), 4, .inr (.inl (fun _ => 0)))), (bEG_87_3, .inl ((cs 0), 4, .inl (fun _ => 0)))] := hD
        refine W.widen (k := 32) (n := 576) (Nat.le_of_ble_eq_true rfl) (Nat.le_of_ble_eq_true rfl) ?_
        refine va_astq (D := (dC, dI)) hx hb hK hP hD hS 7 2 25 1 rfl rfl rfl rfl (vq_in 4 rfl (by decide) (by decide)) d_BR_init_90 (fun H locs hP hD hS => ?_)
        have hP : va_P (dC, dI) vq_cl [(h0, .inr (0, [.ref q7, .ref q15, .ref q23, .ref q31, .ref q39, .ref q47, .int 0, .ref q54, .int 0, .ref q61, .int 0])), (q7, .inl ((cs 0), 8, .inl (fun _ => 0))), (q15, .inl ((cs 0), 32, .inl (fun _ => 0))), (q23, .inl ((cs 0), 8, .inl (fun _ => 0))), (q31, .inl ((cs 0), 40, .inl (fun _ => 0))), (q39, .inl ((cs 0), 40, .inl (fun _ => 0))), (q47, .inl ((cs 0), 40, .inl (fun _ => 0))), (q54, .inl ((cs 2), 4, .inr (.inr (.inr (.inr (va_up (va_up (va_up (fun _ => none) (0 : Int32).toNatClampNeg (some q83)) (1 : Int32).toNatClampNeg (some q83_2)) (2 : Int32).toNatClampNeg (some q83_3))))))), (q61, .inr (2, [.int 0, .long 0, .long 0, .long 0, .long 0])), (q83, .inr (1, [.int 0, .ref bLG_87, .ref bLS_87, .int 0, .int 0, .int 0, .int 0, .int 0, .ref bLt_87, .ref bGS_87, .ref bGG_87, .ref bES_87, .ref bEG_87])), (bLG_87, .inl ((cs 0), 20, .inl (fun _ => 0))), (bLS_87, .inl ((cs 0), 80, .inl (fun _ => 0))), (bLt_87, .inl ((cs 1), 4, .inr (.inl (fun _ => 0)))), (bGS_87, .inl ((cs 1), 4, .inr (.inl (fun _ => 0)))), (bGG_87, .inl ((cs 0), 4, .inl (fun _ => 0))), (bES_87, .inl ((cs 1), 4, .inr (.inl (fun _ => 0)))), (bEG_87, .inl ((cs 0), 4, .inl (fun _ => 0))), (q83_2, .inr (1, [.int 0, .ref bLG_87_2, .ref bLS_87_2, .int 0, .int 0, .int 0, .int 0, .int 0, .ref bLt_87_2, .ref bGS_87_2, .ref bGG_87_2, .ref bES_87_2, .ref bEG_87_2])), (bLG_87_2, .inl ((cs 0), 20, .inl (fun _ => 0))), (bLS_87_2, .inl ((cs 0), 80, .inl (fun _ => 0))), (bLt_87_2, .inl ((cs 1), 4, .inr (.inl (fun _ => 0)))), (bGS_87_2, .inl ((cs 1), 4, .inr (.inl (fun _ => 0)))), (bGG_87_2, .inl ((cs 0), 4, .inl (fun _ => 0))), (bES_87_2, .inl ((cs 1), 4, .inr (.inl (fun _ => 0)))), (bEG_87_2, .inl ((cs 0), 4, .inl (fun _ => 0))), (q83_3, .inr (1, [.int 0, .ref bLG_87_3, .ref bLS_87_3, .int 0, .int 0, .int 0, .int 0, .int 0, .ref bLt_87_3, .ref bGS_87_3, .ref bGG_87_3, .ref bES_87_3, .ref bEG_87_3])), (bLG_87_3, .inl ((cs 0), 20, .inl (fun _ => 0))), (bLS_87_3, .inl ((cs 0), 80, .inl (fun _ => 0))), (bLt_87_3, .inl ((cs 1), 4, .inr (.inl (fun _ => 0)))), (bGS_87_3, .inl ((cs 1), 4, .inr (.inl (fun _ => 0)))), (bGG_87_3, .inl ((cs 0), 4, .inl (fun _ => 0))), (bES_87_3, .inl ((cs 1), 4, .inr (.inl (fun _ => 0)))), (bEG_87_3, .inl ((cs 0), 4, .inl (fun _ => 0)))] H := hP
        have hD : va_D A [(h0, .inr (0, [.ref q7, .ref q15, .ref q23, .ref q31, .ref q39, .ref q47, .int 0, .ref q54, .int 0, .ref q61, .int 0])), (q7, .inl ((cs 0), 8, .inl (fun _ => 0))), (q15, .inl ((cs 0), 32, .inl (fun _ => 0))), (q23, .inl ((cs 0), 8, .inl (fun _ => 0))), (q31, .inl ((cs 0), 40, .inl (fun _ => 0))), (q39, .inl ((cs 0), 40, .inl (fun _ => 0))), (q47, .inl ((cs 0), 40, .inl (fun _ => 0))), (q54, .inl ((cs 2), 4, .inr (.inr (.inr (.inr (va_up (va_up (va_up (fun _ => none) (0 : Int32).toNatClampNeg (some q83)) (1 : Int32).toNatClampNeg (some q83_2)) (2 : Int32).toNatClampNeg (some q83_3))))))), (q61, .inr (2, [.int 0, .long 0, .long 0, .long 0, .long 0])), (q83, .inr (1, [.int 0, .ref bLG_87, .ref bLS_87, .int 0, .int 0, .int 0, .int 0, .int 0, .ref bLt_87, .ref bGS_87, .ref bGG_87, .ref bES_87, .ref bEG_87])), (bLG_87, .inl ((cs 0), 20, .inl (fun _ => 0))), (bLS_87, .inl ((cs 0), 80, .inl (fun _ => 0))), (bLt_87, .inl ((cs 1), 4, .inr (.inl (fun _ => 0)))), (bGS_87, .inl ((cs 1), 4, .inr (.inl (fun _ => 0)))), (bGG_87, .inl ((cs 0), 4, .inl (fun _ => 0))), (bES_87, .inl ((cs 1), 4, .inr (.inl (fun _ => 0)))), (bEG_87, .inl ((cs 0), 4, .inl (fun _ => 0))), (q83_2, .inr (1, [.int 0, .ref bLG_87_2, .ref bLS_87_2, .int 0, .int 0, .int 0, .int 0, .int 0, .ref bLt_87_2, .ref bGS_87_2, .ref bGG_87_2, .ref bES_87_2, .ref bEG_87_2])), (bLG_87_2, .inl ((cs 0), 20, .inl (fun _ => 0))), (bLS_87_2, .inl ((cs 0), 80, .inl (fun _ => 0))), (bLt_87_2, .inl ((cs 1), 4, .inr (.inl (fun _ => 0)))), (bGS_87_2, .inl ((cs 1), 4, .inr (.inl (fun _ => 0)))), (bGG_87_2, .inl ((cs 0), 4, .inl (fun _ => 0))), (bES_87_2, .inl ((cs 1), 4, .inr (.inl (fun _ => 0)))), (bEG_87_2, .inl ((cs 0), 4, .inl (fun _ => 0))), (q83_3, .inr (1, [.int 0, .ref bLG_87_3, .ref bLS_87_3, .int 0, .int 0, .int 0, .int 0, .int 0, .ref bLt_87_3, .ref bGS_87_3, .ref bGG_87_3, .ref bES_87_3, .ref bEG_87_3])), (bLG_87_3, .inl ((cs 0), 20, .inl (fun _ => 0))), (bLS_87_3, .inl ((cs 0), 80, .inl (fun _ => 0))), (bLt_87_3, .inl ((cs 1), 4, .inr (.inl (fun _ => 0)))), (bGS_87_3, .inl ((cs 1), 4, .inr (.inl (fun _ => 0)))), (bGG_87_3, .inl ((cs 0), 4, .inl (fun _ => 0))), (bES_87_3, .inl ((cs 1), 4, .inr (.inl (fun _ => 0)))), (bEG_87_3, .inl ((cs 0), 4, .inl (fun _ => 0)))] := hD
        refine lv_iinc (v := 3) (lv' := [(1, .int 3), (0, .ref h0)]) hx hb d_BR_init_91 hl (k := 0) rfl (by decide) (by decide) rfl (fun ls hl => ?_)
        refine lv_goto (tgt := 73) hx hb d_BR_init_94 (by decide) ?_
        refine lv_iload_n hx hb d_BR_init_73 rfl (lv_at hl 0 rfl) ?_
        refine lv_iconst (v := 4) hx hb d_BR_init_74 (by decide) ?_
        refine lv_icmp_ge (tgt := 97) hx hb d_BR_init_75 (by decide) (fun c_75 => ?_) (fun c_75 => ?_)
        · skip
          exact absurd c_75 (by decide)
        · skip
          refine lv_aload_n hx hb d_BR_init_78 rfl (lv_at hl 1 rfl) ?_
          refine va_get (D := (dC, dI)) (ci := 0) (v := .ref q54) (C := R_BR) (T := F_BR) (N := 11) hx hb hG i_BR hown hK hP 0 rfl rfl 7 (by decide) (hG _ vq_t107) (fun _ h9 => h9) rfl d_BR_init_79 ?_
          refine lv_iload_n hx hb d_BR_init_82 rfl (lv_at hl 0 rfl) ?_
          refine va_new (ci := 1) (fs := [.int 0, .null, .null, .int 0, .int 0, .int 0, .int 0, .int 0, .null, .null, .null, .null, .null]) (C := R_PI) (T := F_PI) (N := 13) hx hb hG i_PI t_PI t_PI_ok hown (hG _ vq_t21) (hG _ vq_t47) (hG _ vq_t3) hK hP hD hS hA rfl (fun j hj => by rcases (show j = 0 ∨ j = 1 ∨ j = 2 ∨ j = 3 ∨ j = 4 ∨ j = 5 ∨ j = 6 ∨ j = 7 ∨ j = 8 ∨ j = 9 ∨ j = 10 ∨ j = 11 ∨ j = 12 by omega) with rfl | rfl | rfl | rfl | rfl | rfl | rfl | rfl | rfl | rfl | rfl | rfl | rfl <;> rfl) (Nat.le_of_ble_eq_true rfl) (Nat.le_of_ble_eq_true rfl) d_BR_init_83 (fun q83_4 H hP hD hS => ?_)
          have hP : va_P (dC, dI) vq_cl [(h0, .inr (0, [.ref q7, .ref q15, .ref q23, .ref q31, .ref q39, .ref q47, .int 0, .ref q54, .int 0, .ref q61, .int 0])), (q7, .inl ((cs 0), 8, .inl (fun _ => 0))), (q15, .inl ((cs 0), 32, .inl (fun _ => 0))), (q23, .inl ((cs 0), 8, .inl (fun _ => 0))), (q31, .inl ((cs 0), 40, .inl (fun _ => 0))), (q39, .inl ((cs 0), 40, .inl (fun _ => 0))), (q47, .inl ((cs 0), 40, .inl (fun _ => 0))), (q54, .inl ((cs 2), 4, .inr (.inr (.inr (.inr (va_up (va_up (va_up (fun _ => none) (0 : Int32).toNatClampNeg (some q83)) (1 : Int32).toNatClampNeg (some q83_2)) (2 : Int32).toNatClampNeg (some q83_3))))))), (q61, .inr (2, [.int 0, .long 0, .long 0, .long 0, .long 0])), (q83, .inr (1, [.int 0, .ref bLG_87, .ref bLS_87, .int 0, .int 0, .int 0, .int 0, .int 0, .ref bLt_87, .ref bGS_87, .ref bGG_87, .ref bES_87, .ref bEG_87])), (bLG_87, .inl ((cs 0), 20, .inl (fun _ => 0))), (bLS_87, .inl ((cs 0), 80, .inl (fun _ => 0))), (bLt_87, .inl ((cs 1), 4, .inr (.inl (fun _ => 0)))), (bGS_87, .inl ((cs 1), 4, .inr (.inl (fun _ => 0)))), (bGG_87, .inl ((cs 0), 4, .inl (fun _ => 0))), (bES_87, .inl ((cs 1), 4, .inr (.inl (fun _ => 0)))), (bEG_87, .inl ((cs 0), 4, .inl (fun _ => 0))), (q83_2, .inr (1, [.int 0, .ref bLG_87_2, .ref bLS_87_2, .int 0, .int 0, .int 0, .int 0, .int 0, .ref bLt_87_2, .ref bGS_87_2, .ref bGG_87_2, .ref bES_87_2, .ref bEG_87_2])), (bLG_87_2, .inl ((cs 0), 20, .inl (fun _ => 0))), (bLS_87_2, .inl ((cs 0), 80, .inl (fun _ => 0))), (bLt_87_2, .inl ((cs 1), 4, .inr (.inl (fun _ => 0)))), (bGS_87_2, .inl ((cs 1), 4, .inr (.inl (fun _ => 0)))), (bGG_87_2, .inl ((cs 0), 4, .inl (fun _ => 0))), (bES_87_2, .inl ((cs 1), 4, .inr (.inl (fun _ => 0)))), (bEG_87_2, .inl ((cs 0), 4, .inl (fun _ => 0))), (q83_3, .inr (1, [.int 0, .ref bLG_87_3, .ref bLS_87_3, .int 0, .int 0, .int 0, .int 0, .int 0, .ref bLt_87_3, .ref bGS_87_3, .ref bGG_87_3, .ref bES_87_3, .ref bEG_87_3])), (bLG_87_3, .inl ((cs 0), 20, .inl (fun _ => 0))), (bLS_87_3, .inl ((cs 0), 80, .inl (fun _ => 0))), (bLt_87_3, .inl ((cs 1), 4, .inr (.inl (fun _ => 0)))), (bGS_87_3, .inl ((cs 1), 4, .inr (.inl (fun _ => 0)))), (bGG_87_3, .inl ((cs 0), 4, .inl (fun _ => 0))), (bES_87_3, .inl ((cs 1), 4, .inr (.inl (fun _ => 0)))), (bEG_87_3, .inl ((cs 0), 4, .inl (fun _ => 0))), (q83_4, .inr (1, [.int 0, .null, .null, .int 0, .int 0, .int 0, .int 0, .int 0, .null, .null, .null, .null, .null]))] H := hP
          have hD : va_D A [(h0, .inr (0, [.ref q7, .ref q15, .ref q23, .ref q31, .ref q39, .ref q47, .int 0, .ref q54, .int 0, .ref q61, .int 0])), (q7, .inl ((cs 0), 8, .inl (fun _ => 0))), (q15, .inl ((cs 0), 32, .inl (fun _ => 0))), (q23, .inl ((cs 0), 8, .inl (fun _ => 0))), (q31, .inl ((cs 0), 40, .inl (fun _ => 0))), (q39, .inl ((cs 0), 40, .inl (fun _ => 0))), (q47, .inl ((cs 0), 40, .inl (fun _ => 0))), (q54, .inl ((cs 2), 4, .inr (.inr (.inr (.inr (va_up (va_up (va_up (fun _ => none) (0 : Int32).toNatClampNeg (some q83)) (1 : Int32).toNatClampNeg (some q83_2)) (2 : Int32).toNatClampNeg (some q83_3))))))), (q61, .inr (2, [.int 0, .long 0, .long 0, .long 0, .long 0])), (q83, .inr (1, [.int 0, .ref bLG_87, .ref bLS_87, .int 0, .int 0, .int 0, .int 0, .int 0, .ref bLt_87, .ref bGS_87, .ref bGG_87, .ref bES_87, .ref bEG_87])), (bLG_87, .inl ((cs 0), 20, .inl (fun _ => 0))), (bLS_87, .inl ((cs 0), 80, .inl (fun _ => 0))), (bLt_87, .inl ((cs 1), 4, .inr (.inl (fun _ => 0)))), (bGS_87, .inl ((cs 1), 4, .inr (.inl (fun _ => 0)))), (bGG_87, .inl ((cs 0), 4, .inl (fun _ => 0))), (bES_87, .inl ((cs 1), 4, .inr (.inl (fun _ => 0)))), (bEG_87, .inl ((cs 0), 4, .inl (fun _ => 0))), (q83_2, .inr (1, [.int 0, .ref bLG_87_2, .ref bLS_87_2, .int 0, .int 0, .int 0, .int 0, .int 0, .ref bLt_87_2, .ref bGS_87_2, .ref bGG_87_2, .ref bES_87_2, .ref bEG_87_2])), (bLG_87_2, .inl ((cs 0), 20, .inl (fun _ => 0))), (bLS_87_2, .inl ((cs 0), 80, .inl (fun _ => 0))), (bLt_87_2, .inl ((cs 1), 4, .inr (.inl (fun _ => 0)))), (bGS_87_2, .inl ((cs 1), 4, .inr (.inl (fun _ => 0)))), (bGG_87_2, .inl ((cs 0), 4, .inl (fun _ => 0))), (bES_87_2, .inl ((cs 1), 4, .inr (.inl (fun _ => 0)))), (bEG_87_2, .inl ((cs 0), 4, .inl (fun _ => 0))), (q83_3, .inr (1, [.int 0, .ref bLG_87_3, .ref bLS_87_3, .int 0, .int 0, .int 0, .int 0, .int 0, .ref bLt_87_3, .ref bGS_87_3, .ref bGG_87_3, .ref bES_87_3, .ref bEG_87_3])), (bLG_87_3, .inl ((cs 0), 20, .inl (fun _ => 0))), (bLS_87_3, .inl ((cs 0), 80, .inl (fun _ => 0))), (bLt_87_3, .inl ((cs 1), 4, .inr (.inl (fun _ => 0)))), (bGS_87_3, .inl ((cs 1), 4, .inr (.inl (fun _ => 0)))), (bGG_87_3, .inl ((cs 0), 4, .inl (fun _ => 0))), (bES_87_3, .inl ((cs 1), 4, .inr (.inl (fun _ => 0)))), (bEG_87_3, .inl ((cs 0), 4, .inl (fun _ => 0))), (q83_4, .inr (1, [.int 0, .null, .null, .int 0, .int 0, .int 0, .int 0, .int 0, .null, .null, .null, .null, .null]))] := hD
          refine W.widen (k := 33) (n := 589) (Nat.le_of_ble_eq_true rfl) (Nat.le_of_ble_eq_true rfl) ?_
          refine lv_dup hx hb d_BR_init_86 rfl ?_
          refine mk_wv (va_runIN (As := []) (rest := [.ref q83_4, .int 3, .ref q54]) ⟨hx, hb, hml, hown, hG⟩ (c_Pile_init l dC dI cs _ q83_4) ⟨va_cnB 0 hG (vq_gI vq_t50) rfl rfl rfl (hCx.2.2.1 _ vq_nm1) (hG _ vq_t3) (by decide +kernel) ⟨Nat.le_of_ble_eq_true rfl, Nat.le_of_ble_eq_true rfl⟩, rfl, hG _ vq_t49⟩ (vq_preSw (wc := [(q83_4, .inr (1, [.int 0, .null, .null, .int 0, .int 0, .int 0, .int 0, .int 0, .null, .null, .null, .null, .null]))]) hCx hP hD hS hA [33] rfl rfl (by decide)) rfl rfl hl.1 rfl (lv_room (Nat.le_of_ble_eq_true rfl)) d_BR_init_87 ⟨Nat.le_of_ble_eq_true rfl, Nat.le_of_ble_eq_true rfl⟩) hP hD hS hA [33] [0, 1, 2, 3, 4, 5, 6, 7, 8, 9, 10, 11, 12, 13, 14, 15, 16, 17, 18, 19, 20, 21, 22, 23, 24, 25, 26, 27, 28, 29, 30, 31, 32] rfl rfl (by decide) (by decide) (fun u_87 H locs w_87 hP hD hS => ?_)
          obtain ⟨bLG_87_4, bLS_87_4, bLt_87_4, bGS_87_4, bGG_87_4, bES_87_4, bEG_87_4⟩ := u_87
          have hP : va_P (dC, dI) vq_cl [(h0, .inr (0, [.ref q7, .ref q15, .ref q23, .ref q31, .ref q39, .ref q47, .int 0, .ref q54, .int 0, .ref q61, .int 0])), (q7, .inl ((cs 0), 8, .inl (fun _ => 0))), (q15, .inl ((cs 0), 32, .inl (fun _ => 0))), (q23, .inl ((cs 0), 8, .inl (fun _ => 0))), (q31, .inl ((cs 0), 40, .inl (fun _ => 0))), (q39, .inl ((cs 0), 40, .inl (fun _ => 0))), (q47, .inl ((cs 0), 40, .inl (fun _ => 0))), (q54, .inl ((cs 2), 4, .inr (.inr (.inr (.inr (va_up (va_up (va_up (fun _ => none) (0 : Int32).toNatClampNeg (some q83)) (1 : Int32).toNatClampNeg (some q83_2)) (2 : Int32).toNatClampNeg (some q83_3))))))), (q61, .inr (2, [.int 0, .long 0, .long 0, .long 0, .long 0])), (q83, .inr (1, [.int 0, .ref bLG_87, .ref bLS_87, .int 0, .int 0, .int 0, .int 0, .int 0, .ref bLt_87, .ref bGS_87, .ref bGG_87, .ref bES_87, .ref bEG_87])), (bLG_87, .inl ((cs 0), 20, .inl (fun _ => 0))), (bLS_87, .inl ((cs 0), 80, .inl (fun _ => 0))), (bLt_87, .inl ((cs 1), 4, .inr (.inl (fun _ => 0)))), (bGS_87, .inl ((cs 1), 4, .inr (.inl (fun _ => 0)))), (bGG_87, .inl ((cs 0), 4, .inl (fun _ => 0))), (bES_87, .inl ((cs 1), 4, .inr (.inl (fun _ => 0)))), (bEG_87, .inl ((cs 0), 4, .inl (fun _ => 0))), (q83_2, .inr (1, [.int 0, .ref bLG_87_2, .ref bLS_87_2, .int 0, .int 0, .int 0, .int 0, .int 0, .ref bLt_87_2, .ref bGS_87_2, .ref bGG_87_2, .ref bES_87_2, .ref bEG_87_2])), (bLG_87_2, .inl ((cs 0), 20, .inl (fun _ => 0))), (bLS_87_2, .inl ((cs 0), 80, .inl (fun _ => 0))), (bLt_87_2, .inl ((cs 1), 4, .inr (.inl (fun _ => 0)))), (bGS_87_2, .inl ((cs 1), 4, .inr (.inl (fun _ => 0)))), (bGG_87_2, .inl ((cs 0), 4, .inl (fun _ => 0))), (bES_87_2, .inl ((cs 1), 4, .inr (.inl (fun _ => 0)))), (bEG_87_2, .inl ((cs 0), 4, .inl (fun _ => 0))), (q83_3, .inr (1, [.int 0, .ref bLG_87_3, .ref bLS_87_3, .int 0, .int 0, .int 0, .int 0, .int 0, .ref bLt_87_3, .ref bGS_87_3, .ref bGG_87_3, .ref bES_87_3, .ref bEG_87_3])), (bLG_87_3, .inl ((cs 0), 20, .inl (fun _ => 0))), (bLS_87_3, .inl ((cs 0), 80, .inl (fun _ => 0))), (bLt_87_3, .inl ((cs 1), 4, .inr (.inl (fun _ => 0)))), (bGS_87_3, .inl ((cs 1), 4, .inr (.inl (fun _ => 0)))), (bGG_87_3, .inl ((cs 0), 4, .inl (fun _ => 0))), (bES_87_3, .inl ((cs 1), 4, .inr (.inl (fun _ => 0)))), (bEG_87_3, .inl ((cs 0), 4, .inl (fun _ => 0))), (q83_4, .inr (1, [.int 0, .ref bLG_87_4, .ref bLS_87_4, .int 0, .int 0, .int 0, .int 0, .int 0, .ref bLt_87_4, .ref bGS_87_4, .ref bGG_87_4, .ref bES_87_4, .ref bEG_87_4])), (bLG_87_4, .inl ((cs 0), 20, .inl (fun _ => 0))), (bLS_87_4, .inl ((cs 0), 80, .inl (fun _ => 0))), (bLt_87_4, .inl ((cs 1), 4, .inr (.inl (fun _ => 0)))), (bGS_87_4, .inl ((cs 1), 4, .inr (.inl (fun _ => 0)))), (bGG_87_4, .inl ((cs 0), 4, .inl (fun _ => 0))), (bES_87_4, .inl ((cs 1), 4, .inr (.inl (fun _ => 0)))), (bEG_87_4, .inl ((cs 0), 4, .inl (fun _ => 0)))] H := hP
          have hD : va_D A [(h0, .inr (0, [.ref q7, .ref q15, .ref q23, .ref q31, .ref q39, .ref q47, .int 0, .ref q54, .int 0, .ref q61, .int 0])), (q7, .inl ((cs 0), 8, .inl (fun _ => 0))), (q15, .inl ((cs 0), 32, .inl (fun _ => 0))), (q23, .inl ((cs 0), 8, .inl (fun _ => 0))), (q31, .inl ((cs 0), 40, .inl (fun _ => 0))), (q39, .inl ((cs 0), 40, .inl (fun _ => 0))), (q47, .inl ((cs 0), 40, .inl (fun _ => 0))), (q54, .inl ((cs 2), 4, .inr (.inr (.inr (.inr (va_up (va_up (va_up (fun _ => none) (0 : Int32).toNatClampNeg (some q83)) (1 : Int32).toNatClampNeg (some q83_2)) (2 : Int32).toNatClampNeg (some q83_3))))))), (q61, .inr (2, [.int 0, .long 0, .long 0, .long 0, .long 0])), (q83, .inr (1, [.int 0, .ref bLG_87, .ref bLS_87, .int 0, .int 0, .int 0, .int 0, .int 0, .ref bLt_87, .ref bGS_87, .ref bGG_87, .ref bES_87, .ref bEG_87])), (bLG_87, .inl ((cs 0), 20, .inl (fun _ => 0))), (bLS_87, .inl ((cs 0), 80, .inl (fun _ => 0))), (bLt_87, .inl ((cs 1), 4, .inr (.inl (fun _ => 0)))), (bGS_87, .inl ((cs 1), 4, .inr (.inl (fun _ => 0)))), (bGG_87, .inl ((cs 0), 4, .inl (fun _ => 0))), (bES_87, .inl ((cs 1), 4, .inr (.inl (fun _ => 0)))), (bEG_87, .inl ((cs 0), 4, .inl (fun _ => 0))), (q83_2, .inr (1, [.int 0, .ref bLG_87_2, .ref bLS_87_2, .int 0, .int 0, .int 0, .int 0, .int 0, .ref bLt_87_2, .ref bGS_87_2, .ref bGG_87_2, .ref bES_87_2, .ref bEG_87_2])), (bLG_87_2, .inl ((cs 0), 20, .inl (fun _ => 0))), (bLS_87_2, .inl ((cs 0), 80, .inl (fun _ => 0))), (bLt_87_2, .inl ((cs 1), 4, .inr (.inl (fun _ => 0)))), (bGS_87_2, .inl ((cs 1), 4, .inr (.inl (fun _ => 0)))), (bGG_87_2, .inl ((cs 0), 4, .inl (fun _ => 0))), (bES_87_2, .inl ((cs 1), 4, .inr (.inl (fun _ => 0)))), (bEG_87_2, .inl ((cs 0), 4, .inl (fun _ => 0))), (q83_3, .inr (1, [.int 0, .ref bLG_87_3, .ref bLS_87_3, .int 0, .int 0, .int 0, .int 0, .int 0, .ref bLt_87_3, .ref bGS_87_3, .ref bGG_87_3, .ref bES_87_3, .ref bEG_87_3])), (bLG_87_3, .inl ((cs 0), 20, .inl (fun _ => 0))), (bLS_87_3, .inl ((cs 0), 80, .inl (fun _ => 0))), (bLt_87_3, .inl ((cs 1), 4, .inr (.inl (fun _ => 0)))), (bGS_87_3, .inl ((cs 1), 4, .inr (.inl (fun _ => 0)))), (bGG_87_3, .inl ((cs 0), 4, .inl (fun _ => 0))), (bES_87_3, .inl ((cs 1), 4, .inr (.inl (fun _ => 0)))), (bEG_87_3, .inl ((cs 0), 4, .inl (fun _ => 0))), (q83_4, .inr (1, [.int 0, .ref bLG_87_4, .ref bLS_87_4, .int 0, .int 0, .int 0, .int 0, .int 0, .ref bLt_87_4, .ref bGS_87_4, .ref bGG_87_4, .ref bES_87_4, .ref bEG_87_4])), (bLG_87_4, .inl ((cs 0), 20, .inl (fun _ => 0))), (bLS_87_4, .inl ((cs 0), 80, .inl (fun _ => 0))), (bLt_87_4, .inl ((cs 1), 4, .inr (.inl (fun _ => 0)))), (bGS_87_4, .inl ((cs 1), 4, .inr (.inl (fun _ => 0)))), (bGG_87_4, .inl ((cs 0), 4, .inl (fun _ => 0))), (bES_87_4, .inl ((cs 1), 4, .inr (.inl (fun _ => 0)))), (bEG_87_4, .inl ((cs 0), 4, .inl (fun _ => 0)))] := hD
          refine W.widen (k := 40) (n := 709) (Nat.le_of_ble_eq_true rfl) (Nat.le_of_ble_eq_true rfl) ?_
          refine va_astq (D := (dC, dI)) hx hb hK hP hD hS 7 2 33 1 rfl rfl rfl rfl (vq_in 4 rfl (by decide) (by decide)) d_BR_init_90 (fun H locs hP hD hS => ?_)
          have hP : va_P (dC, dI) vq_cl [(h0, .inr (0, [.ref q7, .ref q15, .ref q23, .ref q31, .ref q39, .ref q47, .int 0, .ref q54, .int 0, .ref q61, .int 0])), (q7, .inl ((cs 0), 8, .inl (fun _ => 0))), (q15, .inl ((cs 0), 32, .inl (fun _ => 0))), (q23, .inl ((cs 0), 8, .inl (fun _ => 0))), (q31, .inl ((cs 0), 40, .inl (fun _ => 0))), (q39, .inl ((cs 0), 40, .inl (fun _ => 0))), (q47, .inl ((cs 0), 40, .inl (fun _ => 0))), (q54, .inl ((cs 2), 4, .inr (.inr (.inr (.inr (va_up (va_up (va_up (va_up (fun _ => none) (0 : Int32).toNatClampNeg (some q83)) (1 : Int32).toNatClampNeg (some q83_2)) (2 : Int32).toNatClampNeg (some q83_3)) (3 : Int32).toNatClampNeg (some q83_4))))))), (q61, .inr (2, [.int 0, .long 0, .long 0, .long 0, .long 0])), (q83, .inr (1, [.int 0, .ref bLG_87, .ref bLS_87, .int 0, .int 0, .int 0, .int 0, .int 0, .ref bLt_87, .ref bGS_87, .ref bGG_87, .ref bES_87, .ref bEG_87])), (bLG_87, .inl ((cs 0), 20, .inl (fun _ => 0))), (bLS_87, .inl ((cs 0), 80, .inl (fun _ => 0))), (bLt_87, .inl ((cs 1), 4, .inr (.inl (fun _ => 0)))), (bGS_87, .inl ((cs 1), 4, .inr (.inl (fun _ => 0)))), (bGG_87, .inl ((cs 0), 4, .inl (fun _ => 0))), (bES_87, .inl ((cs 1), 4, .inr (.inl (fun _ => 0)))), (bEG_87, .inl ((cs 0), 4, .inl (fun _ => 0))), (q83_2, .inr (1, [.int 0, .ref bLG_87_2, .ref bLS_87_2, .int 0, .int 0, .int 0, .int 0, .int 0, .ref bLt_87_2, .ref bGS_87_2, .ref bGG_87_2, .ref bES_87_2, .ref bEG_87_2])), (bLG_87_2, .inl ((cs 0), 20, .inl (fun _ => 0))), (bLS_87_2, .inl ((cs 0), 80, .inl (fun _ => 0))), (bLt_87_2, .inl ((cs 1), 4, .inr (.inl (fun _ => 0)))), (bGS_87_2, .inl ((cs 1), 4, .inr (.inl (fun _ => 0)))), (bGG_87_2, .inl ((cs 0), 4, .inl (fun _ => 0))), (bES_87_2, .inl ((cs 1), 4, .inr (.inl (fun _ => 0)))), (bEG_87_2, .inl ((cs 0), 4, .inl (fun _ => 0))), (q83_3, .inr (1, [.int 0, .ref bLG_87_3, .ref bLS_87_3, .int 0, .int 0, .int 0, .int 0, .int 0, .ref bLt_87_3, .ref bGS_87_3, .ref bGG_87_3, .ref bES_87_3, .ref bEG_87_3])), (bLG_87_3, .inl ((cs 0), 20, .inl (fun _ => 0))), (bLS_87_3, .inl ((cs 0), 80, .inl (fun _ => 0))), (bLt_87_3, .inl ((cs 1), 4, .inr (.inl (fun _ => 0)))), (bGS_87_3, .inl ((cs 1), 4, .inr (.inl (fun _ => 0)))), (bGG_87_3, .inl ((cs 0), 4, .inl (fun _ => 0))), (bES_87_3, .inl ((cs 1), 4, .inr (.inl (fun _ => 0)))), (bEG_87_3, .inl ((cs 0), 4, .inl (fun _ => 0))), (q83_4, .inr (1, [.int 0, .ref bLG_87_4, .ref bLS_87_4, .int 0, .int 0, .int 0, .int 0, .int 0, .ref bLt_87_4, .ref bGS_87_4, .ref bGG_87_4, .ref bES_87_4, .ref bEG_87_4])), (bLG_87_4, .inl ((cs 0), 20, .inl (fun _ => 0))), (bLS_87_4, .inl ((cs 0), 80, .inl (fun _ => 0))), (bLt_87_4, .inl ((cs 1), 4, .inr (.inl (fun _ => 0)))), (bGS_87_4, .inl ((cs 1), 4, .inr (.inl (fun _ => 0)))), (bGG_87_4, .inl ((cs 0), 4, .inl (fun _ => 0))), (bES_87_4, .inl ((cs 1), 4, .inr (.inl (fun _ => 0)))), (bEG_87_4, .inl ((cs 0), 4, .inl (fun _ => 0)))] H := hP
          have hD : va_D A [(h0, .inr (0, [.ref q7, .ref q15, .ref q23, .ref q31, .ref q39, .ref q47, .int 0, .ref q54, .int 0, .ref q61, .int 0])), (q7, .inl ((cs 0), 8, .inl (fun _ => 0))), (q15, .inl ((cs 0), 32, .inl (fun _ => 0))), (q23, .inl ((cs 0), 8, .inl (fun _ => 0))), (q31, .inl ((cs 0), 40, .inl (fun _ => 0))), (q39, .inl ((cs 0), 40, .inl (fun _ => 0))), (q47, .inl ((cs 0), 40, .inl (fun _ => 0))), (q54, .inl ((cs 2), 4, .inr (.inr (.inr (.inr (va_up (va_up (va_up (va_up (fun _ => none) (0 : Int32).toNatClampNeg (some q83)) (1 : Int32).toNatClampNeg (some q83_2)) (2 : Int32).toNatClampNeg (some q83_3)) (3 : Int32).toNatClampNeg (some q83_4))))))), (q61, .inr (2, [.int 0, .long 0, .long 0, .long 0, .long 0])), (q83, .inr (1, [.int 0, .ref bLG_87, .ref bLS_87, .int 0, .int 0, .int 0, .int 0, .int 0, .ref bLt_87, .ref bGS_87, .ref bGG_87, .ref bES_87, .ref bEG_87])), (bLG_87, .inl ((cs 0), 20, .inl (fun _ => 0))), (bLS_87, .inl ((cs 0), 80, .inl (fun _ => 0))), (bLt_87, .inl ((cs 1), 4, .inr (.inl (fun _ => 0)))), (bGS_87, .inl ((cs 1), 4, .inr (.inl (fun _ => 0)))), (bGG_87, .inl ((cs 0), 4, .inl (fun _ => 0))), (bES_87, .inl ((cs 1), 4, .inr (.inl (fun _ => 0)))), (bEG_87, .inl ((cs 0), 4, .inl (fun _ => 0))), (q83_2, .inr (1, [.int 0, .ref bLG_87_2, .ref bLS_87_2, .int 0, .int 0, .int 0, .int 0, .int 0, .ref bLt_87_2, .ref bGS_87_2, .ref bGG_87_2, .ref bES_87_2, .ref bEG_87_2])), (bLG_87_2, .inl ((cs 0), 20, .inl (fun _ => 0))), (bLS_87_2, .inl ((cs 0), 80, .inl (fun _ => 0))), (bLt_87_2, .inl ((cs 1), 4, .inr (.inl (fun _ => 0)))), (bGS_87_2, .inl ((cs 1), 4, .inr (.inl (fun _ => 0)))), (bGG_87_2, .inl ((cs 0), 4, .inl (fun _ => 0))), (bES_87_2, .inl ((cs 1), 4, .inr (.inl (fun _ => 0)))), (bEG_87_2, .inl ((cs 0), 4, .inl (fun _ => 0))), (q83_3, .inr (1, [.int 0, .ref bLG_87_3, .ref bLS_87_3, .int 0, .int 0, .int 0, .int 0, .int 0, .ref bLt_87_3, .ref bGS_87_3, .ref bGG_87_3, .ref bES_87_3, .ref bEG_87_3])), (bLG_87_3, .inl ((cs 0), 20, .inl (fun _ => 0))), (bLS_87_3, .inl ((cs 0), 80, .inl (fun _ => 0))), (bLt_87_3, .inl ((cs 1), 4, .inr (.inl (fun _ => 0)))), (bGS_87_3, .inl ((cs 1), 4, .inr (.inl (fun _ => 0)))), (bGG_87_3, .inl ((cs 0), 4, .inl (fun _ => 0))), (bES_87_3, .inl ((cs 1), 4, .inr (.inl (fun _ => 0)))), (bEG_87_3, .inl ((cs 0), 4, .inl (fun _ => 0))), (q83_4, .inr (1, [.int 0, .ref bLG_87_4, .ref bLS_87_4, .int 0, .int 0, .int 0, .int 0, .int 0, .ref bLt_87_4, .ref bGS_87_4, .ref bGG_87_4, .ref bES_87_4, .ref bEG_87_4])), (bLG_87_4, .inl ((cs 0), 20, .inl (fun _ => 0))), (bLS_87_4, .inl ((cs 0), 80, .inl (fun _ => 0))), (bLt_87_4, .inl ((cs 1), 4, .inr (.inl (fun _ => 0)))), (bGS_87_4, .inl ((cs 1), 4, .inr (.inl (fun _ => 0)))), (bGG_87_4, .inl ((cs 0), 4, .inl (fun _ => 0))), (bES_87_4, .inl ((cs 1), 4, .inr (.inl (fun _ => 0)))), (bEG_87_4, .inl ((cs 0), 4, .inl (fun _ => 0)))] := hD
          refine lv_iinc (v := 4) (lv' := [(1, .int 4), (0, .ref h0)]) hx hb d_BR_init_91 hl (k := 0) rfl (by decide) (by decide) rfl (fun ls hl => ?_)
          refine lv_goto (tgt := 73) hx hb d_BR_init_94 (by decide) ?_
          refine lv_iload_n hx hb d_BR_init_73 rfl (lv_at hl 0 rfl) ?_
          refine lv_iconst (v := 4) hx hb d_BR_init_74 (by decide) ?_
          refine lv_icmp_ge (tgt := 97) hx hb d_BR_init_75 (by decide) (fun c_75 => ?_) (fun c_75 => ?_)
          · skip
            refine W.widen (k := 40) (n := 709) (Nat.le_of_ble_eq_true rfl) (Nat.le_of_ble_eq_true rfl) ?_
            have hP9 : va_P (dC, dI) vq_cl [(h0, .inr (0, [.ref q7, .ref q15, .ref q23, .ref q31, .ref q39, .ref q47, .int 0, .ref q54, .int 0, .ref q61, .int 0])), (q7, .inl ((cs 0), 8, .inl (fun _ => 0))), (q15, .inl ((cs 0), 32, .inl (fun _ => 0))), (q23, .inl ((cs 0), 8, .inl (fun _ => 0))), (q31, .inl ((cs 0), 40, .inl (fun _ => 0))), (q39, .inl ((cs 0), 40, .inl (fun _ => 0))), (q47, .inl ((cs 0), 40, .inl (fun _ => 0))), (q54, .inl ((cs 2), 4, .inr (.inr (.inr (.inr (va_up (va_up (va_up (va_up (fun _ => none) (0 : Int32).toNatClampNeg (some q83)) (1 : Int32).toNatClampNeg (some q83_2)) (2 : Int32).toNatClampNeg (some q83_3)) (3 : Int32).toNatClampNeg (some q83_4))))))), (q61, .inr (2, [.int 0, .long 0, .long 0, .long 0, .long 0])), (q83, .inr (1, [.int 0, .ref bLG_87, .ref bLS_87, .int 0, .int 0, .int 0, .int 0, .int 0, .ref bLt_87, .ref bGS_87, .ref bGG_87, .ref bES_87, .ref bEG_87])), (bLG_87, .inl ((cs 0), 20, .inl (fun _ => 0))), (bLS_87, .inl ((cs 0), 80, .inl (fun _ => 0))), (bLt_87, .inl ((cs 1), 4, .inr (.inl (fun _ => 0)))), (bGS_87, .inl ((cs 1), 4, .inr (.inl (fun _ => 0)))), (bGG_87, .inl ((cs 0), 4, .inl (fun _ => 0))), (bES_87, .inl ((cs 1), 4, .inr (.inl (fun _ => 0)))), (bEG_87, .inl ((cs 0), 4, .inl (fun _ => 0))), (q83_2, .inr (1, [.int 0, .ref bLG_87_2, .ref bLS_87_2, .int 0, .int 0, .int 0, .int 0, .int 0, .ref bLt_87_2, .ref bGS_87_2, .ref bGG_87_2, .ref bES_87_2, .ref bEG_87_2])), (bLG_87_2, .inl ((cs 0), 20, .inl (fun _ => 0))), (bLS_87_2, .inl ((cs 0), 80, .inl (fun _ => 0))), (bLt_87_2, .inl ((cs 1), 4, .inr (.inl (fun _ => 0)))), (bGS_87_2, .inl ((cs 1), 4, .inr (.inl (fun _ => 0)))), (bGG_87_2, .inl ((cs 0), 4, .inl (fun _ => 0))), (bES_87_2, .inl ((cs 1), 4, .inr (.inl (fun _ => 0)))), (bEG_87_2, .inl ((cs 0), 4, .inl (fun _ => 0))), (q83_3, .inr (1, [.int 0, .ref bLG_87_3, .ref bLS_87_3, .int 0, .int 0, .int 0, .int 0, .int 0, .ref bLt_87_3, .ref bGS_87_3, .ref bGG_87_3, .ref bES_87_3, .ref bEG_87_3])), (bLG_87_3, .inl ((cs 0), 20, .inl (fun _ => 0))), (bLS_87_3, .inl ((cs 0), 80, .inl (fun _ => 0))), (bLt_87_3, .inl ((cs 1), 4, .inr (.inl (fun _ => 0)))), (bGS_87_3, .inl ((cs 1), 4, .inr (.inl (fun _ => 0)))), (bGG_87_3, .inl ((cs 0), 4, .inl (fun _ => 0))), (bES_87_3, .inl ((cs 1), 4, .inr (.inl (fun _ => 0)))), (bEG_87_3, .inl ((cs 0), 4, .inl (fun _ => 0))), (q83_4, .inr (1, [.int 0, .ref bLG_87_4, .ref bLS_87_4, .int 0, .int 0, .int 0, .int 0, .int 0, .ref bLt_87_4, .ref bGS_87_4, .ref bGG_87_4, .ref bES_87_4, .ref bEG_87_4])), (bLG_87_4, .inl ((cs 0), 20, .inl (fun _ => 0))), (bLS_87_4, .inl ((cs 0), 80, .inl (fun _ => 0))), (bLt_87_4, .inl ((cs 1), 4, .inr (.inl (fun _ => 0)))), (bGS_87_4, .inl ((cs 1), 4, .inr (.inl (fun _ => 0)))), (bGG_87_4, .inl ((cs 0), 4, .inl (fun _ => 0))), (bES_87_4, .inl ((cs 1), 4, .inr (.inl (fun _ => 0)))), (bEG_87_4, .inl ((cs 0), 4, .inl (fun _ => 0)))] _ := hP.sub [0, 1, 2, 3, 4, 5, 6, 7, 8, 9, 10, 11, 12, 13, 14, 15, 16, 17, 18, 19, 20, 21, 22, 23, 24, 25, 26, 27, 28, 29, 30, 31, 32, 33, 34, 35, 36, 37, 38, 39, 40] rfl
            have hD9 : va_D A [(h0, .inr (0, [.ref q7, .ref q15, .ref q23, .ref q31, .ref q39, .ref q47, .int 0, .ref q54, .int 0, .ref q61, .int 0])), (q7, .inl ((cs 0), 8, .inl (fun _ => 0))), (q15, .inl ((cs 0), 32, .inl (fun _ => 0))), (q23, .inl ((cs 0), 8, .inl (fun _ => 0))), (q31, .inl ((cs 0), 40, .inl (fun _ => 0))), (q39, .inl ((cs 0), 40, .inl (fun _ => 0))), (q47, .inl ((cs 0), 40, .inl (fun _ => 0))), (q54, .inl ((cs 2), 4, .inr (.inr (.inr (.inr (va_up (va_up (va_up (va_up (fun _ => none) (0 : Int32).toNatClampNeg (some q83)) (1 : Int32).toNatClampNeg (some q83_2)) (2 : Int32).toNatClampNeg (some q83_3)) (3 : Int32).toNatClampNeg (some q83_4))))))), (q61, .inr (2, [.int 0, .long 0, .long 0, .long 0, .long 0])), (q83, .inr (1, [.int 0, .ref bLG_87, .ref bLS_87, .int 0, .int 0, .int 0, .int 0, .int 0, .ref bLt_87, .ref bGS_87, .ref bGG_87, .ref bES_87, .ref bEG_87])), (bLG_87, .inl ((cs 0), 20, .inl (fun _ => 0))), (bLS_87, .inl ((cs 0), 80, .inl (fun _ => 0))), (bLt_87, .inl ((cs 1), 4, .inr (.inl (fun _ => 0)))), (bGS_87, .inl ((cs 1), 4, .inr (.inl (fun _ => 0)))), (bGG_87, .inl ((cs 0), 4, .inl (fun _ => 0))), (bES_87, .inl ((cs 1), 4, .inr (.inl (fun _ => 0)))), (bEG_87, .inl ((cs 0), 4, .inl (fun _ => 0))), (q83_2, .inr (1, [.int 0, .ref bLG_87_2, .ref bLS_87_2, .int 0, .int 0, .int 0, .int 0, .int 0, .ref bLt_87_2, .ref bGS_87_2, .ref bGG_87_2, .ref bES_87_2, .ref bEG_87_2])), (bLG_87_2, .inl ((cs 0), 20, .inl (fun _ => 0))), (bLS_87_2, .inl ((cs 0), 80, .inl (fun _ => 0))), (bLt_87_2, .inl ((cs 1), 4, .inr (.inl (fun _ => 0)))), (bGS_87_2, .inl ((cs 1), 4, .inr (.inl (fun _ => 0)))), (bGG_87_2, .inl ((cs 0), 4, .inl (fun _ => 0))), (bES_87_2, .inl ((cs 1), 4, .inr (.inl (fun _ => 0)))), (bEG_87_2, .inl ((cs 0), 4, .inl (fun _ => 0))), (q83_3, .inr (1, [.int 0, .ref bLG_87_3, .ref bLS_87_3, .int 0, .int 0, .int 0, .int 0, .int 0, .ref bLt_87_3, .ref bGS_87_3, .ref bGG_87_3, .ref bES_87_3, .ref bEG_87_3])), (bLG_87_3, .inl ((cs 0), 20, .inl (fun _ => 0))), (bLS_87_3, .inl ((cs 0), 80, .inl (fun _ => 0))), (bLt_87_3, .inl ((cs 1), 4, .inr (.inl (fun _ => 0)))), (bGS_87_3, .inl ((cs 1), 4, .inr (.inl (fun _ => 0)))), (bGG_87_3, .inl ((cs 0), 4, .inl (fun _ => 0))), (bES_87_3, .inl ((cs 1), 4, .inr (.inl (fun _ => 0)))), (bEG_87_3, .inl ((cs 0), 4, .inl (fun _ => 0))), (q83_4, .inr (1, [.int 0, .ref bLG_87_4, .ref bLS_87_4, .int 0, .int 0, .int 0, .int 0, .int 0, .ref bLt_87_4, .ref bGS_87_4, .ref bGG_87_4, .ref bES_87_4, .ref bEG_87_4])), (bLG_87_4, .inl ((cs 0), 20, .inl (fun _ => 0))), (bLS_87_4, .inl ((cs 0), 80, .inl (fun _ => 0))), (bLt_87_4, .inl ((cs 1), 4, .inr (.inl (fun _ => 0)))), (bGS_87_4, .inl ((cs 1), 4, .inr (.inl (fun _ => 0)))), (bGG_87_4, .inl ((cs 0), 4, .inl (fun _ => 0))), (bES_87_4, .inl ((cs 1), 4, .inr (.inl (fun _ => 0)))), (bEG_87_4, .inl ((cs 0), 4, .inl (fun _ => 0)))] := hD.sub [0, 1, 2, 3, 4, 5, 6, 7, 8, 9, 10, 11, 12, 13, 14, 15, 16, 17, 18, 19, 20, 21, 22, 23, 24, 25, 26, 27, 28, 29, 30, 31, 32, 33, 34, 35, 36, 37, 38, 39, 40] (by decide) rfl
            exact W.vret hx hb hr (fun t ht hW => ⟨⟨(q7, q15, q23, q31, q39, q47, q54, q61, q83, bLG_87, bLS_87, bLt_87, bGS_87, bGG_87, bES_87, bEG_87, q83_2, bLG_87_2, bLS_87_2, bLt_87_2, bGS_87_2, bGG_87_2, bES_87_2, bEG_87_2, q83_3, bLG_87_3, bLS_87_3, bLt_87_3, bGS_87_3, bGG_87_3, bES_87_3, bEG_87_3, q83_4, bLG_87_4, bLS_87_4, bLt_87_4, bGS_87_4, bGG_87_4, bES_87_4, bEG_87_4), rfl, trivial, ⟨by rw [ht]; exact hP9, hD9⟩⟩, hS.F ht⟩) hS.2.2 d_BR_init_97
          · skip
            exact absurd c_75 (by decide)
set_option maxHeartbeats 4000000 in
set_option maxRecDepth 100000 in
/-- moisture -/
theorem c_moisture (l : Launch) (hlT : l.stackTraces = false) (dC : Nat → ClassId) (dI : Nat → Nat → Nat) (cs : Nat → ClassId) (sz : Nat) (h0 : Nat) (aMo : Nat) (aSh : Nat) (aLa : Nat) (aDy : Nat) (aMa : Nat) (aKi : Nat) (aPi : Nat) (aLn : Nat) (zCn : Int32) (zPc : Int32) (zTo : Int32) (fMo : Nat → Int32) (x : Int32) (y : Int32) : vx_Met l y_BR_moisture w_BR_moisture ({ frames := 7, cells := 2, slots := 12, locals := 104 }) (vq_Pre (dC, dI) cs [(h0, .inr (0, [.ref aMo, .ref aSh, .ref aLa, .ref aDy, .ref aMa, .ref aKi, .int zCn, .ref aPi, .int zPc, .ref aLn, .int zTo])), (aMo, .inl ((cs 0), 8, .inl fMo))] sz [.ref h0, .int x, .int y]) (va_Qv (fun (_ : Unit) => X_moisture x y = none) (vq_B (dC, dI) cs (va_A [(h0, .inr (0, [.ref aMo, .ref aSh, .ref aLa, .ref aDy, .ref aMa, .ref aKi, .int zCn, .ref aPi, .int zPc, .ref aLn, .int zTo])), (aMo, .inl ((cs 0), 8, .inl fMo))] sz) (fun _ => [(h0, .inr (0, [.ref aMo, .ref aSh, .ref aLa, .ref aDy, .ref aMa, .ref aKi, .int zCn, .ref aPi, .int zPc, .ref aLn, .int zTo])), (aMo, .inl ((cs 0), 8, .inl (upd fMo x.toNatClampNeg y)))])) (va_A [(h0, .inr (0, [.ref aMo, .ref aSh, .ref aLa, .ref aDy, .ref aMa, .ref aKi, .int zCn, .ref aPi, .int zPc, .ref aLn, .int zTo])), (aMo, .inl ((cs 0), 8, .inl fMo))] sz)) (vq_X (fun E => X_moisture x y = some E) sz) 2 12 (va_A [(h0, .inr (0, [.ref aMo, .ref aSh, .ref aLa, .ref aDy, .ref aMa, .ref aKi, .int zCn, .ref aPi, .int zPc, .ref aLn, .int zTo])), (aMo, .inl ((cs 0), 8, .inl fMo))] sz) := by
  refine vx_ofW (cc := b_BR_moisture) (maxL := 3) (ret := none) (by decide) rfl ?_
  intro p e s m args below meth c s₁ B hml htb hv
  obtain ⟨rfl, hsz, hP, hD0, hCx⟩ := hv
  have hx := B.exec
  have hb := B.bytes
  have hr := B.returns
  have hG := vq_hG (atoms_spec (ws := w_BR_moisture) B.pre)
  have hown : s.vm.findClass R_BR = some m.cls := findClass_of_methodNamed B.named
  have hlocks := B.notSynchronized
  subst hsz
  have hK := hCx.1
  have hD := hD0.self (sz := s.heap.size)
  generalize hAe : va_A [(h0, .inr (0, [.ref aMo, .ref aSh, .ref aLa, .ref aDy, .ref aMa, .ref aKi, .int zCn, .ref aPi, .int zPc, .ref aLn, .int zTo])), (aMo, .inl ((cs 0), 8, .inl fMo))] s.heap.size = A at hD hCx ⊢
  have hA : ∀ q : Nat, s.heap.size ≤ q → A q := fun q h => by rw [← hAe]; exact Or.inr h
  have hA0 : ∀ q : Nat, s.heap.size ≤ q → va_A [] s.heap.size q := fun q h => Or.inr h
  have hS : va_S (va_A [] s.heap.size) s.heap s.heap [] := va_S.rf
  have hl := lv_entry ([.ref h0, .int x, .int y]) (n := 3) (Nat.le_of_ble_eq_true rfl)
  rw [lg_entry_eq]
  generalize (lg_sl ([.ref h0, .int x, .int y]) ++ List.replicate (3 - (lg_sl ([.ref h0, .int x, .int y])).length) Slot.unset).toArray = ls at hl ⊢
  have hl : lv_has ls 3 [(0, .ref h0), (1, .int x), (2, .int y)] := hl
  have hP : va_P (dC, dI) vq_cl [(h0, .inr (0, [.ref aMo, .ref aSh, .ref aLa, .ref aDy, .ref aMa, .ref aKi, .int zCn, .ref aPi, .int zPc, .ref aLn, .int zTo])), (aMo, .inl ((cs 0), 8, .inl fMo))] s.heap := hP
  refine lv_iload_n hx hb d_BR_moisture_0 rfl (lv_at hl 1 rfl) ?_
  refine mx_rv (vx_runS (As := [.int x]) (rest := []) ⟨hx, hb, hml, hown, hG⟩ (c_needMaterial l hlT dC dI cs _ x) (cwS 1 hG (vq_gS vq_t143 vq_t144 vq_t1 vq_t145) rfl rfl rfl (by decide +kernel) ⟨Nat.le_of_ble_eq_true rfl, Nat.le_of_ble_eq_true rfl⟩) (vq_preSr (wc := []) hCx hP (vq_wk hS hA) hA [] rfl) rfl rfl hl.1 rfl (lv_room (Nat.le_of_ble_eq_true rfl)) d_BR_moisture_1 ⟨Nat.le_of_ble_eq_true rfl, Nat.le_of_ble_eq_true rfl⟩) hP hS hA0 (fun E ce q9 H locs x_1 hP hS h91 h92 h93 => vx_out (fun x h => (htb x h).elim) hlocks h91 h92 h93 (fun t ht hvm => vq_Xof (by obtain ⟨rfl, y9⟩ := x_1; simp only [X_moisture, if_neg y9]) (hS.F ht)) (vq_wk hS hA).2.2 (Nat.le_of_ble_eq_true rfl) (Nat.le_of_ble_eq_true rfl)) (fun H locs w_1 hP hS => ?_)
  refine W.widen (k := 1) (n := 6) (Nat.le_of_ble_eq_true rfl) (Nat.le_of_ble_eq_true rfl) ?_
  refine lv_iload_n hx hb d_BR_moisture_4 rfl (lv_at hl 2 rfl) ?_
  refine lv_iconst (v := 0) hx hb d_BR_moisture_5 (by decide) ?_
  refine lv_sipush (v := 900) hx hb d_BR_moisture_6 (by decide) ?_
  refine mx_rv (vx_runS (As := [.int y, .int 0, .int 900]) (rest := []) ⟨hx, hb, hml, hown, hG⟩ (c_needRange l hlT dC dI cs _ y 0 900) (cwS 3 hG (vq_gS vq_t215 vq_t216 vq_t1 vq_t217) rfl rfl rfl (by decide +kernel) ⟨Nat.le_of_ble_eq_true rfl, Nat.le_of_ble_eq_true rfl⟩) (vq_preSr (wc := []) hCx hP (vq_wk hS hA) hA [] rfl) rfl rfl hl.1 rfl (lv_room (Nat.le_of_ble_eq_true rfl)) d_BR_moisture_9 ⟨Nat.le_of_ble_eq_true rfl, Nat.le_of_ble_eq_true rfl⟩) hP hS hA0 (fun E ce q9 H locs x_9 hP hS h91 h92 h93 => vx_out (fun x h => (htb x h).elim) hlocks h91 h92 h93 (fun t ht hvm => vq_Xof (by obtain ⟨rfl, y9⟩ := x_9; simp only [X_moisture, if_pos w_1, if_neg y9]) (hS.F ht)) (vq_wk hS hA).2.2 (Nat.le_of_ble_eq_true rfl) (Nat.le_of_ble_eq_true rfl)) (fun H locs w_9 hP hS => ?_)
  refine W.widen (k := 2) (n := 12) (Nat.le_of_ble_eq_true rfl) (Nat.le_of_ble_eq_true rfl) ?_
  refine lv_aload_n hx hb d_BR_moisture_12 rfl (lv_at hl 0 rfl) ?_
  refine va_get (D := (dC, dI)) (ci := 0) (v := .ref aMo) (C := R_BR) (T := F_BR) (N := 11) hx hb hG i_BR hown hK hP 0 rfl rfl 0 (by decide) (hG _ vq_t100) (fun _ h9 => h9) rfl d_BR_moisture_13 ?_
  refine lv_iload_n hx hb d_BR_moisture_16 rfl (lv_at hl 1 rfl) ?_
  refine lv_iload_n hx hb d_BR_moisture_17 rfl (lv_at hl 2 rfl) ?_
  have hS := vq_wk hS hA
  refine va_iast (D := (dC, dI)) hx hb hK hP hD hS 1 0 rfl rfl (vq_in 8 rfl w_1.1 w_1.2) d_BR_moisture_18 (fun H locs hP hD hS => ?_)
  have hP : va_P (dC, dI) vq_cl [(h0, .inr (0, [.ref aMo, .ref aSh, .ref aLa, .ref aDy, .ref aMa, .ref aKi, .int zCn, .ref aPi, .int zPc, .ref aLn, .int zTo])), (aMo, .inl ((cs 0), 8, .inl (upd fMo x.toNatClampNeg y)))] H := hP
  have hD : va_D A [(h0, .inr (0, [.ref aMo, .ref aSh, .ref aLa, .ref aDy, .ref aMa, .ref aKi, .int zCn, .ref aPi, .int zPc, .ref aLn, .int zTo])), (aMo, .inl ((cs 0), 8, .inl (upd fMo x.toNatClampNeg y)))] := hD
  refine vx_ret ?_
  refine W.widen (k := 2) (n := 12) (Nat.le_of_ble_eq_true rfl) (Nat.le_of_ble_eq_true rfl) ?_
  have hP9 : va_P (dC, dI) vq_cl [(h0, .inr (0, [.ref aMo, .ref aSh, .ref aLa, .ref aDy, .ref aMa, .ref aKi, .int zCn, .ref aPi, .int zPc, .ref aLn, .int zTo])), (aMo, .inl ((cs 0), 8, .inl (upd fMo x.toNatClampNeg y)))] _ := hP.sub [0, 1] rfl
  have hD9 : va_D A [(h0, .inr (0, [.ref aMo, .ref aSh, .ref aLa, .ref aDy, .ref aMa, .ref aKi, .int zCn, .ref aPi, .int zPc, .ref aLn, .int zTo])), (aMo, .inl ((cs 0), 8, .inl (upd fMo x.toNatClampNeg y)))] := hD.sub [0, 1] (by decide) rfl
  exact W.vret hx hb hr (fun t ht hW => ⟨⟨(), rfl, by simp only [X_moisture, if_pos w_1, if_pos w_9], ⟨by rw [ht]; exact hP9, hD9⟩⟩, hS.F ht⟩) hS.2.2 d_BR_moisture_19
set_option maxHeartbeats 4000000 in
set_option maxRecDepth 100000 in
/-- element -/
theorem c_element (l : Launch) (hlT : l.stackTraces = false) (dC : Nat → ClassId) (dI : Nat → Nat → Nat) (cs : Nat → ClassId) (sz : Nat) (h0 : Nat) (aMo : Nat) (aSh : Nat) (aLa : Nat) (aDy : Nat) (aMa : Nat) (aKi : Nat) (aPi : Nat) (aLn : Nat) (zCn : Int32) (zPc : Int32) (zTo : Int32) (fSh : Nat → Int32) (x : Int32) (k : Int32) (y : Int32) : vx_Met l y_BR_element w_BR_element ({ frames := 7, cells := 3, slots := 18, locals := 104 }) (vq_Pre (dC, dI) cs [(h0, .inr (0, [.ref aMo, .ref aSh, .ref aLa, .ref aDy, .ref aMa, .ref aKi, .int zCn, .ref aPi, .int zPc, .ref aLn, .int zTo])), (aSh, .inl ((cs 0), 32, .inl fSh))] sz [.ref h0, .int x, .int k, .int y]) (va_Qv (fun (_ : Unit) => X_element x k y = none) (vq_B (dC, dI) cs (va_A [(h0, .inr (0, [.ref aMo, .ref aSh, .ref aLa, .ref aDy, .ref aMa, .ref aKi, .int zCn, .ref aPi, .int zPc, .ref aLn, .int zTo])), (aSh, .inl ((cs 0), 32, .inl fSh))] sz) (fun _ => [(h0, .inr (0, [.ref aMo, .ref aSh, .ref aLa, .ref aDy, .ref aMa, .ref aKi, .int zCn, .ref aPi, .int zPc, .ref aLn, .int zTo])), (aSh, .inl ((cs 0), 32, .inl (upd fSh ((x * 4) + k).toNatClampNeg y)))])) (va_A [(h0, .inr (0, [.ref aMo, .ref aSh, .ref aLa, .ref aDy, .ref aMa, .ref aKi, .int zCn, .ref aPi, .int zPc, .ref aLn, .int zTo])), (aSh, .inl ((cs 0), 32, .inl fSh))] sz)) (vq_X (fun E => X_element x k y = some E) sz) 3 18 (va_A [(h0, .inr (0, [.ref aMo, .ref aSh, .ref aLa, .ref aDy, .ref aMa, .ref aKi, .int zCn, .ref aPi, .int zPc, .ref aLn, .int zTo])), (aSh, .inl ((cs 0), 32, .inl fSh))] sz) := by
  refine vx_ofW (cc := b_BR_element) (maxL := 4) (ret := none) (by decide) rfl ?_
  intro p e s m args below meth c s₁ B hml htb hv
  obtain ⟨rfl, hsz, hP, hD0, hCx⟩ := hv
  have hx := B.exec
  have hb := B.bytes
  have hr := B.returns
  have hG := vq_hG (atoms_spec (ws := w_BR_element) B.pre)
  have hown : s.vm.findClass R_BR = some m.cls := findClass_of_methodNamed B.named
  have hlocks := B.notSynchronized
  subst hsz
  have hK := hCx.1
  have hD := hD0.self (sz := s.heap.size)
  generalize hAe : va_A [(h0, .inr (0, [.ref aMo, .ref aSh, .ref aLa, .ref aDy, .ref aMa, .ref aKi, .int zCn, .ref aPi, .int zPc, .ref aLn, .int zTo])), (aSh, .inl ((cs 0), 32, .inl fSh))] s.heap.size = A at hD hCx ⊢
  have hA : ∀ q : Nat, s.heap.size ≤ q → A q := fun q h => by rw [← hAe]; exact Or.inr h
  have hA0 : ∀ q : Nat, s.heap.size ≤ q → va_A [] s.heap.size q := fun q h => Or.inr h
  have hS : va_S (va_A [] s.heap.size) s.heap s.heap [] := va_S.rf
  have hl := lv_entry ([.ref h0, .int x, .int k, .int y]) (n := 4) (Nat.le_of_ble_eq_true rfl)
  rw [lg_entry_eq]
  generalize (lg_sl ([.ref h0, .int x, .int k, .int y]) ++ List.replicate (4 - (lg_sl ([.ref h0, .int x, .int k, .int y])).length) Slot.unset).toArray = ls at hl ⊢
  have hl : lv_has ls 4 [(0, .ref h0), (1, .int x), (2, .int k), (3, .int y)] := hl
  have hP : va_P (dC, dI) vq_cl [(h0, .inr (0, [.ref aMo, .ref aSh, .ref aLa, .ref aDy, .ref aMa, .ref aKi, .int zCn, .ref aPi, .int zPc, .ref aLn, .int zTo])), (aSh, .inl ((cs 0), 32, .inl fSh))] s.heap := hP
  refine lv_iload_n hx hb d_BR_element_0 rfl (lv_at hl 1 rfl) ?_
  refine mx_rv (vx_runS (As := [.int x]) (rest := []) ⟨hx, hb, hml, hown, hG⟩ (c_needMaterial l hlT dC dI cs _ x) (cwS 1 hG (vq_gS vq_t143 vq_t144 vq_t1 vq_t145) rfl rfl rfl (by decide +kernel) ⟨Nat.le_of_ble_eq_true rfl, Nat.le_of_ble_eq_true rfl⟩) (vq_preSr (wc := []) hCx hP (vq_wk hS hA) hA [] rfl) rfl rfl hl.1 rfl (lv_room (Nat.le_of_ble_eq_true rfl)) d_BR_element_1 ⟨Nat.le_of_ble_eq_true rfl, Nat.le_of_ble_eq_true rfl⟩) hP hS hA0 (fun E ce q9 H locs x_1 hP hS h91 h92 h93 => vx_out (fun x h => (htb x h).elim) hlocks h91 h92 h93 (fun t ht hvm => vq_Xof (by obtain ⟨rfl, y9⟩ := x_1; simp only [X_element, if_neg y9]) (hS.F ht)) (vq_wk hS hA).2.2 (Nat.le_of_ble_eq_true rfl) (Nat.le_of_ble_eq_true rfl)) (fun H locs w_1 hP hS => ?_)
  refine W.widen (k := 1) (n := 6) (Nat.le_of_ble_eq_true rfl) (Nat.le_of_ble_eq_true rfl) ?_
  refine lv_iload_n hx hb d_BR_element_4 rfl (lv_at hl 2 rfl) ?_
  refine mx_rv (vx_runS (As := [.int k]) (rest := []) ⟨hx, hb, hml, hown, hG⟩ (c_needElement l hlT dC dI cs _ k) (cwS 1 hG (vq_gS vq_t241 vq_t242 vq_t1 vq_t243) rfl rfl rfl (by decide +kernel) ⟨Nat.le_of_ble_eq_true rfl, Nat.le_of_ble_eq_true rfl⟩) (vq_preSr (wc := []) hCx hP (vq_wk hS hA) hA [] rfl) rfl rfl hl.1 rfl (lv_room (Nat.le_of_ble_eq_true rfl)) d_BR_element_5 ⟨Nat.le_of_ble_eq_true rfl, Nat.le_of_ble_eq_true rfl⟩) hP hS hA0 (fun E ce q9 H locs x_5 hP hS h91 h92 h93 => vx_out (fun x h => (htb x h).elim) hlocks h91 h92 h93 (fun t ht hvm => vq_Xof (by obtain ⟨rfl, y9⟩ := x_5; simp only [X_element, if_pos w_1, if_neg y9]) (hS.F ht)) (vq_wk hS hA).2.2 (Nat.le_of_ble_eq_true rfl) (Nat.le_of_ble_eq_true rfl)) (fun H locs w_5 hP hS => ?_)
  refine W.widen (k := 2) (n := 12) (Nat.le_of_ble_eq_true rfl) (Nat.le_of_ble_eq_true rfl) ?_
  refine lv_iload_n hx hb d_BR_element_8 rfl (lv_at hl 3 rfl) ?_
  refine lv_iconst (v := 0) hx hb d_BR_element_9 (by decide) ?_
  refine lv_sipush (v := 10000) hx hb d_BR_element_10 (by decide) ?_
  refine mx_rv (vx_runS (As := [.int y, .int 0, .int 10000]) (rest := []) ⟨hx, hb, hml, hown, hG⟩ (c_needRange l hlT dC dI cs _ y 0 10000) (cwS 3 hG (vq_gS vq_t215 vq_t216 vq_t1 vq_t217) rfl rfl rfl (by decide +kernel) ⟨Nat.le_of_ble_eq_true rfl, Nat.le_of_ble_eq_true rfl⟩) (vq_preSr (wc := []) hCx hP (vq_wk hS hA) hA [] rfl) rfl rfl hl.1 rfl (lv_room (Nat.le_of_ble_eq_true rfl)) d_BR_element_13 ⟨Nat.le_of_ble_eq_true rfl, Nat.le_of_ble_eq_true rfl⟩) hP hS hA0 (fun E ce q9 H locs x_13 hP hS h91 h92 h93 => vx_out (fun x h => (htb x h).elim) hlocks h91 h92 h93 (fun t ht hvm => vq_Xof (by obtain ⟨rfl, y9⟩ := x_13; simp only [X_element, if_pos w_1, if_pos w_5, if_neg y9]) (hS.F ht)) (vq_wk hS hA).2.2 (Nat.le_of_ble_eq_true rfl) (Nat.le_of_ble_eq_true rfl)) (fun H locs w_13 hP hS => ?_)
  refine W.widen (k := 3) (n := 18) (Nat.le_of_ble_eq_true rfl) (Nat.le_of_ble_eq_true rfl) ?_
  refine lv_aload_n hx hb d_BR_element_16 rfl (lv_at hl 0 rfl) ?_
  refine va_get (D := (dC, dI)) (ci := 0) (v := .ref aSh) (C := R_BR) (T := F_BR) (N := 11) hx hb hG i_BR hown hK hP 0 rfl rfl 1 (by decide) (hG _ vq_t101) (fun _ h9 => h9) rfl d_BR_element_17 ?_
  refine lv_iload_n hx hb d_BR_element_20 rfl (lv_at hl 1 rfl) ?_
  refine lv_iconst (v := 4) hx hb d_BR_element_21 (by decide) ?_
  refine lv_imul hx hb d_BR_element_22 ?_
  refine lv_iload_n hx hb d_BR_element_23 rfl (lv_at hl 2 rfl) ?_
  refine lv_iadd hx hb d_BR_element_24 ?_
  refine lv_iload_n hx hb d_BR_element_25 rfl (lv_at hl 3 rfl) ?_
  have hS := vq_wk hS hA
  refine va_iast (D := (dC, dI)) hx hb hK hP hD hS 1 0 rfl rfl (vq_ixE w_1 w_5) d_BR_element_26 (fun H locs hP hD hS => ?_)
  have hP : va_P (dC, dI) vq_cl [(h0, .inr (0, [.ref aMo, .ref aSh, .ref aLa, .ref aDy, .ref aMa, .ref aKi, .int zCn, .ref aPi, .int zPc, .ref aLn, .int zTo])), (aSh, .inl ((cs 0), 32, .inl (upd fSh ((x * 4) + k).toNatClampNeg y)))] H := hP
  have hD : va_D A [(h0, .inr (0, [.ref aMo, .ref aSh, .ref aLa, .ref aDy, .ref aMa, .ref aKi, .int zCn, .ref aPi, .int zPc, .ref aLn, .int zTo])), (aSh, .inl ((cs 0), 32, .inl (upd fSh ((x * 4) + k).toNatClampNeg y)))] := hD
  refine vx_ret ?_
  refine W.widen (k := 3) (n := 18) (Nat.le_of_ble_eq_true rfl) (Nat.le_of_ble_eq_true rfl) ?_
  have hP9 : va_P (dC, dI) vq_cl [(h0, .inr (0, [.ref aMo, .ref aSh, .ref aLa, .ref aDy, .ref aMa, .ref aKi, .int zCn, .ref aPi, .int zPc, .ref aLn, .int zTo])), (aSh, .inl ((cs 0), 32, .inl (upd fSh ((x * 4) + k).toNatClampNeg y)))] _ := hP.sub [0, 1] rfl
  have hD9 : va_D A [(h0, .inr (0, [.ref aMo, .ref aSh, .ref aLa, .ref aDy, .ref aMa, .ref aKi, .int zCn, .ref aPi, .int zPc, .ref aLn, .int zTo])), (aSh, .inl ((cs 0), 32, .inl (upd fSh ((x * 4) + k).toNatClampNeg y)))] := hD.sub [0, 1] (by decide) rfl
  exact W.vret hx hb hr (fun t ht hW => ⟨⟨(), rfl, by simp only [X_element, if_pos w_1, if_pos w_5, if_pos w_13], ⟨by rw [ht]; exact hP9, hD9⟩⟩, hS.F ht⟩) hS.2.2 d_BR_element_27
set_option maxHeartbeats 4000000 in
set_option maxRecDepth 100000 in
/-- ship -/
theorem c_ship (l : Launch) (hlT : l.stackTraces = false) (dC : Nat → ClassId) (dI : Nat → Nat → Nat) (cs : Nat → ClassId) (sz : Nat) (h0 : Nat) (aMo : Nat) (aSh : Nat) (aLa : Nat) (aDy : Nat) (aMa : Nat) (aKi : Nat) (aPi : Nat) (aLn : Nat) (zCn : Int32) (zPc : Int32) (zTo : Int32) (fDy : Nat → Int32) (fMa : Nat → Int32) (fKi : Nat → Int32) (day : Int32) (x : Int32) (kg : Int32) (lo : Int32) (hn : ¬ zCn < 0) : vx_Met l y_BR_ship w_BR_ship ({ frames := 7, cells := 4, slots := 24, locals := 104 }) (vq_Pre (dC, dI) cs [(h0, .inr (0, [.ref aMo, .ref aSh, .ref aLa, .ref aDy, .ref aMa, .ref aKi, .int zCn, .ref aPi, .int zPc, .ref aLn, .int zTo])), (aDy, .inl ((cs 0), 40, .inl fDy)), (aMa, .inl ((cs 0), 40, .inl fMa)), (aKi, .inl ((cs 0), 40, .inl fKi))] sz [.ref h0, .int day, .int x, .int kg, .int lo]) (va_Qi (fun (r : Int32) (_ : Unit) => r = zCn ∧ X_ship zCn zTo day x kg lo = none) (vq_B (dC, dI) cs (va_A [(h0, .inr (0, [.ref aMo, .ref aSh, .ref aLa, .ref aDy, .ref aMa, .ref aKi, .int zCn, .ref aPi, .int zPc, .ref aLn, .int zTo])), (aDy, .inl ((cs 0), 40, .inl fDy)), (aMa, .inl ((cs 0), 40, .inl fMa)), (aKi, .inl ((cs 0), 40, .inl fKi))] sz) (fun _ => [(h0, .inr (0, [.ref aMo, .ref aSh, .ref aLa, .ref aDy, .ref aMa, .ref aKi, .int (zCn + 1), .ref aPi, .int zPc, .ref aLn, .int zTo])), (aDy, .inl ((cs 0), 40, .inl (upd fDy zCn.toNatClampNeg day))), (aMa, .inl ((cs 0), 40, .inl (upd fMa zCn.toNatClampNeg x))), (aKi, .inl ((cs 0), 40, .inl (upd fKi zCn.toNatClampNeg (kg - ((((kg * lo) + 1000) - 1) / 1000)))))])) (va_A [(h0, .inr (0, [.ref aMo, .ref aSh, .ref aLa, .ref aDy, .ref aMa, .ref aKi, .int zCn, .ref aPi, .int zPc, .ref aLn, .int zTo])), (aDy, .inl ((cs 0), 40, .inl fDy)), (aMa, .inl ((cs 0), 40, .inl fMa)), (aKi, .inl ((cs 0), 40, .inl fKi))] sz)) (vq_X (fun E => X_ship zCn zTo day x kg lo = some E) sz) 4 24 (va_A [(h0, .inr (0, [.ref aMo, .ref aSh, .ref aLa, .ref aDy, .ref aMa, .ref aKi, .int zCn, .ref aPi, .int zPc, .ref aLn, .int zTo])), (aDy, .inl ((cs 0), 40, .inl fDy)), (aMa, .inl ((cs 0), 40, .inl fMa)), (aKi, .inl ((cs 0), 40, .inl fKi))] sz) := by
  refine vx_ofW (cc := b_BR_ship) (maxL := 6) (ret := (some .int)) (by decide) rfl ?_
  intro p e s m args below meth c s₁ B hml htb hv
  obtain ⟨rfl, hsz, hP, hD0, hCx⟩ := hv
  have hx := B.exec
  have hb := B.bytes
  have hr := B.returns
  have hG := vq_hG (atoms_spec (ws := w_BR_ship) B.pre)
  have hown : s.vm.findClass R_BR = some m.cls := findClass_of_methodNamed B.named
  have hlocks := B.notSynchronized
  subst hsz
  have hK := hCx.1
  have hD := hD0.self (sz := s.heap.size)
  generalize hAe : va_A [(h0, .inr (0, [.ref aMo, .ref aSh, .ref aLa, .ref aDy, .ref aMa, .ref aKi, .int zCn, .ref aPi, .int zPc, .ref aLn, .int zTo])), (aDy, .inl ((cs 0), 40, .inl fDy)), (aMa, .inl ((cs 0), 40, .inl fMa)), (aKi, .inl ((cs 0), 40, .inl fKi))] s.heap.size = A at hD hCx ⊢
  have hA : ∀ q : Nat, s.heap.size ≤ q → A q := fun q h => by rw [← hAe]; exact Or.inr h
  have hA0 : ∀ q : Nat, s.heap.size ≤ q → va_A [] s.heap.size q := fun q h => Or.inr h
  have hS : va_S (va_A [] s.heap.size) s.heap s.heap [] := va_S.rf
  have hl := lv_entry ([.ref h0, .int day, .int x, .int kg, .int lo]) (n := 6) (Nat.le_of_ble_eq_true rfl)
  rw [lg_entry_eq]
  generalize (lg_sl ([.ref h0, .int day, .int x, .int kg, .int lo]) ++ List.replicate (6 - (lg_sl ([.ref h0, .int day, .int x, .int kg, .int lo])).length) Slot.unset).toArray = ls at hl ⊢
  have hl : lv_has ls 6 [(0, .ref h0), (1, .int day), (2, .int x), (3, .int kg), (4, .int lo)] := hl
  have hP : va_P (dC, dI) vq_cl [(h0, .inr (0, [.ref aMo, .ref aSh, .ref aLa, .ref aDy, .ref aMa, .ref aKi, .int zCn, .ref aPi, .int zPc, .ref aLn, .int zTo])), (aDy, .inl ((cs 0), 40, .inl fDy)), (aMa, .inl ((cs 0), 40, .inl fMa)), (aKi, .inl ((cs 0), 40, .inl fKi))] s.heap := hP
  refine lv_iload_n hx hb d_BR_ship_0 rfl (lv_at hl 2 rfl) ?_
  refine mx_rv (vx_runS (As := [.int x]) (rest := []) ⟨hx, hb, hml, hown, hG⟩ (c_needMaterial l hlT dC dI cs _ x) (cwS 1 hG (vq_gS vq_t143 vq_t144 vq_t1 vq_t145) rfl rfl rfl (by decide +kernel) ⟨Nat.le_of_ble_eq_true rfl, Nat.le_of_ble_eq_true rfl⟩) (vq_preSr (wc := []) hCx hP (vq_wk hS hA) hA [] rfl) rfl rfl hl.1 rfl (lv_room (Nat.le_of_ble_eq_true rfl)) d_BR_ship_1 ⟨Nat.le_of_ble_eq_true rfl, Nat.le_of_ble_eq_true rfl⟩) hP hS hA0 (fun E ce q9 H locs x_1 hP hS h91 h92 h93 => vx_out (fun x h => (htb x h).elim) hlocks h91 h92 h93 (fun t ht hvm => vq_Xof (by obtain ⟨rfl, y9⟩ := x_1; simp only [X_ship, if_neg y9]) (hS.F ht)) (vq_wk hS hA).2.2 (Nat.le_of_ble_eq_true rfl) (Nat.le_of_ble_eq_true rfl)) (fun H locs w_1 hP hS => ?_)
  refine W.widen (k := 1) (n := 6) (Nat.le_of_ble_eq_true rfl) (Nat.le_of_ble_eq_true rfl) ?_
  refine lv_aload_n hx hb d_BR_ship_4 rfl (lv_at hl 0 rfl) ?_
  refine va_get (D := (dC, dI)) (ci := 0) (v := .int zCn) (C := R_BR) (T := F_BR) (N := 11) hx hb hG i_BR hown hK hP 0 rfl rfl 6 (by decide) (hG _ vq_t106) (fun _ h9 => h9) rfl d_BR_ship_5 ?_
  refine lv_bipush (v := 40) hx hb d_BR_ship_8 (by decide) ?_
  refine lv_icmp_lt (tgt := 23) hx hb d_BR_ship_10 (by decide) (fun c_10 => ?_) (fun c_10 => ?_)
  · skip
    refine lv_iload_n hx hb d_BR_ship_23 rfl (lv_at hl 1 rfl) ?_
    refine lv_aload_n hx hb d_BR_ship_24 rfl (lv_at hl 0 rfl) ?_
    refine va_get (D := (dC, dI)) (ci := 0) (v := .int zTo) (C := R_BR) (T := F_BR) (N := 11) hx hb hG i_BR hown hK hP 0 rfl rfl 10 (by decide) (hG _ vq_t110) (fun _ h9 => h9) rfl d_BR_ship_25 ?_
    refine lv_sipush (v := 9999) hx hb d_BR_ship_28 (by decide) ?_
    refine mx_rv (vx_runS (As := [.int day, .int zTo, .int 9999]) (rest := []) ⟨hx, hb, hml, hown, hG⟩ (c_needRange l hlT dC dI cs _ day zTo 9999) (cwS 3 hG (vq_gS vq_t215 vq_t216 vq_t1 vq_t217) rfl rfl rfl (by decide +kernel) ⟨Nat.le_of_ble_eq_true rfl, Nat.le_of_ble_eq_true rfl⟩) (vq_preSr (wc := []) hCx hP (vq_wk hS hA) hA [] rfl) rfl rfl hl.1 rfl (lv_room (Nat.le_of_ble_eq_true rfl)) d_BR_ship_31 ⟨Nat.le_of_ble_eq_true rfl, Nat.le_of_ble_eq_true rfl⟩) hP hS hA0 (fun E ce q9 H locs x_31 hP hS h91 h92 h93 => vx_out (fun x h => (htb x h).elim) hlocks h91 h92 h93 (fun t ht hvm => vq_Xof (by obtain ⟨rfl, y9⟩ := x_31; simp only [X_ship, if_pos w_1, if_pos c_10, if_neg y9]) (hS.F ht)) (vq_wk hS hA).2.2 (Nat.le_of_ble_eq_true rfl) (Nat.le_of_ble_eq_true rfl)) (fun H locs w_31 hP hS => ?_)
    refine W.widen (k := 2) (n := 12) (Nat.le_of_ble_eq_true rfl) (Nat.le_of_ble_eq_true rfl) ?_
    refine lv_iload_n hx hb d_BR_ship_34 rfl (lv_at hl 3 rfl) ?_
    refine lv_iconst (v := 1) hx hb d_BR_ship_35 (by decide) ?_
    refine lv_sipush (v := 1000) hx hb d_BR_ship_36 (by decide) ?_
    refine mx_rv (vx_runS (As := [.int kg, .int 1, .int 1000]) (rest := []) ⟨hx, hb, hml, hown, hG⟩ (c_needRange l hlT dC dI cs _ kg 1 1000) (cwS 3 hG (vq_gS vq_t215 vq_t216 vq_t1 vq_t217) rfl rfl rfl (by decide +kernel) ⟨Nat.le_of_ble_eq_true rfl, Nat.le_of_ble_eq_true rfl⟩) (vq_preSr (wc := []) hCx hP (vq_wk hS hA) hA [] rfl) rfl rfl hl.1 rfl (lv_room (Nat.le_of_ble_eq_true rfl)) d_BR_ship_39 ⟨Nat.le_of_ble_eq_true rfl, Nat.le_of_ble_eq_true rfl⟩) hP hS hA0 (fun E ce q9 H locs x_39 hP hS h91 h92 h93 => vx_out (fun x h => (htb x h).elim) hlocks h91 h92 h93 (fun t ht hvm => vq_Xof (by obtain ⟨rfl, y9⟩ := x_39; simp only [X_ship, if_pos w_1, if_pos c_10, if_pos w_31, if_neg y9]) (hS.F ht)) (vq_wk hS hA).2.2 (Nat.le_of_ble_eq_true rfl) (Nat.le_of_ble_eq_true rfl)) (fun H locs w_39 hP hS => ?_)
    refine W.widen (k := 3) (n := 18) (Nat.le_of_ble_eq_true rfl) (Nat.le_of_ble_eq_true rfl) ?_
    refine lv_iload hx hb d_BR_ship_42 (lv_at hl 4 rfl) ?_
    refine lv_iconst (v := 0) hx hb d_BR_ship_44 (by decide) ?_
    refine lv_sipush (v := 999) hx hb d_BR_ship_45 (by decide) ?_
    refine mx_rv (vx_runS (As := [.int lo, .int 0, .int 999]) (rest := []) ⟨hx, hb, hml, hown, hG⟩ (c_needRange l hlT dC dI cs _ lo 0 999) (cwS 3 hG (vq_gS vq_t215 vq_t216 vq_t1 vq_t217) rfl rfl rfl (by decide +kernel) ⟨Nat.le_of_ble_eq_true rfl, Nat.le_of_ble_eq_true rfl⟩) (vq_preSr (wc := []) hCx hP (vq_wk hS hA) hA [] rfl) rfl rfl hl.1 rfl (lv_room (Nat.le_of_ble_eq_true rfl)) d_BR_ship_48 ⟨Nat.le_of_ble_eq_true rfl, Nat.le_of_ble_eq_true rfl⟩) hP hS hA0 (fun E ce q9 H locs x_48 hP hS h91 h92 h93 => vx_out (fun x h => (htb x h).elim) hlocks h91 h92 h93 (fun t ht hvm => vq_Xof (by obtain ⟨rfl, y9⟩ := x_48; simp only [X_ship, if_pos w_1, if_pos c_10, if_pos w_31, if_pos w_39, if_neg y9]) (hS.F ht)) (vq_wk hS hA).2.2 (Nat.le_of_ble_eq_true rfl) (Nat.le_of_ble_eq_true rfl)) (fun H locs w_48 hP hS => ?_)
    refine W.widen (k := 4) (n := 24) (Nat.le_of_ble_eq_true rfl) (Nat.le_of_ble_eq_true rfl) ?_
    refine lv_aload_n hx hb d_BR_ship_51 rfl (lv_at hl 0 rfl) ?_
    refine va_get (D := (dC, dI)) (ci := 0) (v := .int zCn) (C := R_BR) (T := F_BR) (N := 11) hx hb hG i_BR hown hK hP 0 rfl rfl 6 (by decide) (hG _ vq_t106) (fun _ h9 => h9) rfl d_BR_ship_52 ?_
    refine lv_istore (lv' := [(5, .int zCn), (0, .ref h0), (1, .int day), (2, .int x), (3, .int kg), (4, .int lo)]) hx hb d_BR_ship_55 hl (by decide) rfl (fun ls hl => ?_)
    refine lv_aload_n hx hb d_BR_ship_57 rfl (lv_at hl 1 rfl) ?_
    refine va_get (D := (dC, dI)) (ci := 0) (v := .ref aDy) (C := R_BR) (T := F_BR) (N := 11) hx hb hG i_BR hown hK hP 0 rfl rfl 3 (by decide) (hG _ vq_t103) (fun _ h9 => h9) rfl d_BR_ship_58 ?_
    refine lv_iload hx hb d_BR_ship_61 (lv_at hl 0 rfl) ?_
    refine lv_iload_n hx hb d_BR_ship_63 rfl (lv_at hl 2 rfl) ?_
    have hS := vq_wk hS hA
    refine va_iast (D := (dC, dI)) hx hb hK hP hD hS 1 0 rfl rfl (vq_in 40 rfl hn c_10) d_BR_ship_64 (fun H locs hP hD hS => ?_)
    have hP : va_P (dC, dI) vq_cl [(h0, .inr (0, [.ref aMo, .ref aSh, .ref aLa, .ref aDy, .ref aMa, .ref aKi, .int zCn, .ref aPi, .int zPc, .ref aLn, .int zTo])), (aDy, .inl ((cs 0), 40, .inl (upd fDy zCn.toNatClampNeg day))), (aMa, .inl ((cs 0), 40, .inl fMa)), (aKi, .inl ((cs 0), 40, .inl fKi))] H := hP
    have hD : va_D A [(h0, .inr (0, [.ref aMo, .ref aSh, .ref aLa, .ref aDy, .ref aMa, .ref aKi, .int zCn, .ref aPi, .int zPc, .ref aLn, .int zTo])), (aDy, .inl ((cs 0), 40, .inl (upd fDy zCn.toNatClampNeg day))), (aMa, .inl ((cs 0), 40, .inl fMa)), (aKi, .inl ((cs 0), 40, .inl fKi))] := hD
    refine lv_aload_n hx hb d_BR_ship_65 rfl (lv_at hl 1 rfl) ?_
    refine va_get (D := (dC, dI)) (ci := 0) (v := .ref aMa) (C := R_BR) (T := F_BR) (N := 11) hx hb hG i_BR hown hK hP 0 rfl rfl 4 (by decide) (hG _ vq_t104) (fun _ h9 => h9) rfl d_BR_ship_66 ?_
    refine lv_iload hx hb d_BR_ship_69 (lv_at hl 0 rfl) ?_
    refine lv_iload_n hx hb d_BR_ship_71 rfl (lv_at hl 3 rfl) ?_
    refine va_iast (D := (dC, dI)) hx hb hK hP hD hS 2 0 rfl rfl (vq_in 40 rfl hn c_10) d_BR_ship_72 (fun H locs hP hD hS => ?_)
    have hP : va_P (dC, dI) vq_cl [(h0, .inr (0, [.ref aMo, .ref aSh, .ref aLa, .ref aDy, .ref aMa, .ref aKi, .int zCn, .ref aPi, .int zPc, .ref aLn, .int zTo])), (aDy, .inl ((cs 0), 40, .inl (upd fDy zCn.toNatClampNeg day))), (aMa, .inl ((cs 0), 40, .inl (upd fMa zCn.toNatClampNeg x))), (aKi, .inl ((cs 0), 40, .inl fKi))] H := hP
    have hD : va_D A [(h0, .inr (0, [.ref aMo, .ref aSh, .ref aLa, .ref aDy, .ref aMa, .ref aKi, .int zCn, .ref aPi, .int zPc, .ref aLn, .int zTo])), (aDy, .inl ((cs 0), 40, .inl (upd fDy zCn.toNatClampNeg day))), (aMa, .inl ((cs 0), 40, .inl (upd fMa zCn.toNatClampNeg x))), (aKi, .inl ((cs 0), 40, .inl fKi))] := hD
    refine lv_aload_n hx hb d_BR_ship_73 rfl (lv_at hl 1 rfl) ?_
    refine va_get (D := (dC, dI)) (ci := 0) (v := .ref aKi) (C := R_BR) (T := F_BR) (N := 11) hx hb hG i_BR hown hK hP 0 rfl rfl 5 (by decide) (hG _ vq_t105) (fun _ h9 => h9) rfl d_BR_ship_74 ?_
    refine lv_iload hx hb d_BR_ship_77 (lv_at hl 0 rfl) ?_
    refine lv_iload_n hx hb d_BR_ship_79 rfl (lv_at hl 4 rfl) ?_
    refine lv_iload_n hx hb d_BR_ship_80 rfl (lv_at hl 4 rfl) ?_
    refine lv_iload hx hb d_BR_ship_81 (lv_at hl 5 rfl) ?_
    refine mk_ri (va_runS (As := [.int kg, .int lo]) (rest := [.int kg, .int zCn, .ref aKi]) ⟨hx, hb, hml, hown, hG⟩ (c_lostKilos l dC dI cs _ kg lo) (cwS 2 hG (vq_gS vq_t269 vq_t270 vq_t1 vq_t271) rfl rfl rfl (by decide +kernel) ⟨Nat.le_of_ble_eq_true rfl, Nat.le_of_ble_eq_true rfl⟩) (vq_preSr (wc := []) hCx hP hS hA [] rfl) rfl rfl hl.1 rfl (lv_room (Nat.le_of_ble_eq_true rfl)) d_BR_ship_83 ⟨Nat.le_of_ble_eq_true rfl, Nat.le_of_ble_eq_true rfl⟩) hP hS hA (fun r_83 H locs w_83 hP hS => ?_)
    subst w_83
    refine lv_isub hx hb d_BR_ship_86 ?_
    refine va_iast (D := (dC, dI)) hx hb hK hP hD hS 3 0 rfl rfl (vq_in 40 rfl hn c_10) d_BR_ship_87 (fun H locs hP hD hS => ?_)
    have hP : va_P (dC, dI) vq_cl [(h0, .inr (0, [.ref aMo, .ref aSh, .ref aLa, .ref aDy, .ref aMa, .ref aKi, .int zCn, .ref aPi, .int zPc, .ref aLn, .int zTo])), (aDy, .inl ((cs 0), 40, .inl (upd fDy zCn.toNatClampNeg day))), (aMa, .inl ((cs 0), 40, .inl (upd fMa zCn.toNatClampNeg x))), (aKi, .inl ((cs 0), 40, .inl (upd fKi zCn.toNatClampNeg (kg - ((((kg * lo) + 1000) - 1) / 1000)))))] H := hP
    have hD : va_D A [(h0, .inr (0, [.ref aMo, .ref aSh, .ref aLa, .ref aDy, .ref aMa, .ref aKi, .int zCn, .ref aPi, .int zPc, .ref aLn, .int zTo])), (aDy, .inl ((cs 0), 40, .inl (upd fDy zCn.toNatClampNeg day))), (aMa, .inl ((cs 0), 40, .inl (upd fMa zCn.toNatClampNeg x))), (aKi, .inl ((cs 0), 40, .inl (upd fKi zCn.toNatClampNeg (kg - ((((kg * lo) + 1000) - 1) / 1000)))))] := hD
    refine lv_aload_n hx hb d_BR_ship_88 rfl (lv_at hl 1 rfl) ?_
    refine lv_iload hx hb d_BR_ship_89 (lv_at hl 0 rfl) ?_
    refine lv_iconst (v := 1) hx hb d_BR_ship_91 (by decide) ?_
    refine lv_iadd hx hb d_BR_ship_92 ?_
    refine va_put (D := (dC, dI)) (ci := 0) (v := .int (zCn + 1)) (ty := .int) (C := R_BR) (T := F_BR) (N := 11) hx hb hG i_BR t_BR t_BR_ok n_BR hown hK hP hD hS 0 rfl rfl 6 (by decide) (hG _ vq_t106) (fun _ h9 => h9) rfl (by decide +kernel) rfl rfl (Nat.le_of_ble_eq_true rfl) d_BR_ship_93 (fun H locs hP hD hS => ?_)
    have hP : va_P (dC, dI) vq_cl [(h0, .inr (0, [.ref aMo, .ref aSh, .ref aLa, .ref aDy, .ref aMa, .ref aKi, .int (zCn + 1), .ref aPi, .int zPc, .ref aLn, .int zTo])), (aDy, .inl ((cs 0), 40, .inl (upd fDy zCn.toNatClampNeg day))), (aMa, .inl ((cs 0), 40, .inl (upd fMa zCn.toNatClampNeg x))), (aKi, .inl ((cs 0), 40, .inl (upd fKi zCn.toNatClampNeg (kg - ((((kg * lo) + 1000) - 1) / 1000)))))] H := hP
    have hD : va_D A [(h0, .inr (0, [.ref aMo, .ref aSh, .ref aLa, .ref aDy, .ref aMa, .ref aKi, .int (zCn + 1), .ref aPi, .int zPc, .ref aLn, .int zTo])), (aDy, .inl ((cs 0), 40, .inl (upd fDy zCn.toNatClampNeg day))), (aMa, .inl ((cs 0), 40, .inl (upd fMa zCn.toNatClampNeg x))), (aKi, .inl ((cs 0), 40, .inl (upd fKi zCn.toNatClampNeg (kg - ((((kg * lo) + 1000) - 1) / 1000)))))] := hD
    refine lv_iload hx hb d_BR_ship_96 (lv_at hl 0 rfl) ?_
    refine vx_ret ?_
    refine W.widen (k := 4) (n := 24) (Nat.le_of_ble_eq_true rfl) (Nat.le_of_ble_eq_true rfl) ?_
    have hP9 : va_P (dC, dI) vq_cl [(h0, .inr (0, [.ref aMo, .ref aSh, .ref aLa, .ref aDy, .ref aMa, .ref aKi, .int (zCn + 1), .ref aPi, .int zPc, .ref aLn, .int zTo])), (aDy, .inl ((cs 0), 40, .inl (upd fDy zCn.toNatClampNeg day))), (aMa, .inl ((cs 0), 40, .inl (upd fMa zCn.toNatClampNeg x))), (aKi, .inl ((cs 0), 40, .inl (upd fKi zCn.toNatClampNeg (kg - ((((kg * lo) + 1000) - 1) / 1000)))))] _ := hP.sub [0, 1, 2, 3] rfl
    have hD9 : va_D A [(h0, .inr (0, [.ref aMo, .ref aSh, .ref aLa, .ref aDy, .ref aMa, .ref aKi, .int (zCn + 1), .ref aPi, .int zPc, .ref aLn, .int zTo])), (aDy, .inl ((cs 0), 40, .inl (upd fDy zCn.toNatClampNeg day))), (aMa, .inl ((cs 0), 40, .inl (upd fMa zCn.toNatClampNeg x))), (aKi, .inl ((cs 0), 40, .inl (upd fKi zCn.toNatClampNeg (kg - ((((kg * lo) + 1000) - 1) / 1000)))))] := hD.sub [0, 1, 2, 3] (by decide) rfl
    exact W.iret (v := zCn) hx hb hr (fun t ht hW => ⟨⟨zCn, (), rfl, ⟨rfl, by simp only [X_ship, if_pos w_1, if_pos c_10, if_pos w_31, if_pos w_39, if_pos w_48]⟩, ⟨by rw [ht]; exact hP9, hD9⟩⟩, hS.F ht⟩) hS.2.2 d_BR_ship_98
  · skip
    exact vq_thr hx hb hlT hown hG hCx hA vq_tw6 hS (by rw [hml]; exact hl.1) d_BR_ship_13 d_BR_ship_16 d_BR_ship_17 d_BR_ship_19 d_BR_ship_22 htb hlocks (Nat.le_of_ble_eq_true rfl) (Nat.le_of_ble_eq_true rfl) (Nat.le_of_ble_eq_true rfl) (Nat.le_of_ble_eq_true rfl) (by simp only [X_ship, if_pos w_1, if_neg c_10]) (Nat.le_of_ble_eq_true rfl) (Nat.le_of_ble_eq_true rfl)
set_option maxHeartbeats 4000000 in
set_option maxRecDepth 100000 in
/-- stock -/
theorem c_stock (l : Launch) (hlT : l.stackTraces = false) (dC : Nat → ClassId) (dI : Nat → Nat → Nat) (cs : Nat → ClassId) (sz : Nat) (h0 : Nat) (aMo : Nat) (aSh : Nat) (aLa : Nat) (aDy : Nat) (aMa : Nat) (aKi : Nat) (aPi : Nat) (aLn : Nat) (zCn : Int32) (zPc : Int32) (zTo : Int32) (fLa : Nat → Int32) (fDy : Nat → Int32) (fMa : Nat → Int32) (fKi : Nat → Int32) (x : Int32) : vx_Met l y_BR_stock w_BR_stock ({ frames := 7, cells := 1, slots := 6, locals := 102 }) (vq_PreR (dC, dI) cs [(h0, .inr (0, [.ref aMo, .ref aSh, .ref aLa, .ref aDy, .ref aMa, .ref aKi, .int zCn, .ref aPi, .int zPc, .ref aLn, .int zTo])), (aLa, .inl ((cs 0), 8, .inl fLa)), (aDy, .inl ((cs 0), 40, .inl fDy)), (aMa, .inl ((cs 0), 40, .inl fMa)), (aKi, .inl ((cs 0), 40, .inl fKi))] sz [.ref h0, .int x]) (va_Qi (fun (r : Int32) (_ : Unit) => r = stockF fLa fDy fMa fKi zCn zTo x ∧ X_stock x = none) (fun _ _ => True) (va_A [] sz)) (vq_X (fun E => X_stock x = some E) sz) 1 6 (va_A [] sz) := by
  refine vx_ofW (cc := b_BR_stock) (maxL := 2) (ret := (some .int)) (by decide) rfl ?_
  intro p e s m args below meth c s₁ B hml htb hv
  obtain ⟨rfl, hsz, hP, hCx⟩ := hv
  have hx := B.exec
  have hb := B.bytes
  have hr := B.returns
  have hG := vq_hG (atoms_spec (ws := w_BR_stock) B.pre)
  have hown : s.vm.findClass R_BR = some m.cls := findClass_of_methodNamed B.named
  have hlocks := B.notSynchronized
  subst hsz
  have hK := hCx.1
  have hA : ∀ q : Nat, s.heap.size ≤ q → va_A [] s.heap.size q := fun q h => Or.inr h
  have hA0 : ∀ q : Nat, s.heap.size ≤ q → va_A [] s.heap.size q := fun q h => Or.inr h
  have hS : va_S (va_A [] s.heap.size) s.heap s.heap [] := va_S.rf
  have hl := lv_entry ([.ref h0, .int x]) (n := 2) (Nat.le_of_ble_eq_true rfl)
  rw [lg_entry_eq]
  generalize (lg_sl ([.ref h0, .int x]) ++ List.replicate (2 - (lg_sl ([.ref h0, .int x])).length) Slot.unset).toArray = ls at hl ⊢
  have hl : lv_has ls 2 [(0, .ref h0), (1, .int x)] := hl
  have hP : va_P (dC, dI) vq_cl [(h0, .inr (0, [.ref aMo, .ref aSh, .ref aLa, .ref aDy, .ref aMa, .ref aKi, .int zCn, .ref aPi, .int zPc, .ref aLn, .int zTo])), (aLa, .inl ((cs 0), 8, .inl fLa)), (aDy, .inl ((cs 0), 40, .inl fDy)), (aMa, .inl ((cs 0), 40, .inl fMa)), (aKi, .inl ((cs 0), 40, .inl fKi))] s.heap := hP
  refine lv_iload_n hx hb d_BR_stock_0 rfl (lv_at hl 1 rfl) ?_
  refine mx_rv (vx_runS (As := [.int x]) (rest := []) ⟨hx, hb, hml, hown, hG⟩ (c_needMaterial l hlT dC dI cs _ x) (cwS 1 hG (vq_gS vq_t143 vq_t144 vq_t1 vq_t145) rfl rfl rfl (by decide +kernel) ⟨Nat.le_of_ble_eq_true rfl, Nat.le_of_ble_eq_true rfl⟩) (vq_preSr (wc := []) hCx hP (vq_wk hS hA) hA [] rfl) rfl rfl hl.1 rfl (lv_room (Nat.le_of_ble_eq_true rfl)) d_BR_stock_1 ⟨Nat.le_of_ble_eq_true rfl, Nat.le_of_ble_eq_true rfl⟩) hP hS hA0 (fun E ce q9 H locs x_1 hP hS h91 h92 h93 => vx_out (fun x h => (htb x h).elim) hlocks h91 h92 h93 (fun t ht hvm => vq_Xof (by obtain ⟨rfl, y9⟩ := x_1; simp only [X_stock, if_neg y9]) (hS.F ht)) (vq_wk hS hA).2.2 (Nat.le_of_ble_eq_true rfl) (Nat.le_of_ble_eq_true rfl)) (fun H locs w_1 hP hS => ?_)
  refine W.widen (k := 1) (n := 6) (Nat.le_of_ble_eq_true rfl) (Nat.le_of_ble_eq_true rfl) ?_
  refine lv_aload_n hx hb d_BR_stock_4 rfl (lv_at hl 0 rfl) ?_
  refine lv_iload_n hx hb d_BR_stock_5 rfl (lv_at hl 1 rfl) ?_
  refine mk_ri (va_runV (As := [.int x]) (rest := []) ⟨hx, hb, hml, hown, hG⟩ (c_stockOf l dC dI cs _ h0 aMo aSh aLa aDy aMa aKi aPi aLn zCn zPc zTo fLa fDy fMa fKi x w_1) (cwV 1 hG (vq_gV vq_t279 vq_t281 vq_s1 vq_t1 vq_t282) rfl rfl rfl (by decide +kernel) ⟨Nat.le_of_ble_eq_true rfl, Nat.le_of_ble_eq_true rfl⟩) (vq_preVr (wc := [(h0, .inr (0, [.ref aMo, .ref aSh, .ref aLa, .ref aDy, .ref aMa, .ref aKi, .int zCn, .ref aPi, .int zPc, .ref aLn, .int zTo])), (aLa, .inl ((cs 0), 8, .inl fLa)), (aDy, .inl ((cs 0), 40, .inl fDy)), (aMa, .inl ((cs 0), 40, .inl fMa)), (aKi, .inl ((cs 0), 40, .inl fKi))]) (va_recv hK hP (ci := 0) (q0 := 0) rfl rfl) hCx hP (vq_wk hS hA) hA [0, 1, 2, 3, 4] rfl) rfl rfl hl.1 rfl (lv_room (Nat.le_of_ble_eq_true rfl)) d_BR_stock_6 ⟨Nat.le_of_ble_eq_true rfl, Nat.le_of_ble_eq_true rfl⟩) hP hS hA0 (fun r_6 H locs w_6 hP hS => ?_)
  subst w_6
  refine vx_ret ?_
  refine W.widen (k := 1) (n := 6) (Nat.le_of_ble_eq_true rfl) (Nat.le_of_ble_eq_true rfl) ?_
  exact W.iret (v := stockF fLa fDy fMa fKi zCn zTo x) hx hb hr (fun t ht hW => ⟨⟨stockF fLa fDy fMa fKi zCn zTo x, (), rfl, ⟨rfl, by simp only [X_stock, if_pos w_1]⟩, trivial⟩, hS.F ht⟩) hS.2.2 d_BR_stock_9
set_option maxHeartbeats 4000000 in
set_option maxRecDepth 100000 in
/-- pile, there is room -/
theorem c_pile (l : Launch) (hlT : l.stackTraces = false) (dC : Nat → ClassId) (dI : Nat → Nat → Nat) (cs : Nat → ClassId) (sz : Nat) (h0 : Nat) (aMo : Nat) (aSh : Nat) (aLa : Nat) (aDy : Nat) (aMa : Nat) (aKi : Nat) (aPi : Nat) (aLn : Nat) (zCn : Int32) (zPc : Int32) (zTo : Int32) (fPi : Nat → Option Nat) (pa : Nat) (bLG : Nat) (bLS : Nat) (bLt : Nat) (bGS : Nat) (bGG : Nat) (bES : Nat) (bEG : Nat) (zSl : Int32) (zLy : Int32) (zGr : Int32) (zTk : Int32) (zGt : Int32) (zLt : Int32) (x : Int32) (hn : ¬ zPc < 0) (hi : zPc < 4) (hf : fPi zPc.toNatClampNeg = some pa) : vx_Met l y_BR_pile w_BR_pile ({ frames := 7, cells := 1, slots := 6, locals := 104 }) (vq_Pre (dC, dI) cs [(h0, .inr (0, [.ref aMo, .ref aSh, .ref aLa, .ref aDy, .ref aMa, .ref aKi, .int zCn, .ref aPi, .int zPc, .ref aLn, .int zTo])), (aPi, .inl ((cs 2), 4, .inr (.inr (.inr (.inr fPi))))), (pa, .inr (1, [.int zSl, .ref bLG, .ref bLS, .int zLy, .int zGr, .int zTk, .int zGt, .int zLt, .ref bLt, .ref bGS, .ref bGG, .ref bES, .ref bEG]))] sz [.ref h0, .int x]) (va_Qi (fun (r : Int32) (_ : Unit) => r = zPc ∧ X_pile zPc x = none) (vq_B (dC, dI) cs (va_A [(h0, .inr (0, [.ref aMo, .ref aSh, .ref aLa, .ref aDy, .ref aMa, .ref aKi, .int zCn, .ref aPi, .int zPc, .ref aLn, .int zTo])), (aPi, .inl ((cs 2), 4, .inr (.inr (.inr (.inr fPi))))), (pa, .inr (1, [.int zSl, .ref bLG, .ref bLS, .int zLy, .int zGr, .int zTk, .int zGt, .int zLt, .ref bLt, .ref bGS, .ref bGG, .ref bES, .ref bEG]))] sz) (fun _ => [(h0, .inr (0, [.ref aMo, .ref aSh, .ref aLa, .ref aDy, .ref aMa, .ref aKi, .int zCn, .ref aPi, .int (zPc + 1), .ref aLn, .int zTo])), (aPi, .inl ((cs 2), 4, .inr (.inr (.inr (.inr fPi))))), (pa, .inr (1, [.int x, .ref bLG, .ref bLS, .int zLy, .int zGr, .int zTk, .int zGt, .int zLt, .ref bLt, .ref bGS, .ref bGG, .ref bES, .ref bEG]))])) (va_A [(h0, .inr (0, [.ref aMo, .ref aSh, .ref aLa, .ref aDy, .ref aMa, .ref aKi, .int zCn, .ref aPi, .int zPc, .ref aLn, .int zTo])), (aPi, .inl ((cs 2), 4, .inr (.inr (.inr (.inr fPi))))), (pa, .inr (1, [.int zSl, .ref bLG, .ref bLS, .int zLy, .int zGr, .int zTk, .int zGt, .int zLt, .ref bLt, .ref bGS, .ref bGG, .ref bES, .ref bEG]))] sz)) (vq_X (fun E => X_pile zPc x = some E) sz) 1 6 (va_A [(h0, .inr (0, [.ref aMo, .ref aSh, .ref aLa, .ref aDy, .ref aMa, .ref aKi, .int zCn, .ref aPi, .int zPc, .ref aLn, .int zTo])), (aPi, .inl ((cs 2), 4, .inr (.inr (.inr (.inr fPi))))), (pa, .inr (1, [.int zSl, .ref bLG, .ref bLS, .int zLy, .int zGr, .int zTk, .int zGt, .int zLt, .ref bLt, .ref bGS, .ref bGG, .ref bES, .ref bEG]))] sz) := by
  refine vx_ofW (cc := b_BR_pile) (maxL := 4) (ret := (some .int)) (by decide) rfl ?_
  intro p e s m args below meth c s₁ B hml htb hv
  obtain ⟨rfl, hsz, hP, hD0, hCx⟩ := hv
  have hx := B.exec
  have hb := B.bytes
  have hr := B.returns
  have hG := vq_hG (atoms_spec (ws := w_BR_pile) B.pre)
  have hown : s.vm.findClass R_BR = some m.cls := findClass_of_methodNamed B.named
  have hlocks := B.notSynchronized
  subst hsz
  have hK := hCx.1
  have hD := hD0.self (sz := s.heap.size)
  generalize hAe : va_A [(h0, .inr (0, [.ref aMo, .ref aSh, .ref aLa, .ref aDy, .ref aMa, .ref aKi, .int zCn, .ref aPi, .int zPc, .ref aLn, .int zTo])), (aPi, .inl ((cs 2), 4, .inr (.inr (.inr (.inr fPi))))), (pa, .inr (1, [.int zSl, .ref bLG, .ref bLS, .int zLy, .int zGr, .int zTk, .int zGt, .int zLt, .ref bLt, .ref bGS, .ref bGG, .ref bES, .ref bEG]))] s.heap.size = A at hD hCx ⊢
  have hA : ∀ q : Nat, s.heap.size ≤ q → A q := fun q h => by rw [← hAe]; exact Or.inr h
  have hA0 : ∀ q : Nat, s.heap.size ≤ q → va_A [] s.heap.size q := fun q h => Or.inr h
  have hS : va_S (va_A [] s.heap.size) s.heap s.heap [] := va_S.rf
  have hl := lv_entry ([.ref h0, .int x]) (n := 4) (Nat.le_of_ble_eq_true rfl)
  rw [lg_entry_eq]
  generalize (lg_sl ([.ref h0, .int x]) ++ List.replicate (4 - (lg_sl ([.ref h0, .int x])).length) Slot.unset).toArray = ls at hl ⊢
  have hl : lv_has ls 4 [(0, .ref h0), (1, .int x)] := hl
  have hP : va_P (dC, dI) vq_cl [(h0, .inr (0, [.ref aMo, .ref aSh, .ref aLa, .ref aDy, .ref aMa, .ref aKi, .int zCn, .ref aPi, .int zPc, .ref aLn, .int zTo])), (aPi, .inl ((cs 2), 4, .inr (.inr (.inr (.inr fPi))))), (pa, .inr (1, [.int zSl, .ref bLG, .ref bLS, .int zLy, .int zGr, .int zTk, .int zGt, .int zLt, .ref bLt, .ref bGS, .ref bGG, .ref bES, .ref bEG]))] s.heap := hP
  refine lv_aload_n hx hb d_BR_pile_0 rfl (lv_at hl 0 rfl) ?_
  refine va_get (D := (dC, dI)) (ci := 0) (v := .int zPc) (C := R_BR) (T := F_BR) (N := 11) hx hb hG i_BR hown hK hP 0 rfl rfl 8 (by decide) (hG _ vq_t108) (fun _ h9 => h9) rfl d_BR_pile_1 ?_
  refine lv_istore_n (lv' := [(2, .int zPc), (0, .ref h0), (1, .int x)]) hx hb d_BR_pile_4 rfl hl (by decide) rfl (fun ls hl => ?_)
  refine lv_iload_n hx hb d_BR_pile_5 rfl (lv_at hl 0 rfl) ?_
  refine lv_iconst (v := 4) hx hb d_BR_pile_6 (by decide) ?_
  refine lv_icmp_ge (tgt := 19) hx hb d_BR_pile_7 (by decide) (fun c_7 => ?_) (fun c_7 => ?_)
  · skip
    exact absurd c_7 (Int32.not_le.mpr hi)
  · skip
    refine lv_aload_n hx hb d_BR_pile_10 rfl (lv_at hl 1 rfl) ?_
    refine va_get (D := (dC, dI)) (ci := 0) (v := .ref aPi) (C := R_BR) (T := F_BR) (N := 11) hx hb hG i_BR hown hK hP 0 rfl rfl 7 (by decide) (hG _ vq_t107) (fun _ h9 => h9) rfl d_BR_pile_11 ?_
    refine lv_iload_n hx hb d_BR_pile_14 rfl (lv_at hl 0 rfl) ?_
    refine va_aldq (D := (dC, dI)) hx hb hK hP 1 2 rfl rfl (vq_in 4 rfl hn hi) d_BR_pile_15 ?_
    rw [hf]
    refine lv_goto (tgt := 20) hx hb d_BR_pile_16 (by decide) ?_
    refine lv_astore_n (lv' := [(3, .ref pa), (2, .int zPc), (0, .ref h0), (1, .int x)]) hx hb d_BR_pile_20 rfl hl (by decide) rfl (fun ls hl => ?_)
    refine lv_aload_n hx hb d_BR_pile_21 rfl (lv_at hl 0 rfl) ?_
    refine lv_ifnonnull (tgt := 35) hx hb d_BR_pile_22 (by decide) ?_
    refine lv_iload_n hx hb d_BR_pile_35 rfl (lv_at hl 3 rfl) ?_
    refine lv_iconst (v := 1) hx hb d_BR_pile_36 (by decide) ?_
    refine lv_ldc (v := 65536) hx hb hown (hG _ vq_t291) d_BR_pile_37 ?_
    refine mx_rv (vx_runS (As := [.int x, .int 1, .int 65536]) (rest := []) ⟨hx, hb, hml, hown, hG⟩ (c_needRange l hlT dC dI cs _ x 1 65536) (cwS 3 hG (vq_gS vq_t215 vq_t216 vq_t1 vq_t217) rfl rfl rfl (by decide +kernel) ⟨Nat.le_of_ble_eq_true rfl, Nat.le_of_ble_eq_true rfl⟩) (vq_preSr (wc := []) hCx hP (vq_wk hS hA) hA [] rfl) rfl rfl hl.1 rfl (lv_room (Nat.le_of_ble_eq_true rfl)) d_BR_pile_39 ⟨Nat.le_of_ble_eq_true rfl, Nat.le_of_ble_eq_true rfl⟩) hP hS hA0 (fun E ce q9 H locs x_39 hP hS h91 h92 h93 => vx_out (fun x h => (htb x h).elim) hlocks h91 h92 h93 (fun t ht hvm => vq_Xof (by obtain ⟨rfl, y9⟩ := x_39; simp only [X_pile, if_pos hi, if_neg y9]) (hS.F ht)) (vq_wk hS hA).2.2 (Nat.le_of_ble_eq_true rfl) (Nat.le_of_ble_eq_true rfl)) (fun H locs w_39 hP hS => ?_)
    refine W.widen (k := 1) (n := 6) (Nat.le_of_ble_eq_true rfl) (Nat.le_of_ble_eq_true rfl) ?_
    refine lv_aload_n hx hb d_BR_pile_42 rfl (lv_at hl 0 rfl) ?_
    refine lv_iload_n hx hb d_BR_pile_43 rfl (lv_at hl 3 rfl) ?_
    have hS := vq_wk hS hA
    refine va_putN (D := (dC, dI)) (ci := 1) (v := .int x) (ty := .int) (C := R_PI) (T := F_PI) (N := 13) hx hb hG i_PI t_PI t_PI_ok n_PI hown hK hP hD hS 2 rfl rfl 0 (by decide) (va_Nw.use rfl (hCx.2.1 _ vq_nf1)) (fun _ h9 => h9) rfl (by decide +kernel) rfl rfl (Nat.le_of_ble_eq_true rfl) d_BR_pile_44 (fun H locs hP hD hS => ?_)
    have hP : va_P (dC, dI) vq_cl [(h0, .inr (0, [.ref aMo, .ref aSh, .ref aLa, .ref aDy, .ref aMa, .ref aKi, .int zCn, .ref aPi, .int zPc, .ref aLn, .int zTo])), (aPi, .inl ((cs 2), 4, .inr (.inr (.inr (.inr fPi))))), (pa, .inr (1, [.int x, .ref bLG, .ref bLS, .int zLy, .int zGr, .int zTk, .int zGt, .int zLt, .ref bLt, .ref bGS, .ref bGG, .ref bES, .ref bEG]))] H := hP
    have hD : va_D A [(h0, .inr (0, [.ref aMo, .ref aSh, .ref aLa, .ref aDy, .ref aMa, .ref aKi, .int zCn, .ref aPi, .int zPc, .ref aLn, .int zTo])), (aPi, .inl ((cs 2), 4, .inr (.inr (.inr (.inr fPi))))), (pa, .inr (1, [.int x, .ref bLG, .ref bLS, .int zLy, .int zGr, .int zTk, .int zGt, .int zLt, .ref bLt, .ref bGS, .ref bGG, .ref bES, .ref bEG]))] := hD
    refine lv_aload_n hx hb d_BR_pile_47 rfl (lv_at hl 2 rfl) ?_
    refine lv_iload_n hx hb d_BR_pile_48 rfl (lv_at hl 1 rfl) ?_
    refine lv_iconst (v := 1) hx hb d_BR_pile_49 (by decide) ?_
    refine lv_iadd hx hb d_BR_pile_50 ?_
    refine va_put (D := (dC, dI)) (ci := 0) (v := .int (zPc + 1)) (ty := .int) (C := R_BR) (T := F_BR) (N := 11) hx hb hG i_BR t_BR t_BR_ok n_BR hown hK hP hD hS 0 rfl rfl 8 (by decide) (hG _ vq_t108) (fun _ h9 => h9) rfl (by decide +kernel) rfl rfl (Nat.le_of_ble_eq_true rfl) d_BR_pile_51 (fun H locs hP hD hS => ?_)
    have hP : va_P (dC, dI) vq_cl [(h0, .inr (0, [.ref aMo, .ref aSh, .ref aLa, .ref aDy, .ref aMa, .ref aKi, .int zCn, .ref aPi, .int (zPc + 1), .ref aLn, .int zTo])), (aPi, .inl ((cs 2), 4, .inr (.inr (.inr (.inr fPi))))), (pa, .inr (1, [.int x, .ref bLG, .ref bLS, .int zLy, .int zGr, .int zTk, .int zGt, .int zLt, .ref bLt, .ref bGS, .ref bGG, .ref bES, .ref bEG]))] H := hP
    have hD : va_D A [(h0, .inr (0, [.ref aMo, .ref aSh, .ref aLa, .ref aDy, .ref aMa, .ref aKi, .int zCn, .ref aPi, .int (zPc + 1), .ref aLn, .int zTo])), (aPi, .inl ((cs 2), 4, .inr (.inr (.inr (.inr fPi))))), (pa, .inr (1, [.int x, .ref bLG, .ref bLS, .int zLy, .int zGr, .int zTk, .int zGt, .int zLt, .ref bLt, .ref bGS, .ref bGG, .ref bES, .ref bEG]))] := hD
    refine lv_iload_n hx hb d_BR_pile_54 rfl (lv_at hl 1 rfl) ?_
    refine vx_ret ?_
    refine W.widen (k := 1) (n := 6) (Nat.le_of_ble_eq_true rfl) (Nat.le_of_ble_eq_true rfl) ?_
    have hP9 : va_P (dC, dI) vq_cl [(h0, .inr (0, [.ref aMo, .ref aSh, .ref aLa, .ref aDy, .ref aMa, .ref aKi, .int zCn, .ref aPi, .int (zPc + 1), .ref aLn, .int zTo])), (aPi, .inl ((cs 2), 4, .inr (.inr (.inr (.inr fPi))))), (pa, .inr (1, [.int x, .ref bLG, .ref bLS, .int zLy, .int zGr, .int zTk, .int zGt, .int zLt, .ref bLt, .ref bGS, .ref bGG, .ref bES, .ref bEG]))] _ := hP.sub [0, 1, 2] rfl
    have hD9 : va_D A [(h0, .inr (0, [.ref aMo, .ref aSh, .ref aLa, .ref aDy, .ref aMa, .ref aKi, .int zCn, .ref aPi, .int (zPc + 1), .ref aLn, .int zTo])), (aPi, .inl ((cs 2), 4, .inr (.inr (.inr (.inr fPi))))), (pa, .inr (1, [.int x, .ref bLG, .ref bLS, .int zLy, .int zGr, .int zTk, .int zGt, .int zLt, .ref bLt, .ref bGS, .ref bGG, .ref bES, .ref bEG]))] := hD.sub [0, 1, 2] (by decide) rfl
    exact W.iret (v := zPc) hx hb hr (fun t ht hW => ⟨⟨zPc, (), rfl, ⟨rfl, by simp only [X_pile, if_pos hi, if_pos w_39]⟩, ⟨by rw [ht]; exact hP9, hD9⟩⟩, hS.F ht⟩) hS.2.2 d_BR_pile_55
set_option maxHeartbeats 4000000 in
set_option maxRecDepth 100000 in
/-- pile, no room -/
theorem c_pile_bad (l : Launch) (hlT : l.stackTraces = false) (dC : Nat → ClassId) (dI : Nat → Nat → Nat) (cs : Nat → ClassId) (sz : Nat) (h0 : Nat) (aMo : Nat) (aSh : Nat) (aLa : Nat) (aDy : Nat) (aMa : Nat) (aKi : Nat) (aPi : Nat) (aLn : Nat) (zCn : Int32) (zPc : Int32) (zTo : Int32) (x : Int32) (hi : ¬ zPc < 4) : vx_Met l y_BR_pile w_BR_pile ({ frames := 6, cells := 1, slots := 6, locals := 82 }) (vq_PreR (dC, dI) cs [(h0, .inr (0, [.ref aMo, .ref aSh, .ref aLa, .ref aDy, .ref aMa, .ref aKi, .int zCn, .ref aPi, .int zPc, .ref aLn, .int zTo]))] sz [.ref h0, .int x]) (va_Qv (fun (_ : Unit) => False) (fun _ _ => True) (va_A [] sz)) (vq_X (fun E => E = xS) sz) 1 6 (va_A [] sz) := by
  refine vx_ofW (cc := b_BR_pile) (maxL := 4) (ret := (some .int)) (by decide) rfl ?_
  intro p e s m args below meth c s₁ B hml htb hv
  obtain ⟨rfl, hsz, hP, hCx⟩ := hv
  have hx := B.exec
  have hb := B.bytes
  have hr := B.returns
  have hG := vq_hG (atoms_spec (ws := w_BR_pile) B.pre)
  have hown : s.vm.findClass R_BR = some m.cls := findClass_of_methodNamed B.named
  have hlocks := B.notSynchronized
  subst hsz
  have hK := hCx.1
  have hA : ∀ q : Nat, s.heap.size ≤ q → va_A [] s.heap.size q := fun q h => Or.inr h
  have hA0 : ∀ q : Nat, s.heap.size ≤ q → va_A [] s.heap.size q := fun q h => Or.inr h
  have hS : va_S (va_A [] s.heap.size) s.heap s.heap [] := va_S.rf
  have hl := lv_entry ([.ref h0, .int x]) (n := 4) (Nat.le_of_ble_eq_true rfl)
  rw [lg_entry_eq]
  generalize (lg_sl ([.ref h0, .int x]) ++ List.replicate (4 - (lg_sl ([.ref h0, .int x])).length) Slot.unset).toArray = ls at hl ⊢
  have hl : lv_has ls 4 [(0, .ref h0), (1, .int x)] := hl
  have hP : va_P (dC, dI) vq_cl [(h0, .inr (0, [.ref aMo, .ref aSh, .ref aLa, .ref aDy, .ref aMa, .ref aKi, .int zCn, .ref aPi, .int zPc, .ref aLn, .int zTo]))] s.heap := hP
  refine lv_aload_n hx hb d_BR_pile_0 rfl (lv_at hl 0 rfl) ?_
  refine va_get (D := (dC, dI)) (ci := 0) (v := .int zPc) (C := R_BR) (T := F_BR) (N := 11) hx hb hG i_BR hown hK hP 0 rfl rfl 8 (by decide) (hG _ vq_t108) (fun _ h9 => h9) rfl d_BR_pile_1 ?_
  refine lv_istore_n (lv' := [(2, .int zPc), (0, .ref h0), (1, .int x)]) hx hb d_BR_pile_4 rfl hl (by decide) rfl (fun ls hl => ?_)
  refine lv_iload_n hx hb d_BR_pile_5 rfl (lv_at hl 0 rfl) ?_
  refine lv_iconst (v := 4) hx hb d_BR_pile_6 (by decide) ?_
  refine lv_icmp_ge (tgt := 19) hx hb d_BR_pile_7 (by decide) (fun c_7 => ?_) (fun c_7 => ?_)
  · skip
    refine lv_null hx hb d_BR_pile_19 ?_
    refine lv_astore_nN (lv' := [(3, .null), (2, .int zPc), (0, .ref h0), (1, .int x)]) hx hb d_BR_pile_20 rfl hl (by decide) rfl (fun ls hl => ?_)
    refine lv_aload_nN hx hb d_BR_pile_21 rfl (lv_at hl 0 rfl) ?_
    refine lv_ifnonnullN hx hb d_BR_pile_22 ?_
    exact vq_thr hx hb hlT hown hG hCx hA vq_tw7 hS (by rw [hml]; exact hl.1) d_BR_pile_25 d_BR_pile_28 d_BR_pile_29 d_BR_pile_31 d_BR_pile_34 htb hlocks (Nat.le_of_ble_eq_true rfl) (Nat.le_of_ble_eq_true rfl) (Nat.le_of_ble_eq_true rfl) (Nat.le_of_ble_eq_true rfl) rfl (Nat.le_of_ble_eq_true rfl) (Nat.le_of_ble_eq_true rfl)
  · skip
    exact absurd c_7 (not_not_intro (Int32.not_lt.mp hi))
set_option maxHeartbeats 4000000 in
set_option maxRecDepth 100000 in
/-- lay, no such pile -/
theorem c_lay_bad (l : Launch) (hlT : l.stackTraces = false) (dC : Nat → ClassId) (dI : Nat → Nat → Nat) (cs : Nat → ClassId) (sz : Nat) (h0 : Nat) (aMo : Nat) (aSh : Nat) (aLa : Nat) (aDy : Nat) (aMa : Nat) (aKi : Nat) (aPi : Nat) (aLn : Nat) (zCn : Int32) (zPc : Int32) (zTo : Int32) (x : Int32) (y : Int32) (kg : Int32) (hi : okP x → zPc ≤ x) : vx_Met l y_BR_lay w_BR_lay ({ frames := 7, cells := 1, slots := 6, locals := 104 }) (vq_PreR (dC, dI) cs [(h0, .inr (0, [.ref aMo, .ref aSh, .ref aLa, .ref aDy, .ref aMa, .ref aKi, .int zCn, .ref aPi, .int zPc, .ref aLn, .int zTo]))] sz [.ref h0, .int x, .int y, .int kg]) (va_Qv (fun (_ : Unit) => False) (fun _ _ => True) (va_A [] sz)) (vq_X (fun E => E = xI) sz) 1 6 (va_A [] sz) := by
  refine vx_ofW (cc := b_BR_lay) (maxL := 5) (ret := (some .int)) (by decide) rfl ?_
  intro p e s m args below meth c s₁ B hml htb hv
  obtain ⟨rfl, hsz, hP, hCx⟩ := hv
  have hx := B.exec
  have hb := B.bytes
  have hr := B.returns
  have hG := vq_hG (atoms_spec (ws := w_BR_lay) B.pre)
  have hown : s.vm.findClass R_BR = some m.cls := findClass_of_methodNamed B.named
  have hlocks := B.notSynchronized
  subst hsz
  have hK := hCx.1
  have hA : ∀ q : Nat, s.heap.size ≤ q → va_A [] s.heap.size q := fun q h => Or.inr h
  have hA0 : ∀ q : Nat, s.heap.size ≤ q → va_A [] s.heap.size q := fun q h => Or.inr h
  have hS : va_S (va_A [] s.heap.size) s.heap s.heap [] := va_S.rf
  have hl := lv_entry ([.ref h0, .int x, .int y, .int kg]) (n := 5) (Nat.le_of_ble_eq_true rfl)
  rw [lg_entry_eq]
  generalize (lg_sl ([.ref h0, .int x, .int y, .int kg]) ++ List.replicate (5 - (lg_sl ([.ref h0, .int x, .int y, .int kg])).length) Slot.unset).toArray = ls at hl ⊢
  have hl : lv_has ls 5 [(0, .ref h0), (1, .int x), (2, .int y), (3, .int kg)] := hl
  have hP : va_P (dC, dI) vq_cl [(h0, .inr (0, [.ref aMo, .ref aSh, .ref aLa, .ref aDy, .ref aMa, .ref aKi, .int zCn, .ref aPi, .int zPc, .ref aLn, .int zTo]))] s.heap := hP
  refine lv_aload_n hx hb d_BR_lay_0 rfl (lv_at hl 0 rfl) ?_
  refine lv_iload_n hx hb d_BR_lay_1 rfl (lv_at hl 1 rfl) ?_
  refine mx_rv (vx_runV (As := [.int x]) (rest := []) ⟨hx, hb, hml, hown, hG⟩ (c_needPile_bad l hlT dC dI cs _ h0 aMo aSh aLa aDy aMa aKi aPi aLn zCn zPc zTo x hi) (cwV 1 hG (vq_gV vq_t300 vq_t302 vq_s2 vq_t1 vq_t303) rfl rfl rfl (by decide +kernel) ⟨Nat.le_of_ble_eq_true rfl, Nat.le_of_ble_eq_true rfl⟩) (vq_preVr (wc := [(h0, .inr (0, [.ref aMo, .ref aSh, .ref aLa, .ref aDy, .ref aMa, .ref aKi, .int zCn, .ref aPi, .int zPc, .ref aLn, .int zTo]))]) (va_recv hK hP (ci := 0) (q0 := 0) rfl rfl) hCx hP (vq_wk hS hA) hA [0] rfl) rfl rfl hl.1 rfl (lv_room (Nat.le_of_ble_eq_true rfl)) d_BR_lay_2 ⟨Nat.le_of_ble_eq_true rfl, Nat.le_of_ble_eq_true rfl⟩) hP hS hA0 (fun E ce q9 H locs x_2 hP hS h91 h92 h93 => vx_out (fun x h => (htb x h).elim) hlocks h91 h92 h93 (fun t ht hvm => vq_Xof x_2 (hS.F ht)) (vq_wk hS hA).2.2 (Nat.le_of_ble_eq_true rfl) (Nat.le_of_ble_eq_true rfl)) (fun H locs w_2 hP hS => ?_)
  exact w_2.elim
set_option maxHeartbeats 4000000 in
set_option maxRecDepth 100000 in
/-- lay -/
theorem c_lay (l : Launch) (hlT : l.stackTraces = false) (dC : Nat → ClassId) (dI : Nat → Nat → Nat) (cs : Nat → ClassId) (sz : Nat) (h0 : Nat) (aMo : Nat) (aSh : Nat) (aLa : Nat) (aDy : Nat) (aMa : Nat) (aKi : Nat) (aPi : Nat) (aLn : Nat) (zCn : Int32) (zPc : Int32) (zTo : Int32) (fPi : Nat → Option Nat) (pa : Nat) (bLG : Nat) (bLS : Nat) (bLt : Nat) (bGS : Nat) (bGG : Nat) (bES : Nat) (bEG : Nat) (zSl : Int32) (zLy : Int32) (zGr : Int32) (zTk : Int32) (zGt : Int32) (zLt : Int32) (fMo : Nat → Int32) (fSh : Nat → Int32) (fLa : Nat → Int32) (fDy : Nat → Int32) (fMa : Nat → Int32) (fKi : Nat → Int32) (fLG : Nat → Int32) (fLS : Nat → Int32) (x : Int32) (y : Int32) (kg : Int32) (hi : okP x) (hf : fPi x.toNatClampNeg = some pa) (hz : ¬ zPc ≤ x) (hy : ¬ zLy < 0) : vx_Met l y_BR_lay w_BR_lay ({ frames := 7, cells := 3, slots := 18, locals := 104 }) (vq_Pre (dC, dI) cs [(h0, .inr (0, [.ref aMo, .ref aSh, .ref aLa, .ref aDy, .ref aMa, .ref aKi, .int zCn, .ref aPi, .int zPc, .ref aLn, .int zTo])), (aPi, .inl ((cs 2), 4, .inr (.inr (.inr (.inr fPi))))), (aMo, .inl ((cs 0), 8, .inl fMo)), (aSh, .inl ((cs 0), 32, .inl fSh)), (aLa, .inl ((cs 0), 8, .inl fLa)), (aDy, .inl ((cs 0), 40, .inl fDy)), (aMa, .inl ((cs 0), 40, .inl fMa)), (aKi, .inl ((cs 0), 40, .inl fKi)), (pa, .inr (1, [.int zSl, .ref bLG, .ref bLS, .int zLy, .int zGr, .int zTk, .int zGt, .int zLt, .ref bLt, .ref bGS, .ref bGG, .ref bES, .ref bEG])), (bLG, .inl ((cs 0), 20, .inl fLG)), (bLS, .inl ((cs 0), 80, .inl fLS))] sz [.ref h0, .int x, .int y, .int kg]) (va_Qi (fun (r : Int32) (_ : Unit) => r = (zGr + (kg * (1000 - (fMo y.toNatClampNeg)))) ∧ X_lay y kg zTk zLy (stockF fLa fDy fMa fKi zCn zTo y) = none) (vq_B (dC, dI) cs (va_A [(h0, .inr (0, [.ref aMo, .ref aSh, .ref aLa, .ref aDy, .ref aMa, .ref aKi, .int zCn, .ref aPi, .int zPc, .ref aLn, .int zTo])), (aPi, .inl ((cs 2), 4, .inr (.inr (.inr (.inr fPi))))), (aMo, .inl ((cs 0), 8, .inl fMo)), (aSh, .inl ((cs 0), 32, .inl fSh)), (aLa, .inl ((cs 0), 8, .inl fLa)), (aDy, .inl ((cs 0), 40, .inl fDy)), (aMa, .inl ((cs 0), 40, .inl fMa)), (aKi, .inl ((cs 0), 40, .inl fKi)), (pa, .inr (1, [.int zSl, .ref bLG, .ref bLS, .int zLy, .int zGr, .int zTk, .int zGt, .int zLt, .ref bLt, .ref bGS, .ref bGG, .ref bES, .ref bEG])), (bLG, .inl ((cs 0), 20, .inl fLG)), (bLS, .inl ((cs 0), 80, .inl fLS))] sz) (fun _ => [(h0, .inr (0, [.ref aMo, .ref aSh, .ref aLa, .ref aDy, .ref aMa, .ref aKi, .int zCn, .ref aPi, .int zPc, .ref aLn, .int zTo])), (aPi, .inl ((cs 2), 4, .inr (.inr (.inr (.inr fPi))))), (aMo, .inl ((cs 0), 8, .inl fMo)), (aSh, .inl ((cs 0), 32, .inl fSh)), (aLa, .inl ((cs 0), 8, .inl (upd fLa y.toNatClampNeg ((fLa y.toNatClampNeg) + kg)))), (aDy, .inl ((cs 0), 40, .inl fDy)), (aMa, .inl ((cs 0), 40, .inl fMa)), (aKi, .inl ((cs 0), 40, .inl fKi)), (pa, .inr (1, [.int zSl, .ref bLG, .ref bLS, .int (zLy + 1), .int (zGr + (kg * (1000 - (fMo y.toNatClampNeg)))), .int zTk, .int zGt, .int zLt, .ref bLt, .ref bGS, .ref bGG, .ref bES, .ref bEG])), (bLG, .inl ((cs 0), 20, .inl (upd fLG zLy.toNatClampNeg (kg * (1000 - (fMo y.toNatClampNeg)))))), (bLS, .inl ((cs 0), 80, .inl (al4 fLS zLy fSh y)))])) (va_A [(h0, .inr (0, [.ref aMo, .ref aSh, .ref aLa, .ref aDy, .ref aMa, .ref aKi, .int zCn, .ref aPi, .int zPc, .ref aLn, .int zTo])), (aPi, .inl ((cs 2), 4, .inr (.inr (.inr (.inr fPi))))), (aMo, .inl ((cs 0), 8, .inl fMo)), (aSh, .inl ((cs 0), 32, .inl fSh)), (aLa, .inl ((cs 0), 8, .inl fLa)), (aDy, .inl ((cs 0), 40, .inl fDy)), (aMa, .inl ((cs 0), 40, .inl fMa)), (aKi, .inl ((cs 0), 40, .inl fKi)), (pa, .inr (1, [.int zSl, .ref bLG, .ref bLS, .int zLy, .int zGr, .int zTk, .int zGt, .int zLt, .ref bLt, .ref bGS, .ref bGG, .ref bES, .ref bEG])), (bLG, .inl ((cs 0), 20, .inl fLG)), (bLS, .inl ((cs 0), 80, .inl fLS))] sz)) (vq_X (fun E => X_lay y kg zTk zLy (stockF fLa fDy fMa fKi zCn zTo y) = some E) sz) 3 18 (va_A [(h0, .inr (0, [.ref aMo, .ref aSh, .ref aLa, .ref aDy, .ref aMa, .ref aKi, .int zCn, .ref aPi, .int zPc, .ref aLn, .int zTo])), (aPi, .inl ((cs 2), 4, .inr (.inr (.inr (.inr fPi))))), (aMo, .inl ((cs 0), 8, .inl fMo)), (aSh, .inl ((cs 0), 32, .inl fSh)), (aLa, .inl ((cs 0), 8, .inl fLa)), (aDy, .inl ((cs 0), 40, .inl fDy)), (aMa, .inl ((cs 0), 40, .inl fMa)), (aKi, .inl ((cs 0), 40, .inl fKi)), (pa, .inr (1, [.int zSl, .ref bLG, .ref bLS, .int zLy, .int zGr, .int zTk, .int zGt, .int zLt, .ref bLt, .ref bGS, .ref bGG, .ref bES, .ref bEG])), (bLG, .inl ((cs 0), 20, .inl fLG)), (bLS, .inl ((cs 0), 80, .inl fLS))] sz) := by
  refine vx_ofW (cc := b_BR_lay) (maxL := 5) (ret := (some .int)) (by decide) rfl ?_
  intro p e s m args below meth c s₁ B hml htb hv
  obtain ⟨rfl, hsz, hP, hD0, hCx⟩ := hv
  have hx := B.exec
  have hb := B.bytes
  have hr := B.returns
  have hG := vq_hG (atoms_spec (ws := w_BR_lay) B.pre)
  have hown : s.vm.findClass R_BR = some m.cls := findClass_of_methodNamed B.named
  have hlocks := B.notSynchronized
  subst hsz
  have hK := hCx.1
  have hD := hD0.self (sz := s.heap.size)
  generalize hAe : va_A [(h0, .inr (0, [.ref aMo, .ref aSh, .ref aLa, .ref aDy, .ref aMa, .ref aKi, .int zCn, .ref aPi, .int zPc, .ref aLn, .int zTo])), (aPi, .inl ((cs 2), 4, .inr (.inr (.inr (.inr fPi))))), (aMo, .inl ((cs 0), 8, .inl fMo)), (aSh, .inl ((cs 0), 32, .inl fSh)), (aLa, .inl ((cs 0), 8, .inl fLa)), (aDy, .inl ((cs 0), 40, .inl fDy)), (aMa, .inl ((cs 0), 40, .inl fMa)), (aKi, .inl ((cs 0), 40, .inl fKi)), (pa, .inr (1, [.int zSl, .ref bLG, .ref bLS, .int zLy, .int zGr, .int zTk, .int zGt, .int zLt, .ref bLt, .ref bGS, .ref bGG, .ref bES, .ref bEG])), (bLG, .inl ((cs 0), 20, .inl fLG)), (bLS, .inl ((cs 0), 80, .inl fLS))] s.heap.size = A at hD hCx ⊢
  have hA : ∀ q : Nat, s.heap.size ≤ q → A q := fun q h => by rw [← hAe]; exact Or.inr h
  have hA0 : ∀ q : Nat, s.heap.size ≤ q → va_A [] s.heap.size q := fun q h => Or.inr h
  have hS : va_S (va_A [] s.heap.size) s.heap s.heap [] := va_S.rf
  have hl := lv_entry ([.ref h0, .int x, .int y, .int kg]) (n := 5) (Nat.le_of_ble_eq_true rfl)
  rw [lg_entry_eq]
  generalize (lg_sl ([.ref h0, .int x, .int y, .int kg]) ++ List.replicate (5 - (lg_sl ([.ref h0, .int x, .int y, .int kg])).length) Slot.unset).toArray = ls at hl ⊢
  have hl : lv_has ls 5 [(0, .ref h0), (1, .int x), (2, .int y), (3, .int kg)] := hl
  have hP : va_P (dC, dI) vq_cl [(h0, .inr (0, [.ref aMo, .ref aSh, .ref aLa, .ref aDy, .ref aMa, .ref aKi, .int zCn, .ref aPi, .int zPc, .ref aLn, .int zTo])), (aPi, .inl ((cs 2), 4, .inr (.inr (.inr (.inr fPi))))), (aMo, .inl ((cs 0), 8, .inl fMo)), (aSh, .inl ((cs 0), 32, .inl fSh)), (aLa, .inl ((cs 0), 8, .inl fLa)), (aDy, .inl ((cs 0), 40, .inl fDy)), (aMa, .inl ((cs 0), 40, .inl fMa)), (aKi, .inl ((cs 0), 40, .inl fKi)), (pa, .inr (1, [.int zSl, .ref bLG, .ref bLS, .int zLy, .int zGr, .int zTk, .int zGt, .int zLt, .ref bLt, .ref bGS, .ref bGG, .ref bES, .ref bEG])), (bLG, .inl ((cs 0), 20, .inl fLG)), (bLS, .inl ((cs 0), 80, .inl fLS))] s.heap := hP
  refine lv_aload_n hx hb d_BR_lay_0 rfl (lv_at hl 0 rfl) ?_
  refine lv_iload_n hx hb d_BR_lay_1 rfl (lv_at hl 1 rfl) ?_
  refine mk_rr (va_runV (As := [.int x]) (rest := []) ⟨hx, hb, hml, hown, hG⟩ (c_needPile_ok l dC dI cs _ h0 aMo aSh aLa aDy aMa aKi aPi aLn zCn zPc zTo fPi x pa hi hf hz) (cwV 1 hG (vq_gV vq_t300 vq_t302 vq_s2 vq_t1 vq_t303) rfl rfl rfl (by decide +kernel) ⟨Nat.le_of_ble_eq_true rfl, Nat.le_of_ble_eq_true rfl⟩) (vq_preVr (wc := [(h0, .inr (0, [.ref aMo, .ref aSh, .ref aLa, .ref aDy, .ref aMa, .ref aKi, .int zCn, .ref aPi, .int zPc, .ref aLn, .int zTo])), (aPi, .inl ((cs 2), 4, .inr (.inr (.inr (.inr fPi)))))]) (va_recv hK hP (ci := 0) (q0 := 0) rfl rfl) hCx hP (vq_wk hS hA) hA [0, 1] rfl) rfl rfl hl.1 rfl (lv_room (Nat.le_of_ble_eq_true rfl)) d_BR_lay_2 ⟨Nat.le_of_ble_eq_true rfl, Nat.le_of_ble_eq_true rfl⟩) hP hS hA0 (fun r_2 H locs w_2 hP hS => ?_)
  rw [w_2]
  refine lv_astore (lv' := [(4, .ref pa), (0, .ref h0), (1, .int x), (2, .int y), (3, .int kg)]) hx hb d_BR_lay_5 hl (by decide) rfl (fun ls hl => ?_)
  refine lv_iload_n hx hb d_BR_lay_7 rfl (lv_at hl 3 rfl) ?_
  refine mx_rv (vx_runS (As := [.int y]) (rest := []) ⟨hx, hb, hml, hown, hG⟩ (c_needMaterial l hlT dC dI cs _ y) (cwS 1 hG (vq_gS vq_t143 vq_t144 vq_t1 vq_t145) rfl rfl rfl (by decide +kernel) ⟨Nat.le_of_ble_eq_true rfl, Nat.le_of_ble_eq_true rfl⟩) (vq_preSr (wc := []) hCx hP (vq_wk hS hA) hA [] rfl) rfl rfl hl.1 rfl (lv_room (Nat.le_of_ble_eq_true rfl)) d_BR_lay_8 ⟨Nat.le_of_ble_eq_true rfl, Nat.le_of_ble_eq_true rfl⟩) hP hS hA0 (fun E ce q9 H locs x_8 hP hS h91 h92 h93 => vx_out (fun x h => (htb x h).elim) hlocks h91 h92 h93 (fun t ht hvm => vq_Xof (by obtain ⟨rfl, y9⟩ := x_8; simp only [X_lay, if_neg y9]) (hS.F ht)) (vq_wk hS hA).2.2 (Nat.le_of_ble_eq_true rfl) (Nat.le_of_ble_eq_true rfl)) (fun H locs w_8 hP hS => ?_)
  refine W.widen (k := 1) (n := 6) (Nat.le_of_ble_eq_true rfl) (Nat.le_of_ble_eq_true rfl) ?_
  refine lv_aload hx hb d_BR_lay_11 (lv_at hl 0 rfl) ?_
  refine va_getN (D := (dC, dI)) (ci := 1) (v := .int zTk) (C := R_PI) (T := F_PI) (N := 13) hx hb hG i_PI hown hK hP 8 rfl rfl 5 (by decide) (va_Nw.use rfl (hCx.2.1 _ vq_nf0)) (fun _ h9 => h9) rfl d_BR_lay_13 ?_
  refine lv_if_le (tgt := 29) hx hb d_BR_lay_16 (by decide) (fun c_16 => ?_) (fun c_16 => ?_)
  · skip
    refine lv_iload_n hx hb d_BR_lay_29 rfl (lv_at hl 4 rfl) ?_
    refine lv_iconst (v := 1) hx hb d_BR_lay_30 (by decide) ?_
    refine lv_sipush (v := 1000) hx hb d_BR_lay_31 (by decide) ?_
    refine mx_rv (vx_runS (As := [.int kg, .int 1, .int 1000]) (rest := []) ⟨hx, hb, hml, hown, hG⟩ (c_needRange l hlT dC dI cs _ kg 1 1000) (cwS 3 hG (vq_gS vq_t215 vq_t216 vq_t1 vq_t217) rfl rfl rfl (by decide +kernel) ⟨Nat.le_of_ble_eq_true rfl, Nat.le_of_ble_eq_true rfl⟩) (vq_preSr (wc := []) hCx hP (vq_wk hS hA) hA [] rfl) rfl rfl hl.1 rfl (lv_room (Nat.le_of_ble_eq_true rfl)) d_BR_lay_34 ⟨Nat.le_of_ble_eq_true rfl, Nat.le_of_ble_eq_true rfl⟩) hP hS hA0 (fun E ce q9 H locs x_34 hP hS h91 h92 h93 => vx_out (fun x h => (htb x h).elim) hlocks h91 h92 h93 (fun t ht hvm => vq_Xof (by obtain ⟨rfl, y9⟩ := x_34; simp only [X_lay, if_pos w_8, if_pos c_16, if_neg y9]) (hS.F ht)) (vq_wk hS hA).2.2 (Nat.le_of_ble_eq_true rfl) (Nat.le_of_ble_eq_true rfl)) (fun H locs w_34 hP hS => ?_)
    refine W.widen (k := 2) (n := 12) (Nat.le_of_ble_eq_true rfl) (Nat.le_of_ble_eq_true rfl) ?_
    refine lv_aload hx hb d_BR_lay_37 (lv_at hl 0 rfl) ?_
    refine va_getN (D := (dC, dI)) (ci := 1) (v := .int zLy) (C := R_PI) (T := F_PI) (N := 13) hx hb hG i_PI hown hK hP 8 rfl rfl 3 (by decide) (va_Nw.use rfl (hCx.2.1 _ vq_nf2)) (fun _ h9 => h9) rfl d_BR_lay_39 ?_
    refine lv_bipush (v := 20) hx hb d_BR_lay_42 (by decide) ?_
    refine lv_icmp_lt (tgt := 57) hx hb d_BR_lay_44 (by decide) (fun c_44 => ?_) (fun c_44 => ?_)
    · skip
      refine lv_aload_n hx hb d_BR_lay_57 rfl (lv_at hl 1 rfl) ?_
      refine lv_iload_n hx hb d_BR_lay_58 rfl (lv_at hl 3 rfl) ?_
      refine mk_ri (va_runV (As := [.int y]) (rest := []) ⟨hx, hb, hml, hown, hG⟩ (c_stockOf l dC dI cs _ h0 aMo aSh aLa aDy aMa aKi aPi aLn zCn zPc zTo fLa fDy fMa fKi y w_8) (cwV 1 hG (vq_gV vq_t279 vq_t281 vq_s1 vq_t1 vq_t282) rfl rfl rfl (by decide +kernel) ⟨Nat.le_of_ble_eq_true rfl, Nat.le_of_ble_eq_true rfl⟩) (vq_preVr (wc := [(h0, .inr (0, [.ref aMo, .ref aSh, .ref aLa, .ref aDy, .ref aMa, .ref aKi, .int zCn, .ref aPi, .int zPc, .ref aLn, .int zTo])), (aLa, .inl ((cs 0), 8, .inl fLa)), (aDy, .inl ((cs 0), 40, .inl fDy)), (aMa, .inl ((cs 0), 40, .inl fMa)), (aKi, .inl ((cs 0), 40, .inl fKi))]) (va_recv hK hP (ci := 0) (q0 := 0) rfl rfl) hCx hP (vq_wk hS hA) hA [0, 4, 5, 6, 7] rfl) rfl rfl hl.1 rfl (lv_room (Nat.le_of_ble_eq_true rfl)) d_BR_lay_59 ⟨Nat.le_of_ble_eq_true rfl, Nat.le_of_ble_eq_true rfl⟩) hP hS hA0 (fun r_59 H locs w_59 hP hS => ?_)
      subst w_59
      refine lv_iload_n hx hb d_BR_lay_62 rfl (lv_at hl 4 rfl) ?_
      refine lv_icmp_ge (tgt := 76) hx hb d_BR_lay_63 (by decide) (fun c_63 => ?_) (fun c_63 => ?_)
      · skip
        refine lv_aload hx hb d_BR_lay_76 (lv_at hl 0 rfl) ?_
        refine lv_iload_n hx hb d_BR_lay_78 rfl (lv_at hl 4 rfl) ?_
        refine lv_sipush (v := 1000) hx hb d_BR_lay_79 (by decide) ?_
        refine lv_aload_n hx hb d_BR_lay_82 rfl (lv_at hl 1 rfl) ?_
        refine va_get (D := (dC, dI)) (ci := 0) (v := .ref aMo) (C := R_BR) (T := F_BR) (N := 11) hx hb hG i_BR hown hK hP 0 rfl rfl 0 (by decide) (hG _ vq_t100) (fun _ h9 => h9) rfl d_BR_lay_83 ?_
        refine lv_iload_n hx hb d_BR_lay_86 rfl (lv_at hl 3 rfl) ?_
        refine va_iald (D := (dC, dI)) hx hb hK hP 2 0 rfl rfl (vq_in 8 rfl w_8.1 w_8.2) d_BR_lay_87 ?_
        refine lv_isub hx hb d_BR_lay_88 ?_
        refine lv_imul hx hb d_BR_lay_89 ?_
        refine lv_aload_n hx hb d_BR_lay_90 rfl (lv_at hl 1 rfl) ?_
        refine va_get (D := (dC, dI)) (ci := 0) (v := .ref aSh) (C := R_BR) (T := F_BR) (N := 11) hx hb hG i_BR hown hK hP 0 rfl rfl 1 (by decide) (hG _ vq_t101) (fun _ h9 => h9) rfl d_BR_lay_91 ?_
        refine lv_iload_n hx hb d_BR_lay_94 rfl (lv_at hl 3 rfl) ?_
        have hS := vq_wk hS hA
        refine mk_wv (va_runV (As := [.int (kg * (1000 - (fMo y.toNatClampNeg))), .ref aSh, .int y]) (rest := []) ⟨hx, hb, hml, hown, hG⟩ (c_addLayer l dC dI cs _ pa bLG bLS bLt bGS bGG bES bEG zSl zLy zGr zTk zGt zLt fLG fLS fSh aSh (kg * (1000 - (fMo y.toNatClampNeg))) y (⟨hy, c_44⟩) w_8) (cwV 3 hG (vq_gV vq_t323 vq_t324 vq_t325 vq_t3 vq_t326) rfl rfl rfl (by decide +kernel) ⟨Nat.le_of_ble_eq_true rfl, Nat.le_of_ble_eq_true rfl⟩) (vq_preVw (wc := [(pa, .inr (1, [.int zSl, .ref bLG, .ref bLS, .int zLy, .int zGr, .int zTk, .int zGt, .int zLt, .ref bLt, .ref bGS, .ref bGG, .ref bES, .ref bEG])), (bLG, .inl ((cs 0), 20, .inl fLG)), (bLS, .inl ((cs 0), 80, .inl fLS)), (aSh, .inl ((cs 0), 32, .inl fSh))]) (va_recv hK hP (ci := 1) (q0 := 8) rfl rfl) hCx hP hD hS hA [8, 9, 10, 3] rfl rfl (by decide)) rfl rfl hl.1 rfl (lv_room (Nat.le_of_ble_eq_true rfl)) d_BR_lay_95 ⟨Nat.le_of_ble_eq_true rfl, Nat.le_of_ble_eq_true rfl⟩) hP hD hS hA [8, 9, 10, 3] [0, 1, 2, 4, 5, 6, 7] rfl rfl (by decide) (by decide) (fun _ H locs w_95 hP hD hS => ?_)
        have hP : va_P (dC, dI) vq_cl [(h0, .inr (0, [.ref aMo, .ref aSh, .ref aLa, .ref aDy, .ref aMa, .ref aKi, .int zCn, .ref aPi, .int zPc, .ref aLn, .int zTo])), (aPi, .inl ((cs 2), 4, .inr (.inr (.inr (.inr fPi))))), (aMo, .inl ((cs 0), 8, .inl fMo)), (aLa, .inl ((cs 0), 8, .inl fLa)), (aDy, .inl ((cs 0), 40, .inl fDy)), (aMa, .inl ((cs 0), 40, .inl fMa)), (aKi, .inl ((cs 0), 40, .inl fKi)), (pa, .inr (1, [.int zSl, .ref bLG, .ref bLS, .int (zLy + 1), .int (zGr + (kg * (1000 - (fMo y.toNatClampNeg)))), .int zTk, .int zGt, .int zLt, .ref bLt, .ref bGS, .ref bGG, .ref bES, .ref bEG])), (bLG, .inl ((cs 0), 20, .inl (upd fLG zLy.toNatClampNeg (kg * (1000 - (fMo y.toNatClampNeg)))))), (bLS, .inl ((cs 0), 80, .inl (al4 fLS zLy fSh y))), (aSh, .inl ((cs 0), 32, .inl fSh))] H := hP
        have hD : va_D A [(h0, .inr (0, [.ref aMo, .ref aSh, .ref aLa, .ref aDy, .ref aMa, .ref aKi, .int zCn, .ref aPi, .int zPc, .ref aLn, .int zTo])), (aPi, .inl ((cs 2), 4, .inr (.inr (.inr (.inr fPi))))), (aMo, .inl ((cs 0), 8, .inl fMo)), (aLa, .inl ((cs 0), 8, .inl fLa)), (aDy, .inl ((cs 0), 40, .inl fDy)), (aMa, .inl ((cs 0), 40, .inl fMa)), (aKi, .inl ((cs 0), 40, .inl fKi)), (pa, .inr (1, [.int zSl, .ref bLG, .ref bLS, .int (zLy + 1), .int (zGr + (kg * (1000 - (fMo y.toNatClampNeg)))), .int zTk, .int zGt, .int zLt, .ref bLt, .ref bGS, .ref bGG, .ref bES, .ref bEG])), (bLG, .inl ((cs 0), 20, .inl (upd fLG zLy.toNatClampNeg (kg * (1000 - (fMo y.toNatClampNeg)))))), (bLS, .inl ((cs 0), 80, .inl (al4 fLS zLy fSh y))), (aSh, .inl ((cs 0), 32, .inl fSh))] := hD
        refine lv_aload_n hx hb d_BR_lay_98 rfl (lv_at hl 1 rfl) ?_
        refine va_get (D := (dC, dI)) (ci := 0) (v := .ref aLa) (C := R_BR) (T := F_BR) (N := 11) hx hb hG i_BR hown hK hP 0 rfl rfl 2 (by decide) (hG _ vq_t102) (fun _ h9 => h9) rfl d_BR_lay_99 ?_
        refine lv_iload_n hx hb d_BR_lay_102 rfl (lv_at hl 3 rfl) ?_
        refine lv_dup2_11 hx hb d_BR_lay_103 rfl rfl ?_
        refine va_iald (D := (dC, dI)) hx hb hK hP 3 0 rfl rfl (vq_in 8 rfl w_8.1 w_8.2) d_BR_lay_104 ?_
        refine lv_iload_n hx hb d_BR_lay_105 rfl (lv_at hl 4 rfl) ?_
        refine lv_iadd hx hb d_BR_lay_106 ?_
        refine va_iast (D := (dC, dI)) hx hb hK hP hD hS 3 0 rfl rfl (vq_in 8 rfl w_8.1 w_8.2) d_BR_lay_107 (fun H locs hP hD hS => ?_)
        have hP : va_P (dC, dI) vq_cl [(h0, .inr (0, [.ref aMo, .ref aSh, .ref aLa, .ref aDy, .ref aMa, .ref aKi, .int zCn, .ref aPi, .int zPc, .ref aLn, .int zTo])), (aPi, .inl ((cs 2), 4, .inr (.inr (.inr (.inr fPi))))), (aMo, .inl ((cs 0), 8, .inl fMo)), (aLa, .inl ((cs 0), 8, .inl (upd fLa y.toNatClampNeg ((fLa y.toNatClampNeg) + kg)))), (aDy, .inl ((cs 0), 40, .inl fDy)), (aMa, .inl ((cs 0), 40, .inl fMa)), (aKi, .inl ((cs 0), 40, .inl fKi)), (pa, .inr (1, [.int zSl, .ref bLG, .ref bLS, .int (zLy + 1), .int (zGr + (kg * (1000 - (fMo y.toNatClampNeg)))), .int zTk, .int zGt, .int zLt, .ref bLt, .ref bGS, .ref bGG, .ref bES, .ref bEG])), (bLG, .inl ((cs 0), 20, .inl (upd fLG zLy.toNatClampNeg (kg * (1000 - (fMo y.toNatClampNeg)))))), (bLS, .inl ((cs 0), 80, .inl (al4 fLS zLy fSh y))), (aSh, .inl ((cs 0), 32, .inl fSh))] H := hP
        have hD : va_D A [(h0, .inr (0, [.ref aMo, .ref aSh, .ref aLa, .ref aDy, .ref aMa, .ref aKi, .int zCn, .ref aPi, .int zPc, .ref aLn, .int zTo])), (aPi, .inl ((cs 2), 4, .inr (.inr (.inr (.inr fPi))))), (aMo, .inl ((cs 0), 8, .inl fMo)), (aLa, .inl ((cs 0), 8, .inl (upd fLa y.toNatClampNeg ((fLa y.toNatClampNeg) + kg)))), (aDy, .inl ((cs 0), 40, .inl fDy)), (aMa, .inl ((cs 0), 40, .inl fMa)), (aKi, .inl ((cs 0), 40, .inl fKi)), (pa, .inr (1, [.int zSl, .ref bLG, .ref bLS, .int (zLy + 1), .int (zGr + (kg * (1000 - (fMo y.toNatClampNeg)))), .int zTk, .int zGt, .int zLt, .ref bLt, .ref bGS, .ref bGG, .ref bES, .ref bEG])), (bLG, .inl ((cs 0), 20, .inl (upd fLG zLy.toNatClampNeg (kg * (1000 - (fMo y.toNatClampNeg)))))), (bLS, .inl ((cs 0), 80, .inl (al4 fLS zLy fSh y))), (aSh, .inl ((cs 0), 32, .inl fSh))] := hD
        refine lv_aload hx hb d_BR_lay_108 (lv_at hl 0 rfl) ?_
        refine va_getN (D := (dC, dI)) (ci := 1) (v := .int (zGr + (kg * (1000 - (fMo y.toNatClampNeg))))) (C := R_PI) (T := F_PI) (N := 13) hx hb hG i_PI hown hK hP 7 rfl rfl 4 (by decide) (va_Nw.use rfl (hCx.2.1 _ vq_nf3)) (fun _ h9 => h9) rfl d_BR_lay_110 ?_
        refine vx_ret ?_
        refine W.widen (k := 3) (n := 18) (Nat.le_of_ble_eq_true rfl) (Nat.le_of_ble_eq_true rfl) ?_
        have hP9 : va_P (dC, dI) vq_cl [(h0, .inr (0, [.ref aMo, .ref aSh, .ref aLa, .ref aDy, .ref aMa, .ref aKi, .int zCn, .ref aPi, .int zPc, .ref aLn, .int zTo])), (aPi, .inl ((cs 2), 4, .inr (.inr (.inr (.inr fPi))))), (aMo, .inl ((cs 0), 8, .inl fMo)), (aSh, .inl ((cs 0), 32, .inl fSh)), (aLa, .inl ((cs 0), 8, .inl (upd fLa y.toNatClampNeg ((fLa y.toNatClampNeg) + kg)))), (aDy, .inl ((cs 0), 40, .inl fDy)), (aMa, .inl ((cs 0), 40, .inl fMa)), (aKi, .inl ((cs 0), 40, .inl fKi)), (pa, .inr (1, [.int zSl, .ref bLG, .ref bLS, .int (zLy + 1), .int (zGr + (kg * (1000 - (fMo y.toNatClampNeg)))), .int zTk, .int zGt, .int zLt, .ref bLt, .ref bGS, .ref bGG, .ref bES, .ref bEG])), (bLG, .inl ((cs 0), 20, .inl (upd fLG zLy.toNatClampNeg (kg * (1000 - (fMo y.toNatClampNeg)))))), (bLS, .inl ((cs 0), 80, .inl (al4 fLS zLy fSh y)))] _ := hP.sub [0, 1, 2, 10, 3, 4, 5, 6, 7, 8, 9] rfl
        have hD9 : va_D A [(h0, .inr (0, [.ref aMo, .ref aSh, .ref aLa, .ref aDy, .ref aMa, .ref aKi, .int zCn, .ref aPi, .int zPc, .ref aLn, .int zTo])), (aPi, .inl ((cs 2), 4, .inr (.inr (.inr (.inr fPi))))), (aMo, .inl ((cs 0), 8, .inl fMo)), (aSh, .inl ((cs 0), 32, .inl fSh)), (aLa, .inl ((cs 0), 8, .inl (upd fLa y.toNatClampNeg ((fLa y.toNatClampNeg) + kg)))), (aDy, .inl ((cs 0), 40, .inl fDy)), (aMa, .inl ((cs 0), 40, .inl fMa)), (aKi, .inl ((cs 0), 40, .inl fKi)), (pa, .inr (1, [.int zSl, .ref bLG, .ref bLS, .int (zLy + 1), .int (zGr + (kg * (1000 - (fMo y.toNatClampNeg)))), .int zTk, .int zGt, .int zLt, .ref bLt, .ref bGS, .ref bGG, .ref bES, .ref bEG])), (bLG, .inl ((cs 0), 20, .inl (upd fLG zLy.toNatClampNeg (kg * (1000 - (fMo y.toNatClampNeg)))))), (bLS, .inl ((cs 0), 80, .inl (al4 fLS zLy fSh y)))] := hD.sub [0, 1, 2, 10, 3, 4, 5, 6, 7, 8, 9] (by decide) rfl
        exact W.iret (v := (zGr + (kg * (1000 - (fMo y.toNatClampNeg))))) hx hb hr (fun t ht hW => ⟨⟨(zGr + (kg * (1000 - (fMo y.toNatClampNeg)))), (), rfl, ⟨rfl, by simp only [X_lay, if_pos w_8, if_pos c_16, if_pos w_34, if_pos c_44, if_pos c_63]⟩, ⟨by rw [ht]; exact hP9, hD9⟩⟩, hS.F ht⟩) hS.2.2 d_BR_lay_113
      · skip
        exact vq_thr hx hb hlT hown hG hCx hA vq_tw8 hS (by rw [hml]; exact hl.1) d_BR_lay_66 d_BR_lay_69 d_BR_lay_70 d_BR_lay_72 d_BR_lay_75 htb hlocks (Nat.le_of_ble_eq_true rfl) (Nat.le_of_ble_eq_true rfl) (Nat.le_of_ble_eq_true rfl) (Nat.le_of_ble_eq_true rfl) (by simp only [X_lay, if_pos w_8, if_pos c_16, if_pos w_34, if_pos c_44, if_neg c_63]) (Nat.le_of_ble_eq_true rfl) (Nat.le_of_ble_eq_true rfl)
    · skip
      exact vq_thr hx hb hlT hown hG hCx hA vq_tw9 hS (by rw [hml]; exact hl.1) d_BR_lay_47 d_BR_lay_50 d_BR_lay_51 d_BR_lay_53 d_BR_lay_56 htb hlocks (Nat.le_of_ble_eq_true rfl) (Nat.le_of_ble_eq_true rfl) (Nat.le_of_ble_eq_true rfl) (Nat.le_of_ble_eq_true rfl) (by simp only [X_lay, if_pos w_8, if_pos c_16, if_pos w_34, if_neg c_44]) (Nat.le_of_ble_eq_true rfl) (Nat.le_of_ble_eq_true rfl)
  · skip
    exact vq_thr hx hb hlT hown hG hCx hA vq_tw10 hS (by rw [hml]; exact hl.1) d_BR_lay_19 d_BR_lay_22 d_BR_lay_23 d_BR_lay_25 d_BR_lay_28 htb hlocks (Nat.le_of_ble_eq_true rfl) (Nat.le_of_ble_eq_true rfl) (Nat.le_of_ble_eq_true rfl) (Nat.le_of_ble_eq_true rfl) (by simp only [X_lay, if_pos w_8, if_neg c_16]) (Nat.le_of_ble_eq_true rfl) (Nat.le_of_ble_eq_true rfl)
set_option maxHeartbeats 4000000 in
set_option maxRecDepth 100000 in
/-- slice, no such pile -/
theorem c_slice_bad (l : Launch) (hlT : l.stackTraces = false) (dC : Nat → ClassId) (dI : Nat → Nat → Nat) (cs : Nat → ClassId) (sz : Nat) (h0 : Nat) (aMo : Nat) (aSh : Nat) (aLa : Nat) (aDy : Nat) (aMa : Nat) (aKi : Nat) (aPi : Nat) (aLn : Nat) (zCn : Int32) (zPc : Int32) (zTo : Int32) (x : Int32) (hi : okP x → zPc ≤ x) : vx_Met l y_BR_slice w_BR_slice ({ frames := 7, cells := 1, slots := 6, locals := 104 }) (vq_PreR (dC, dI) cs [(h0, .inr (0, [.ref aMo, .ref aSh, .ref aLa, .ref aDy, .ref aMa, .ref aKi, .int zCn, .ref aPi, .int zPc, .ref aLn, .int zTo]))] sz [.ref h0, .int x]) (va_Qv (fun (_ : Unit) => False) (fun _ _ => True) (va_A [] sz)) (vq_X (fun E => E = xI) sz) 1 6 (va_A [] sz) := by
  refine vx_ofW (cc := b_BR_slice) (maxL := 3) (ret := (some .int)) (by decide) rfl ?_
  intro p e s m args below meth c s₁ B hml htb hv
  obtain ⟨rfl, hsz, hP, hCx⟩ := hv
  have hx := B.exec
  have hb := B.bytes
  have hr := B.returns
  have hG := vq_hG (atoms_spec (ws := w_BR_slice) B.pre)
  have hown : s.vm.findClass R_BR = some m.cls := findClass_of_methodNamed B.named
  have hlocks := B.notSynchronized
  subst hsz
  have hK := hCx.1
  have hA : ∀ q : Nat, s.heap.size ≤ q → va_A [] s.heap.size q := fun q h => Or.inr h
  have hA0 : ∀ q : Nat, s.heap.size ≤ q → va_A [] s.heap.size q := fun q h => Or.inr h
  have hS : va_S (va_A [] s.heap.size) s.heap s.heap [] := va_S.rf
  have hl := lv_entry ([.ref h0, .int x]) (n := 3) (Nat.le_of_ble_eq_true rfl)
  rw [lg_entry_eq]
  generalize (lg_sl ([.ref h0, .int x]) ++ List.replicate (3 - (lg_sl ([.ref h0, .int x])).length) Slot.unset).toArray = ls at hl ⊢
  have hl : lv_has ls 3 [(0, .ref h0), (1, .int x)] := hl
  have hP : va_P (dC, dI) vq_cl [(h0, .inr (0, [.ref aMo, .ref aSh, .ref aLa, .ref aDy, .ref aMa, .ref aKi, .int zCn, .ref aPi, .int zPc, .ref aLn, .int zTo]))] s.heap := hP
  refine lv_aload_n hx hb d_BR_slice_0 rfl (lv_at hl 0 rfl) ?_
  refine lv_iload_n hx hb d_BR_slice_1 rfl (lv_at hl 1 rfl) ?_
  refine mx_rv (vx_runV (As := [.int x]) (rest := []) ⟨hx, hb, hml, hown, hG⟩ (c_needPile_bad l hlT dC dI cs _ h0 aMo aSh aLa aDy aMa aKi aPi aLn zCn zPc zTo x hi) (cwV 1 hG (vq_gV vq_t300 vq_t302 vq_s2 vq_t1 vq_t303) rfl rfl rfl (by decide +kernel) ⟨Nat.le_of_ble_eq_true rfl, Nat.le_of_ble_eq_true rfl⟩) (vq_preVr (wc := [(h0, .inr (0, [.ref aMo, .ref aSh, .ref aLa, .ref aDy, .ref aMa, .ref aKi, .int zCn, .ref aPi, .int zPc, .ref aLn, .int zTo]))]) (va_recv hK hP (ci := 0) (q0 := 0) rfl rfl) hCx hP (vq_wk hS hA) hA [0] rfl) rfl rfl hl.1 rfl (lv_room (Nat.le_of_ble_eq_true rfl)) d_BR_slice_2 ⟨Nat.le_of_ble_eq_true rfl, Nat.le_of_ble_eq_true rfl⟩) hP hS hA0 (fun E ce q9 H locs x_2 hP hS h91 h92 h93 => vx_out (fun x h => (htb x h).elim) hlocks h91 h92 h93 (fun t ht hvm => vq_Xof x_2 (hS.F ht)) (vq_wk hS hA).2.2 (Nat.le_of_ble_eq_true rfl) (Nat.le_of_ble_eq_true rfl)) (fun H locs w_2 hP hS => ?_)
  exact w_2.elim
set_option maxHeartbeats 4000000 in
set_option maxRecDepth 100000 in
/-- slice -/
theorem c_slice (l : Launch) (hlT : l.stackTraces = false) (dC : Nat → ClassId) (dI : Nat → Nat → Nat) (cs : Nat → ClassId) (sz : Nat) (h0 : Nat) (aMo : Nat) (aSh : Nat) (aLa : Nat) (aDy : Nat) (aMa : Nat) (aKi : Nat) (aPi : Nat) (aLn : Nat) (zCn : Int32) (zPc : Int32) (zTo : Int32) (fPi : Nat → Option Nat) (pa : Nat) (bLG : Nat) (bLS : Nat) (bLt : Nat) (bGS : Nat) (bGG : Nat) (bES : Nat) (bEG : Nat) (zSl : Int32) (zLy : Int32) (zGr : Int32) (zTk : Int32) (zGt : Int32) (zLt : Int32) (fLG : Nat → Int32) (fLS : Nat → Int32) (fGG : Nat → Int32) (fEG : Nat → Int32) (fLt : Nat → Int64) (fGS : Nat → Int64) (fES : Nat → Int64) (x : Int32) (hi : okP x) (hf : fPi x.toNatClampNeg = some pa) (hz : ¬ zPc ≤ x) : vx_Met l y_BR_slice w_BR_slice ({ frames := 6, cells := 1, slots := 6, locals := 82 }) (vq_Pre (dC, dI) cs [(h0, .inr (0, [.ref aMo, .ref aSh, .ref aLa, .ref aDy, .ref aMa, .ref aKi, .int zCn, .ref aPi, .int zPc, .ref aLn, .int zTo])), (aPi, .inl ((cs 2), 4, .inr (.inr (.inr (.inr fPi))))), (pa, .inr (1, [.int zSl, .ref bLG, .ref bLS, .int zLy, .int zGr, .int zTk, .int zGt, .int zLt, .ref bLt, .ref bGS, .ref bGG, .ref bES, .ref bEG])), (bLG, .inl ((cs 0), 20, .inl fLG)), (bLS, .inl ((cs 0), 80, .inl fLS)), (bLt, .inl ((cs 1), 4, .inr (.inl fLt))), (bGS, .inl ((cs 1), 4, .inr (.inl fGS))), (bGG, .inl ((cs 0), 4, .inl fGG)), (bES, .inl ((cs 1), 4, .inr (.inl fES))), (bEG, .inl ((cs 0), 4, .inl fEG))] sz [.ref h0, .int x]) (va_Qi (fun (r : Int32) (_ : Unit) => r = (tkG zSl zTk fLG zLy 20 0 0) ∧ X_slice zLy zTk zSl = none) (vq_B (dC, dI) cs (va_A [(h0, .inr (0, [.ref aMo, .ref aSh, .ref aLa, .ref aDy, .ref aMa, .ref aKi, .int zCn, .ref aPi, .int zPc, .ref aLn, .int zTo])), (aPi, .inl ((cs 2), 4, .inr (.inr (.inr (.inr fPi))))), (pa, .inr (1, [.int zSl, .ref bLG, .ref bLS, .int zLy, .int zGr, .int zTk, .int zGt, .int zLt, .ref bLt, .ref bGS, .ref bGG, .ref bES, .ref bEG])), (bLG, .inl ((cs 0), 20, .inl fLG)), (bLS, .inl ((cs 0), 80, .inl fLS)), (bLt, .inl ((cs 1), 4, .inr (.inl fLt))), (bGS, .inl ((cs 1), 4, .inr (.inl fGS))), (bGG, .inl ((cs 0), 4, .inl fGG)), (bES, .inl ((cs 1), 4, .inr (.inl fES))), (bEG, .inl ((cs 0), 4, .inl fEG))] sz) (fun _ => [(h0, .inr (0, [.ref aMo, .ref aSh, .ref aLa, .ref aDy, .ref aMa, .ref aKi, .int zCn, .ref aPi, .int zPc, .ref aLn, .int zTo])), (aPi, .inl ((cs 2), 4, .inr (.inr (.inr (.inr fPi))))), (pa, .inr (1, [.int zSl, .ref bLG, .ref bLS, .int zLy, .int zGr, .int (zTk + 1), .int (zGt + (tkG zSl zTk fLG zLy 20 0 0)), .int (tkG zSl zTk fLG zLy 20 0 0), .ref bLt, .ref bGS, .ref bGG, .ref bES, .ref bEG])), (bLG, .inl ((cs 0), 20, .inl fLG)), (bLS, .inl ((cs 0), 80, .inl fLS)), (bLt, .inl ((cs 1), 4, .inr (.inl (tkS zSl zTk fLG fLS zLy 20 0 (cl4 fLt))))), (bGS, .inl ((cs 1), 4, .inr (.inl ((tnG (tkG zSl zTk fLG zLy 20 0 0) (tkS zSl zTk fLG fLS zLy 20 0 (cl4 fLt)) (fGS, fGG)).1)))), (bGG, .inl ((cs 0), 4, .inl ((tnG (tkG zSl zTk fLG zLy 20 0 0) (tkS zSl zTk fLG fLS zLy 20 0 (cl4 fLt)) (fGS, fGG)).2))), (bES, .inl ((cs 1), 4, .inr (.inl ((tnE (tkG zSl zTk fLG zLy 20 0 0) (tkS zSl zTk fLG fLS zLy 20 0 (cl4 fLt)) (fES, fEG)).1)))), (bEG, .inl ((cs 0), 4, .inl ((tnE (tkG zSl zTk fLG zLy 20 0 0) (tkS zSl zTk fLG fLS zLy 20 0 (cl4 fLt)) (fES, fEG)).2)))])) (va_A [(h0, .inr (0, [.ref aMo, .ref aSh, .ref aLa, .ref aDy, .ref aMa, .ref aKi, .int zCn, .ref aPi, .int zPc, .ref aLn, .int zTo])), (aPi, .inl ((cs 2), 4, .inr (.inr (.inr (.inr fPi))))), (pa, .inr (1, [.int zSl, .ref bLG, .ref bLS, .int zLy, .int zGr, .int zTk, .int zGt, .int zLt, .ref bLt, .ref bGS, .ref bGG, .ref bES, .ref bEG])), (bLG, .inl ((cs 0), 20, .inl fLG)), (bLS, .inl ((cs 0), 80, .inl fLS)), (bLt, .inl ((cs 1), 4, .inr (.inl fLt))), (bGS, .inl ((cs 1), 4, .inr (.inl fGS))), (bGG, .inl ((cs 0), 4, .inl fGG)), (bES, .inl ((cs 1), 4, .inr (.inl fES))), (bEG, .inl ((cs 0), 4, .inl fEG))] sz)) (vq_X (fun E => X_slice zLy zTk zSl = some E) sz) 1 6 (va_A [(h0, .inr (0, [.ref aMo, .ref aSh, .ref aLa, .ref aDy, .ref aMa, .ref aKi, .int zCn, .ref aPi, .int zPc, .ref aLn, .int zTo])), (aPi, .inl ((cs 2), 4, .inr (.inr (.inr (.inr fPi))))), (pa, .inr (1, [.int zSl, .ref bLG, .ref bLS, .int zLy, .int zGr, .int zTk, .int zGt, .int zLt, .ref bLt, .ref bGS, .ref bGG, .ref bES, .ref bEG])), (bLG, .inl ((cs 0), 20, .inl fLG)), (bLS, .inl ((cs 0), 80, .inl fLS)), (bLt, .inl ((cs 1), 4, .inr (.inl fLt))), (bGS, .inl ((cs 1), 4, .inr (.inl fGS))), (bGG, .inl ((cs 0), 4, .inl fGG)), (bES, .inl ((cs 1), 4, .inr (.inl fES))), (bEG, .inl ((cs 0), 4, .inl fEG))] sz) := by
  refine vx_ofW (cc := b_BR_slice) (maxL := 3) (ret := (some .int)) (by decide) rfl ?_
  intro p e s m args below meth c s₁ B hml htb hv
  obtain ⟨rfl, hsz, hP, hD0, hCx⟩ := hv
  have hx := B.exec
  have hb := B.bytes
  have hr := B.returns
  have hG := vq_hG (atoms_spec (ws := w_BR_slice) B.pre)
  have hown : s.vm.findClass R_BR = some m.cls := findClass_of_methodNamed B.named
  have hlocks := B.notSynchronized
  subst hsz
  have hK := hCx.1
  have hD := hD0.self (sz := s.heap.size)
  generalize hAe : va_A [(h0, .inr (0, [.ref aMo, .ref aSh, .ref aLa, .ref aDy, .ref aMa, .ref aKi, .int zCn, .ref aPi, .int zPc, .ref aLn, .int zTo])), (aPi, .inl ((cs 2), 4, .inr (.inr (.inr (.inr fPi))))), (pa, .inr (1, [.int zSl, .ref bLG, .ref bLS, .int zLy, .int zGr, .int zTk, .int zGt, .int zLt, .ref bLt, .ref bGS, .ref bGG, .ref bES, .ref bEG])), (bLG, .inl ((cs 0), 20, .inl fLG)), (bLS, .inl ((cs 0), 80, .inl fLS)), (bLt, .inl ((cs 1), 4, .inr (.inl fLt))), (bGS, .inl ((cs 1), 4, .inr (.inl fGS))), (bGG, .inl ((cs 0), 4, .inl fGG)), (bES, .inl ((cs 1), 4, .inr (.inl fES))), (bEG, .inl ((cs 0), 4, .inl fEG))] s.heap.size = A at hD hCx ⊢
  have hA : ∀ q : Nat, s.heap.size ≤ q → A q := fun q h => by rw [← hAe]; exact Or.inr h
  have hA0 : ∀ q : Nat, s.heap.size ≤ q → va_A [] s.heap.size q := fun q h => Or.inr h
  have hS : va_S (va_A [] s.heap.size) s.heap s.heap [] := va_S.rf
  have hl := lv_entry ([.ref h0, .int x]) (n := 3) (Nat.le_of_ble_eq_true rfl)
  rw [lg_entry_eq]
  generalize (lg_sl ([.ref h0, .int x]) ++ List.replicate (3 - (lg_sl ([.ref h0, .int x])).length) Slot.unset).toArray = ls at hl ⊢
  have hl : lv_has ls 3 [(0, .ref h0), (1, .int x)] := hl
  have hP : va_P (dC, dI) vq_cl [(h0, .inr (0, [.ref aMo, .ref aSh, .ref aLa, .ref aDy, .ref aMa, .ref aKi, .int zCn, .ref aPi, .int zPc, .ref aLn, .int zTo])), (aPi, .inl ((cs 2), 4, .inr (.inr (.inr (.inr fPi))))), (pa, .inr (1, [.int zSl, .ref bLG, .ref bLS, .int zLy, .int zGr, .int zTk, .int zGt, .int zLt, .ref bLt, .ref bGS, .ref bGG, .ref bES, .ref bEG])), (bLG, .inl ((cs 0), 20, .inl fLG)), (bLS, .inl ((cs 0), 80, .inl fLS)), (bLt, .inl ((cs 1), 4, .inr (.inl fLt))), (bGS, .inl ((cs 1), 4, .inr (.inl fGS))), (bGG, .inl ((cs 0), 4, .inl fGG)), (bES, .inl ((cs 1), 4, .inr (.inl fES))), (bEG, .inl ((cs 0), 4, .inl fEG))] s.heap := hP
  refine lv_aload_n hx hb d_BR_slice_0 rfl (lv_at hl 0 rfl) ?_
  refine lv_iload_n hx hb d_BR_slice_1 rfl (lv_at hl 1 rfl) ?_
  refine mk_rr (va_runV (As := [.int x]) (rest := []) ⟨hx, hb, hml, hown, hG⟩ (c_needPile_ok l dC dI cs _ h0 aMo aSh aLa aDy aMa aKi aPi aLn zCn zPc zTo fPi x pa hi hf hz) (cwV 1 hG (vq_gV vq_t300 vq_t302 vq_s2 vq_t1 vq_t303) rfl rfl rfl (by decide +kernel) ⟨Nat.le_of_ble_eq_true rfl, Nat.le_of_ble_eq_true rfl⟩) (vq_preVr (wc := [(h0, .inr (0, [.ref aMo, .ref aSh, .ref aLa, .ref aDy, .ref aMa, .ref aKi, .int zCn, .ref aPi, .int zPc, .ref aLn, .int zTo])), (aPi, .inl ((cs 2), 4, .inr (.inr (.inr (.inr fPi)))))]) (va_recv hK hP (ci := 0) (q0 := 0) rfl rfl) hCx hP (vq_wk hS hA) hA [0, 1] rfl) rfl rfl hl.1 rfl (lv_room (Nat.le_of_ble_eq_true rfl)) d_BR_slice_2 ⟨Nat.le_of_ble_eq_true rfl, Nat.le_of_ble_eq_true rfl⟩) hP hS hA0 (fun r_2 H locs w_2 hP hS => ?_)
  rw [w_2]
  refine lv_astore_n (lv' := [(2, .ref pa), (0, .ref h0), (1, .int x)]) hx hb d_BR_slice_5 rfl hl (by decide) rfl (fun ls hl => ?_)
  refine lv_aload_n hx hb d_BR_slice_6 rfl (lv_at hl 0 rfl) ?_
  refine va_getN (D := (dC, dI)) (ci := 1) (v := .int zLy) (C := R_PI) (T := F_PI) (N := 13) hx hb hG i_PI hown hK hP 2 rfl rfl 3 (by decide) (va_Nw.use rfl (hCx.2.1 _ vq_nf2)) (fun _ h9 => h9) rfl d_BR_slice_7 ?_
  refine lv_if_ne (tgt := 23) hx hb d_BR_slice_10 (by decide) (fun c_10 => ?_) (fun c_10 => ?_)
  · skip
    refine lv_aload_n hx hb d_BR_slice_23 rfl (lv_at hl 0 rfl) ?_
    refine va_getN (D := (dC, dI)) (ci := 1) (v := .int zTk) (C := R_PI) (T := F_PI) (N := 13) hx hb hG i_PI hown hK hP 2 rfl rfl 5 (by decide) (va_Nw.use rfl (hCx.2.1 _ vq_nf0)) (fun _ h9 => h9) rfl d_BR_slice_24 ?_
    refine lv_aload_n hx hb d_BR_slice_27 rfl (lv_at hl 0 rfl) ?_
    refine va_getN (D := (dC, dI)) (ci := 1) (v := .int zSl) (C := R_PI) (T := F_PI) (N := 13) hx hb hG i_PI hown hK hP 2 rfl rfl 0 (by decide) (va_Nw.use rfl (hCx.2.1 _ vq_nf1)) (fun _ h9 => h9) rfl d_BR_slice_28 ?_
    refine lv_icmp_lt (tgt := 44) hx hb d_BR_slice_31 (by decide) (fun c_31 => ?_) (fun c_31 => ?_)
    · skip
      refine lv_aload_n hx hb d_BR_slice_44 rfl (lv_at hl 0 rfl) ?_
      have hS := vq_wk hS hA
      refine mk_wv (va_runV (As := []) (rest := []) ⟨hx, hb, hml, hown, hG⟩ (c_takeNext l dC dI cs _ pa bLG bLS bLt bGS bGG bES bEG zSl zLy zGr zTk zGt zLt fLG fLS fGG fEG fLt fGS fES) (cwV 0 hG (vq_gV vq_t336 vq_t337 vq_t338 vq_t3 vq_t339) rfl rfl rfl (by decide +kernel) ⟨Nat.le_of_ble_eq_true rfl, Nat.le_of_ble_eq_true rfl⟩) (vq_preVw (wc := [(pa, .inr (1, [.int zSl, .ref bLG, .ref bLS, .int zLy, .int zGr, .int zTk, .int zGt, .int zLt, .ref bLt, .ref bGS, .ref bGG, .ref bES, .ref bEG])), (bLG, .inl ((cs 0), 20, .inl fLG)), (bLS, .inl ((cs 0), 80, .inl fLS)), (bLt, .inl ((cs 1), 4, .inr (.inl fLt))), (bGS, .inl ((cs 1), 4, .inr (.inl fGS))), (bGG, .inl ((cs 0), 4, .inl fGG)), (bES, .inl ((cs 1), 4, .inr (.inl fES))), (bEG, .inl ((cs 0), 4, .inl fEG))]) (va_recv hK hP (ci := 1) (q0 := 2) rfl rfl) hCx hP hD hS hA [2, 3, 4, 5, 6, 7, 8, 9] rfl rfl (by decide)) rfl rfl hl.1 rfl (lv_room (Nat.le_of_ble_eq_true rfl)) d_BR_slice_45 ⟨Nat.le_of_ble_eq_true rfl, Nat.le_of_ble_eq_true rfl⟩) hP hD hS hA [2, 3, 4, 5, 6, 7, 8, 9] [0, 1] rfl rfl (by decide) (by decide) (fun _ H locs w_45 hP hD hS => ?_)
      have hP : va_P (dC, dI) vq_cl [(h0, .inr (0, [.ref aMo, .ref aSh, .ref aLa, .ref aDy, .ref aMa, .ref aKi, .int zCn, .ref aPi, .int zPc, .ref aLn, .int zTo])), (aPi, .inl ((cs 2), 4, .inr (.inr (.inr (.inr fPi))))), (pa, .inr (1, [.int zSl, .ref bLG, .ref bLS, .int zLy, .int zGr, .int (zTk + 1), .int (zGt + (tkG zSl zTk fLG zLy 20 0 0)), .int (tkG zSl zTk fLG zLy 20 0 0), .ref bLt, .ref bGS, .ref bGG, .ref bES, .ref bEG])), (bLG, .inl ((cs 0), 20, .inl fLG)), (bLS, .inl ((cs 0), 80, .inl fLS)), (bLt, .inl ((cs 1), 4, .inr (.inl (tkS zSl zTk fLG fLS zLy 20 0 (cl4 fLt))))), (bGS, .inl ((cs 1), 4, .inr (.inl ((tnG (tkG zSl zTk fLG zLy 20 0 0) (tkS zSl zTk fLG fLS zLy 20 0 (cl4 fLt)) (fGS, fGG)).1)))), (bGG, .inl ((cs 0), 4, .inl ((tnG (tkG zSl zTk fLG zLy 20 0 0) (tkS zSl zTk fLG fLS zLy 20 0 (cl4 fLt)) (fGS, fGG)).2))), (bES, .inl ((cs 1), 4, .inr (.inl ((tnE (tkG zSl zTk fLG zLy 20 0 0) (tkS zSl zTk fLG fLS zLy 20 0 (cl4 fLt)) (fES, fEG)).1)))), (bEG, .inl ((cs 0), 4, .inl ((tnE (tkG zSl zTk fLG zLy 20 0 0) (tkS zSl zTk fLG fLS zLy 20 0 (cl4 fLt)) (fES, fEG)).2)))] H := hP
      have hD : va_D A [(h0, .inr (0, [.ref aMo, .ref aSh, .ref aLa, .ref aDy, .ref aMa, .ref aKi, .int zCn, .ref aPi, .int zPc, .ref aLn, .int zTo])), (aPi, .inl ((cs 2), 4, .inr (.inr (.inr (.inr fPi))))), (pa, .inr (1, [.int zSl, .ref bLG, .ref bLS, .int zLy, .int zGr, .int (zTk + 1), .int (zGt + (tkG zSl zTk fLG zLy 20 0 0)), .int (tkG zSl zTk fLG zLy 20 0 0), .ref bLt, .ref bGS, .ref bGG, .ref bES, .ref bEG])), (bLG, .inl ((cs 0), 20, .inl fLG)), (bLS, .inl ((cs 0), 80, .inl fLS)), (bLt, .inl ((cs 1), 4, .inr (.inl (tkS zSl zTk fLG fLS zLy 20 0 (cl4 fLt))))), (bGS, .inl ((cs 1), 4, .inr (.inl ((tnG (tkG zSl zTk fLG zLy 20 0 0) (tkS zSl zTk fLG fLS zLy 20 0 (cl4 fLt)) (fGS, fGG)).1)))), (bGG, .inl ((cs 0), 4, .inl ((tnG (tkG zSl zTk fLG zLy 20 0 0) (tkS zSl zTk fLG fLS zLy 20 0 (cl4 fLt)) (fGS, fGG)).2))), (bES, .inl ((cs 1), 4, .inr (.inl ((tnE (tkG zSl zTk fLG zLy 20 0 0) (tkS zSl zTk fLG fLS zLy 20 0 (cl4 fLt)) (fES, fEG)).1)))), (bEG, .inl ((cs 0), 4, .inl ((tnE (tkG zSl zTk fLG zLy 20 0 0) (tkS zSl zTk fLG fLS zLy 20 0 (cl4 fLt)) (fES, fEG)).2)))] := hD
      refine lv_aload_n hx hb d_BR_slice_48 rfl (lv_at hl 0 rfl) ?_
      refine va_getN (D := (dC, dI)) (ci := 1) (v := .int (tkG zSl zTk fLG zLy 20 0 0)) (C := R_PI) (T := F_PI) (N := 13) hx hb hG i_PI hown hK hP 2 rfl rfl 7 (by decide) (va_Nw.use rfl (hCx.2.1 _ vq_nf4)) (fun _ h9 => h9) rfl d_BR_slice_49 ?_
      refine vx_ret ?_
      refine W.widen (k := 1) (n := 6) (Nat.le_of_ble_eq_true rfl) (Nat.le_of_ble_eq_true rfl) ?_
      have hP9 : va_P (dC, dI) vq_cl [(h0, .inr (0, [.ref aMo, .ref aSh, .ref aLa, .ref aDy, .ref aMa, .ref aKi, .int zCn, .ref aPi, .int zPc, .ref aLn, .int zTo])), (aPi, .inl ((cs 2), 4, .inr (.inr (.inr (.inr fPi))))), (pa, .inr (1, [.int zSl, .ref bLG, .ref bLS, .int zLy, .int zGr, .int (zTk + 1), .int (zGt + (tkG zSl zTk fLG zLy 20 0 0)), .int (tkG zSl zTk fLG zLy 20 0 0), .ref bLt, .ref bGS, .ref bGG, .ref bES, .ref bEG])), (bLG, .inl ((cs 0), 20, .inl fLG)), (bLS, .inl ((cs 0), 80, .inl fLS)), (bLt, .inl ((cs 1), 4, .inr (.inl (tkS zSl zTk fLG fLS zLy 20 0 (cl4 fLt))))), (bGS, .inl ((cs 1), 4, .inr (.inl ((tnG (tkG zSl zTk fLG zLy 20 0 0) (tkS zSl zTk fLG fLS zLy 20 0 (cl4 fLt)) (fGS, fGG)).1)))), (bGG, .inl ((cs 0), 4, .inl ((tnG (tkG zSl zTk fLG zLy 20 0 0) (tkS zSl zTk fLG fLS zLy 20 0 (cl4 fLt)) (fGS, fGG)).2))), (bES, .inl ((cs 1), 4, .inr (.inl ((tnE (tkG zSl zTk fLG zLy 20 0 0) (tkS zSl zTk fLG fLS zLy 20 0 (cl4 fLt)) (fES, fEG)).1)))), (bEG, .inl ((cs 0), 4, .inl ((tnE (tkG zSl zTk fLG zLy 20 0 0) (tkS zSl zTk fLG fLS zLy 20 0 (cl4 fLt)) (fES, fEG)).2)))] _ := hP.sub [0, 1, 2, 3, 4, 5, 6, 7, 8, 9] rfl
      have hD9 : va_D A [(h0, .inr (0, [.ref aMo, .ref aSh, .ref aLa, .ref aDy, .ref aMa, .ref aKi, .int zCn, .ref aPi, .int zPc, .ref aLn, .int zTo])), (aPi, .inl ((cs 2), 4, .inr (.inr (.inr (.inr fPi))))), (pa, .inr (1, [.int zSl, .ref bLG, .ref bLS, .int zLy, .int zGr, .int (zTk + 1), .int (zGt + (tkG zSl zTk fLG zLy 20 0 0)), .int (tkG zSl zTk fLG zLy 20 0 0), .ref bLt, .ref bGS, .ref bGG, .ref bES, .ref bEG])), (bLG, .inl ((cs 0), 20, .inl fLG)), (bLS, .inl ((cs 0), 80, .inl fLS)), (bLt, .inl ((cs 1), 4, .inr (.inl (tkS zSl zTk fLG fLS zLy 20 0 (cl4 fLt))))), (bGS, .inl ((cs 1), 4, .inr (.inl ((tnG (tkG zSl zTk fLG zLy 20 0 0) (tkS zSl zTk fLG fLS zLy 20 0 (cl4 fLt)) (fGS, fGG)).1)))), (bGG, .inl ((cs 0), 4, .inl ((tnG (tkG zSl zTk fLG zLy 20 0 0) (tkS zSl zTk fLG fLS zLy 20 0 (cl4 fLt)) (fGS, fGG)).2))), (bES, .inl ((cs 1), 4, .inr (.inl ((tnE (tkG zSl zTk fLG zLy 20 0 0) (tkS zSl zTk fLG fLS zLy 20 0 (cl4 fLt)) (fES, fEG)).1)))), (bEG, .inl ((cs 0), 4, .inl ((tnE (tkG zSl zTk fLG zLy 20 0 0) (tkS zSl zTk fLG fLS zLy 20 0 (cl4 fLt)) (fES, fEG)).2)))] := hD.sub [0, 1, 2, 3, 4, 5, 6, 7, 8, 9] (by decide) rfl
      exact W.iret (v := (tkG zSl zTk fLG zLy 20 0 0)) hx hb hr (fun t ht hW => ⟨⟨(tkG zSl zTk fLG zLy 20 0 0), (), rfl, ⟨rfl, by simp only [X_slice, if_neg c_10, if_pos c_31]⟩, ⟨by rw [ht]; exact hP9, hD9⟩⟩, hS.F ht⟩) hS.2.2 d_BR_slice_52
    · skip
      exact vq_thr hx hb hlT hown hG hCx hA vq_tw11 hS (by rw [hml]; exact hl.1) d_BR_slice_34 d_BR_slice_37 d_BR_slice_38 d_BR_slice_40 d_BR_slice_43 htb hlocks (Nat.le_of_ble_eq_true rfl) (Nat.le_of_ble_eq_true rfl) (Nat.le_of_ble_eq_true rfl) (Nat.le_of_ble_eq_true rfl) (by simp only [X_slice, if_neg c_10, if_neg c_31]) (Nat.le_of_ble_eq_true rfl) (Nat.le_of_ble_eq_true rfl)
  · skip
    exact vq_thr hx hb hlT hown hG hCx hA vq_tw12 hS (by rw [hml]; exact hl.1) d_BR_slice_13 d_BR_slice_16 d_BR_slice_17 d_BR_slice_19 d_BR_slice_22 htb hlocks (Nat.le_of_ble_eq_true rfl) (Nat.le_of_ble_eq_true rfl) (Nat.le_of_ble_eq_true rfl) (Nat.le_of_ble_eq_true rfl) (by simp only [X_slice, if_pos c_10]) (Nat.le_of_ble_eq_true rfl) (Nat.le_of_ble_eq_true rfl)
set_option maxHeartbeats 4000000 in
set_option maxRecDepth 100000 in
/-- share, no such pile -/
theorem c_share_bad (l : Launch) (hlT : l.stackTraces = false) (dC : Nat → ClassId) (dI : Nat → Nat → Nat) (cs : Nat → ClassId) (sz : Nat) (h0 : Nat) (aMo : Nat) (aSh : Nat) (aLa : Nat) (aDy : Nat) (aMa : Nat) (aKi : Nat) (aPi : Nat) (aLn : Nat) (zCn : Int32) (zPc : Int32) (zTo : Int32) (x : Int32) (k : Int32) (q : Int32) (hi : okP x → zPc ≤ x) : vx_Met l y_BR_share w_BR_share ({ frames := 7, cells := 1, slots := 6, locals := 104 }) (vq_PreR (dC, dI) cs [(h0, .inr (0, [.ref aMo, .ref aSh, .ref aLa, .ref aDy, .ref aMa, .ref aKi, .int zCn, .ref aPi, .int zPc, .ref aLn, .int zTo]))] sz [.ref h0, .int x, .int k, .int q]) (va_Qv (fun (_ : Unit) => False) (fun _ _ => True) (va_A [] sz)) (vq_X (fun E => E = xI) sz) 1 6 (va_A [] sz) := by
  refine vx_ofW (cc := b_BR_share) (maxL := 5) (ret := (some .long)) (by decide) rfl ?_
  intro p e s m args below meth c s₁ B hml htb hv
  obtain ⟨rfl, hsz, hP, hCx⟩ := hv
  have hx := B.exec
  have hb := B.bytes
  have hr := B.returns
  have hG := vq_hG (atoms_spec (ws := w_BR_share) B.pre)
  have hown : s.vm.findClass R_BR = some m.cls := findClass_of_methodNamed B.named
  have hlocks := B.notSynchronized
  subst hsz
  have hK := hCx.1
  have hA : ∀ q : Nat, s.heap.size ≤ q → va_A [] s.heap.size q := fun q h => Or.inr h
  have hA0 : ∀ q : Nat, s.heap.size ≤ q → va_A [] s.heap.size q := fun q h => Or.inr h
  have hS : va_S (va_A [] s.heap.size) s.heap s.heap [] := va_S.rf
  have hl := lv_entry ([.ref h0, .int x, .int k, .int q]) (n := 5) (Nat.le_of_ble_eq_true rfl)
  rw [lg_entry_eq]
  generalize (lg_sl ([.ref h0, .int x, .int k, .int q]) ++ List.replicate (5 - (lg_sl ([.ref h0, .int x, .int k, .int q])).length) Slot.unset).toArray = ls at hl ⊢
  have hl : lv_has ls 5 [(0, .ref h0), (1, .int x), (2, .int k), (3, .int q)] := hl
  have hP : va_P (dC, dI) vq_cl [(h0, .inr (0, [.ref aMo, .ref aSh, .ref aLa, .ref aDy, .ref aMa, .ref aKi, .int zCn, .ref aPi, .int zPc, .ref aLn, .int zTo]))] s.heap := hP
  refine lv_aload_n hx hb d_BR_share_0 rfl (lv_at hl 0 rfl) ?_
  refine lv_iload_n hx hb d_BR_share_1 rfl (lv_at hl 1 rfl) ?_
  refine mx_rv (vx_runV (As := [.int x]) (rest := []) ⟨hx, hb, hml, hown, hG⟩ (c_needPile_bad l hlT dC dI cs _ h0 aMo aSh aLa aDy aMa aKi aPi aLn zCn zPc zTo x hi) (cwV 1 hG (vq_gV vq_t300 vq_t302 vq_s2 vq_t1 vq_t303) rfl rfl rfl (by decide +kernel) ⟨Nat.le_of_ble_eq_true rfl, Nat.le_of_ble_eq_true rfl⟩) (vq_preVr (wc := [(h0, .inr (0, [.ref aMo, .ref aSh, .ref aLa, .ref aDy, .ref aMa, .ref aKi, .int zCn, .ref aPi, .int zPc, .ref aLn, .int zTo]))]) (va_recv hK hP (ci := 0) (q0 := 0) rfl rfl) hCx hP (vq_wk hS hA) hA [0] rfl) rfl rfl hl.1 rfl (lv_room (Nat.le_of_ble_eq_true rfl)) d_BR_share_2 ⟨Nat.le_of_ble_eq_true rfl, Nat.le_of_ble_eq_true rfl⟩) hP hS hA0 (fun E ce q9 H locs x_2 hP hS h91 h92 h93 => vx_out (fun x h => (htb x h).elim) hlocks h91 h92 h93 (fun t ht hvm => vq_Xof x_2 (hS.F ht)) (vq_wk hS hA).2.2 (Nat.le_of_ble_eq_true rfl) (Nat.le_of_ble_eq_true rfl)) (fun H locs w_2 hP hS => ?_)
  exact w_2.elim
set_option maxHeartbeats 4000000 in
set_option maxRecDepth 100000 in
/-- share -/
theorem c_share (l : Launch) (hlT : l.stackTraces = false) (dC : Nat → ClassId) (dI : Nat → Nat → Nat) (cs : Nat → ClassId) (sz : Nat) (h0 : Nat) (aMo : Nat) (aSh : Nat) (aLa : Nat) (aDy : Nat) (aMa : Nat) (aKi : Nat) (aPi : Nat) (aLn : Nat) (zCn : Int32) (zPc : Int32) (zTo : Int32) (fPi : Nat → Option Nat) (pa : Nat) (bLG : Nat) (bLS : Nat) (bLt : Nat) (bGS : Nat) (bGG : Nat) (bES : Nat) (bEG : Nat) (zSl : Int32) (zLy : Int32) (zGr : Int32) (zTk : Int32) (zGt : Int32) (zLt : Int32) (fLt : Nat → Int64) (x : Int32) (k : Int32) (q : Int32) (hi : okP x) (hf : fPi x.toNatClampNeg = some pa) (hz : ¬ zPc ≤ x) : vx_Met l y_BR_share w_BR_share ({ frames := 7, cells := 4, slots := 24, locals := 102 }) (vq_PreR (dC, dI) cs [(h0, .inr (0, [.ref aMo, .ref aSh, .ref aLa, .ref aDy, .ref aMa, .ref aKi, .int zCn, .ref aPi, .int zPc, .ref aLn, .int zTo])), (aPi, .inl ((cs 2), 4, .inr (.inr (.inr (.inr fPi))))), (pa, .inr (1, [.int zSl, .ref bLG, .ref bLS, .int zLy, .int zGr, .int zTk, .int zGt, .int zLt, .ref bLt, .ref bGS, .ref bGG, .ref bES, .ref bEG])), (bLt, .inl ((cs 1), 4, .inr (.inl fLt)))] sz [.ref h0, .int x, .int k, .int q]) (va_Ql (fun (r : Int64) (_ : Unit) => r = lowF (fLt k.toNatClampNeg) (zLt.toInt64) q ∧ X_share k q zTk zLt = none) (fun _ _ => True) (va_A [] sz)) (vq_X (fun E => X_share k q zTk zLt = some E) sz) 4 24 (va_A [] sz) := by
  refine vx_ofW (cc := b_BR_share) (maxL := 5) (ret := (some .long)) (by decide) rfl ?_
  intro p e s m args below meth c s₁ B hml htb hv
  obtain ⟨rfl, hsz, hP, hCx⟩ := hv
  have hx := B.exec
  have hb := B.bytes
  have hr := B.returns
  have hG := vq_hG (atoms_spec (ws := w_BR_share) B.pre)
  have hown : s.vm.findClass R_BR = some m.cls := findClass_of_methodNamed B.named
  have hlocks := B.notSynchronized
  subst hsz
  have hK := hCx.1
  have hA : ∀ q : Nat, s.heap.size ≤ q → va_A [] s.heap.size q := fun q h => Or.inr h
  have hA0 : ∀ q : Nat, s.heap.size ≤ q → va_A [] s.heap.size q := fun q h => Or.inr h
  have hS : va_S (va_A [] s.heap.size) s.heap s.heap [] := va_S.rf
  have hl := lv_entry ([.ref h0, .int x, .int k, .int q]) (n := 5) (Nat.le_of_ble_eq_true rfl)
  rw [lg_entry_eq]
  generalize (lg_sl ([.ref h0, .int x, .int k, .int q]) ++ List.replicate (5 - (lg_sl ([.ref h0, .int x, .int k, .int q])).length) Slot.unset).toArray = ls at hl ⊢
  have hl : lv_has ls 5 [(0, .ref h0), (1, .int x), (2, .int k), (3, .int q)] := hl
  have hP : va_P (dC, dI) vq_cl [(h0, .inr (0, [.ref aMo, .ref aSh, .ref aLa, .ref aDy, .ref aMa, .ref aKi, .int zCn, .ref aPi, .int zPc, .ref aLn, .int zTo])), (aPi, .inl ((cs 2), 4, .inr (.inr (.inr (.inr fPi))))), (pa, .inr (1, [.int zSl, .ref bLG, .ref bLS, .int zLy, .int zGr, .int zTk, .int zGt, .int zLt, .ref bLt, .ref bGS, .ref bGG, .ref bES, .ref bEG])), (bLt, .inl ((cs 1), 4, .inr (.inl fLt)))] s.heap := hP
  refine lv_aload_n hx hb d_BR_share_0 rfl (lv_at hl 0 rfl) ?_
  refine lv_iload_n hx hb d_BR_share_1 rfl (lv_at hl 1 rfl) ?_
  refine mk_rr (va_runV (As := [.int x]) (rest := []) ⟨hx, hb, hml, hown, hG⟩ (c_needPile_ok l dC dI cs _ h0 aMo aSh aLa aDy aMa aKi aPi aLn zCn zPc zTo fPi x pa hi hf hz) (cwV 1 hG (vq_gV vq_t300 vq_t302 vq_s2 vq_t1 vq_t303) rfl rfl rfl (by decide +kernel) ⟨Nat.le_of_ble_eq_true rfl, Nat.le_of_ble_eq_true rfl⟩) (vq_preVr (wc := [(h0, .inr (0, [.ref aMo, .ref aSh, .ref aLa, .ref aDy, .ref aMa, .ref aKi, .int zCn, .ref aPi, .int zPc, .ref aLn, .int zTo])), (aPi, .inl ((cs 2), 4, .inr (.inr (.inr (.inr fPi)))))]) (va_recv hK hP (ci := 0) (q0 := 0) rfl rfl) hCx hP (vq_wk hS hA) hA [0, 1] rfl) rfl rfl hl.1 rfl (lv_room (Nat.le_of_ble_eq_true rfl)) d_BR_share_2 ⟨Nat.le_of_ble_eq_true rfl, Nat.le_of_ble_eq_true rfl⟩) hP hS hA0 (fun r_2 H locs w_2 hP hS => ?_)
  rw [w_2]
  refine lv_astore (lv' := [(4, .ref pa), (0, .ref h0), (1, .int x), (2, .int k), (3, .int q)]) hx hb d_BR_share_5 hl (by decide) rfl (fun ls hl => ?_)
  refine lv_iload_n hx hb d_BR_share_7 rfl (lv_at hl 3 rfl) ?_
  refine mx_rv (vx_runS (As := [.int k]) (rest := []) ⟨hx, hb, hml, hown, hG⟩ (c_needElement l hlT dC dI cs _ k) (cwS 1 hG (vq_gS vq_t241 vq_t242 vq_t1 vq_t243) rfl rfl rfl (by decide +kernel) ⟨Nat.le_of_ble_eq_true rfl, Nat.le_of_ble_eq_true rfl⟩) (vq_preSr (wc := []) hCx hP (vq_wk hS hA) hA [] rfl) rfl rfl hl.1 rfl (lv_room (Nat.le_of_ble_eq_true rfl)) d_BR_share_8 ⟨Nat.le_of_ble_eq_true rfl, Nat.le_of_ble_eq_true rfl⟩) hP hS hA0 (fun E ce q9 H locs x_8 hP hS h91 h92 h93 => vx_out (fun x h => (htb x h).elim) hlocks h91 h92 h93 (fun t ht hvm => vq_Xof (by obtain ⟨rfl, y9⟩ := x_8; simp only [X_share, if_neg y9]) (hS.F ht)) (vq_wk hS hA).2.2 (Nat.le_of_ble_eq_true rfl) (Nat.le_of_ble_eq_true rfl)) (fun H locs w_8 hP hS => ?_)
  refine W.widen (k := 1) (n := 6) (Nat.le_of_ble_eq_true rfl) (Nat.le_of_ble_eq_true rfl) ?_
  refine lv_iload_n hx hb d_BR_share_11 rfl (lv_at hl 4 rfl) ?_
  refine mx_rv (vx_runS (As := [.int q]) (rest := []) ⟨hx, hb, hml, hown, hG⟩ (c_needPart l hlT dC dI cs _ q) (cwS 1 hG (vq_gS vq_t367 vq_t368 vq_t1 vq_t369) rfl rfl rfl (by decide +kernel) ⟨Nat.le_of_ble_eq_true rfl, Nat.le_of_ble_eq_true rfl⟩) (vq_preSr (wc := []) hCx hP (vq_wk hS hA) hA [] rfl) rfl rfl hl.1 rfl (lv_room (Nat.le_of_ble_eq_true rfl)) d_BR_share_12 ⟨Nat.le_of_ble_eq_true rfl, Nat.le_of_ble_eq_true rfl⟩) hP hS hA0 (fun E ce q9 H locs x_12 hP hS h91 h92 h93 => vx_out (fun x h => (htb x h).elim) hlocks h91 h92 h93 (fun t ht hvm => vq_Xof (by obtain ⟨rfl, y9⟩ := x_12; simp only [X_share, if_pos w_8, if_neg y9]) (hS.F ht)) (vq_wk hS hA).2.2 (Nat.le_of_ble_eq_true rfl) (Nat.le_of_ble_eq_true rfl)) (fun H locs w_12 hP hS => ?_)
  refine W.widen (k := 2) (n := 12) (Nat.le_of_ble_eq_true rfl) (Nat.le_of_ble_eq_true rfl) ?_
  refine lv_aload hx hb d_BR_share_15 (lv_at hl 0 rfl) ?_
  refine mx_rv (vx_runS (As := [.ref pa]) (rest := []) ⟨hx, hb, hml, hown, hG⟩ (c_needTaken l hlT dC dI cs _ pa bLG bLS bLt bGS bGG bES bEG zSl zLy zGr zTk zGt zLt) (cwS 1 hG (vq_gS vq_t371 vq_t372 vq_t1 vq_t373) rfl rfl rfl (by decide +kernel) ⟨Nat.le_of_ble_eq_true rfl, Nat.le_of_ble_eq_true rfl⟩) (vq_preSr (wc := [(pa, .inr (1, [.int zSl, .ref bLG, .ref bLS, .int zLy, .int zGr, .int zTk, .int zGt, .int zLt, .ref bLt, .ref bGS, .ref bGG, .ref bES, .ref bEG]))]) hCx hP (vq_wk hS hA) hA [2] rfl) rfl rfl hl.1 rfl (lv_room (Nat.le_of_ble_eq_true rfl)) d_BR_share_17 ⟨Nat.le_of_ble_eq_true rfl, Nat.le_of_ble_eq_true rfl⟩) hP hS hA0 (fun E ce q9 H locs x_17 hP hS h91 h92 h93 => vx_out (fun x h => (htb x h).elim) hlocks h91 h92 h93 (fun t ht hvm => vq_Xof (by obtain ⟨rfl, y9⟩ := x_17; simp only [X_share, if_pos w_8, if_pos w_12, if_neg y9]) (hS.F ht)) (vq_wk hS hA).2.2 (Nat.le_of_ble_eq_true rfl) (Nat.le_of_ble_eq_true rfl)) (fun H locs w_17 hP hS => ?_)
  refine W.widen (k := 3) (n := 18) (Nat.le_of_ble_eq_true rfl) (Nat.le_of_ble_eq_true rfl) ?_
  refine lv_aload hx hb d_BR_share_20 (lv_at hl 0 rfl) ?_
  refine va_getN (D := (dC, dI)) (ci := 1) (v := .int zLt) (C := R_PI) (T := F_PI) (N := 13) hx hb hG i_PI hown hK hP 2 rfl rfl 7 (by decide) (va_Nw.use rfl (hCx.2.1 _ vq_nf4)) (fun _ h9 => h9) rfl d_BR_share_22 ?_
  refine lv_if_ne (tgt := 38) hx hb d_BR_share_25 (by decide) (fun c_25 => ?_) (fun c_25 => ?_)
  · skip
    refine lv_aload hx hb d_BR_share_38 (lv_at hl 0 rfl) ?_
    refine va_getN (D := (dC, dI)) (ci := 1) (v := .ref bLt) (C := R_PI) (T := F_PI) (N := 13) hx hb hG i_PI hown hK hP 2 rfl rfl 8 (by decide) (va_Nw.use rfl (hCx.2.1 _ vq_nf5)) (fun _ h9 => h9) rfl d_BR_share_40 ?_
    refine lv_iload_n hx hb d_BR_share_43 rfl (lv_at hl 3 rfl) ?_
    refine va_lald (D := (dC, dI)) hx hb hK hP 3 1 rfl rfl (vq_in 4 rfl w_8.1 w_8.2) d_BR_share_44 ?_
    refine lv_aload hx hb d_BR_share_45 (lv_at hl 0 rfl) ?_
    refine va_getN (D := (dC, dI)) (ci := 1) (v := .int zLt) (C := R_PI) (T := F_PI) (N := 13) hx hb hG i_PI hown hK hP 2 rfl rfl 7 (by decide) (va_Nw.use rfl (hCx.2.1 _ vq_nf4)) (fun _ h9 => h9) rfl d_BR_share_47 ?_
    refine lv_i2l hx hb d_BR_share_50 rfl ?_
    refine lv_iload_n hx hb d_BR_share_51 rfl (lv_at hl 4 rfl) ?_
    refine mk_rl (va_runS (As := [.long (fLt k.toNatClampNeg), .long zLt.toInt64, .int q]) (rest := []) ⟨hx, hb, hml, hown, hG⟩ (c_lowestTerms l dC dI cs _ (fLt k.toNatClampNeg) zLt.toInt64 q) (cwS 3 hG (vq_gS vq_t376 vq_t377 vq_t1 vq_t378) rfl rfl rfl (by decide +kernel) ⟨Nat.le_of_ble_eq_true rfl, Nat.le_of_ble_eq_true rfl⟩) (vq_preSr (wc := []) hCx hP (vq_wk hS hA) hA [] rfl) rfl rfl hl.1 rfl (lv_room (Nat.le_of_ble_eq_true rfl)) d_BR_share_52 ⟨Nat.le_of_ble_eq_true rfl, Nat.le_of_ble_eq_true rfl⟩) hP hS hA0 (fun r_52 H locs w_52 hP hS => ?_)
    subst w_52
    refine vx_ret ?_
    refine W.widen (k := 4) (n := 24) (Nat.le_of_ble_eq_true rfl) (Nat.le_of_ble_eq_true rfl) ?_
    exact W.lret (v := lowF (fLt k.toNatClampNeg) zLt.toInt64 q) hx hb hr (fun t ht hW => ⟨⟨lowF (fLt k.toNatClampNeg) zLt.toInt64 q, (), rfl, ⟨by rfl, by simp only [X_share, if_pos w_8, if_pos w_12, if_pos w_17, if_neg c_25]⟩, trivial⟩, hS.F ht⟩) hS.2.2 d_BR_share_55
  · skip
    exact vq_thr hx hb hlT hown hG hCx hA vq_tw13 hS (by rw [hml]; exact hl.1) d_BR_share_28 d_BR_share_31 d_BR_share_32 d_BR_share_34 d_BR_share_37 htb hlocks (Nat.le_of_ble_eq_true rfl) (Nat.le_of_ble_eq_true rfl) (Nat.le_of_ble_eq_true rfl) (Nat.le_of_ble_eq_true rfl) (by simp only [X_share, if_pos w_8, if_pos w_12, if_pos w_17, if_pos c_25]) (Nat.le_of_ble_eq_true rfl) (Nat.le_of_ble_eq_true rfl)
set_option maxHeartbeats 4000000 in
set_option maxRecDepth 100000 in
/-- basicity, no such pile -/
theorem c_basicity_bad (l : Launch) (hlT : l.stackTraces = false) (dC : Nat → ClassId) (dI : Nat → Nat → Nat) (cs : Nat → ClassId) (sz : Nat) (h0 : Nat) (aMo : Nat) (aSh : Nat) (aLa : Nat) (aDy : Nat) (aMa : Nat) (aKi : Nat) (aPi : Nat) (aLn : Nat) (zCn : Int32) (zPc : Int32) (zTo : Int32) (x : Int32) (q : Int32) (hi : okP x → zPc ≤ x) : vx_Met l y_BR_basicity w_BR_basicity ({ frames := 7, cells := 1, slots := 6, locals := 104 }) (vq_PreR (dC, dI) cs [(h0, .inr (0, [.ref aMo, .ref aSh, .ref aLa, .ref aDy, .ref aMa, .ref aKi, .int zCn, .ref aPi, .int zPc, .ref aLn, .int zTo]))] sz [.ref h0, .int x, .int q]) (va_Qv (fun (_ : Unit) => False) (fun _ _ => True) (va_A [] sz)) (vq_X (fun E => E = xI) sz) 1 6 (va_A [] sz) := by
  refine vx_ofW (cc := b_BR_basicity) (maxL := 4) (ret := (some .long)) (by decide) rfl ?_
  intro p e s m args below meth c s₁ B hml htb hv
  obtain ⟨rfl, hsz, hP, hCx⟩ := hv
  have hx := B.exec
  have hb := B.bytes
  have hr := B.returns
  have hG := vq_hG (atoms_spec (ws := w_BR_basicity) B.pre)
  have hown : s.vm.findClass R_BR = some m.cls := findClass_of_methodNamed B.named
  have hlocks := B.notSynchronized
  subst hsz
  have hK := hCx.1
  have hA : ∀ q : Nat, s.heap.size ≤ q → va_A [] s.heap.size q := fun q h => Or.inr h
  have hA0 : ∀ q : Nat, s.heap.size ≤ q → va_A [] s.heap.size q := fun q h => Or.inr h
  have hS : va_S (va_A [] s.heap.size) s.heap s.heap [] := va_S.rf
  have hl := lv_entry ([.ref h0, .int x, .int q]) (n := 4) (Nat.le_of_ble_eq_true rfl)
  rw [lg_entry_eq]
  generalize (lg_sl ([.ref h0, .int x, .int q]) ++ List.replicate (4 - (lg_sl ([.ref h0, .int x, .int q])).length) Slot.unset).toArray = ls at hl ⊢
  have hl : lv_has ls 4 [(0, .ref h0), (1, .int x), (2, .int q)] := hl
  have hP : va_P (dC, dI) vq_cl [(h0, .inr (0, [.ref aMo, .ref aSh, .ref aLa, .ref aDy, .ref aMa, .ref aKi, .int zCn, .ref aPi, .int zPc, .ref aLn, .int zTo]))] s.heap := hP
  refine lv_aload_n hx hb d_BR_basicity_0 rfl (lv_at hl 0 rfl) ?_
  refine lv_iload_n hx hb d_BR_basicity_1 rfl (lv_at hl 1 rfl) ?_
  refine mx_rv (vx_runV (As := [.int x]) (rest := []) ⟨hx, hb, hml, hown, hG⟩ (c_needPile_bad l hlT dC dI cs _ h0 aMo aSh aLa aDy aMa aKi aPi aLn zCn zPc zTo x hi) (cwV 1 hG (vq_gV vq_t300 vq_t302 vq_s2 vq_t1 vq_t303) rfl rfl rfl (by decide +kernel) ⟨Nat.le_of_ble_eq_true rfl, Nat.le_of_ble_eq_true rfl⟩) (vq_preVr (wc := [(h0, .inr (0, [.ref aMo, .ref aSh, .ref aLa, .ref aDy, .ref aMa, .ref aKi, .int zCn, .ref aPi, .int zPc, .ref aLn, .int zTo]))]) (va_recv hK hP (ci := 0) (q0 := 0) rfl rfl) hCx hP (vq_wk hS hA) hA [0] rfl) rfl rfl hl.1 rfl (lv_room (Nat.le_of_ble_eq_true rfl)) d_BR_basicity_2 ⟨Nat.le_of_ble_eq_true rfl, Nat.le_of_ble_eq_true rfl⟩) hP hS hA0 (fun E ce q9 H locs x_2 hP hS h91 h92 h93 => vx_out (fun x h => (htb x h).elim) hlocks h91 h92 h93 (fun t ht hvm => vq_Xof x_2 (hS.F ht)) (vq_wk hS hA).2.2 (Nat.le_of_ble_eq_true rfl) (Nat.le_of_ble_eq_true rfl)) (fun H locs w_2 hP hS => ?_)
  exact w_2.elim
set_option maxHeartbeats 4000000 in
set_option maxRecDepth 100000 in
/-- basicity -/
theorem c_basicity (l : Launch) (hlT : l.stackTraces = false) (dC : Nat → ClassId) (dI : Nat → Nat → Nat) (cs : Nat → ClassId) (sz : Nat) (h0 : Nat) (aMo : Nat) (aSh : Nat) (aLa : Nat) (aDy : Nat) (aMa : Nat) (aKi : Nat) (aPi : Nat) (aLn : Nat) (zCn : Int32) (zPc : Int32) (zTo : Int32) (fPi : Nat → Option Nat) (pa : Nat) (bLG : Nat) (bLS : Nat) (bLt : Nat) (bGS : Nat) (bGG : Nat) (bES : Nat) (bEG : Nat) (zSl : Int32) (zLy : Int32) (zGr : Int32) (zTk : Int32) (zGt : Int32) (zLt : Int32) (fLt : Nat → Int64) (x : Int32) (q : Int32) (hi : okP x) (hf : fPi x.toNatClampNeg = some pa) (hz : ¬ zPc ≤ x) : vx_Met l y_BR_basicity w_BR_basicity ({ frames := 7, cells := 3, slots := 18, locals := 102 }) (vq_PreR (dC, dI) cs [(h0, .inr (0, [.ref aMo, .ref aSh, .ref aLa, .ref aDy, .ref aMa, .ref aKi, .int zCn, .ref aPi, .int zPc, .ref aLn, .int zTo])), (aPi, .inl ((cs 2), 4, .inr (.inr (.inr (.inr fPi))))), (pa, .inr (1, [.int zSl, .ref bLG, .ref bLS, .int zLy, .int zGr, .int zTk, .int zGt, .int zLt, .ref bLt, .ref bGS, .ref bGG, .ref bES, .ref bEG])), (bLt, .inl ((cs 1), 4, .inr (.inl fLt)))] sz [.ref h0, .int x, .int q]) (va_Ql (fun (r : Int64) (_ : Unit) => r = lowF (fLt (0 : Int32).toNatClampNeg) (fLt (1 : Int32).toNatClampNeg) q ∧ X_basicity q zTk (fLt (1 : Int32).toNatClampNeg) = none) (fun _ _ => True) (va_A [] sz)) (vq_X (fun E => X_basicity q zTk (fLt (1 : Int32).toNatClampNeg) = some E) sz) 3 18 (va_A [] sz) := by
  refine vx_ofW (cc := b_BR_basicity) (maxL := 4) (ret := (some .long)) (by decide) rfl ?_
  intro p e s m args below meth c s₁ B hml htb hv
  obtain ⟨rfl, hsz, hP, hCx⟩ := hv
  have hx := B.exec
  have hb := B.bytes
  have hr := B.returns
  have hG := vq_hG (atoms_spec (ws := w_BR_basicity) B.pre)
  have hown : s.vm.findClass R_BR = some m.cls := findClass_of_methodNamed B.named
  have hlocks := B.notSynchronized
  subst hsz
  have hK := hCx.1
  have hA : ∀ q : Nat, s.heap.size ≤ q → va_A [] s.heap.size q := fun q h => Or.inr h
  have hA0 : ∀ q : Nat, s.heap.size ≤ q → va_A [] s.heap.size q := fun q h => Or.inr h
  have hS : va_S (va_A [] s.heap.size) s.heap s.heap [] := va_S.rf
  have hl := lv_entry ([.ref h0, .int x, .int q]) (n := 4) (Nat.le_of_ble_eq_true rfl)
  rw [lg_entry_eq]
  generalize (lg_sl ([.ref h0, .int x, .int q]) ++ List.replicate (4 - (lg_sl ([.ref h0, .int x, .int q])).length) Slot.unset).toArray = ls at hl ⊢
  have hl : lv_has ls 4 [(0, .ref h0), (1, .int x), (2, .int q)] := hl
  have hP : va_P (dC, dI) vq_cl [(h0, .inr (0, [.ref aMo, .ref aSh, .ref aLa, .ref aDy, .ref aMa, .ref aKi, .int zCn, .ref aPi, .int zPc, .ref aLn, .int zTo])), (aPi, .inl ((cs 2), 4, .inr (.inr (.inr (.inr fPi))))), (pa, .inr (1, [.int zSl, .ref bLG, .ref bLS, .int zLy, .int zGr, .int zTk, .int zGt, .int zLt, .ref bLt, .ref bGS, .ref bGG, .ref bES, .ref bEG])), (bLt, .inl ((cs 1), 4, .inr (.inl fLt)))] s.heap := hP
  refine lv_aload_n hx hb d_BR_basicity_0 rfl (lv_at hl 0 rfl) ?_
  refine lv_iload_n hx hb d_BR_basicity_1 rfl (lv_at hl 1 rfl) ?_
  refine mk_rr (va_runV (As := [.int x]) (rest := []) ⟨hx, hb, hml, hown, hG⟩ (c_needPile_ok l dC dI cs _ h0 aMo aSh aLa aDy aMa aKi aPi aLn zCn zPc zTo fPi x pa hi hf hz) (cwV 1 hG (vq_gV vq_t300 vq_t302 vq_s2 vq_t1 vq_t303) rfl rfl rfl (by decide +kernel) ⟨Nat.le_of_ble_eq_true rfl, Nat.le_of_ble_eq_true rfl⟩) (vq_preVr (wc := [(h0, .inr (0, [.ref aMo, .ref aSh, .ref aLa, .ref aDy, .ref aMa, .ref aKi, .int zCn, .ref aPi, .int zPc, .ref aLn, .int zTo])), (aPi, .inl ((cs 2), 4, .inr (.inr (.inr (.inr fPi)))))]) (va_recv hK hP (ci := 0) (q0 := 0) rfl rfl) hCx hP (vq_wk hS hA) hA [0, 1] rfl) rfl rfl hl.1 rfl (lv_room (Nat.le_of_ble_eq_true rfl)) d_BR_basicity_2 ⟨Nat.le_of_ble_eq_true rfl, Nat.le_of_ble_eq_true rfl⟩) hP hS hA0 (fun r_2 H locs w_2 hP hS => ?_)
  rw [w_2]
  refine lv_astore_n (lv' := [(3, .ref pa), (0, .ref h0), (1, .int x), (2, .int q)]) hx hb d_BR_basicity_5 rfl hl (by decide) rfl (fun ls hl => ?_)
  refine lv_iload_n hx hb d_BR_basicity_6 rfl (lv_at hl 3 rfl) ?_
  refine mx_rv (vx_runS (As := [.int q]) (rest := []) ⟨hx, hb, hml, hown, hG⟩ (c_needPart l hlT dC dI cs _ q) (cwS 1 hG (vq_gS vq_t367 vq_t368 vq_t1 vq_t369) rfl rfl rfl (by decide +kernel) ⟨Nat.le_of_ble_eq_true rfl, Nat.le_of_ble_eq_true rfl⟩) (vq_preSr (wc := []) hCx hP (vq_wk hS hA) hA [] rfl) rfl rfl hl.1 rfl (lv_room (Nat.le_of_ble_eq_true rfl)) d_BR_basicity_7 ⟨Nat.le_of_ble_eq_true rfl, Nat.le_of_ble_eq_true rfl⟩) hP hS hA0 (fun E ce q9 H locs x_7 hP hS h91 h92 h93 => vx_out (fun x h => (htb x h).elim) hlocks h91 h92 h93 (fun t ht hvm => vq_Xof (by obtain ⟨rfl, y9⟩ := x_7; simp only [X_basicity, if_neg y9]) (hS.F ht)) (vq_wk hS hA).2.2 (Nat.le_of_ble_eq_true rfl) (Nat.le_of_ble_eq_true rfl)) (fun H locs w_7 hP hS => ?_)
  refine W.widen (k := 1) (n := 6) (Nat.le_of_ble_eq_true rfl) (Nat.le_of_ble_eq_true rfl) ?_
  refine lv_aload_n hx hb d_BR_basicity_10 rfl (lv_at hl 0 rfl) ?_
  refine mx_rv (vx_runS (As := [.ref pa]) (rest := []) ⟨hx, hb, hml, hown, hG⟩ (c_needTaken l hlT dC dI cs _ pa bLG bLS bLt bGS bGG bES bEG zSl zLy zGr zTk zGt zLt) (cwS 1 hG (vq_gS vq_t371 vq_t372 vq_t1 vq_t373) rfl rfl rfl (by decide +kernel) ⟨Nat.le_of_ble_eq_true rfl, Nat.le_of_ble_eq_true rfl⟩) (vq_preSr (wc := [(pa, .inr (1, [.int zSl, .ref bLG, .ref bLS, .int zLy, .int zGr, .int zTk, .int zGt, .int zLt, .ref bLt, .ref bGS, .ref bGG, .ref bES, .ref bEG]))]) hCx hP (vq_wk hS hA) hA [2] rfl) rfl rfl hl.1 rfl (lv_room (Nat.le_of_ble_eq_true rfl)) d_BR_basicity_11 ⟨Nat.le_of_ble_eq_true rfl, Nat.le_of_ble_eq_true rfl⟩) hP hS hA0 (fun E ce q9 H locs x_11 hP hS h91 h92 h93 => vx_out (fun x h => (htb x h).elim) hlocks h91 h92 h93 (fun t ht hvm => vq_Xof (by obtain ⟨rfl, y9⟩ := x_11; simp only [X_basicity, if_pos w_7, if_neg y9]) (hS.F ht)) (vq_wk hS hA).2.2 (Nat.le_of_ble_eq_true rfl) (Nat.le_of_ble_eq_true rfl)) (fun H locs w_11 hP hS => ?_)
  refine W.widen (k := 2) (n := 12) (Nat.le_of_ble_eq_true rfl) (Nat.le_of_ble_eq_true rfl) ?_
  refine lv_aload_n hx hb d_BR_basicity_14 rfl (lv_at hl 0 rfl) ?_
  refine va_getN (D := (dC, dI)) (ci := 1) (v := .ref bLt) (C := R_PI) (T := F_PI) (N := 13) hx hb hG i_PI hown hK hP 2 rfl rfl 8 (by decide) (va_Nw.use rfl (hCx.2.1 _ vq_nf5)) (fun _ h9 => h9) rfl d_BR_basicity_15 ?_
  refine lv_iconst (v := 1) hx hb d_BR_basicity_18 (by decide) ?_
  refine va_lald (D := (dC, dI)) hx hb hK hP 3 1 rfl rfl (vq_in 4 rfl (by decide) (by decide)) d_BR_basicity_19 ?_
  refine lv_lconst (v := 0) hx hb d_BR_basicity_20 (by decide) ?_
  refine W.lcmp hx hb d_BR_basicity_21 ?_
  refine lv_if_ne (tgt := 35) hx hb d_BR_basicity_22 (by decide) (fun c_22 => ?_) (fun c_22 => ?_)
  · skip
    have c_22 := (not_congr (lg_cmp_eq (fLt (1 : Int32).toNatClampNeg) 0)).mp c_22
    refine lv_aload_n hx hb d_BR_basicity_35 rfl (lv_at hl 0 rfl) ?_
    refine va_getN (D := (dC, dI)) (ci := 1) (v := .ref bLt) (C := R_PI) (T := F_PI) (N := 13) hx hb hG i_PI hown hK hP 2 rfl rfl 8 (by decide) (va_Nw.use rfl (hCx.2.1 _ vq_nf5)) (fun _ h9 => h9) rfl d_BR_basicity_36 ?_
    refine lv_iconst (v := 0) hx hb d_BR_basicity_39 (by decide) ?_
    refine va_lald (D := (dC, dI)) hx hb hK hP 3 1 rfl rfl (vq_in 4 rfl (by decide) (by decide)) d_BR_basicity_40 ?_
    refine lv_aload_n hx hb d_BR_basicity_41 rfl (lv_at hl 0 rfl) ?_
    refine va_getN (D := (dC, dI)) (ci := 1) (v := .ref bLt) (C := R_PI) (T := F_PI) (N := 13) hx hb hG i_PI hown hK hP 2 rfl rfl 8 (by decide) (va_Nw.use rfl (hCx.2.1 _ vq_nf5)) (fun _ h9 => h9) rfl d_BR_basicity_42 ?_
    refine lv_iconst (v := 1) hx hb d_BR_basicity_45 (by decide) ?_
    refine va_lald (D := (dC, dI)) hx hb hK hP 3 1 rfl rfl (vq_in 4 rfl (by decide) (by decide)) d_BR_basicity_46 ?_
    refine lv_iload_n hx hb d_BR_basicity_47 rfl (lv_at hl 3 rfl) ?_
    refine mk_rl (va_runS (As := [.long (fLt (0 : Int32).toNatClampNeg), .long (fLt (1 : Int32).toNatClampNeg), .int q]) (rest := []) ⟨hx, hb, hml, hown, hG⟩ (c_lowestTerms l dC dI cs _ (fLt (0 : Int32).toNatClampNeg) (fLt (1 : Int32).toNatClampNeg) q) (cwS 3 hG (vq_gS vq_t376 vq_t377 vq_t1 vq_t378) rfl rfl rfl (by decide +kernel) ⟨Nat.le_of_ble_eq_true rfl, Nat.le_of_ble_eq_true rfl⟩) (vq_preSr (wc := []) hCx hP (vq_wk hS hA) hA [] rfl) rfl rfl hl.1 rfl (lv_room (Nat.le_of_ble_eq_true rfl)) d_BR_basicity_48 ⟨Nat.le_of_ble_eq_true rfl, Nat.le_of_ble_eq_true rfl⟩) hP hS hA0 (fun r_48 H locs w_48 hP hS => ?_)
    subst w_48
    refine vx_ret ?_
    refine W.widen (k := 3) (n := 18) (Nat.le_of_ble_eq_true rfl) (Nat.le_of_ble_eq_true rfl) ?_
    exact W.lret (v := lowF (fLt (0 : Int32).toNatClampNeg) (fLt (1 : Int32).toNatClampNeg) q) hx hb hr (fun t ht hW => ⟨⟨lowF (fLt (0 : Int32).toNatClampNeg) (fLt (1 : Int32).toNatClampNeg) q, (), rfl, ⟨rfl, by simp only [X_basicity, if_pos w_7, if_pos w_11, if_neg c_22]⟩, trivial⟩, hS.F ht⟩) hS.2.2 d_BR_basicity_51
  · skip
    have c_22 := (lg_cmp_eq (fLt (1 : Int32).toNatClampNeg) 0).mp c_22
    exact vq_thr hx hb hlT hown hG hCx hA vq_tw14 hS (by rw [hml]; exact hl.1) d_BR_basicity_25 d_BR_basicity_28 d_BR_basicity_29 d_BR_basicity_31 d_BR_basicity_34 htb hlocks (Nat.le_of_ble_eq_true rfl) (Nat.le_of_ble_eq_true rfl) (Nat.le_of_ble_eq_true rfl) (Nat.le_of_ble_eq_true rfl) (by simp only [X_basicity, if_pos w_7, if_pos w_11, if_pos c_22]) (Nat.le_of_ble_eq_true rfl) (Nat.le_of_ble_eq_true rfl)
set_option maxHeartbeats 4000000 in
set_option maxRecDepth 100000 in
/-- spread, no such pile -/
theorem c_spread_bad (l : Launch) (hlT : l.stackTraces = false) (dC : Nat → ClassId) (dI : Nat → Nat → Nat) (cs : Nat → ClassId) (sz : Nat) (h0 : Nat) (aMo : Nat) (aSh : Nat) (aLa : Nat) (aDy : Nat) (aMa : Nat) (aKi : Nat) (aPi : Nat) (aLn : Nat) (zCn : Int32) (zPc : Int32) (zTo : Int32) (x : Int32) (k : Int32) (q : Int32) (hi : okP x → zPc ≤ x) : vx_Met l y_BR_spread w_BR_spread ({ frames := 7, cells := 1, slots := 6, locals := 104 }) (vq_PreR (dC, dI) cs [(h0, .inr (0, [.ref aMo, .ref aSh, .ref aLa, .ref aDy, .ref aMa, .ref aKi, .int zCn, .ref aPi, .int zPc, .ref aLn, .int zTo]))] sz [.ref h0, .int x, .int k, .int q]) (va_Qv (fun (_ : Unit) => False) (fun _ _ => True) (va_A [] sz)) (vq_X (fun E => E = xI) sz) 1 6 (va_A [] sz) := by
  refine vx_ofW (cc := b_BR_spread) (maxL := 5) (ret := (some .long)) (by decide) rfl ?_
  intro p e s m args below meth c s₁ B hml htb hv
  obtain ⟨rfl, hsz, hP, hCx⟩ := hv
  have hx := B.exec
  have hb := B.bytes
  have hr := B.returns
  have hG := vq_hG (atoms_spec (ws := w_BR_spread) B.pre)
  have hown : s.vm.findClass R_BR = some m.cls := findClass_of_methodNamed B.named
  have hlocks := B.notSynchronized
  subst hsz
  have hK := hCx.1
  have hA : ∀ q : Nat, s.heap.size ≤ q → va_A [] s.heap.size q := fun q h => Or.inr h
  have hA0 : ∀ q : Nat, s.heap.size ≤ q → va_A [] s.heap.size q := fun q h => Or.inr h
  have hS : va_S (va_A [] s.heap.size) s.heap s.heap [] := va_S.rf
  have hl := lv_entry ([.ref h0, .int x, .int k, .int q]) (n := 5) (Nat.le_of_ble_eq_true rfl)
  rw [lg_entry_eq]
  generalize (lg_sl ([.ref h0, .int x, .int k, .int q]) ++ List.replicate (5 - (lg_sl ([.ref h0, .int x, .int k, .int q])).length) Slot.unset).toArray = ls at hl ⊢
  have hl : lv_has ls 5 [(0, .ref h0), (1, .int x), (2, .int k), (3, .int q)] := hl
  have hP : va_P (dC, dI) vq_cl [(h0, .inr (0, [.ref aMo, .ref aSh, .ref aLa, .ref aDy, .ref aMa, .ref aKi, .int zCn, .ref aPi, .int zPc, .ref aLn, .int zTo]))] s.heap := hP
  refine lv_aload_n hx hb d_BR_spread_0 rfl (lv_at hl 0 rfl) ?_
  refine lv_iload_n hx hb d_BR_spread_1 rfl (lv_at hl 1 rfl) ?_
  refine mx_rv (vx_runV (As := [.int x]) (rest := []) ⟨hx, hb, hml, hown, hG⟩ (c_needPile_bad l hlT dC dI cs _ h0 aMo aSh aLa aDy aMa aKi aPi aLn zCn zPc zTo x hi) (cwV 1 hG (vq_gV vq_t300 vq_t302 vq_s2 vq_t1 vq_t303) rfl rfl rfl (by decide +kernel) ⟨Nat.le_of_ble_eq_true rfl, Nat.le_of_ble_eq_true rfl⟩) (vq_preVr (wc := [(h0, .inr (0, [.ref aMo, .ref aSh, .ref aLa, .ref aDy, .ref aMa, .ref aKi, .int zCn, .ref aPi, .int zPc, .ref aLn, .int zTo]))]) (va_recv hK hP (ci := 0) (q0 := 0) rfl rfl) hCx hP (vq_wk hS hA) hA [0] rfl) rfl rfl hl.1 rfl (lv_room (Nat.le_of_ble_eq_true rfl)) d_BR_spread_2 ⟨Nat.le_of_ble_eq_true rfl, Nat.le_of_ble_eq_true rfl⟩) hP hS hA0 (fun E ce q9 H locs x_2 hP hS h91 h92 h93 => vx_out (fun x h => (htb x h).elim) hlocks h91 h92 h93 (fun t ht hvm => vq_Xof x_2 (hS.F ht)) (vq_wk hS hA).2.2 (Nat.le_of_ble_eq_true rfl) (Nat.le_of_ble_eq_true rfl)) (fun H locs w_2 hP hS => ?_)
  exact w_2.elim
set_option maxHeartbeats 4000000 in
set_option maxRecDepth 100000 in
/-- spread -/
theorem c_spread (l : Launch) (hlT : l.stackTraces = false) (dC : Nat → ClassId) (dI : Nat → Nat → Nat) (cs : Nat → ClassId) (sz : Nat) (h0 : Nat) (aMo : Nat) (aSh : Nat) (aLa : Nat) (aDy : Nat) (aMa : Nat) (aKi : Nat) (aPi : Nat) (aLn : Nat) (zCn : Int32) (zPc : Int32) (zTo : Int32) (fPi : Nat → Option Nat) (pa : Nat) (bLG : Nat) (bLS : Nat) (bLt : Nat) (bGS : Nat) (bGG : Nat) (bES : Nat) (bEG : Nat) (zSl : Int32) (zLy : Int32) (zGr : Int32) (zTk : Int32) (zGt : Int32) (zLt : Int32) (fGS : Nat → Int64) (fES : Nat → Int64) (fGG : Nat → Int32) (fEG : Nat → Int32) (x : Int32) (k : Int32) (q : Int32) (hi : okP x) (hf : fPi x.toNatClampNeg = some pa) (hz : ¬ zPc ≤ x) : vx_Met l y_BR_spread w_BR_spread ({ frames := 7, cells := 3, slots := 18, locals := 102 }) (vq_PreR (dC, dI) cs [(h0, .inr (0, [.ref aMo, .ref aSh, .ref aLa, .ref aDy, .ref aMa, .ref aKi, .int zCn, .ref aPi, .int zPc, .ref aLn, .int zTo])), (aPi, .inl ((cs 2), 4, .inr (.inr (.inr (.inr fPi))))), (pa, .inr (1, [.int zSl, .ref bLG, .ref bLS, .int zLy, .int zGr, .int zTk, .int zGt, .int zLt, .ref bLt, .ref bGS, .ref bGG, .ref bES, .ref bEG])), (bGS, .inl ((cs 1), 4, .inr (.inl fGS))), (bGG, .inl ((cs 0), 4, .inl fGG)), (bES, .inl ((cs 1), 4, .inr (.inl fES))), (bEG, .inl ((cs 0), 4, .inl fEG))] sz [.ref h0, .int x, .int k, .int q]) (va_Ql (fun (r : Int64) (_ : Unit) => r = lowF ((fGS k.toNatClampNeg * (fEG k.toNatClampNeg).toInt64) - (fES k.toNatClampNeg * (fGG k.toNatClampNeg).toInt64)) ((fGG k.toNatClampNeg).toInt64 * (fEG k.toNatClampNeg).toInt64) q ∧ X_spread k q zGt = none) (fun _ _ => True) (va_A [] sz)) (vq_X (fun E => X_spread k q zGt = some E) sz) 3 18 (va_A [] sz) := by
  refine vx_ofW (cc := b_BR_spread) (maxL := 5) (ret := (some .long)) (by decide) rfl ?_
  intro p e s m args below meth c s₁ B hml htb hv
  obtain ⟨rfl, hsz, hP, hCx⟩ := hv
  have hx := B.exec
  have hb := B.bytes
  have hr := B.returns
  have hG := vq_hG (atoms_spec (ws := w_BR_spread) B.pre)
  have hown : s.vm.findClass R_BR = some m.cls := findClass_of_methodNamed B.named
  have hlocks := B.notSynchronized
  subst hsz
  have hK := hCx.1
  have hA : ∀ q : Nat, s.heap.size ≤ q → va_A [] s.heap.size q := fun q h => Or.inr h
  have hA0 : ∀ q : Nat, s.heap.size ≤ q → va_A [] s.heap.size q := fun q h => Or.inr h
  have hS : va_S (va_A [] s.heap.size) s.heap s.heap [] := va_S.rf
  have hl := lv_entry ([.ref h0, .int x, .int k, .int q]) (n := 5) (Nat.le_of_ble_eq_true rfl)
  rw [lg_entry_eq]
  generalize (lg_sl ([.ref h0, .int x, .int k, .int q]) ++ List.replicate (5 - (lg_sl ([.ref h0, .int x, .int k, .int q])).length) Slot.unset).toArray = ls at hl ⊢
  have hl : lv_has ls 5 [(0, .ref h0), (1, .int x), (2, .int k), (3, .int q)] := hl
  have hP : va_P (dC, dI) vq_cl [(h0, .inr (0, [.ref aMo, .ref aSh, .ref aLa, .ref aDy, .ref aMa, .ref aKi, .int zCn, .ref aPi, .int zPc, .ref aLn, .int zTo])), (aPi, .inl ((cs 2), 4, .inr (.inr (.inr (.inr fPi))))), (pa, .inr (1, [.int zSl, .ref bLG, .ref bLS, .int zLy, .int zGr, .int zTk, .int zGt, .int zLt, .ref bLt, .ref bGS, .ref bGG, .ref bES, .ref bEG])), (bGS, .inl ((cs 1), 4, .inr (.inl fGS))), (bGG, .inl ((cs 0), 4, .inl fGG)), (bES, .inl ((cs 1), 4, .inr (.inl fES))), (bEG, .inl ((cs 0), 4, .inl fEG))] s.heap := hP
  refine lv_aload_n hx hb d_BR_spread_0 rfl (lv_at hl 0 rfl) ?_
  refine lv_iload_n hx hb d_BR_spread_1 rfl (lv_at hl 1 rfl) ?_
  refine mk_rr (va_runV (As := [.int x]) (rest := []) ⟨hx, hb, hml, hown, hG⟩ (c_needPile_ok l dC dI cs _ h0 aMo aSh aLa aDy aMa aKi aPi aLn zCn zPc zTo fPi x pa hi hf hz) (cwV 1 hG (vq_gV vq_t300 vq_t302 vq_s2 vq_t1 vq_t303) rfl rfl rfl (by decide +kernel) ⟨Nat.le_of_ble_eq_true rfl, Nat.le_of_ble_eq_true rfl⟩) (vq_preVr (wc := [(h0, .inr (0, [.ref aMo, .ref aSh, .ref aLa, .ref aDy, .ref aMa, .ref aKi, .int zCn, .ref aPi, .int zPc, .ref aLn, .int zTo])), (aPi, .inl ((cs 2), 4, .inr (.inr (.inr (.inr fPi)))))]) (va_recv hK hP (ci := 0) (q0 := 0) rfl rfl) hCx hP (vq_wk hS hA) hA [0, 1] rfl) rfl rfl hl.1 rfl (lv_room (Nat.le_of_ble_eq_true rfl)) d_BR_spread_2 ⟨Nat.le_of_ble_eq_true rfl, Nat.le_of_ble_eq_true rfl⟩) hP hS hA0 (fun r_2 H locs w_2 hP hS => ?_)
  rw [w_2]
  refine lv_astore (lv' := [(4, .ref pa), (0, .ref h0), (1, .int x), (2, .int k), (3, .int q)]) hx hb d_BR_spread_5 hl (by decide) rfl (fun ls hl => ?_)
  refine lv_iload_n hx hb d_BR_spread_7 rfl (lv_at hl 3 rfl) ?_
  refine mx_rv (vx_runS (As := [.int k]) (rest := []) ⟨hx, hb, hml, hown, hG⟩ (c_needElement l hlT dC dI cs _ k) (cwS 1 hG (vq_gS vq_t241 vq_t242 vq_t1 vq_t243) rfl rfl rfl (by decide +kernel) ⟨Nat.le_of_ble_eq_true rfl, Nat.le_of_ble_eq_true rfl⟩) (vq_preSr (wc := []) hCx hP (vq_wk hS hA) hA [] rfl) rfl rfl hl.1 rfl (lv_room (Nat.le_of_ble_eq_true rfl)) d_BR_spread_8 ⟨Nat.le_of_ble_eq_true rfl, Nat.le_of_ble_eq_true rfl⟩) hP hS hA0 (fun E ce q9 H locs x_8 hP hS h91 h92 h93 => vx_out (fun x h => (htb x h).elim) hlocks h91 h92 h93 (fun t ht hvm => vq_Xof (by obtain ⟨rfl, y9⟩ := x_8; simp only [X_spread, if_neg y9]) (hS.F ht)) (vq_wk hS hA).2.2 (Nat.le_of_ble_eq_true rfl) (Nat.le_of_ble_eq_true rfl)) (fun H locs w_8 hP hS => ?_)
  refine W.widen (k := 1) (n := 6) (Nat.le_of_ble_eq_true rfl) (Nat.le_of_ble_eq_true rfl) ?_
  refine lv_iload_n hx hb d_BR_spread_11 rfl (lv_at hl 4 rfl) ?_
  refine mx_rv (vx_runS (As := [.int q]) (rest := []) ⟨hx, hb, hml, hown, hG⟩ (c_needPart l hlT dC dI cs _ q) (cwS 1 hG (vq_gS vq_t367 vq_t368 vq_t1 vq_t369) rfl rfl rfl (by decide +kernel) ⟨Nat.le_of_ble_eq_true rfl, Nat.le_of_ble_eq_true rfl⟩) (vq_preSr (wc := []) hCx hP (vq_wk hS hA) hA [] rfl) rfl rfl hl.1 rfl (lv_room (Nat.le_of_ble_eq_true rfl)) d_BR_spread_12 ⟨Nat.le_of_ble_eq_true rfl, Nat.le_of_ble_eq_true rfl⟩) hP hS hA0 (fun E ce q9 H locs x_12 hP hS h91 h92 h93 => vx_out (fun x h => (htb x h).elim) hlocks h91 h92 h93 (fun t ht hvm => vq_Xof (by obtain ⟨rfl, y9⟩ := x_12; simp only [X_spread, if_pos w_8, if_neg y9]) (hS.F ht)) (vq_wk hS hA).2.2 (Nat.le_of_ble_eq_true rfl) (Nat.le_of_ble_eq_true rfl)) (fun H locs w_12 hP hS => ?_)
  refine W.widen (k := 2) (n := 12) (Nat.le_of_ble_eq_true rfl) (Nat.le_of_ble_eq_true rfl) ?_
  refine lv_aload hx hb d_BR_spread_15 (lv_at hl 0 rfl) ?_
  refine va_getN (D := (dC, dI)) (ci := 1) (v := .int zGt) (C := R_PI) (T := F_PI) (N := 13) hx hb hG i_PI hown hK hP 2 rfl rfl 6 (by decide) (va_Nw.use rfl (hCx.2.1 _ vq_nf6)) (fun _ h9 => h9) rfl d_BR_spread_17 ?_
  refine lv_if_ne (tgt := 33) hx hb d_BR_spread_20 (by decide) (fun c_20 => ?_) (fun c_20 => ?_)
  · skip
    refine lv_aload hx hb d_BR_spread_33 (lv_at hl 0 rfl) ?_
    refine lv_iload_n hx hb d_BR_spread_35 rfl (lv_at hl 3 rfl) ?_
    refine mk_rl (va_runV (As := [.int k]) (rest := []) ⟨hx, hb, hml, hown, hG⟩ (c_spreadUpper l dC dI cs _ pa bLG bLS bLt bGS bGG bES bEG zSl zLy zGr zTk zGt zLt fGS fES fGG fEG k w_8) (cwV 1 hG (vq_gV vq_t401 vq_t402 vq_t403 vq_t3 vq_t404) rfl rfl rfl (by decide +kernel) ⟨Nat.le_of_ble_eq_true rfl, Nat.le_of_ble_eq_true rfl⟩) (vq_preVr (wc := [(pa, .inr (1, [.int zSl, .ref bLG, .ref bLS, .int zLy, .int zGr, .int zTk, .int zGt, .int zLt, .ref bLt, .ref bGS, .ref bGG, .ref bES, .ref bEG])), (bGS, .inl ((cs 1), 4, .inr (.inl fGS))), (bGG, .inl ((cs 0), 4, .inl fGG)), (bES, .inl ((cs 1), 4, .inr (.inl fES))), (bEG, .inl ((cs 0), 4, .inl fEG))]) (va_recv hK hP (ci := 1) (q0 := 2) rfl rfl) hCx hP (vq_wk hS hA) hA [2, 3, 4, 5, 6] rfl) rfl rfl hl.1 rfl (lv_room (Nat.le_of_ble_eq_true rfl)) d_BR_spread_36 ⟨Nat.le_of_ble_eq_true rfl, Nat.le_of_ble_eq_true rfl⟩) hP hS hA0 (fun r_36 H locs w_36 hP hS => ?_)
    subst w_36
    refine lv_aload hx hb d_BR_spread_39 (lv_at hl 0 rfl) ?_
    refine lv_iload_n hx hb d_BR_spread_41 rfl (lv_at hl 3 rfl) ?_
    refine mk_rl (va_runV (As := [.int k]) (rest := [.long ((fGS k.toNatClampNeg * (fEG k.toNatClampNeg).toInt64) - (fES k.toNatClampNeg * (fGG k.toNatClampNeg).toInt64))]) ⟨hx, hb, hml, hown, hG⟩ (c_spreadLower l dC dI cs _ pa bLG bLS bLt bGS bGG bES bEG zSl zLy zGr zTk zGt zLt fGG fEG k w_8) (cwV 1 hG (vq_gV vq_t405 vq_t406 vq_t407 vq_t3 vq_t408) rfl rfl rfl (by decide +kernel) ⟨Nat.le_of_ble_eq_true rfl, Nat.le_of_ble_eq_true rfl⟩) (vq_preVr (wc := [(pa, .inr (1, [.int zSl, .ref bLG, .ref bLS, .int zLy, .int zGr, .int zTk, .int zGt, .int zLt, .ref bLt, .ref bGS, .ref bGG, .ref bES, .ref bEG])), (bGG, .inl ((cs 0), 4, .inl fGG)), (bEG, .inl ((cs 0), 4, .inl fEG))]) (va_recv hK hP (ci := 1) (q0 := 2) rfl rfl) hCx hP (vq_wk hS hA) hA [2, 4, 6] rfl) rfl rfl hl.1 rfl (lv_room (Nat.le_of_ble_eq_true rfl)) d_BR_spread_42 ⟨Nat.le_of_ble_eq_true rfl, Nat.le_of_ble_eq_true rfl⟩) hP hS hA0 (fun r_42 H locs w_42 hP hS => ?_)
    subst w_42
    refine lv_iload_n hx hb d_BR_spread_45 rfl (lv_at hl 4 rfl) ?_
    refine mk_rl (va_runS (As := [.long ((fGS k.toNatClampNeg * (fEG k.toNatClampNeg).toInt64) - (fES k.toNatClampNeg * (fGG k.toNatClampNeg).toInt64)), .long ((fGG k.toNatClampNeg).toInt64 * (fEG k.toNatClampNeg).toInt64), .int q]) (rest := []) ⟨hx, hb, hml, hown, hG⟩ (c_lowestTerms l dC dI cs _ ((fGS k.toNatClampNeg * (fEG k.toNatClampNeg).toInt64) - (fES k.toNatClampNeg * (fGG k.toNatClampNeg).toInt64)) ((fGG k.toNatClampNeg).toInt64 * (fEG k.toNatClampNeg).toInt64) q) (cwS 3 hG (vq_gS vq_t376 vq_t377 vq_t1 vq_t378) rfl rfl rfl (by decide +kernel) ⟨Nat.le_of_ble_eq_true rfl, Nat.le_of_ble_eq_true rfl⟩) (vq_preSr (wc := []) hCx hP (vq_wk hS hA) hA [] rfl) rfl rfl hl.1 rfl (lv_room (Nat.le_of_ble_eq_true rfl)) d_BR_spread_46 ⟨Nat.le_of_ble_eq_true rfl, Nat.le_of_ble_eq_true rfl⟩) hP hS hA0 (fun r_46 H locs w_46 hP hS => ?_)
    subst w_46
    refine vx_ret ?_
    refine W.widen (k := 3) (n := 18) (Nat.le_of_ble_eq_true rfl) (Nat.le_of_ble_eq_true rfl) ?_
    exact W.lret (v := lowF ((fGS k.toNatClampNeg * (fEG k.toNatClampNeg).toInt64) - (fES k.toNatClampNeg * (fGG k.toNatClampNeg).toInt64)) ((fGG k.toNatClampNeg).toInt64 * (fEG k.toNatClampNeg).toInt64) q) hx hb hr (fun t ht hW => ⟨⟨lowF ((fGS k.toNatClampNeg * (fEG k.toNatClampNeg).toInt64) - (fES k.toNatClampNeg * (fGG k.toNatClampNeg).toInt64)) ((fGG k.toNatClampNeg).toInt64 * (fEG k.toNatClampNeg).toInt64) q, (), rfl, ⟨rfl, by simp only [X_spread, if_pos w_8, if_pos w_12, if_neg c_20]⟩, trivial⟩, hS.F ht⟩) hS.2.2 d_BR_spread_49
  · skip
    exact vq_thr hx hb hlT hown hG hCx hA vq_tw15 hS (by rw [hml]; exact hl.1) d_BR_spread_23 d_BR_spread_26 d_BR_spread_27 d_BR_spread_29 d_BR_spread_32 htb hlocks (Nat.le_of_ble_eq_true rfl) (Nat.le_of_ble_eq_true rfl) (Nat.le_of_ble_eq_true rfl) (Nat.le_of_ble_eq_true rfl) (by simp only [X_spread, if_pos w_8, if_pos w_12, if_pos c_20]) (Nat.le_of_ble_eq_true rfl) (Nat.le_of_ble_eq_true rfl)
set_option maxHeartbeats 4000000 in
set_option maxRecDepth 100000 in
/-- pileAt, no such pile -/
theorem c_pileAt_bad (l : Launch) (hlT : l.stackTraces = false) (dC : Nat → ClassId) (dI : Nat → Nat → Nat) (cs : Nat → ClassId) (sz : Nat) (h0 : Nat) (aMo : Nat) (aSh : Nat) (aLa : Nat) (aDy : Nat) (aMa : Nat) (aKi : Nat) (aPi : Nat) (aLn : Nat) (zCn : Int32) (zPc : Int32) (zTo : Int32) (x : Int32) (w : Int32) (hi : okP x → zPc ≤ x) : vx_Met l y_BR_pileAt w_BR_pileAt ({ frames := 7, cells := 1, slots := 6, locals := 104 }) (vq_PreR (dC, dI) cs [(h0, .inr (0, [.ref aMo, .ref aSh, .ref aLa, .ref aDy, .ref aMa, .ref aKi, .int zCn, .ref aPi, .int zPc, .ref aLn, .int zTo]))] sz [.ref h0, .int x, .int w]) (va_Qv (fun (_ : Unit) => False) (fun _ _ => True) (va_A [] sz)) (vq_X (fun E => E = xI) sz) 1 6 (va_A [] sz) := by
  refine vx_ofW (cc := b_BR_pileAt) (maxL := 4) (ret := (some .int)) (by decide) rfl ?_
  intro p e s m args below meth c s₁ B hml htb hv
  obtain ⟨rfl, hsz, hP, hCx⟩ := hv
  have hx := B.exec
  have hb := B.bytes
  have hr := B.returns
  have hG := vq_hG (atoms_spec (ws := w_BR_pileAt) B.pre)
  have hown : s.vm.findClass R_BR = some m.cls := findClass_of_methodNamed B.named
  have hlocks := B.notSynchronized
  subst hsz
  have hK := hCx.1
  have hA : ∀ q : Nat, s.heap.size ≤ q → va_A [] s.heap.size q := fun q h => Or.inr h
  have hA0 : ∀ q : Nat, s.heap.size ≤ q → va_A [] s.heap.size q := fun q h => Or.inr h
  have hS : va_S (va_A [] s.heap.size) s.heap s.heap [] := va_S.rf
  have hl := lv_entry ([.ref h0, .int x, .int w]) (n := 4) (Nat.le_of_ble_eq_true rfl)
  rw [lg_entry_eq]
  generalize (lg_sl ([.ref h0, .int x, .int w]) ++ List.replicate (4 - (lg_sl ([.ref h0, .int x, .int w])).length) Slot.unset).toArray = ls at hl ⊢
  have hl : lv_has ls 4 [(0, .ref h0), (1, .int x), (2, .int w)] := hl
  have hP : va_P (dC, dI) vq_cl [(h0, .inr (0, [.ref aMo, .ref aSh, .ref aLa, .ref aDy, .ref aMa, .ref aKi, .int zCn, .ref aPi, .int zPc, .ref aLn, .int zTo]))] s.heap := hP
  refine lv_aload_n hx hb d_BR_pileAt_0 rfl (lv_at hl 0 rfl) ?_
  refine lv_iload_n hx hb d_BR_pileAt_1 rfl (lv_at hl 1 rfl) ?_
  refine mx_rv (vx_runV (As := [.int x]) (rest := []) ⟨hx, hb, hml, hown, hG⟩ (c_needPile_bad l hlT dC dI cs _ h0 aMo aSh aLa aDy aMa aKi aPi aLn zCn zPc zTo x hi) (cwV 1 hG (vq_gV vq_t300 vq_t302 vq_s2 vq_t1 vq_t303) rfl rfl rfl (by decide +kernel) ⟨Nat.le_of_ble_eq_true rfl, Nat.le_of_ble_eq_true rfl⟩) (vq_preVr (wc := [(h0, .inr (0, [.ref aMo, .ref aSh, .ref aLa, .ref aDy, .ref aMa, .ref aKi, .int zCn, .ref aPi, .int zPc, .ref aLn, .int zTo]))]) (va_recv hK hP (ci := 0) (q0 := 0) rfl rfl) hCx hP (vq_wk hS hA) hA [0] rfl) rfl rfl hl.1 rfl (lv_room (Nat.le_of_ble_eq_true rfl)) d_BR_pileAt_2 ⟨Nat.le_of_ble_eq_true rfl, Nat.le_of_ble_eq_true rfl⟩) hP hS hA0 (fun E ce q9 H locs x_2 hP hS h91 h92 h93 => vx_out (fun x h => (htb x h).elim) hlocks h91 h92 h93 (fun t ht hvm => vq_Xof x_2 (hS.F ht)) (vq_wk hS hA).2.2 (Nat.le_of_ble_eq_true rfl) (Nat.le_of_ble_eq_true rfl)) (fun H locs w_2 hP hS => ?_)
  exact w_2.elim
set_option maxHeartbeats 4000000 in
set_option maxRecDepth 100000 in
/-- pileAt -/
theorem c_pileAt (l : Launch) (hlT : l.stackTraces = false) (dC : Nat → ClassId) (dI : Nat → Nat → Nat) (cs : Nat → ClassId) (sz : Nat) (h0 : Nat) (aMo : Nat) (aSh : Nat) (aLa : Nat) (aDy : Nat) (aMa : Nat) (aKi : Nat) (aPi : Nat) (aLn : Nat) (zCn : Int32) (zPc : Int32) (zTo : Int32) (fPi : Nat → Option Nat) (pa : Nat) (bLG : Nat) (bLS : Nat) (bLt : Nat) (bGS : Nat) (bGG : Nat) (bES : Nat) (bEG : Nat) (zSl : Int32) (zLy : Int32) (zGr : Int32) (zTk : Int32) (zGt : Int32) (zLt : Int32) (x : Int32) (w : Int32) (hi : okP x) (hf : fPi x.toNatClampNeg = some pa) (hz : ¬ zPc ≤ x) : vx_Met l y_BR_pileAt w_BR_pileAt ({ frames := 6, cells := 1, slots := 6, locals := 82 }) (vq_PreR (dC, dI) cs [(h0, .inr (0, [.ref aMo, .ref aSh, .ref aLa, .ref aDy, .ref aMa, .ref aKi, .int zCn, .ref aPi, .int zPc, .ref aLn, .int zTo])), (aPi, .inl ((cs 2), 4, .inr (.inr (.inr (.inr fPi))))), (pa, .inr (1, [.int zSl, .ref bLG, .ref bLS, .int zLy, .int zGr, .int zTk, .int zGt, .int zLt, .ref bLt, .ref bGS, .ref bGG, .ref bES, .ref bEG]))] sz [.ref h0, .int x, .int w]) (va_Qi (fun (r : Int32) (_ : Unit) => r = pileAtF w zSl zTk zLy zGr zGt ∧ X_pileAt w = none) (fun _ _ => True) (va_A [] sz)) (vq_X (fun E => X_pileAt w = some E) sz) 1 6 (va_A [] sz) := by
  refine vx_ofW (cc := b_BR_pileAt) (maxL := 4) (ret := (some .int)) (by decide) rfl ?_
  intro p e s m args below meth c s₁ B hml htb hv
  obtain ⟨rfl, hsz, hP, hCx⟩ := hv
  have hx := B.exec
  have hb := B.bytes
  have hr := B.returns
  have hG := vq_hG (atoms_spec (ws := w_BR_pileAt) B.pre)
  have hown : s.vm.findClass R_BR = some m.cls := findClass_of_methodNamed B.named
  have hlocks := B.notSynchronized
  subst hsz
  have hK := hCx.1
  have hA : ∀ q : Nat, s.heap.size ≤ q → va_A [] s.heap.size q := fun q h => Or.inr h
  have hA0 : ∀ q : Nat, s.heap.size ≤ q → va_A [] s.heap.size q := fun q h => Or.inr h
  have hS : va_S (va_A [] s.heap.size) s.heap s.heap [] := va_S.rf
  have hl := lv_entry ([.ref h0, .int x, .int w]) (n := 4) (Nat.le_of_ble_eq_true rfl)
  rw [lg_entry_eq]
  generalize (lg_sl ([.ref h0, .int x, .int w]) ++ List.replicate (4 - (lg_sl ([.ref h0, .int x, .int w])).length) Slot.unset).toArray = ls at hl ⊢
  have hl : lv_has ls 4 [(0, .ref h0), (1, .int x), (2, .int w)] := hl
  have hP : va_P (dC, dI) vq_cl [(h0, .inr (0, [.ref aMo, .ref aSh, .ref aLa, .ref aDy, .ref aMa, .ref aKi, .int zCn, .ref aPi, .int zPc, .ref aLn, .int zTo])), (aPi, .inl ((cs 2), 4, .inr (.inr (.inr (.inr fPi))))), (pa, .inr (1, [.int zSl, .ref bLG, .ref bLS, .int zLy, .int zGr, .int zTk, .int zGt, .int zLt, .ref bLt, .ref bGS, .ref bGG, .ref bES, .ref bEG]))] s.heap := hP
  refine lv_aload_n hx hb d_BR_pileAt_0 rfl (lv_at hl 0 rfl) ?_
  refine lv_iload_n hx hb d_BR_pileAt_1 rfl (lv_at hl 1 rfl) ?_
  refine mk_rr (va_runV (As := [.int x]) (rest := []) ⟨hx, hb, hml, hown, hG⟩ (c_needPile_ok l dC dI cs _ h0 aMo aSh aLa aDy aMa aKi aPi aLn zCn zPc zTo fPi x pa hi hf hz) (cwV 1 hG (vq_gV vq_t300 vq_t302 vq_s2 vq_t1 vq_t303) rfl rfl rfl (by decide +kernel) ⟨Nat.le_of_ble_eq_true rfl, Nat.le_of_ble_eq_true rfl⟩) (vq_preVr (wc := [(h0, .inr (0, [.ref aMo, .ref aSh, .ref aLa, .ref aDy, .ref aMa, .ref aKi, .int zCn, .ref aPi, .int zPc, .ref aLn, .int zTo])), (aPi, .inl ((cs 2), 4, .inr (.inr (.inr (.inr fPi)))))]) (va_recv hK hP (ci := 0) (q0 := 0) rfl rfl) hCx hP (vq_wk hS hA) hA [0, 1] rfl) rfl rfl hl.1 rfl (lv_room (Nat.le_of_ble_eq_true rfl)) d_BR_pileAt_2 ⟨Nat.le_of_ble_eq_true rfl, Nat.le_of_ble_eq_true rfl⟩) hP hS hA0 (fun r_2 H locs w_2 hP hS => ?_)
  rw [w_2]
  refine lv_astore_n (lv' := [(3, .ref pa), (0, .ref h0), (1, .int x), (2, .int w)]) hx hb d_BR_pileAt_5 rfl hl (by decide) rfl (fun ls hl => ?_)
  refine lv_iload_n hx hb d_BR_pileAt_6 rfl (lv_at hl 3 rfl) ?_
  by_cases w_7 : w.toInt < 0 ∨ 4 < w.toInt
  · refine lv_tableOut (tgt := 65) hx hb d_BR_pileAt_7 w_7 (by decide) ?_
    exact vq_thr hx hb hlT hown hG hCx hA vq_tw16 hS (by rw [hml]; exact hl.1) d_BR_pileAt_65 d_BR_pileAt_68 d_BR_pileAt_69 d_BR_pileAt_71 d_BR_pileAt_74 htb hlocks (Nat.le_of_ble_eq_true rfl) (Nat.le_of_ble_eq_true rfl) (Nat.le_of_ble_eq_true rfl) (Nat.le_of_ble_eq_true rfl) (by simp only [X_pileAt, if_pos w_7]) (Nat.le_of_ble_eq_true rfl) (Nat.le_of_ble_eq_true rfl)
  · have v_7 : w.toInt = 0 ∨ w.toInt = 1 ∨ w.toInt = 2 ∨ w.toInt = 3 ∨ w.toInt = 4 := by omega
    rcases v_7 with v_7 | v_7 | v_7 | v_7 | v_7
    · refine lv_tableIn (off := 33) (tgt := 40) hx hb d_BR_pileAt_7 (fun z => w_7 (Or.inl z)) (fun z => w_7 (Or.inr z)) (by rw [v_7]; rfl) (by decide) ?_
      refine lv_aload_n hx hb d_BR_pileAt_40 rfl (lv_at hl 0 rfl) ?_
      refine va_getN (D := (dC, dI)) (ci := 1) (v := .int zSl) (C := R_PI) (T := F_PI) (N := 13) hx hb hG i_PI hown hK hP 2 rfl rfl 0 (by decide) (va_Nw.use rfl (hCx.2.1 _ vq_nf1)) (fun _ h9 => h9) rfl d_BR_pileAt_41 ?_
      refine vx_ret ?_
      refine W.widen (k := 1) (n := 6) (Nat.le_of_ble_eq_true rfl) (Nat.le_of_ble_eq_true rfl) ?_
      exact W.iret (v := zSl) hx hb hr (fun t ht hW => ⟨⟨zSl, (), rfl, ⟨by simp [pileAtF, v_7], by simp only [X_pileAt, if_neg w_7]⟩, trivial⟩, hS.F ht⟩) hS.2.2 d_BR_pileAt_44
    · refine lv_tableIn (off := 38) (tgt := 45) hx hb d_BR_pileAt_7 (fun z => w_7 (Or.inl z)) (fun z => w_7 (Or.inr z)) (by rw [v_7]; rfl) (by decide) ?_
      refine lv_aload_n hx hb d_BR_pileAt_45 rfl (lv_at hl 0 rfl) ?_
      refine va_getN (D := (dC, dI)) (ci := 1) (v := .int zTk) (C := R_PI) (T := F_PI) (N := 13) hx hb hG i_PI hown hK hP 2 rfl rfl 5 (by decide) (va_Nw.use rfl (hCx.2.1 _ vq_nf0)) (fun _ h9 => h9) rfl d_BR_pileAt_46 ?_
      refine vx_ret ?_
      refine W.widen (k := 1) (n := 6) (Nat.le_of_ble_eq_true rfl) (Nat.le_of_ble_eq_true rfl) ?_
      exact W.iret (v := zTk) hx hb hr (fun t ht hW => ⟨⟨zTk, (), rfl, ⟨by simp [pileAtF, v_7], by simp only [X_pileAt, if_neg w_7]⟩, trivial⟩, hS.F ht⟩) hS.2.2 d_BR_pileAt_49
    · refine lv_tableIn (off := 43) (tgt := 50) hx hb d_BR_pileAt_7 (fun z => w_7 (Or.inl z)) (fun z => w_7 (Or.inr z)) (by rw [v_7]; rfl) (by decide) ?_
      refine lv_aload_n hx hb d_BR_pileAt_50 rfl (lv_at hl 0 rfl) ?_
      refine va_getN (D := (dC, dI)) (ci := 1) (v := .int zLy) (C := R_PI) (T := F_PI) (N := 13) hx hb hG i_PI hown hK hP 2 rfl rfl 3 (by decide) (va_Nw.use rfl (hCx.2.1 _ vq_nf2)) (fun _ h9 => h9) rfl d_BR_pileAt_51 ?_
      refine vx_ret ?_
      refine W.widen (k := 1) (n := 6) (Nat.le_of_ble_eq_true rfl) (Nat.le_of_ble_eq_true rfl) ?_
      exact W.iret (v := zLy) hx hb hr (fun t ht hW => ⟨⟨zLy, (), rfl, ⟨by simp [pileAtF, v_7], by simp only [X_pileAt, if_neg w_7]⟩, trivial⟩, hS.F ht⟩) hS.2.2 d_BR_pileAt_54
    · refine lv_tableIn (off := 48) (tgt := 55) hx hb d_BR_pileAt_7 (fun z => w_7 (Or.inl z)) (fun z => w_7 (Or.inr z)) (by rw [v_7]; rfl) (by decide) ?_
      refine lv_aload_n hx hb d_BR_pileAt_55 rfl (lv_at hl 0 rfl) ?_
      refine va_getN (D := (dC, dI)) (ci := 1) (v := .int zGr) (C := R_PI) (T := F_PI) (N := 13) hx hb hG i_PI hown hK hP 2 rfl rfl 4 (by decide) (va_Nw.use rfl (hCx.2.1 _ vq_nf3)) (fun _ h9 => h9) rfl d_BR_pileAt_56 ?_
      refine vx_ret ?_
      refine W.widen (k := 1) (n := 6) (Nat.le_of_ble_eq_true rfl) (Nat.le_of_ble_eq_true rfl) ?_
      exact W.iret (v := zGr) hx hb hr (fun t ht hW => ⟨⟨zGr, (), rfl, ⟨by simp [pileAtF, v_7], by simp only [X_pileAt, if_neg w_7]⟩, trivial⟩, hS.F ht⟩) hS.2.2 d_BR_pileAt_59
    · refine lv_tableIn (off := 53) (tgt := 60) hx hb d_BR_pileAt_7 (fun z => w_7 (Or.inl z)) (fun z => w_7 (Or.inr z)) (by rw [v_7]; rfl) (by decide) ?_
      refine lv_aload_n hx hb d_BR_pileAt_60 rfl (lv_at hl 0 rfl) ?_
      refine va_getN (D := (dC, dI)) (ci := 1) (v := .int zGt) (C := R_PI) (T := F_PI) (N := 13) hx hb hG i_PI hown hK hP 2 rfl rfl 6 (by decide) (va_Nw.use rfl (hCx.2.1 _ vq_nf6)) (fun _ h9 => h9) rfl d_BR_pileAt_61 ?_
      refine vx_ret ?_
      refine W.widen (k := 1) (n := 6) (Nat.le_of_ble_eq_true rfl) (Nat.le_of_ble_eq_true rfl) ?_
      exact W.iret (v := zGt) hx hb hr (fun t ht hW => ⟨⟨zGt, (), rfl, ⟨by simp [pileAtF, v_7], by simp only [X_pileAt, if_neg w_7]⟩, trivial⟩, hS.F ht⟩) hS.2.2 d_BR_pileAt_64
set_option maxHeartbeats 4000000 in
set_option maxRecDepth 100000 in
/-- mix -/
theorem c_mix (l : Launch) (hlT : l.stackTraces = false) (dC : Nat → ClassId) (dI : Nat → Nat → Nat) (cs : Nat → ClassId) (sz : Nat) (h0 : Nat) (aMo : Nat) (aSh : Nat) (aLa : Nat) (aDy : Nat) (aMa : Nat) (aKi : Nat) (aPi : Nat) (aLn : Nat) (zCn : Int32) (zPc : Int32) (zTo : Int32) (fSh : Nat → Int32) (x : Int32) (y : Int32) (k : Int32) (aim : Int32) (q : Int32) : vx_Met l y_BR_mix w_BR_mix ({ frames := 7, cells := 6, slots := 36, locals := 104 }) (vq_PreR (dC, dI) cs [(h0, .inr (0, [.ref aMo, .ref aSh, .ref aLa, .ref aDy, .ref aMa, .ref aKi, .int zCn, .ref aPi, .int zPc, .ref aLn, .int zTo])), (aSh, .inl ((cs 0), 32, .inl fSh))] sz [.ref h0, .int x, .int y, .int k, .int aim, .int q]) (va_Ql (fun (r : Int64) (_ : Unit) => r = lowF (aim - (fSh ((y * 4) + k).toNatClampNeg)).toInt64 ((fSh ((x * 4) + k).toNatClampNeg) - (fSh ((y * 4) + k).toNatClampNeg)).toInt64 q ∧ X_mix x y k aim q (fSh ((x * 4) + k).toNatClampNeg) (fSh ((y * 4) + k).toNatClampNeg) = none) (fun _ _ => True) (va_A [] sz)) (vq_X (fun E => X_mix x y k aim q (fSh ((x * 4) + k).toNatClampNeg) (fSh ((y * 4) + k).toNatClampNeg) = some E) sz) 6 36 (va_A [] sz) := by
  refine vx_ofW (cc := b_BR_mix) (maxL := 8) (ret := (some .long)) (by decide) rfl ?_
  intro p e s m args below meth c s₁ B hml htb hv
  obtain ⟨rfl, hsz, hP, hCx⟩ := hv
  have hx := B.exec
  have hb := B.bytes
  have hr := B.returns
  have hG := vq_hG (atoms_spec (ws := w_BR_mix) B.pre)
  have hown : s.vm.findClass R_BR = some m.cls := findClass_of_methodNamed B.named
  have hlocks := B.notSynchronized
  subst hsz
  have hK := hCx.1
  have hA : ∀ q : Nat, s.heap.size ≤ q → va_A [] s.heap.size q := fun q h => Or.inr h
  have hA0 : ∀ q : Nat, s.heap.size ≤ q → va_A [] s.heap.size q := fun q h => Or.inr h
  have hS : va_S (va_A [] s.heap.size) s.heap s.heap [] := va_S.rf
  have hl := lv_entry ([.ref h0, .int x, .int y, .int k, .int aim, .int q]) (n := 8) (Nat.le_of_ble_eq_true rfl)
  rw [lg_entry_eq]
  generalize (lg_sl ([.ref h0, .int x, .int y, .int k, .int aim, .int q]) ++ List.replicate (8 - (lg_sl ([.ref h0, .int x, .int y, .int k, .int aim, .int q])).length) Slot.unset).toArray = ls at hl ⊢
  have hl : lv_has ls 8 [(0, .ref h0), (1, .int x), (2, .int y), (3, .int k), (4, .int aim), (5, .int q)] := hl
  have hP : va_P (dC, dI) vq_cl [(h0, .inr (0, [.ref aMo, .ref aSh, .ref aLa, .ref aDy, .ref aMa, .ref aKi, .int zCn, .ref aPi, .int zPc, .ref aLn, .int zTo])), (aSh, .inl ((cs 0), 32, .inl fSh))] s.heap := hP
  refine lv_iload_n hx hb d_BR_mix_0 rfl (lv_at hl 1 rfl) ?_
  refine mx_rv (vx_runS (As := [.int x]) (rest := []) ⟨hx, hb, hml, hown, hG⟩ (c_needMaterial l hlT dC dI cs _ x) (cwS 1 hG (vq_gS vq_t143 vq_t144 vq_t1 vq_t145) rfl rfl rfl (by decide +kernel) ⟨Nat.le_of_ble_eq_true rfl, Nat.le_of_ble_eq_true rfl⟩) (vq_preSr (wc := []) hCx hP (vq_wk hS hA) hA [] rfl) rfl rfl hl.1 rfl (lv_room (Nat.le_of_ble_eq_true rfl)) d_BR_mix_1 ⟨Nat.le_of_ble_eq_true rfl, Nat.le_of_ble_eq_true rfl⟩) hP hS hA0 (fun E ce q9 H locs x_1 hP hS h91 h92 h93 => vx_out (fun x h => (htb x h).elim) hlocks h91 h92 h93 (fun t ht hvm => vq_Xof (by obtain ⟨rfl, y9⟩ := x_1; simp only [X_mix, if_neg y9]) (hS.F ht)) (vq_wk hS hA).2.2 (Nat.le_of_ble_eq_true rfl) (Nat.le_of_ble_eq_true rfl)) (fun H locs w_1 hP hS => ?_)
  refine W.widen (k := 1) (n := 6) (Nat.le_of_ble_eq_true rfl) (Nat.le_of_ble_eq_true rfl) ?_
  refine lv_iload_n hx hb d_BR_mix_4 rfl (lv_at hl 2 rfl) ?_
  refine mx_rv (vx_runS (As := [.int y]) (rest := []) ⟨hx, hb, hml, hown, hG⟩ (c_needMaterial l hlT dC dI cs _ y) (cwS 1 hG (vq_gS vq_t143 vq_t144 vq_t1 vq_t145) rfl rfl rfl (by decide +kernel) ⟨Nat.le_of_ble_eq_true rfl, Nat.le_of_ble_eq_true rfl⟩) (vq_preSr (wc := []) hCx hP (vq_wk hS hA) hA [] rfl) rfl rfl hl.1 rfl (lv_room (Nat.le_of_ble_eq_true rfl)) d_BR_mix_5 ⟨Nat.le_of_ble_eq_true rfl, Nat.le_of_ble_eq_true rfl⟩) hP hS hA0 (fun E ce q9 H locs x_5 hP hS h91 h92 h93 => vx_out (fun x h => (htb x h).elim) hlocks h91 h92 h93 (fun t ht hvm => vq_Xof (by obtain ⟨rfl, y9⟩ := x_5; simp only [X_mix, if_pos w_1, if_neg y9]) (hS.F ht)) (vq_wk hS hA).2.2 (Nat.le_of_ble_eq_true rfl) (Nat.le_of_ble_eq_true rfl)) (fun H locs w_5 hP hS => ?_)
  refine W.widen (k := 2) (n := 12) (Nat.le_of_ble_eq_true rfl) (Nat.le_of_ble_eq_true rfl) ?_
  refine lv_iload_n hx hb d_BR_mix_8 rfl (lv_at hl 1 rfl) ?_
  refine lv_iload_n hx hb d_BR_mix_9 rfl (lv_at hl 2 rfl) ?_
  refine lv_icmp_ne (tgt := 23) hx hb d_BR_mix_10 (by decide) (fun c_10 => ?_) (fun c_10 => ?_)
  · skip
    refine lv_iload_n hx hb d_BR_mix_23 rfl (lv_at hl 3 rfl) ?_
    refine mx_rv (vx_runS (As := [.int k]) (rest := []) ⟨hx, hb, hml, hown, hG⟩ (c_needElement l hlT dC dI cs _ k) (cwS 1 hG (vq_gS vq_t241 vq_t242 vq_t1 vq_t243) rfl rfl rfl (by decide +kernel) ⟨Nat.le_of_ble_eq_true rfl, Nat.le_of_ble_eq_true rfl⟩) (vq_preSr (wc := []) hCx hP (vq_wk hS hA) hA [] rfl) rfl rfl hl.1 rfl (lv_room (Nat.le_of_ble_eq_true rfl)) d_BR_mix_24 ⟨Nat.le_of_ble_eq_true rfl, Nat.le_of_ble_eq_true rfl⟩) hP hS hA0 (fun E ce q9 H locs x_24 hP hS h91 h92 h93 => vx_out (fun x h => (htb x h).elim) hlocks h91 h92 h93 (fun t ht hvm => vq_Xof (by obtain ⟨rfl, y9⟩ := x_24; simp only [X_mix, if_pos w_1, if_pos w_5, if_neg c_10, if_neg y9]) (hS.F ht)) (vq_wk hS hA).2.2 (Nat.le_of_ble_eq_true rfl) (Nat.le_of_ble_eq_true rfl)) (fun H locs w_24 hP hS => ?_)
    refine W.widen (k := 3) (n := 18) (Nat.le_of_ble_eq_true rfl) (Nat.le_of_ble_eq_true rfl) ?_
    refine lv_iload hx hb d_BR_mix_27 (lv_at hl 5 rfl) ?_
    refine mx_rv (vx_runS (As := [.int q]) (rest := []) ⟨hx, hb, hml, hown, hG⟩ (c_needPart l hlT dC dI cs _ q) (cwS 1 hG (vq_gS vq_t367 vq_t368 vq_t1 vq_t369) rfl rfl rfl (by decide +kernel) ⟨Nat.le_of_ble_eq_true rfl, Nat.le_of_ble_eq_true rfl⟩) (vq_preSr (wc := []) hCx hP (vq_wk hS hA) hA [] rfl) rfl rfl hl.1 rfl (lv_room (Nat.le_of_ble_eq_true rfl)) d_BR_mix_29 ⟨Nat.le_of_ble_eq_true rfl, Nat.le_of_ble_eq_true rfl⟩) hP hS hA0 (fun E ce q9 H locs x_29 hP hS h91 h92 h93 => vx_out (fun x h => (htb x h).elim) hlocks h91 h92 h93 (fun t ht hvm => vq_Xof (by obtain ⟨rfl, y9⟩ := x_29; simp only [X_mix, if_pos w_1, if_pos w_5, if_neg c_10, if_pos w_24, if_neg y9]) (hS.F ht)) (vq_wk hS hA).2.2 (Nat.le_of_ble_eq_true rfl) (Nat.le_of_ble_eq_true rfl)) (fun H locs w_29 hP hS => ?_)
    refine W.widen (k := 4) (n := 24) (Nat.le_of_ble_eq_true rfl) (Nat.le_of_ble_eq_true rfl) ?_
    refine lv_iload hx hb d_BR_mix_32 (lv_at hl 4 rfl) ?_
    refine lv_iconst (v := 0) hx hb d_BR_mix_34 (by decide) ?_
    refine lv_sipush (v := 10000) hx hb d_BR_mix_35 (by decide) ?_
    refine mx_rv (vx_runS (As := [.int aim, .int 0, .int 10000]) (rest := []) ⟨hx, hb, hml, hown, hG⟩ (c_needRange l hlT dC dI cs _ aim 0 10000) (cwS 3 hG (vq_gS vq_t215 vq_t216 vq_t1 vq_t217) rfl rfl rfl (by decide +kernel) ⟨Nat.le_of_ble_eq_true rfl, Nat.le_of_ble_eq_true rfl⟩) (vq_preSr (wc := []) hCx hP (vq_wk hS hA) hA [] rfl) rfl rfl hl.1 rfl (lv_room (Nat.le_of_ble_eq_true rfl)) d_BR_mix_38 ⟨Nat.le_of_ble_eq_true rfl, Nat.le_of_ble_eq_true rfl⟩) hP hS hA0 (fun E ce q9 H locs x_38 hP hS h91 h92 h93 => vx_out (fun x h => (htb x h).elim) hlocks h91 h92 h93 (fun t ht hvm => vq_Xof (by obtain ⟨rfl, y9⟩ := x_38; simp only [X_mix, if_pos w_1, if_pos w_5, if_neg c_10, if_pos w_24, if_pos w_29, if_neg y9]) (hS.F ht)) (vq_wk hS hA).2.2 (Nat.le_of_ble_eq_true rfl) (Nat.le_of_ble_eq_true rfl)) (fun H locs w_38 hP hS => ?_)
    refine W.widen (k := 5) (n := 30) (Nat.le_of_ble_eq_true rfl) (Nat.le_of_ble_eq_true rfl) ?_
    refine lv_aload_n hx hb d_BR_mix_41 rfl (lv_at hl 0 rfl) ?_
    refine va_get (D := (dC, dI)) (ci := 0) (v := .ref aSh) (C := R_BR) (T := F_BR) (N := 11) hx hb hG i_BR hown hK hP 0 rfl rfl 1 (by decide) (hG _ vq_t101) (fun _ h9 => h9) rfl d_BR_mix_42 ?_
    refine lv_iload_n hx hb d_BR_mix_45 rfl (lv_at hl 1 rfl) ?_
    refine lv_iconst (v := 4) hx hb d_BR_mix_46 (by decide) ?_
    refine lv_imul hx hb d_BR_mix_47 ?_
    refine lv_iload_n hx hb d_BR_mix_48 rfl (lv_at hl 3 rfl) ?_
    refine lv_iadd hx hb d_BR_mix_49 ?_
    refine va_iald (D := (dC, dI)) hx hb hK hP 1 0 rfl rfl (vq_ixE w_1 w_24) d_BR_mix_50 ?_
    refine lv_istore (lv' := [(6, .int (fSh ((x * 4) + k).toNatClampNeg)), (0, .ref h0), (1, .int x), (2, .int y), (3, .int k), (4, .int aim), (5, .int q)]) hx hb d_BR_mix_51 hl (by decide) rfl (fun ls hl => ?_)
    refine lv_aload_n hx hb d_BR_mix_53 rfl (lv_at hl 1 rfl) ?_
    refine va_get (D := (dC, dI)) (ci := 0) (v := .ref aSh) (C := R_BR) (T := F_BR) (N := 11) hx hb hG i_BR hown hK hP 0 rfl rfl 1 (by decide) (hG _ vq_t101) (fun _ h9 => h9) rfl d_BR_mix_54 ?_
    refine lv_iload_n hx hb d_BR_mix_57 rfl (lv_at hl 3 rfl) ?_
    refine lv_iconst (v := 4) hx hb d_BR_mix_58 (by decide) ?_
    refine lv_imul hx hb d_BR_mix_59 ?_
    refine lv_iload_n hx hb d_BR_mix_60 rfl (lv_at hl 4 rfl) ?_
    refine lv_iadd hx hb d_BR_mix_61 ?_
    refine va_iald (D := (dC, dI)) hx hb hK hP 1 0 rfl rfl (vq_ixE w_5 w_24) d_BR_mix_62 ?_
    refine lv_istore (lv' := [(7, .int (fSh ((y * 4) + k).toNatClampNeg)), (6, .int (fSh ((x * 4) + k).toNatClampNeg)), (0, .ref h0), (1, .int x), (2, .int y), (3, .int k), (4, .int aim), (5, .int q)]) hx hb d_BR_mix_63 hl (by decide) rfl (fun ls hl => ?_)
    refine lv_iload hx hb d_BR_mix_65 (lv_at hl 1 rfl) ?_
    refine lv_iload hx hb d_BR_mix_67 (lv_at hl 0 rfl) ?_
    refine lv_icmp_eq (tgt := 96) hx hb d_BR_mix_69 (by decide) (fun c_69 => ?_) (fun c_69 => ?_)
    · skip
      exact vq_thr hx hb hlT hown hG hCx hA vq_tw17 hS (by rw [hml]; exact hl.1) d_BR_mix_96 d_BR_mix_99 d_BR_mix_100 d_BR_mix_102 d_BR_mix_105 htb hlocks (Nat.le_of_ble_eq_true rfl) (Nat.le_of_ble_eq_true rfl) (Nat.le_of_ble_eq_true rfl) (Nat.le_of_ble_eq_true rfl) (by simp only [X_mix, if_pos w_1, if_pos w_5, if_neg c_10, if_pos w_24, if_pos w_29, if_pos w_38, if_pos c_69]) (Nat.le_of_ble_eq_true rfl) (Nat.le_of_ble_eq_true rfl)
    · skip
      refine lv_iload hx hb d_BR_mix_72 (lv_at hl 6 rfl) ?_
      refine lv_iload hx hb d_BR_mix_74 (lv_at hl 1 rfl) ?_
      refine lv_iload hx hb d_BR_mix_76 (lv_at hl 0 rfl) ?_
      refine va_mmin hx hb (by rw [hml]; exact hl.1.symm) hown (hG _ vq_t425) (hG _ vq_t426) (hG _ vq_t12) (hG _ vq_t427) (Nat.le_of_ble_eq_true rfl) (Nat.le_of_ble_eq_true rfl) (Nat.le_of_ble_eq_true rfl) (Nat.le_of_ble_eq_true rfl) d_BR_mix_78 ?_
      refine lv_icmp_lt (tgt := 96) hx hb d_BR_mix_81 (by decide) (fun c_81 => ?_) (fun c_81 => ?_)
      · skip
        exact vq_thr hx hb hlT hown hG hCx hA vq_tw17 hS (by rw [hml]; exact hl.1) d_BR_mix_96 d_BR_mix_99 d_BR_mix_100 d_BR_mix_102 d_BR_mix_105 htb hlocks (Nat.le_of_ble_eq_true rfl) (Nat.le_of_ble_eq_true rfl) (Nat.le_of_ble_eq_true rfl) (Nat.le_of_ble_eq_true rfl) (by simp only [X_mix, if_pos w_1, if_pos w_5, if_neg c_10, if_pos w_24, if_pos w_29, if_pos w_38, if_neg c_69, if_pos c_81]) (Nat.le_of_ble_eq_true rfl) (Nat.le_of_ble_eq_true rfl)
      · skip
        refine lv_iload hx hb d_BR_mix_84 (lv_at hl 6 rfl) ?_
        refine lv_iload hx hb d_BR_mix_86 (lv_at hl 1 rfl) ?_
        refine lv_iload hx hb d_BR_mix_88 (lv_at hl 0 rfl) ?_
        refine va_mmax hx hb (by rw [hml]; exact hl.1.symm) hown (hG _ vq_t428) (hG _ vq_t429) (hG _ vq_t12) (hG _ vq_t430) (Nat.le_of_ble_eq_true rfl) (Nat.le_of_ble_eq_true rfl) (Nat.le_of_ble_eq_true rfl) (Nat.le_of_ble_eq_true rfl) d_BR_mix_90 ?_
        refine lv_icmp_le (tgt := 106) hx hb d_BR_mix_93 (by decide) (fun c_93 => ?_) (fun c_93 => ?_)
        · skip
          refine lv_iload hx hb d_BR_mix_106 (lv_at hl 6 rfl) ?_
          refine lv_iload hx hb d_BR_mix_108 (lv_at hl 0 rfl) ?_
          refine lv_isub hx hb d_BR_mix_110 ?_
          refine lv_i2l hx hb d_BR_mix_111 rfl ?_
          refine lv_iload hx hb d_BR_mix_112 (lv_at hl 1 rfl) ?_
          refine lv_iload hx hb d_BR_mix_114 (lv_at hl 0 rfl) ?_
          refine lv_isub hx hb d_BR_mix_116 ?_
          refine lv_i2l hx hb d_BR_mix_117 rfl ?_
          refine lv_iload hx hb d_BR_mix_118 (lv_at hl 7 rfl) ?_
          refine mk_rl (va_runS (As := [.long ((aim - (fSh ((y * 4) + k).toNatClampNeg)).toInt64), .long (((fSh ((x * 4) + k).toNatClampNeg) - (fSh ((y * 4) + k).toNatClampNeg)).toInt64), .int q]) (rest := []) ⟨hx, hb, hml, hown, hG⟩ (c_lowestTerms l dC dI cs _ ((aim - (fSh ((y * 4) + k).toNatClampNeg)).toInt64) (((fSh ((x * 4) + k).toNatClampNeg) - (fSh ((y * 4) + k).toNatClampNeg)).toInt64) q) (cwS 3 hG (vq_gS vq_t376 vq_t377 vq_t1 vq_t378) rfl rfl rfl (by decide +kernel) ⟨Nat.le_of_ble_eq_true rfl, Nat.le_of_ble_eq_true rfl⟩) (vq_preSr (wc := []) hCx hP (vq_wk hS hA) hA [] rfl) rfl rfl hl.1 rfl (lv_room (Nat.le_of_ble_eq_true rfl)) d_BR_mix_120 ⟨Nat.le_of_ble_eq_true rfl, Nat.le_of_ble_eq_true rfl⟩) hP hS hA0 (fun r_120 H locs w_120 hP hS => ?_)
          subst w_120
          refine vx_ret ?_
          refine W.widen (k := 6) (n := 36) (Nat.le_of_ble_eq_true rfl) (Nat.le_of_ble_eq_true rfl) ?_
          exact W.lret (v := lowF ((aim - (fSh ((y * 4) + k).toNatClampNeg)).toInt64) (((fSh ((x * 4) + k).toNatClampNeg) - (fSh ((y * 4) + k).toNatClampNeg)).toInt64) q) hx hb hr (fun t ht hW => ⟨⟨lowF ((aim - (fSh ((y * 4) + k).toNatClampNeg)).toInt64) (((fSh ((x * 4) + k).toNatClampNeg) - (fSh ((y * 4) + k).toNatClampNeg)).toInt64) q, (), rfl, ⟨by rfl, by simp only [X_mix, if_pos w_1, if_pos w_5, if_neg c_10, if_pos w_24, if_pos w_29, if_pos w_38, if_neg c_69, if_neg c_81, if_pos c_93]⟩, trivial⟩, hS.F ht⟩) hS.2.2 d_BR_mix_123
        · skip
          exact vq_thr hx hb hlT hown hG hCx hA vq_tw17 hS (by rw [hml]; exact hl.1) d_BR_mix_96 d_BR_mix_99 d_BR_mix_100 d_BR_mix_102 d_BR_mix_105 htb hlocks (Nat.le_of_ble_eq_true rfl) (Nat.le_of_ble_eq_true rfl) (Nat.le_of_ble_eq_true rfl) (Nat.le_of_ble_eq_true rfl) (by simp only [X_mix, if_pos w_1, if_pos w_5, if_neg c_10, if_pos w_24, if_pos w_29, if_pos w_38, if_neg c_69, if_neg c_81, if_neg c_93]) (Nat.le_of_ble_eq_true rfl) (Nat.le_of_ble_eq_true rfl)
  · skip
    exact vq_thr hx hb hlT hown hG hCx hA vq_tw18 hS (by rw [hml]; exact hl.1) d_BR_mix_13 d_BR_mix_16 d_BR_mix_17 d_BR_mix_19 d_BR_mix_22 htb hlocks (Nat.le_of_ble_eq_true rfl) (Nat.le_of_ble_eq_true rfl) (Nat.le_of_ble_eq_true rfl) (Nat.le_of_ble_eq_true rfl) (by simp only [X_mix, if_pos w_1, if_pos w_5, if_pos c_10]) (Nat.le_of_ble_eq_true rfl) (Nat.le_of_ble_eq_true rfl)
set_option maxHeartbeats 4000000 in
set_option maxRecDepth 100000 in
/-- point -/
theorem c_point (l : Launch) (hlT : l.stackTraces = false) (dC : Nat → ClassId) (dI : Nat → Nat → Nat) (cs : Nat → ClassId) (sz : Nat) (h0 : Nat) (aMo : Nat) (aSh : Nat) (aLa : Nat) (aDy : Nat) (aMa : Nat) (aKi : Nat) (aPi : Nat) (aLn : Nat) (zCn : Int32) (zPc : Int32) (zTo : Int32) (zN : Int32) (zX : Int64) (zY : Int64) (zXX : Int64) (zXY : Int64) (x : Int32) (y : Int32) : vx_Met l y_BR_point w_BR_point ({ frames := 7, cells := 2, slots := 12, locals := 104 }) (vq_Pre (dC, dI) cs [(h0, .inr (0, [.ref aMo, .ref aSh, .ref aLa, .ref aDy, .ref aMa, .ref aKi, .int zCn, .ref aPi, .int zPc, .ref aLn, .int zTo])), (aLn, .inr (2, [.int zN, .long zX, .long zY, .long zXX, .long zXY]))] sz [.ref h0, .int x, .int y]) (va_Qi (fun (r : Int32) (_ : Unit) => r = (zN + 1) ∧ X_point zN x y = none) (vq_B (dC, dI) cs (va_A [(h0, .inr (0, [.ref aMo, .ref aSh, .ref aLa, .ref aDy, .ref aMa, .ref aKi, .int zCn, .ref aPi, .int zPc, .ref aLn, .int zTo])), (aLn, .inr (2, [.int zN, .long zX, .long zY, .long zXX, .long zXY]))] sz) (fun _ => [(h0, .inr (0, [.ref aMo, .ref aSh, .ref aLa, .ref aDy, .ref aMa, .ref aKi, .int zCn, .ref aPi, .int zPc, .ref aLn, .int zTo])), (aLn, .inr (2, [.int (zN + 1), .long (zX + x.toInt64), .long (zY + y.toInt64), .long (zXX + (x.toInt64 * x.toInt64)), .long (zXY + (x.toInt64 * y.toInt64))]))])) (va_A [(h0, .inr (0, [.ref aMo, .ref aSh, .ref aLa, .ref aDy, .ref aMa, .ref aKi, .int zCn, .ref aPi, .int zPc, .ref aLn, .int zTo])), (aLn, .inr (2, [.int zN, .long zX, .long zY, .long zXX, .long zXY]))] sz)) (vq_X (fun E => X_point zN x y = some E) sz) 2 12 (va_A [(h0, .inr (0, [.ref aMo, .ref aSh, .ref aLa, .ref aDy, .ref aMa, .ref aKi, .int zCn, .ref aPi, .int zPc, .ref aLn, .int zTo])), (aLn, .inr (2, [.int zN, .long zX, .long zY, .long zXX, .long zXY]))] sz) := by
  refine vx_ofW (cc := b_BR_point) (maxL := 3) (ret := (some .int)) (by decide) rfl ?_
  intro p e s m args below meth c s₁ B hml htb hv
  obtain ⟨rfl, hsz, hP, hD0, hCx⟩ := hv
  have hx := B.exec
  have hb := B.bytes
  have hr := B.returns
  have hG := vq_hG (atoms_spec (ws := w_BR_point) B.pre)
  have hown : s.vm.findClass R_BR = some m.cls := findClass_of_methodNamed B.named
  have hlocks := B.notSynchronized
  subst hsz
  have hK := hCx.1
  have hD := hD0.self (sz := s.heap.size)
  generalize hAe : va_A [(h0, .inr (0, [.ref aMo, .ref aSh, .ref aLa, .ref aDy, .ref aMa, .ref aKi, .int zCn, .ref aPi, .int zPc, .ref aLn, .int zTo])), (aLn, .inr (2, [.int zN, .long zX, .long zY, .long zXX, .long zXY]))] s.heap.size = A at hD hCx ⊢
  have hA : ∀ q : Nat, s.heap.size ≤ q → A q := fun q h => by rw [← hAe]; exact Or.inr h
  have hA0 : ∀ q : Nat, s.heap.size ≤ q → va_A [] s.heap.size q := fun q h => Or.inr h
  have hS : va_S (va_A [] s.heap.size) s.heap s.heap [] := va_S.rf
  have hl := lv_entry ([.ref h0, .int x, .int y]) (n := 3) (Nat.le_of_ble_eq_true rfl)
  rw [lg_entry_eq]
  generalize (lg_sl ([.ref h0, .int x, .int y]) ++ List.replicate (3 - (lg_sl ([.ref h0, .int x, .int y])).length) Slot.unset).toArray = ls at hl ⊢
  have hl : lv_has ls 3 [(0, .ref h0), (1, .int x), (2, .int y)] := hl
  have hP : va_P (dC, dI) vq_cl [(h0, .inr (0, [.ref aMo, .ref aSh, .ref aLa, .ref aDy, .ref aMa, .ref aKi, .int zCn, .ref aPi, .int zPc, .ref aLn, .int zTo])), (aLn, .inr (2, [.int zN, .long zX, .long zY, .long zXX, .long zXY]))] s.heap := hP
  refine lv_aload_n hx hb d_BR_point_0 rfl (lv_at hl 0 rfl) ?_
  refine va_get (D := (dC, dI)) (ci := 0) (v := .ref aLn) (C := R_BR) (T := F_BR) (N := 11) hx hb hG i_BR hown hK hP 0 rfl rfl 9 (by decide) (hG _ vq_t109) (fun _ h9 => h9) rfl d_BR_point_1 ?_
  refine va_getN (D := (dC, dI)) (ci := 2) (v := .int zN) (C := R_LI) (T := F_LI) (N := 5) hx hb hG i_LI hown hK hP 1 rfl rfl 0 (by decide) (va_Nw.use rfl (hCx.2.1 _ vq_nf7)) (fun _ h9 => h9) rfl d_BR_point_4 ?_
  refine lv_bipush (v := 20) hx hb d_BR_point_7 (by decide) ?_
  refine lv_icmp_lt (tgt := 22) hx hb d_BR_point_9 (by decide) (fun c_9 => ?_) (fun c_9 => ?_)
  · skip
    refine lv_iload_n hx hb d_BR_point_22 rfl (lv_at hl 1 rfl) ?_
    refine lv_iconst (v := 0) hx hb d_BR_point_23 (by decide) ?_
    refine lv_sipush (v := 10000) hx hb d_BR_point_24 (by decide) ?_
    refine mx_rv (vx_runS (As := [.int x, .int 0, .int 10000]) (rest := []) ⟨hx, hb, hml, hown, hG⟩ (c_needRange l hlT dC dI cs _ x 0 10000) (cwS 3 hG (vq_gS vq_t215 vq_t216 vq_t1 vq_t217) rfl rfl rfl (by decide +kernel) ⟨Nat.le_of_ble_eq_true rfl, Nat.le_of_ble_eq_true rfl⟩) (vq_preSr (wc := []) hCx hP (vq_wk hS hA) hA [] rfl) rfl rfl hl.1 rfl (lv_room (Nat.le_of_ble_eq_true rfl)) d_BR_point_27 ⟨Nat.le_of_ble_eq_true rfl, Nat.le_of_ble_eq_true rfl⟩) hP hS hA0 (fun E ce q9 H locs x_27 hP hS h91 h92 h93 => vx_out (fun x h => (htb x h).elim) hlocks h91 h92 h93 (fun t ht hvm => vq_Xof (by obtain ⟨rfl, y9⟩ := x_27; simp only [X_point, if_pos c_9, if_neg y9]) (hS.F ht)) (vq_wk hS hA).2.2 (Nat.le_of_ble_eq_true rfl) (Nat.le_of_ble_eq_true rfl)) (fun H locs w_27 hP hS => ?_)
    refine W.widen (k := 1) (n := 6) (Nat.le_of_ble_eq_true rfl) (Nat.le_of_ble_eq_true rfl) ?_
    refine lv_iload_n hx hb d_BR_point_30 rfl (lv_at hl 2 rfl) ?_
    refine lv_iconst (v := 0) hx hb d_BR_point_31 (by decide) ?_
    refine lv_sipush (v := 10000) hx hb d_BR_point_32 (by decide) ?_
    refine mx_rv (vx_runS (As := [.int y, .int 0, .int 10000]) (rest := []) ⟨hx, hb, hml, hown, hG⟩ (c_needRange l hlT dC dI cs _ y 0 10000) (cwS 3 hG (vq_gS vq_t215 vq_t216 vq_t1 vq_t217) rfl rfl rfl (by decide +kernel) ⟨Nat.le_of_ble_eq_true rfl, Nat.le_of_ble_eq_true rfl⟩) (vq_preSr (wc := []) hCx hP (vq_wk hS hA) hA [] rfl) rfl rfl hl.1 rfl (lv_room (Nat.le_of_ble_eq_true rfl)) d_BR_point_35 ⟨Nat.le_of_ble_eq_true rfl, Nat.le_of_ble_eq_true rfl⟩) hP hS hA0 (fun E ce q9 H locs x_35 hP hS h91 h92 h93 => vx_out (fun x h => (htb x h).elim) hlocks h91 h92 h93 (fun t ht hvm => vq_Xof (by obtain ⟨rfl, y9⟩ := x_35; simp only [X_point, if_pos c_9, if_pos w_27, if_neg y9]) (hS.F ht)) (vq_wk hS hA).2.2 (Nat.le_of_ble_eq_true rfl) (Nat.le_of_ble_eq_true rfl)) (fun H locs w_35 hP hS => ?_)
    refine W.widen (k := 2) (n := 12) (Nat.le_of_ble_eq_true rfl) (Nat.le_of_ble_eq_true rfl) ?_
    refine lv_aload_n hx hb d_BR_point_38 rfl (lv_at hl 0 rfl) ?_
    refine va_get (D := (dC, dI)) (ci := 0) (v := .ref aLn) (C := R_BR) (T := F_BR) (N := 11) hx hb hG i_BR hown hK hP 0 rfl rfl 9 (by decide) (hG _ vq_t109) (fun _ h9 => h9) rfl d_BR_point_39 ?_
    refine lv_iload_n hx hb d_BR_point_42 rfl (lv_at hl 1 rfl) ?_
    refine lv_iload_n hx hb d_BR_point_43 rfl (lv_at hl 2 rfl) ?_
    have hS := vq_wk hS hA
    refine mk_wv (va_runV (As := [.int x, .int y]) (rest := []) ⟨hx, hb, hml, hown, hG⟩ (c_addPoint l dC dI cs _ aLn zN zX zY zXX zXY x y) (cwV 2 hG (vq_gV vq_t440 vq_t441 vq_t442 vq_t2 vq_t443) rfl rfl rfl (by decide +kernel) ⟨Nat.le_of_ble_eq_true rfl, Nat.le_of_ble_eq_true rfl⟩) (vq_preVw (wc := [(aLn, .inr (2, [.int zN, .long zX, .long zY, .long zXX, .long zXY]))]) (va_recv hK hP (ci := 2) (q0 := 1) rfl rfl) hCx hP hD hS hA [1] rfl rfl (by decide)) rfl rfl hl.1 rfl (lv_room (Nat.le_of_ble_eq_true rfl)) d_BR_point_44 ⟨Nat.le_of_ble_eq_true rfl, Nat.le_of_ble_eq_true rfl⟩) hP hD hS hA [1] [0] rfl rfl (by decide) (by decide) (fun _ H locs w_44 hP hD hS => ?_)
    have hP : va_P (dC, dI) vq_cl [(h0, .inr (0, [.ref aMo, .ref aSh, .ref aLa, .ref aDy, .ref aMa, .ref aKi, .int zCn, .ref aPi, .int zPc, .ref aLn, .int zTo])), (aLn, .inr (2, [.int (zN + 1), .long (zX + x.toInt64), .long (zY + y.toInt64), .long (zXX + (x.toInt64 * x.toInt64)), .long (zXY + (x.toInt64 * y.toInt64))]))] H := hP
    have hD : va_D A [(h0, .inr (0, [.ref aMo, .ref aSh, .ref aLa, .ref aDy, .ref aMa, .ref aKi, .int zCn, .ref aPi, .int zPc, .ref aLn, .int zTo])), (aLn, .inr (2, [.int (zN + 1), .long (zX + x.toInt64), .long (zY + y.toInt64), .long (zXX + (x.toInt64 * x.toInt64)), .long (zXY + (x.toInt64 * y.toInt64))]))] := hD
    refine lv_aload_n hx hb d_BR_point_47 rfl (lv_at hl 0 rfl) ?_
    refine va_get (D := (dC, dI)) (ci := 0) (v := .ref aLn) (C := R_BR) (T := F_BR) (N := 11) hx hb hG i_BR hown hK hP 0 rfl rfl 9 (by decide) (hG _ vq_t109) (fun _ h9 => h9) rfl d_BR_point_48 ?_
    refine va_getN (D := (dC, dI)) (ci := 2) (v := .int (zN + 1)) (C := R_LI) (T := F_LI) (N := 5) hx hb hG i_LI hown hK hP 1 rfl rfl 0 (by decide) (va_Nw.use rfl (hCx.2.1 _ vq_nf7)) (fun _ h9 => h9) rfl d_BR_point_51 ?_
    refine vx_ret ?_
    refine W.widen (k := 2) (n := 12) (Nat.le_of_ble_eq_true rfl) (Nat.le_of_ble_eq_true rfl) ?_
    have hP9 : va_P (dC, dI) vq_cl [(h0, .inr (0, [.ref aMo, .ref aSh, .ref aLa, .ref aDy, .ref aMa, .ref aKi, .int zCn, .ref aPi, .int zPc, .ref aLn, .int zTo])), (aLn, .inr (2, [.int (zN + 1), .long (zX + x.toInt64), .long (zY + y.toInt64), .long (zXX + (x.toInt64 * x.toInt64)), .long (zXY + (x.toInt64 * y.toInt64))]))] _ := hP.sub [0, 1] rfl
    have hD9 : va_D A [(h0, .inr (0, [.ref aMo, .ref aSh, .ref aLa, .ref aDy, .ref aMa, .ref aKi, .int zCn, .ref aPi, .int zPc, .ref aLn, .int zTo])), (aLn, .inr (2, [.int (zN + 1), .long (zX + x.toInt64), .long (zY + y.toInt64), .long (zXX + (x.toInt64 * x.toInt64)), .long (zXY + (x.toInt64 * y.toInt64))]))] := hD.sub [0, 1] (by decide) rfl
    exact W.iret (v := (zN + 1)) hx hb hr (fun t ht hW => ⟨⟨(zN + 1), (), rfl, ⟨rfl, by simp only [X_point, if_pos c_9, if_pos w_27, if_pos w_35]⟩, ⟨by rw [ht]; exact hP9, hD9⟩⟩, hS.F ht⟩) hS.2.2 d_BR_point_54
  · skip
    exact vq_thr hx hb hlT hown hG hCx hA vq_tw19 hS (by rw [hml]; exact hl.1) d_BR_point_12 d_BR_point_15 d_BR_point_16 d_BR_point_18 d_BR_point_21 htb hlocks (Nat.le_of_ble_eq_true rfl) (Nat.le_of_ble_eq_true rfl) (Nat.le_of_ble_eq_true rfl) (Nat.le_of_ble_eq_true rfl) (by simp only [X_point, if_neg c_9]) (Nat.le_of_ble_eq_true rfl) (Nat.le_of_ble_eq_true rfl)
set_option maxHeartbeats 4000000 in
set_option maxRecDepth 100000 in
/-- fit -/
theorem c_fit (l : Launch) (hlT : l.stackTraces = false) (dC : Nat → ClassId) (dI : Nat → Nat → Nat) (cs : Nat → ClassId) (sz : Nat) (h0 : Nat) (aMo : Nat) (aSh : Nat) (aLa : Nat) (aDy : Nat) (aMa : Nat) (aKi : Nat) (aPi : Nat) (aLn : Nat) (zCn : Int32) (zPc : Int32) (zTo : Int32) (zN : Int32) (zX : Int64) (zY : Int64) (zXX : Int64) (zXY : Int64) (w : Int32) (q : Int32) : vx_Met l y_BR_fit w_BR_fit ({ frames := 7, cells := 2, slots := 12, locals := 102 }) (vq_PreR (dC, dI) cs [(h0, .inr (0, [.ref aMo, .ref aSh, .ref aLa, .ref aDy, .ref aMa, .ref aKi, .int zCn, .ref aPi, .int zPc, .ref aLn, .int zTo])), (aLn, .inr (2, [.int zN, .long zX, .long zY, .long zXX, .long zXY]))] sz [.ref h0, .int w, .int q]) (va_Ql (fun (r : Int64) (_ : Unit) => r = lowF (fitF w zN zX zY zXX zXY) ((zN.toInt64 * zXX) - (zX * zX)) q ∧ X_fit w q ((zN.toInt64 * zXX) - (zX * zX)) = none) (fun _ _ => True) (va_A [] sz)) (vq_X (fun E => X_fit w q ((zN.toInt64 * zXX) - (zX * zX)) = some E) sz) 2 12 (va_A [] sz) := by
  refine vx_ofW (cc := b_BR_fit) (maxL := 5) (ret := (some .long)) (by decide) rfl ?_
  intro p e s m args below meth c s₁ B hml htb hv
  obtain ⟨rfl, hsz, hP, hCx⟩ := hv
  have hx := B.exec
  have hb := B.bytes
  have hr := B.returns
  have hG := vq_hG (atoms_spec (ws := w_BR_fit) B.pre)
  have hown : s.vm.findClass R_BR = some m.cls := findClass_of_methodNamed B.named
  have hlocks := B.notSynchronized
  subst hsz
  have hK := hCx.1
  have hA : ∀ q : Nat, s.heap.size ≤ q → va_A [] s.heap.size q := fun q h => Or.inr h
  have hA0 : ∀ q : Nat, s.heap.size ≤ q → va_A [] s.heap.size q := fun q h => Or.inr h
  have hS : va_S (va_A [] s.heap.size) s.heap s.heap [] := va_S.rf
  have hl := lv_entry ([.ref h0, .int w, .int q]) (n := 5) (Nat.le_of_ble_eq_true rfl)
  rw [lg_entry_eq]
  generalize (lg_sl ([.ref h0, .int w, .int q]) ++ List.replicate (5 - (lg_sl ([.ref h0, .int w, .int q])).length) Slot.unset).toArray = ls at hl ⊢
  have hl : lv_has ls 5 [(0, .ref h0), (1, .int w), (2, .int q)] := hl
  have hP : va_P (dC, dI) vq_cl [(h0, .inr (0, [.ref aMo, .ref aSh, .ref aLa, .ref aDy, .ref aMa, .ref aKi, .int zCn, .ref aPi, .int zPc, .ref aLn, .int zTo])), (aLn, .inr (2, [.int zN, .long zX, .long zY, .long zXX, .long zXY]))] s.heap := hP
  refine lv_iload_n hx hb d_BR_fit_0 rfl (lv_at hl 1 rfl) ?_
  refine lv_if_lt (tgt := 9) hx hb d_BR_fit_1 (by decide) (fun c_1 => ?_) (fun c_1 => ?_)
  · skip
    exact vq_thr hx hb hlT hown hG hCx hA vq_tw16 hS (by rw [hml]; exact hl.1) d_BR_fit_9 d_BR_fit_12 d_BR_fit_13 d_BR_fit_15 d_BR_fit_18 htb hlocks (Nat.le_of_ble_eq_true rfl) (Nat.le_of_ble_eq_true rfl) (Nat.le_of_ble_eq_true rfl) (Nat.le_of_ble_eq_true rfl) (by simp only [X_fit, if_pos c_1]) (Nat.le_of_ble_eq_true rfl) (Nat.le_of_ble_eq_true rfl)
  · skip
    refine lv_iload_n hx hb d_BR_fit_4 rfl (lv_at hl 1 rfl) ?_
    refine lv_iconst (v := 1) hx hb d_BR_fit_5 (by decide) ?_
    refine lv_icmp_le (tgt := 19) hx hb d_BR_fit_6 (by decide) (fun c_6 => ?_) (fun c_6 => ?_)
    · skip
      refine lv_iload_n hx hb d_BR_fit_19 rfl (lv_at hl 2 rfl) ?_
      refine mx_rv (vx_runS (As := [.int q]) (rest := []) ⟨hx, hb, hml, hown, hG⟩ (c_needPart l hlT dC dI cs _ q) (cwS 1 hG (vq_gS vq_t367 vq_t368 vq_t1 vq_t369) rfl rfl rfl (by decide +kernel) ⟨Nat.le_of_ble_eq_true rfl, Nat.le_of_ble_eq_true rfl⟩) (vq_preSr (wc := []) hCx hP (vq_wk hS hA) hA [] rfl) rfl rfl hl.1 rfl (lv_room (Nat.le_of_ble_eq_true rfl)) d_BR_fit_20 ⟨Nat.le_of_ble_eq_true rfl, Nat.le_of_ble_eq_true rfl⟩) hP hS hA0 (fun E ce q9 H locs x_20 hP hS h91 h92 h93 => vx_out (fun x h => (htb x h).elim) hlocks h91 h92 h93 (fun t ht hvm => vq_Xof (by obtain ⟨rfl, y9⟩ := x_20; simp only [X_fit, if_neg c_1, if_pos c_6, if_neg y9]) (hS.F ht)) (vq_wk hS hA).2.2 (Nat.le_of_ble_eq_true rfl) (Nat.le_of_ble_eq_true rfl)) (fun H locs w_20 hP hS => ?_)
      refine W.widen (k := 1) (n := 6) (Nat.le_of_ble_eq_true rfl) (Nat.le_of_ble_eq_true rfl) ?_
      refine lv_aload_n hx hb d_BR_fit_23 rfl (lv_at hl 0 rfl) ?_
      refine va_get (D := (dC, dI)) (ci := 0) (v := .ref aLn) (C := R_BR) (T := F_BR) (N := 11) hx hb hG i_BR hown hK hP 0 rfl rfl 9 (by decide) (hG _ vq_t109) (fun _ h9 => h9) rfl d_BR_fit_24 ?_
      refine mk_rl (va_runV (As := []) (rest := []) ⟨hx, hb, hml, hown, hG⟩ (c_lower l dC dI cs _ aLn zN zX zY zXX zXY) (cwV 0 hG (vq_gV vq_t451 vq_t452 vq_t453 vq_t2 vq_t454) rfl rfl rfl (by decide +kernel) ⟨Nat.le_of_ble_eq_true rfl, Nat.le_of_ble_eq_true rfl⟩) (vq_preVr (wc := [(aLn, .inr (2, [.int zN, .long zX, .long zY, .long zXX, .long zXY]))]) (va_recv hK hP (ci := 2) (q0 := 1) rfl rfl) hCx hP (vq_wk hS hA) hA [1] rfl) rfl rfl hl.1 rfl (lv_room (Nat.le_of_ble_eq_true rfl)) d_BR_fit_27 ⟨Nat.le_of_ble_eq_true rfl, Nat.le_of_ble_eq_true rfl⟩) hP hS hA0 (fun r_27 H locs w_27 hP hS => ?_)
      subst w_27
      refine lv_lstore_n (lv' := [(3, .long ((zN.toInt64 * zXX) - (zX * zX))), (0, .ref h0), (1, .int w), (2, .int q)]) hx hb d_BR_fit_30 rfl hl (by decide) rfl (fun ls hl => ?_)
      refine lv_lload_n hx hb d_BR_fit_31 rfl (lv_at hl 0 rfl) ?_
      refine lv_lconst (v := 0) hx hb d_BR_fit_32 (by decide) ?_
      refine W.lcmp hx hb d_BR_fit_33 ?_
      refine lv_if_ne (tgt := 47) hx hb d_BR_fit_34 (by decide) (fun c_34 => ?_) (fun c_34 => ?_)
      · skip
        have c_34 := (not_congr (lg_cmp_eq ((zN.toInt64 * zXX) - (zX * zX)) 0)).mp c_34
        refine lv_iload_n hx hb d_BR_fit_47 rfl (lv_at hl 2 rfl) ?_
        refine lv_if_ne (tgt := 61) hx hb d_BR_fit_48 (by decide) (fun c_48 => ?_) (fun c_48 => ?_)
        · skip
          refine lv_aload_n hx hb d_BR_fit_61 rfl (lv_at hl 1 rfl) ?_
          refine va_get (D := (dC, dI)) (ci := 0) (v := .ref aLn) (C := R_BR) (T := F_BR) (N := 11) hx hb hG i_BR hown hK hP 0 rfl rfl 9 (by decide) (hG _ vq_t109) (fun _ h9 => h9) rfl d_BR_fit_62 ?_
          refine mk_rl (va_runV (As := []) (rest := []) ⟨hx, hb, hml, hown, hG⟩ (c_heightUpper l dC dI cs _ aLn zN zX zY zXX zXY) (cwV 0 hG (vq_gV vq_t460 vq_t461 vq_t462 vq_t2 vq_t463) rfl rfl rfl (by decide +kernel) ⟨Nat.le_of_ble_eq_true rfl, Nat.le_of_ble_eq_true rfl⟩) (vq_preVr (wc := [(aLn, .inr (2, [.int zN, .long zX, .long zY, .long zXX, .long zXY]))]) (va_recv hK hP (ci := 2) (q0 := 1) rfl rfl) hCx hP (vq_wk hS hA) hA [1] rfl) rfl rfl hl.1 rfl (lv_room (Nat.le_of_ble_eq_true rfl)) d_BR_fit_65 ⟨Nat.le_of_ble_eq_true rfl, Nat.le_of_ble_eq_true rfl⟩) hP hS hA0 (fun r_65 H locs w_65 hP hS => ?_)
          subst w_65
          refine lv_lload_n hx hb d_BR_fit_68 rfl (lv_at hl 0 rfl) ?_
          refine lv_iload_n hx hb d_BR_fit_69 rfl (lv_at hl 3 rfl) ?_
          refine mk_rl (va_runS (As := [.long ((zY * zXX) - (zX * zXY)), .long ((zN.toInt64 * zXX) - (zX * zX)), .int q]) (rest := []) ⟨hx, hb, hml, hown, hG⟩ (c_lowestTerms l dC dI cs _ ((zY * zXX) - (zX * zXY)) ((zN.toInt64 * zXX) - (zX * zX)) q) (cwS 3 hG (vq_gS vq_t376 vq_t377 vq_t1 vq_t378) rfl rfl rfl (by decide +kernel) ⟨Nat.le_of_ble_eq_true rfl, Nat.le_of_ble_eq_true rfl⟩) (vq_preSr (wc := []) hCx hP (vq_wk hS hA) hA [] rfl) rfl rfl hl.1 rfl (lv_room (Nat.le_of_ble_eq_true rfl)) d_BR_fit_70 ⟨Nat.le_of_ble_eq_true rfl, Nat.le_of_ble_eq_true rfl⟩) hP hS hA0 (fun r_70 H locs w_70 hP hS => ?_)
          subst w_70
          refine vx_ret ?_
          refine W.widen (k := 2) (n := 12) (Nat.le_of_ble_eq_true rfl) (Nat.le_of_ble_eq_true rfl) ?_
          exact W.lret (v := lowF ((zY * zXX) - (zX * zXY)) ((zN.toInt64 * zXX) - (zX * zX)) q) hx hb hr (fun t ht hW => ⟨⟨lowF ((zY * zXX) - (zX * zXY)) ((zN.toInt64 * zXX) - (zX * zX)) q, (), rfl, ⟨by simp only [fitF, if_neg c_1, if_pos c_6, if_pos w_20, if_neg c_34, if_neg c_48], by simp only [X_fit, if_neg c_1, if_pos c_6, if_pos w_20, if_neg c_34, if_neg c_48]⟩, trivial⟩, hS.F ht⟩) hS.2.2 d_BR_fit_73
        · skip
          refine lv_aload_n hx hb d_BR_fit_51 rfl (lv_at hl 1 rfl) ?_
          refine va_get (D := (dC, dI)) (ci := 0) (v := .ref aLn) (C := R_BR) (T := F_BR) (N := 11) hx hb hG i_BR hown hK hP 0 rfl rfl 9 (by decide) (hG _ vq_t109) (fun _ h9 => h9) rfl d_BR_fit_52 ?_
          refine mk_rl (va_runV (As := []) (rest := []) ⟨hx, hb, hml, hown, hG⟩ (c_slopeUpper l dC dI cs _ aLn zN zX zY zXX zXY) (cwV 0 hG (vq_gV vq_t456 vq_t457 vq_t458 vq_t2 vq_t459) rfl rfl rfl (by decide +kernel) ⟨Nat.le_of_ble_eq_true rfl, Nat.le_of_ble_eq_true rfl⟩) (vq_preVr (wc := [(aLn, .inr (2, [.int zN, .long zX, .long zY, .long zXX, .long zXY]))]) (va_recv hK hP (ci := 2) (q0 := 1) rfl rfl) hCx hP (vq_wk hS hA) hA [1] rfl) rfl rfl hl.1 rfl (lv_room (Nat.le_of_ble_eq_true rfl)) d_BR_fit_55 ⟨Nat.le_of_ble_eq_true rfl, Nat.le_of_ble_eq_true rfl⟩) hP hS hA0 (fun r_55 H locs w_55 hP hS => ?_)
          subst w_55
          refine lv_goto (tgt := 68) hx hb d_BR_fit_58 (by decide) ?_
          refine lv_lload_n hx hb d_BR_fit_68 rfl (lv_at hl 0 rfl) ?_
          refine lv_iload_n hx hb d_BR_fit_69 rfl (lv_at hl 3 rfl) ?_
          refine mk_rl (va_runS (As := [.long ((zN.toInt64 * zXY) - (zX * zY)), .long ((zN.toInt64 * zXX) - (zX * zX)), .int q]) (rest := []) ⟨hx, hb, hml, hown, hG⟩ (c_lowestTerms l dC dI cs _ ((zN.toInt64 * zXY) - (zX * zY)) ((zN.toInt64 * zXX) - (zX * zX)) q) (cwS 3 hG (vq_gS vq_t376 vq_t377 vq_t1 vq_t378) rfl rfl rfl (by decide +kernel) ⟨Nat.le_of_ble_eq_true rfl, Nat.le_of_ble_eq_true rfl⟩) (vq_preSr (wc := []) hCx hP (vq_wk hS hA) hA [] rfl) rfl rfl hl.1 rfl (lv_room (Nat.le_of_ble_eq_true rfl)) d_BR_fit_70 ⟨Nat.le_of_ble_eq_true rfl, Nat.le_of_ble_eq_true rfl⟩) hP hS hA0 (fun r_70 H locs w_70 hP hS => ?_)
          subst w_70
          refine vx_ret ?_
          refine W.widen (k := 2) (n := 12) (Nat.le_of_ble_eq_true rfl) (Nat.le_of_ble_eq_true rfl) ?_
          exact W.lret (v := lowF ((zN.toInt64 * zXY) - (zX * zY)) ((zN.toInt64 * zXX) - (zX * zX)) q) hx hb hr (fun t ht hW => ⟨⟨lowF ((zN.toInt64 * zXY) - (zX * zY)) ((zN.toInt64 * zXX) - (zX * zX)) q, (), rfl, ⟨by simp only [fitF, if_neg c_1, if_pos c_6, if_pos w_20, if_neg c_34, if_pos c_48], by simp only [X_fit, if_neg c_1, if_pos c_6, if_pos w_20, if_neg c_34, if_pos c_48]⟩, trivial⟩, hS.F ht⟩) hS.2.2 d_BR_fit_73
      · skip
        have c_34 := (lg_cmp_eq ((zN.toInt64 * zXX) - (zX * zX)) 0).mp c_34
        exact vq_thr hx hb hlT hown hG hCx hA vq_tw20 hS (by rw [hml]; exact hl.1) d_BR_fit_37 d_BR_fit_40 d_BR_fit_41 d_BR_fit_43 d_BR_fit_46 htb hlocks (Nat.le_of_ble_eq_true rfl) (Nat.le_of_ble_eq_true rfl) (Nat.le_of_ble_eq_true rfl) (Nat.le_of_ble_eq_true rfl) (by simp only [X_fit, if_neg c_1, if_pos c_6, if_pos w_20, if_pos c_34]) (Nat.le_of_ble_eq_true rfl) (Nat.le_of_ble_eq_true rfl)
    · skip
      exact vq_thr hx hb hlT hown hG hCx hA vq_tw16 hS (by rw [hml]; exact hl.1) d_BR_fit_9 d_BR_fit_12 d_BR_fit_13 d_BR_fit_15 d_BR_fit_18 htb hlocks (Nat.le_of_ble_eq_true rfl) (Nat.le_of_ble_eq_true rfl) (Nat.le_of_ble_eq_true rfl) (Nat.le_of_ble_eq_true rfl) (by simp only [X_fit, if_neg c_1, if_neg c_6]) (Nat.le_of_ble_eq_true rfl) (Nat.le_of_ble_eq_true rfl)
set_option maxHeartbeats 4000000 in
set_option maxRecDepth 100000 in
/-- tick -/
theorem c_tick (l : Launch) (hlT : l.stackTraces = false) (dC : Nat → ClassId) (dI : Nat → Nat → Nat) (cs : Nat → ClassId) (sz : Nat) (h0 : Nat) (aMo : Nat) (aSh : Nat) (aLa : Nat) (aDy : Nat) (aMa : Nat) (aKi : Nat) (aPi : Nat) (aLn : Nat) (zCn : Int32) (zPc : Int32) (zTo : Int32) (x : Int32) : vx_Met l y_BR_tick w_BR_tick ({ frames := 7, cells := 2, slots := 12, locals := 104 }) (vq_Pre (dC, dI) cs [(h0, .inr (0, [.ref aMo, .ref aSh, .ref aLa, .ref aDy, .ref aMa, .ref aKi, .int zCn, .ref aPi, .int zPc, .ref aLn, .int zTo]))] sz [.ref h0, .int x]) (va_Qi (fun (r : Int32) (_ : Unit) => r = (zTo + x) ∧ X_tick x zTo = none) (vq_B (dC, dI) cs (va_A [(h0, .inr (0, [.ref aMo, .ref aSh, .ref aLa, .ref aDy, .ref aMa, .ref aKi, .int zCn, .ref aPi, .int zPc, .ref aLn, .int zTo]))] sz) (fun _ => [(h0, .inr (0, [.ref aMo, .ref aSh, .ref aLa, .ref aDy, .ref aMa, .ref aKi, .int zCn, .ref aPi, .int zPc, .ref aLn, .int (zTo + x)]))])) (va_A [(h0, .inr (0, [.ref aMo, .ref aSh, .ref aLa, .ref aDy, .ref aMa, .ref aKi, .int zCn, .ref aPi, .int zPc, .ref aLn, .int zTo]))] sz)) (vq_X (fun E => X_tick x zTo = some E) sz) 2 12 (va_A [(h0, .inr (0, [.ref aMo, .ref aSh, .ref aLa, .ref aDy, .ref aMa, .ref aKi, .int zCn, .ref aPi, .int zPc, .ref aLn, .int zTo]))] sz) := by
  refine vx_ofW (cc := b_BR_tick) (maxL := 2) (ret := (some .int)) (by decide) rfl ?_
  intro p e s m args below meth c s₁ B hml htb hv
  obtain ⟨rfl, hsz, hP, hD0, hCx⟩ := hv
  have hx := B.exec
  have hb := B.bytes
  have hr := B.returns
  have hG := vq_hG (atoms_spec (ws := w_BR_tick) B.pre)
  have hown : s.vm.findClass R_BR = some m.cls := findClass_of_methodNamed B.named
  have hlocks := B.notSynchronized
  subst hsz
  have hK := hCx.1
  have hD := hD0.self (sz := s.heap.size)
  generalize hAe : va_A [(h0, .inr (0, [.ref aMo, .ref aSh, .ref aLa, .ref aDy, .ref aMa, .ref aKi, .int zCn, .ref aPi, .int zPc, .ref aLn, .int zTo]))] s.heap.size = A at hD hCx ⊢
  have hA : ∀ q : Nat, s.heap.size ≤ q → A q := fun q h => by rw [← hAe]; exact Or.inr h
  have hA0 : ∀ q : Nat, s.heap.size ≤ q → va_A [] s.heap.size q := fun q h => Or.inr h
  have hS : va_S (va_A [] s.heap.size) s.heap s.heap [] := va_S.rf
  have hl := lv_entry ([.ref h0, .int x]) (n := 2) (Nat.le_of_ble_eq_true rfl)
  rw [lg_entry_eq]
  generalize (lg_sl ([.ref h0, .int x]) ++ List.replicate (2 - (lg_sl ([.ref h0, .int x])).length) Slot.unset).toArray = ls at hl ⊢
  have hl : lv_has ls 2 [(0, .ref h0), (1, .int x)] := hl
  have hP : va_P (dC, dI) vq_cl [(h0, .inr (0, [.ref aMo, .ref aSh, .ref aLa, .ref aDy, .ref aMa, .ref aKi, .int zCn, .ref aPi, .int zPc, .ref aLn, .int zTo]))] s.heap := hP
  refine lv_iload_n hx hb d_BR_tick_0 rfl (lv_at hl 1 rfl) ?_
  refine lv_iconst (v := 1) hx hb d_BR_tick_1 (by decide) ?_
  refine lv_sipush (v := 1000) hx hb d_BR_tick_2 (by decide) ?_
  refine mx_rv (vx_runS (As := [.int x, .int 1, .int 1000]) (rest := []) ⟨hx, hb, hml, hown, hG⟩ (c_needRange l hlT dC dI cs _ x 1 1000) (cwS 3 hG (vq_gS vq_t215 vq_t216 vq_t1 vq_t217) rfl rfl rfl (by decide +kernel) ⟨Nat.le_of_ble_eq_true rfl, Nat.le_of_ble_eq_true rfl⟩) (vq_preSr (wc := []) hCx hP (vq_wk hS hA) hA [] rfl) rfl rfl hl.1 rfl (lv_room (Nat.le_of_ble_eq_true rfl)) d_BR_tick_5 ⟨Nat.le_of_ble_eq_true rfl, Nat.le_of_ble_eq_true rfl⟩) hP hS hA0 (fun E ce q9 H locs x_5 hP hS h91 h92 h93 => vx_out (fun x h => (htb x h).elim) hlocks h91 h92 h93 (fun t ht hvm => vq_Xof (by obtain ⟨rfl, y9⟩ := x_5; simp only [X_tick, if_neg y9]) (hS.F ht)) (vq_wk hS hA).2.2 (Nat.le_of_ble_eq_true rfl) (Nat.le_of_ble_eq_true rfl)) (fun H locs w_5 hP hS => ?_)
  refine W.widen (k := 1) (n := 6) (Nat.le_of_ble_eq_true rfl) (Nat.le_of_ble_eq_true rfl) ?_
  refine lv_aload_n hx hb d_BR_tick_8 rfl (lv_at hl 0 rfl) ?_
  refine va_get (D := (dC, dI)) (ci := 0) (v := .int zTo) (C := R_BR) (T := F_BR) (N := 11) hx hb hG i_BR hown hK hP 0 rfl rfl 10 (by decide) (hG _ vq_t110) (fun _ h9 => h9) rfl d_BR_tick_9 ?_
  refine lv_iload_n hx hb d_BR_tick_12 rfl (lv_at hl 1 rfl) ?_
  refine lv_iadd hx hb d_BR_tick_13 ?_
  refine lv_iconst (v := 0) hx hb d_BR_tick_14 (by decide) ?_
  refine lv_sipush (v := 9999) hx hb d_BR_tick_15 (by decide) ?_
  refine mx_rv (vx_runS (As := [.int (zTo + x), .int 0, .int 9999]) (rest := []) ⟨hx, hb, hml, hown, hG⟩ (c_needRange l hlT dC dI cs _ (zTo + x) 0 9999) (cwS 3 hG (vq_gS vq_t215 vq_t216 vq_t1 vq_t217) rfl rfl rfl (by decide +kernel) ⟨Nat.le_of_ble_eq_true rfl, Nat.le_of_ble_eq_true rfl⟩) (vq_preSr (wc := []) hCx hP (vq_wk hS hA) hA [] rfl) rfl rfl hl.1 rfl (lv_room (Nat.le_of_ble_eq_true rfl)) d_BR_tick_18 ⟨Nat.le_of_ble_eq_true rfl, Nat.le_of_ble_eq_true rfl⟩) hP hS hA0 (fun E ce q9 H locs x_18 hP hS h91 h92 h93 => vx_out (fun x h => (htb x h).elim) hlocks h91 h92 h93 (fun t ht hvm => vq_Xof (by obtain ⟨rfl, y9⟩ := x_18; simp only [X_tick, if_pos w_5, if_neg y9]) (hS.F ht)) (vq_wk hS hA).2.2 (Nat.le_of_ble_eq_true rfl) (Nat.le_of_ble_eq_true rfl)) (fun H locs w_18 hP hS => ?_)
  refine W.widen (k := 2) (n := 12) (Nat.le_of_ble_eq_true rfl) (Nat.le_of_ble_eq_true rfl) ?_
  refine lv_aload_n hx hb d_BR_tick_21 rfl (lv_at hl 0 rfl) ?_
  refine lv_dup hx hb d_BR_tick_22 rfl ?_
  refine va_get (D := (dC, dI)) (ci := 0) (v := .int zTo) (C := R_BR) (T := F_BR) (N := 11) hx hb hG i_BR hown hK hP 0 rfl rfl 10 (by decide) (hG _ vq_t110) (fun _ h9 => h9) rfl d_BR_tick_23 ?_
  refine lv_iload_n hx hb d_BR_tick_26 rfl (lv_at hl 1 rfl) ?_
  refine lv_iadd hx hb d_BR_tick_27 ?_
  have hS := vq_wk hS hA
  refine va_put (D := (dC, dI)) (ci := 0) (v := .int (zTo + x)) (ty := .int) (C := R_BR) (T := F_BR) (N := 11) hx hb hG i_BR t_BR t_BR_ok n_BR hown hK hP hD hS 0 rfl rfl 10 (by decide) (hG _ vq_t110) (fun _ h9 => h9) rfl (by decide +kernel) rfl rfl (Nat.le_of_ble_eq_true rfl) d_BR_tick_28 (fun H locs hP hD hS => ?_)
  have hP : va_P (dC, dI) vq_cl [(h0, .inr (0, [.ref aMo, .ref aSh, .ref aLa, .ref aDy, .ref aMa, .ref aKi, .int zCn, .ref aPi, .int zPc, .ref aLn, .int (zTo + x)]))] H := hP
  have hD : va_D A [(h0, .inr (0, [.ref aMo, .ref aSh, .ref aLa, .ref aDy, .ref aMa, .ref aKi, .int zCn, .ref aPi, .int zPc, .ref aLn, .int (zTo + x)]))] := hD
  refine lv_aload_n hx hb d_BR_tick_31 rfl (lv_at hl 0 rfl) ?_
  refine va_get (D := (dC, dI)) (ci := 0) (v := .int (zTo + x)) (C := R_BR) (T := F_BR) (N := 11) hx hb hG i_BR hown hK hP 0 rfl rfl 10 (by decide) (hG _ vq_t110) (fun _ h9 => h9) rfl d_BR_tick_32 ?_
  refine vx_ret ?_
  refine W.widen (k := 2) (n := 12) (Nat.le_of_ble_eq_true rfl) (Nat.le_of_ble_eq_true rfl) ?_
  have hP9 : va_P (dC, dI) vq_cl [(h0, .inr (0, [.ref aMo, .ref aSh, .ref aLa, .ref aDy, .ref aMa, .ref aKi, .int zCn, .ref aPi, .int zPc, .ref aLn, .int (zTo + x)]))] _ := hP.sub [0] rfl
  have hD9 : va_D A [(h0, .inr (0, [.ref aMo, .ref aSh, .ref aLa, .ref aDy, .ref aMa, .ref aKi, .int zCn, .ref aPi, .int zPc, .ref aLn, .int (zTo + x)]))] := hD.sub [0] (by decide) rfl
  exact W.iret (v := (zTo + x)) hx hb hr (fun t ht hW => ⟨⟨(zTo + x), (), rfl, ⟨rfl, by simp only [X_tick, if_pos w_5, if_pos w_18]⟩, ⟨by rw [ht]; exact hP9, hD9⟩⟩, hS.F ht⟩) hS.2.2 d_BR_tick_35
