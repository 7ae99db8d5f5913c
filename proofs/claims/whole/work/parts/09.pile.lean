set_option maxHeartbeats 4000000 in
set_option maxRecDepth 100000 in
/-- Pile() -/
theorem c_Pile_init (l : Launch) (dC : Nat → ClassId) (dI : Nat → Nat → Nat) (cs : Nat → ClassId) (sz : Nat) (pa : Nat) : Met l y_PI_init w_PI_init ({ frames := 1, cells := 7, slots := 120, locals := 12 }) (vq_Pre (dC, dI) cs [(pa, .inr (1, [.int 0, .null, .null, .int 0, .int 0, .int 0, .int 0, .int 0, .null, .null, .null, .null, .null]))] sz [.ref pa]) (va_Qv (fun (_ : Nat × Nat × Nat × Nat × Nat × Nat × Nat) => True) (vq_B (dC, dI) cs (va_A [(pa, .inr (1, [.int 0, .null, .null, .int 0, .int 0, .int 0, .int 0, .int 0, .null, .null, .null, .null, .null]))] sz) (fun u => [(pa, .inr (1, [.int 0, .ref u.1, .ref u.2.1, .int 0, .int 0, .int 0, .int 0, .int 0, .ref u.2.2.1, .ref u.2.2.2.1, .ref u.2.2.2.2.1, .ref u.2.2.2.2.2.1, .ref u.2.2.2.2.2.2])), (u.1, .inl ((cs 0), 20, .inl (fun _ => 0))), (u.2.1, .inl ((cs 0), 80, .inl (fun _ => 0))), (u.2.2.1, .inl ((cs 1), 4, .inr (.inl (fun _ => 0)))), (u.2.2.2.1, .inl ((cs 1), 4, .inr (.inl (fun _ => 0)))), (u.2.2.2.2.1, .inl ((cs 0), 4, .inl (fun _ => 0))), (u.2.2.2.2.2.1, .inl ((cs 1), 4, .inr (.inl (fun _ => 0)))), (u.2.2.2.2.2.2, .inl ((cs 0), 4, .inl (fun _ => 0)))])) (va_A [(pa, .inr (1, [.int 0, .null, .null, .int 0, .int 0, .int 0, .int 0, .int 0, .null, .null, .null, .null, .null]))] sz)) 7 120 (va_A [(pa, .inr (1, [.int 0, .null, .null, .int 0, .int 0, .int 0, .int 0, .int 0, .null, .null, .null, .null, .null]))] sz) := by
  refine Met.ofW (cc := b_PI_init) (maxL := 1) (ret := none) (by decide) rfl ?_
  intro p e s m args below meth c s₁ B hml hv
  obtain ⟨rfl, hsz, hP, hD0, hCx⟩ := hv
  have hx := B.exec
  have hb := B.bytes
  have hr := B.returns
  have hG := vq_hG (atoms_spec (ws := w_PI_init) B.pre)
  have hown : s.vm.findClass R_PI = some m.cls := findClass_of_methodNamed B.named
  have hlocks := B.notSynchronized
  have hin : meth.name = "<init>" := (name_of_methodNamed B.named B.method).1
  subst hsz
  have hK := hCx.1
  have hD := hD0.self (sz := s.heap.size)
  generalize hAe : va_A [(pa, .inr (1, [.int 0, .null, .null, .int 0, .int 0, .int 0, .int 0, .int 0, .null, .null, .null, .null, .null]))] s.heap.size = A at hD hCx ⊢
  have hA : ∀ q : Nat, s.heap.size ≤ q → A q := fun q h => by rw [← hAe]; exact Or.inr h
  have hA0 : ∀ q : Nat, s.heap.size ≤ q → va_A [] s.heap.size q := fun q h => Or.inr h
  have hS : va_S (va_A [] s.heap.size) s.heap s.heap [] := va_S.rf
  have hl := lv_entry ([.ref pa]) (n := 1) (Nat.le_of_ble_eq_true rfl)
  rw [lg_entry_eq]
  generalize (lg_sl ([.ref pa]) ++ List.replicate (1 - (lg_sl ([.ref pa])).length) Slot.unset).toArray = ls at hl ⊢
  have hl : lv_has ls 1 [(0, .ref pa)] := hl
  have hP : va_P (dC, dI) vq_cl [(pa, .inr (1, [.int 0, .null, .null, .int 0, .int 0, .int 0, .int 0, .int 0, .null, .null, .null, .null, .null]))] s.heap := hP
  refine lv_aload_n hx hb d_PI_init_0 rfl (lv_at hl 0 rfl) ?_
  refine W.objInit hx hb hown (hG _ vq_t51) (hG _ wOI_inst) (hG _ wOI_code) rfl (by rw [hml]; exact hl.1) rfl d_PI_init_1 (Nat.le_of_ble_eq_true rfl) (Nat.le_of_ble_eq_true rfl) ?_
  refine W.eq (g2 := F0 m 4 ls []) rfl ?_
  refine lv_aload_n hx hb d_PI_init_4 rfl (lv_at hl 0 rfl) ?_
  refine lv_bipush (v := 20) hx hb d_PI_init_5 (by decide) ?_
  have hS := vq_wk hS hA
  refine vq_newI (N := 20) hx hb hG hCx hP hD hS hA (by decide) rfl (by decide) (Nat.le_of_ble_eq_true rfl) (Nat.le_of_ble_eq_true rfl) d_PI_init_7 (fun q7 H hP hD hS => ?_)
  have hP : va_P (dC, dI) vq_cl [(pa, .inr (1, [.int 0, .null, .null, .int 0, .int 0, .int 0, .int 0, .int 0, .null, .null, .null, .null, .null])), (q7, .inl ((cs 0), 20, .inl (fun _ => 0)))] H := hP
  have hD : va_D A [(pa, .inr (1, [.int 0, .null, .null, .int 0, .int 0, .int 0, .int 0, .int 0, .null, .null, .null, .null, .null])), (q7, .inl ((cs 0), 20, .inl (fun _ => 0)))] := hD
  refine W.widen (k := 1) (n := 20) (Nat.le_of_ble_eq_true rfl) (Nat.le_of_ble_eq_true rfl) ?_
  refine va_putF (D := (dC, dI)) (ci := 1) (v := .ref q7) (ty := (.array .int)) (C := R_PI) (T := F_PI) (N := 13) hx hb hG i_PI t_PI t_PI_ok n_PI hown hK hP hD hS 0 rfl rfl 1 (by decide) (hG _ vq_t54) (fun _ h9 => h9) rfl hin rfl (by decide +kernel) rfl rfl (Nat.le_of_ble_eq_true rfl) d_PI_init_9 (fun H locs hP hD hS => ?_)
  have hP : va_P (dC, dI) vq_cl [(pa, .inr (1, [.int 0, .ref q7, .null, .int 0, .int 0, .int 0, .int 0, .int 0, .null, .null, .null, .null, .null])), (q7, .inl ((cs 0), 20, .inl (fun _ => 0)))] H := hP
  have hD : va_D A [(pa, .inr (1, [.int 0, .ref q7, .null, .int 0, .int 0, .int 0, .int 0, .int 0, .null, .null, .null, .null, .null])), (q7, .inl ((cs 0), 20, .inl (fun _ => 0)))] := hD
  refine lv_aload_n hx hb d_PI_init_12 rfl (lv_at hl 0 rfl) ?_
  refine lv_bipush (v := 80) hx hb d_PI_init_13 (by decide) ?_
  refine vq_newI (N := 80) hx hb hG hCx hP hD hS hA (by decide) rfl (by decide) (Nat.le_of_ble_eq_true rfl) (Nat.le_of_ble_eq_true rfl) d_PI_init_15 (fun q15 H hP hD hS => ?_)
  have hP : va_P (dC, dI) vq_cl [(pa, .inr (1, [.int 0, .ref q7, .null, .int 0, .int 0, .int 0, .int 0, .int 0, .null, .null, .null, .null, .null])), (q7, .inl ((cs 0), 20, .inl (fun _ => 0))), (q15, .inl ((cs 0), 80, .inl (fun _ => 0)))] H := hP
  have hD : va_D A [(pa, .inr (1, [.int 0, .ref q7, .null, .int 0, .int 0, .int 0, .int 0, .int 0, .null, .null, .null, .null, .null])), (q7, .inl ((cs 0), 20, .inl (fun _ => 0))), (q15, .inl ((cs 0), 80, .inl (fun _ => 0)))] := hD
  refine W.widen (k := 2) (n := 100) (Nat.le_of_ble_eq_true rfl) (Nat.le_of_ble_eq_true rfl) ?_
  refine va_putF (D := (dC, dI)) (ci := 1) (v := .ref q15) (ty := (.array .int)) (C := R_PI) (T := F_PI) (N := 13) hx hb hG i_PI t_PI t_PI_ok n_PI hown hK hP hD hS 0 rfl rfl 2 (by decide) (hG _ vq_t55) (fun _ h9 => h9) rfl hin rfl (by decide +kernel) rfl rfl (Nat.le_of_ble_eq_true rfl) d_PI_init_17 (fun H locs hP hD hS => ?_)
  have hP : va_P (dC, dI) vq_cl [(pa, .inr (1, [.int 0, .ref q7, .ref q15, .int 0, .int 0, .int 0, .int 0, .int 0, .null, .null, .null, .null, .null])), (q7, .inl ((cs 0), 20, .inl (fun _ => 0))), (q15, .inl ((cs 0), 80, .inl (fun _ => 0)))] H := hP
  have hD : va_D A [(pa, .inr (1, [.int 0, .ref q7, .ref q15, .int 0, .int 0, .int 0, .int 0, .int 0, .null, .null, .null, .null, .null])), (q7, .inl ((cs 0), 20, .inl (fun _ => 0))), (q15, .inl ((cs 0), 80, .inl (fun _ => 0)))] := hD
  refine lv_aload_n hx hb d_PI_init_20 rfl (lv_at hl 0 rfl) ?_
  refine lv_iconst (v := 4) hx hb d_PI_init_21 (by decide) ?_
  refine vq_newJ (N := 4) hx hb hG hCx hP hD hS hA (by decide) rfl (by decide) (Nat.le_of_ble_eq_true rfl) (Nat.le_of_ble_eq_true rfl) d_PI_init_22 (fun q22 H hP hD hS => ?_)
  have hP : va_P (dC, dI) vq_cl [(pa, .inr (1, [.int 0, .ref q7, .ref q15, .int 0, .int 0, .int 0, .int 0, .int 0, .null, .null, .null, .null, .null])), (q7, .inl ((cs 0), 20, .inl (fun _ => 0))), (q15, .inl ((cs 0), 80, .inl (fun _ => 0))), (q22, .inl ((cs 1), 4, .inr (.inl (fun _ => 0))))] H := hP
  have hD : va_D A [(pa, .inr (1, [.int 0, .ref q7, .ref q15, .int 0, .int 0, .int 0, .int 0, .int 0, .null, .null, .null, .null, .null])), (q7, .inl ((cs 0), 20, .inl (fun _ => 0))), (q15, .inl ((cs 0), 80, .inl (fun _ => 0))), (q22, .inl ((cs 1), 4, .inr (.inl (fun _ => 0))))] := hD
  refine W.widen (k := 3) (n := 104) (Nat.le_of_ble_eq_true rfl) (Nat.le_of_ble_eq_true rfl) ?_
  refine va_putF (D := (dC, dI)) (ci := 1) (v := .ref q22) (ty := (.array .long)) (C := R_PI) (T := F_PI) (N := 13) hx hb hG i_PI t_PI t_PI_ok n_PI hown hK hP hD hS 0 rfl rfl 8 (by decide) (hG _ vq_t66) (fun _ h9 => h9) rfl hin rfl (by decide +kernel) rfl rfl (Nat.le_of_ble_eq_true rfl) d_PI_init_24 (fun H locs hP hD hS => ?_)
  have hP : va_P (dC, dI) vq_cl [(pa, .inr (1, [.int 0, .ref q7, .ref q15, .int 0, .int 0, .int 0, .int 0, .int 0, .ref q22, .null, .null, .null, .null])), (q7, .inl ((cs 0), 20, .inl (fun _ => 0))), (q15, .inl ((cs 0), 80, .inl (fun _ => 0))), (q22, .inl ((cs 1), 4, .inr (.inl (fun _ => 0))))] H := hP
  have hD : va_D A [(pa, .inr (1, [.int 0, .ref q7, .ref q15, .int 0, .int 0, .int 0, .int 0, .int 0, .ref q22, .null, .null, .null, .null])), (q7, .inl ((cs 0), 20, .inl (fun _ => 0))), (q15, .inl ((cs 0), 80, .inl (fun _ => 0))), (q22, .inl ((cs 1), 4, .inr (.inl (fun _ => 0))))] := hD
  refine lv_aload_n hx hb d_PI_init_27 rfl (lv_at hl 0 rfl) ?_
  refine lv_iconst (v := 4) hx hb d_PI_init_28 (by decide) ?_
  refine vq_newJ (N := 4) hx hb hG hCx hP hD hS hA (by decide) rfl (by decide) (Nat.le_of_ble_eq_true rfl) (Nat.le_of_ble_eq_true rfl) d_PI_init_29 (fun q29 H hP hD hS => ?_)
  have hP : va_P (dC, dI) vq_cl [(pa, .inr (1, [.int 0, .ref q7, .ref q15, .int 0, .int 0, .int 0, .int 0, .int 0, .ref q22, .null, .null, .null, .null])), (q7, .inl ((cs 0), 20, .inl (fun _ => 0))), (q15, .inl ((cs 0), 80, .inl (fun _ => 0))), (q22, .inl ((cs 1), 4, .inr (.inl (fun _ => 0)))), (q29, .inl ((cs 1), 4, .inr (.inl (fun _ => 0))))] H := hP
  have hD : va_D A [(pa, .inr (1, [.int 0, .ref q7, .ref q15, .int 0, .int 0, .int 0, .int 0, .int 0, .ref q22, .null, .null, .null, .null])), (q7, .inl ((cs 0), 20, .inl (fun _ => 0))), (q15, .inl ((cs 0), 80, .inl (fun _ => 0))), (q22, .inl ((cs 1), 4, .inr (.inl (fun _ => 0)))), (q29, .inl ((cs 1), 4, .inr (.inl (fun _ => 0))))] := hD
  refine W.widen (k := 4) (n := 108) (Nat.le_of_ble_eq_true rfl) (Nat.le_of_ble_eq_true rfl) ?_
  refine va_putF (D := (dC, dI)) (ci := 1) (v := .ref q29) (ty := (.array .long)) (C := R_PI) (T := F_PI) (N := 13) hx hb hG i_PI t_PI t_PI_ok n_PI hown hK hP hD hS 0 rfl rfl 9 (by decide) (hG _ vq_t68) (fun _ h9 => h9) rfl hin rfl (by decide +kernel) rfl rfl (Nat.le_of_ble_eq_true rfl) d_PI_init_31 (fun H locs hP hD hS => ?_)
  have hP : va_P (dC, dI) vq_cl [(pa, .inr (1, [.int 0, .ref q7, .ref q15, .int 0, .int 0, .int 0, .int 0, .int 0, .ref q22, .ref q29, .null, .null, .null])), (q7, .inl ((cs 0), 20, .inl (fun _ => 0))), (q15, .inl ((cs 0), 80, .inl (fun _ => 0))), (q22, .inl ((cs 1), 4, .inr (.inl (fun _ => 0)))), (q29, .inl ((cs 1), 4, .inr (.inl (fun _ => 0))))] H := hP
  have hD : va_D A [(pa, .inr (1, [.int 0, .ref q7, .ref q15, .int 0, .int 0, .int 0, .int 0, .int 0, .ref q22, .ref q29, .null, .null, .null])), (q7, .inl ((cs 0), 20, .inl (fun _ => 0))), (q15, .inl ((cs 0), 80, .inl (fun _ => 0))), (q22, .inl ((cs 1), 4, .inr (.inl (fun _ => 0)))), (q29, .inl ((cs 1), 4, .inr (.inl (fun _ => 0))))] := hD
  refine lv_aload_n hx hb d_PI_init_34 rfl (lv_at hl 0 rfl) ?_
  refine lv_iconst (v := 4) hx hb d_PI_init_35 (by decide) ?_
  refine vq_newI (N := 4) hx hb hG hCx hP hD hS hA (by decide) rfl (by decide) (Nat.le_of_ble_eq_true rfl) (Nat.le_of_ble_eq_true rfl) d_PI_init_36 (fun q36 H hP hD hS => ?_)
  have hP : va_P (dC, dI) vq_cl [(pa, .inr (1, [.int 0, .ref q7, .ref q15, .int 0, .int 0, .int 0, .int 0, .int 0, .ref q22, .ref q29, .null, .null, .null])), (q7, .inl ((cs 0), 20, .inl (fun _ => 0))), (q15, .inl ((cs 0), 80, .inl (fun _ => 0))), (q22, .inl ((cs 1), 4, .inr (.inl (fun _ => 0)))), (q29, .inl ((cs 1), 4, .inr (.inl (fun _ => 0)))), (q36, .inl ((cs 0), 4, .inl (fun _ => 0)))] H := hP
  have hD : va_D A [(pa, .inr (1, [.int 0, .ref q7, .ref q15, .int 0, .int 0, .int 0, .int 0, .int 0, .ref q22, .ref q29, .null, .null, .null])), (q7, .inl ((cs 0), 20, .inl (fun _ => 0))), (q15, .inl ((cs 0), 80, .inl (fun _ => 0))), (q22, .inl ((cs 1), 4, .inr (.inl (fun _ => 0)))), (q29, .inl ((cs 1), 4, .inr (.inl (fun _ => 0)))), (q36, .inl ((cs 0), 4, .inl (fun _ => 0)))] := hD
  refine W.widen (k := 5) (n := 112) (Nat.le_of_ble_eq_true rfl) (Nat.le_of_ble_eq_true rfl) ?_
  refine va_putF (D := (dC, dI)) (ci := 1) (v := .ref q36) (ty := (.array .int)) (C := R_PI) (T := F_PI) (N := 13) hx hb hG i_PI t_PI t_PI_ok n_PI hown hK hP hD hS 0 rfl rfl 10 (by decide) (hG _ vq_t69) (fun _ h9 => h9) rfl hin rfl (by decide +kernel) rfl rfl (Nat.le_of_ble_eq_true rfl) d_PI_init_38 (fun H locs hP hD hS => ?_)
  have hP : va_P (dC, dI) vq_cl [(pa, .inr (1, [.int 0, .ref q7, .ref q15, .int 0, .int 0, .int 0, .int 0, .int 0, .ref q22, .ref q29, .ref q36, .null, .null])), (q7, .inl ((cs 0), 20, .inl (fun _ => 0))), (q15, .inl ((cs 0), 80, .inl (fun _ => 0))), (q22, .inl ((cs 1), 4, .inr (.inl (fun _ => 0)))), (q29, .inl ((cs 1), 4, .inr (.inl (fun _ => 0)))), (q36, .inl ((cs 0), 4, .inl (fun _ => 0)))] H := hP
  have hD : va_D A [(pa, .inr (1, [.int 0, .ref q7, .ref q15, .int 0, .int 0, .int 0, .int 0, .int 0, .ref q22, .ref q29, .ref q36, .null, .null])), (q7, .inl ((cs 0), 20, .inl (fun _ => 0))), (q15, .inl ((cs 0), 80, .inl (fun _ => 0))), (q22, .inl ((cs 1), 4, .inr (.inl (fun _ => 0)))), (q29, .inl ((cs 1), 4, .inr (.inl (fun _ => 0)))), (q36, .inl ((cs 0), 4, .inl (fun _ => 0)))] := hD
  refine lv_aload_n hx hb d_PI_init_41 rfl (lv_at hl 0 rfl) ?_
  refine lv_iconst (v := 4) hx hb d_PI_init_42 (by decide) ?_
  refine vq_newJ (N := 4) hx hb hG hCx hP hD hS hA (by decide) rfl (by decide) (Nat.le_of_ble_eq_true rfl) (Nat.le_of_ble_eq_true rfl) d_PI_init_43 (fun q43 H hP hD hS => ?_)
  have hP : va_P (dC, dI) vq_cl [(pa, .inr (1, [.int 0, .ref q7, .ref q15, .int 0, .int 0, .int 0, .int 0, .int 0, .ref q22, .ref q29, .ref q36, .null, .null])), (q7, .inl ((cs 0), 20, .inl (fun _ => 0))), (q15, .inl ((cs 0), 80, .inl (fun _ => 0))), (q22, .inl ((cs 1), 4, .inr (.inl (fun _ => 0)))), (q29, .inl ((cs 1), 4, .inr (.inl (fun _ => 0)))), (q36, .inl ((cs 0), 4, .inl (fun _ => 0))), (q43, .inl ((cs 1), 4, .inr (.inl (fun _ => 0))))] H := hP
  have hD : va_D A [(pa, .inr (1, [.int 0, .ref q7, .ref q15, .int 0, .int 0, .int 0, .int 0, .int 0, .ref q22, .ref q29, .ref q36, .null, .null])), (q7, .inl ((cs 0), 20, .inl (fun _ => 0))), (q15, .inl ((cs 0), 80, .inl (fun _ => 0))), (q22, .inl ((cs 1), 4, .inr (.inl (fun _ => 0)))), (q29, .inl ((cs 1), 4, .inr (.inl (fun _ => 0)))), (q36, .inl ((cs 0), 4, .inl (fun _ => 0))), (q43, .inl ((cs 1), 4, .inr (.inl (fun _ => 0))))] := hD
  refine W.widen (k := 6) (n := 116) (Nat.le_of_ble_eq_true rfl) (Nat.le_of_ble_eq_true rfl) ?_
  refine va_putF (D := (dC, dI)) (ci := 1) (v := .ref q43) (ty := (.array .long)) (C := R_PI) (T := F_PI) (N := 13) hx hb hG i_PI t_PI t_PI_ok n_PI hown hK hP hD hS 0 rfl rfl 11 (by decide) (hG _ vq_t70) (fun _ h9 => h9) rfl hin rfl (by decide +kernel) rfl rfl (Nat.le_of_ble_eq_true rfl) d_PI_init_45 (fun H locs hP hD hS => ?_)
  have hP : va_P (dC, dI) vq_cl [(pa, .inr (1, [.int 0, .ref q7, .ref q15, .int 0, .int 0, .int 0, .int 0, .int 0, .ref q22, .ref q29, .ref q36, .ref q43, .null])), (q7, .inl ((cs 0), 20, .inl (fun _ => 0))), (q15, .inl ((cs 0), 80, .inl (fun _ => 0))), (q22, .inl ((cs 1), 4, .inr (.inl (fun _ => 0)))), (q29, .inl ((cs 1), 4, .inr (.inl (fun _ => 0)))), (q36, .inl ((cs 0), 4, .inl (fun _ => 0))), (q43, .inl ((cs 1), 4, .inr (.inl (fun _ => 0))))] H := hP
  have hD : va_D A [(pa, .inr (1, [.int 0, .ref q7, .ref q15, .int 0, .int 0, .int 0, .int 0, .int 0, .ref q22, .ref q29, .ref q36, .ref q43, .null])), (q7, .inl ((cs 0), 20, .inl (fun _ => 0))), (q15, .inl ((cs 0), 80, .inl (fun _ => 0))), (q22, .inl ((cs 1), 4, .inr (.inl (fun _ => 0)))), (q29, .inl ((cs 1), 4, .inr (.inl (fun _ => 0)))), (q36, .inl ((cs 0), 4, .inl (fun _ => 0))), (q43, .inl ((cs 1), 4, .inr (.inl (fun _ => 0))))] := hD
  refine lv_aload_n hx hb d_PI_init_48 rfl (lv_at hl 0 rfl) ?_
  refine lv_iconst (v := 4) hx hb d_PI_init_49 (by decide) ?_
  refine vq_newI (N := 4) hx hb hG hCx hP hD hS hA (by decide) rfl (by decide) (Nat.le_of_ble_eq_true rfl) (Nat.le_of_ble_eq_true rfl) d_PI_init_50 (fun q50 H hP hD hS => ?_)
  have hP : va_P (dC, dI) vq_cl [(pa, .inr (1, [.int 0, .ref q7, .ref q15, .int 0, .int 0, .int 0, .int 0, .int 0, .ref q22, .ref q29, .ref q36, .ref q43, .null])), (q7, .inl ((cs 0), 20, .inl (fun _ => 0))), (q15, .inl ((cs 0), 80, .inl (fun _ => 0))), (q22, .inl ((cs 1), 4, .inr (.inl (fun _ => 0)))), (q29, .inl ((cs 1), 4, .inr (.inl (fun _ => 0)))), (q36, .inl ((cs 0), 4, .inl (fun _ => 0))), (q43, .inl ((cs 1), 4, .inr (.inl (fun _ => 0)))), (q50, .inl ((cs 0), 4, .inl (fun _ => 0)))] H := hP
  have hD : va_D A [(pa, .inr (1, [.int 0, .ref q7, .ref q15, .int 0, .int 0, .int 0, .int 0, .int 0, .ref q22, .ref q29, .ref q36, .ref q43, .null])), (q7, .inl ((cs 0), 20, .inl (fun _ => 0))), (q15, .inl ((cs 0), 80, .inl (fun _ => 0))), (q22, .inl ((cs 1), 4, .inr (.inl (fun _ => 0)))), (q29, .inl ((cs 1), 4, .inr (.inl (fun _ => 0)))), (q36, .inl ((cs 0), 4, .inl (fun _ => 0))), (q43, .inl ((cs 1), 4, .inr (.inl (fun _ => 0)))), (q50, .inl ((cs 0), 4, .inl (fun _ => 0)))] := hD
  refine W.widen (k := 7) (n := 120) (Nat.le_of_ble_eq_true rfl) (Nat.le_of_ble_eq_true rfl) ?_
  refine va_putF (D := (dC, dI)) (ci := 1) (v := .ref q50) (ty := (.array .int)) (C := R_PI) (T := F_PI) (N := 13) hx hb hG i_PI t_PI t_PI_ok n_PI hown hK hP hD hS 0 rfl rfl 12 (by decide) (hG _ vq_t71) (fun _ h9 => h9) rfl hin rfl (by decide +kernel) rfl rfl (Nat.le_of_ble_eq_true rfl) d_PI_init_52 (fun H locs hP hD hS => ?_)
  have hP : va_P (dC, dI) vq_cl [(pa, .inr (1, [.int 0, .ref q7, .ref q15, .int 0, .int 0, .int 0, .int 0, .int 0, .ref q22, .ref q29, .ref q36, .ref q43, .ref q50])), (q7, .inl ((cs 0), 20, .inl (fun _ => 0))), (q15, .inl ((cs 0), 80, .inl (fun _ => 0))), (q22, .inl ((cs 1), 4, .inr (.inl (fun _ => 0)))), (q29, .inl ((cs 1), 4, .inr (.inl (fun _ => 0)))), (q36, .inl ((cs 0), 4, .inl (fun _ => 0))), (q43, .inl ((cs 1), 4, .inr (.inl (fun _ => 0)))), (q50, .inl ((cs 0), 4, .inl (fun _ => 0)))] H := hP
  have hD : va_D A [(pa, .inr (1, [.int 0, .ref q7, .ref q15, .int 0, .int 0, .int 0, .int 0, .int 0, .ref q22, .ref q29, .ref q36, .ref q43, .ref q50])), (q7, .inl ((cs 0), 20, .inl (fun _ => 0))), (q15, .inl ((cs 0), 80, .inl (fun _ => 0))), (q22, .inl ((cs 1), 4, .inr (.inl (fun _ => 0)))), (q29, .inl ((cs 1), 4, .inr (.inl (fun _ => 0)))), (q36, .inl ((cs 0), 4, .inl (fun _ => 0))), (q43, .inl ((cs 1), 4, .inr (.inl (fun _ => 0)))), (q50, .inl ((cs 0), 4, .inl (fun _ => 0)))] := hD
  refine W.widen (k := 7) (n := 120) (Nat.le_of_ble_eq_true rfl) (Nat.le_of_ble_eq_true rfl) ?_
  have hP9 : va_P (dC, dI) vq_cl [(pa, .inr (1, [.int 0, .ref q7, .ref q15, .int 0, .int 0, .int 0, .int 0, .int 0, .ref q22, .ref q29, .ref q36, .ref q43, .ref q50])), (q7, .inl ((cs 0), 20, .inl (fun _ => 0))), (q15, .inl ((cs 0), 80, .inl (fun _ => 0))), (q22, .inl ((cs 1), 4, .inr (.inl (fun _ => 0)))), (q29, .inl ((cs 1), 4, .inr (.inl (fun _ => 0)))), (q36, .inl ((cs 0), 4, .inl (fun _ => 0))), (q43, .inl ((cs 1), 4, .inr (.inl (fun _ => 0)))), (q50, .inl ((cs 0), 4, .inl (fun _ => 0)))] _ := hP.sub [0, 1, 2, 3, 4, 5, 6, 7] rfl
  have hD9 : va_D A [(pa, .inr (1, [.int 0, .ref q7, .ref q15, .int 0, .int 0, .int 0, .int 0, .int 0, .ref q22, .ref q29, .ref q36, .ref q43, .ref q50])), (q7, .inl ((cs 0), 20, .inl (fun _ => 0))), (q15, .inl ((cs 0), 80, .inl (fun _ => 0))), (q22, .inl ((cs 1), 4, .inr (.inl (fun _ => 0)))), (q29, .inl ((cs 1), 4, .inr (.inl (fun _ => 0)))), (q36, .inl ((cs 0), 4, .inl (fun _ => 0))), (q43, .inl ((cs 1), 4, .inr (.inl (fun _ => 0)))), (q50, .inl ((cs 0), 4, .inl (fun _ => 0)))] := hD.sub [0, 1, 2, 3, 4, 5, 6, 7] (by decide) rfl
  exact W.vret hx hb hr (fun t ht hW => ⟨⟨(q7, q15, q22, q29, q36, q43, q50), rfl, trivial, ⟨by rw [ht]; exact hP9, hD9⟩⟩, hS.F ht⟩) hS.2.2 d_PI_init_55
set_option maxHeartbeats 4000000 in
set_option maxRecDepth 100000 in
/-- addLayer -/
theorem c_addLayer (l : Launch) (dC : Nat → ClassId) (dI : Nat → Nat → Nat) (cs : Nat → ClassId) (sz : Nat) (pa : Nat) (bLG : Nat) (bLS : Nat) (bLt : Nat) (bGS : Nat) (bGG : Nat) (bES : Nat) (bEG : Nat) (zSl : Int32) (zLy : Int32) (zGr : Int32) (zTk : Int32) (zGt : Int32) (zLt : Int32) (fLG : Nat → Int32) (fLS : Nat → Int32) (fSh : Nat → Int32) (aSh : Nat) (d : Int32) (x : Int32) (hy : ok20 zLy) (hi : okM x) : Met l y_PI_addLayer w_PI_addLayer ({ frames := 0, cells := 0, slots := 0, locals := 0 }) (vq_Pre (dC, dI) cs [(pa, .inr (1, [.int zSl, .ref bLG, .ref bLS, .int zLy, .int zGr, .int zTk, .int zGt, .int zLt, .ref bLt, .ref bGS, .ref bGG, .ref bES, .ref bEG])), (bLG, .inl ((cs 0), 20, .inl fLG)), (bLS, .inl ((cs 0), 80, .inl fLS)), (aSh, .inl ((cs 0), 32, .inl fSh))] sz [.ref pa, .int d, .ref aSh, .int x]) (va_Qv (fun (_ : Unit) => True) (vq_B (dC, dI) cs (va_A [(pa, .inr (1, [.int zSl, .ref bLG, .ref bLS, .int zLy, .int zGr, .int zTk, .int zGt, .int zLt, .ref bLt, .ref bGS, .ref bGG, .ref bES, .ref bEG])), (bLG, .inl ((cs 0), 20, .inl fLG)), (bLS, .inl ((cs 0), 80, .inl fLS)), (aSh, .inl ((cs 0), 32, .inl fSh))] sz) (fun _ => [(pa, .inr (1, [.int zSl, .ref bLG, .ref bLS, .int (zLy + 1), .int (zGr + d), .int zTk, .int zGt, .int zLt, .ref bLt, .ref bGS, .ref bGG, .ref bES, .ref bEG])), (bLG, .inl ((cs 0), 20, .inl (upd fLG zLy.toNatClampNeg d))), (bLS, .inl ((cs 0), 80, .inl (al4 fLS zLy fSh x))), (aSh, .inl ((cs 0), 32, .inl fSh))])) (va_A [(pa, .inr (1, [.int zSl, .ref bLG, .ref bLS, .int zLy, .int zGr, .int zTk, .int zGt, .int zLt, .ref bLt, .ref bGS, .ref bGG, .ref bES, .ref bEG])), (bLG, .inl ((cs 0), 20, .inl fLG)), (bLS, .inl ((cs 0), 80, .inl fLS)), (aSh, .inl ((cs 0), 32, .inl fSh))] sz)) 0 0 (va_A [(pa, .inr (1, [.int zSl, .ref bLG, .ref bLS, .int zLy, .int zGr, .int zTk, .int zGt, .int zLt, .ref bLt, .ref bGS, .ref bGG, .ref bES, .ref bEG])), (bLG, .inl ((cs 0), 20, .inl fLG)), (bLS, .inl ((cs 0), 80, .inl fLS)), (aSh, .inl ((cs 0), 32, .inl fSh))] sz) := by
  refine Met.ofW (cc := b_PI_addLayer) (maxL := 5) (ret := none) (by decide) rfl ?_
  intro p e s m args below meth c s₁ B hml hv
  obtain ⟨rfl, hsz, hP, hD0, hCx⟩ := hv
  have hx := B.exec
  have hb := B.bytes
  have hr := B.returns
  have hG := vq_hG (atoms_spec (ws := w_PI_addLayer) B.pre)
  have hown : s.vm.findClass R_PI = some m.cls := findClass_of_methodNamed B.named
  have hlocks := B.notSynchronized
  subst hsz
  have hK := hCx.1
  have hD := hD0.self (sz := s.heap.size)
  generalize hAe : va_A [(pa, .inr (1, [.int zSl, .ref bLG, .ref bLS, .int zLy, .int zGr, .int zTk, .int zGt, .int zLt, .ref bLt, .ref bGS, .ref bGG, .ref bES, .ref bEG])), (bLG, .inl ((cs 0), 20, .inl fLG)), (bLS, .inl ((cs 0), 80, .inl fLS)), (aSh, .inl ((cs 0), 32, .inl fSh))] s.heap.size = A at hD hCx ⊢
  have hA : ∀ q : Nat, s.heap.size ≤ q → A q := fun q h => by rw [← hAe]; exact Or.inr h
  have hA0 : ∀ q : Nat, s.heap.size ≤ q → va_A [] s.heap.size q := fun q h => Or.inr h
  have hS : va_S (va_A [] s.heap.size) s.heap s.heap [] := va_S.rf
  have hl := lv_entry ([.ref pa, .int d, .ref aSh, .int x]) (n := 5) (Nat.le_of_ble_eq_true rfl)
  rw [lg_entry_eq]
  generalize (lg_sl ([.ref pa, .int d, .ref aSh, .int x]) ++ List.replicate (5 - (lg_sl ([.ref pa, .int d, .ref aSh, .int x])).length) Slot.unset).toArray = ls at hl ⊢
  have hl : lv_has ls 5 [(0, .ref pa), (1, .int d), (2, .ref aSh), (3, .int x)] := hl
  have hP : va_P (dC, dI) vq_cl [(pa, .inr (1, [.int zSl, .ref bLG, .ref bLS, .int zLy, .int zGr, .int zTk, .int zGt, .int zLt, .ref bLt, .ref bGS, .ref bGG, .ref bES, .ref bEG])), (bLG, .inl ((cs 0), 20, .inl fLG)), (bLS, .inl ((cs 0), 80, .inl fLS)), (aSh, .inl ((cs 0), 32, .inl fSh))] s.heap := hP
  refine lv_aload_n hx hb d_PI_addLayer_0 rfl (lv_at hl 0 rfl) ?_
  refine va_get (D := (dC, dI)) (ci := 1) (v := .ref bLG) (C := R_PI) (T := F_PI) (N := 13) hx hb hG i_PI hown hK hP 0 rfl rfl 1 (by decide) (hG _ vq_t54) (fun _ h9 => h9) rfl d_PI_addLayer_1 ?_
  refine lv_aload_n hx hb d_PI_addLayer_4 rfl (lv_at hl 0 rfl) ?_
  refine va_get (D := (dC, dI)) (ci := 1) (v := .int zLy) (C := R_PI) (T := F_PI) (N := 13) hx hb hG i_PI hown hK hP 0 rfl rfl 3 (by decide) (hG _ vq_t56) (fun _ h9 => h9) rfl d_PI_addLayer_5 ?_
  refine lv_iload_n hx hb d_PI_addLayer_8 rfl (lv_at hl 1 rfl) ?_
  have hS := vq_wk hS hA
  refine va_iast (D := (dC, dI)) hx hb hK hP hD hS 1 0 rfl rfl (vq_in 20 rfl hy.1 hy.2) d_PI_addLayer_9 (fun H locs hP hD hS => ?_)
  have hP : va_P (dC, dI) vq_cl [(pa, .inr (1, [.int zSl, .ref bLG, .ref bLS, .int zLy, .int zGr, .int zTk, .int zGt, .int zLt, .ref bLt, .ref bGS, .ref bGG, .ref bES, .ref bEG])), (bLG, .inl ((cs 0), 20, .inl (upd fLG zLy.toNatClampNeg d))), (bLS, .inl ((cs 0), 80, .inl fLS)), (aSh, .inl ((cs 0), 32, .inl fSh))] H := hP
  have hD : va_D A [(pa, .inr (1, [.int zSl, .ref bLG, .ref bLS, .int zLy, .int zGr, .int zTk, .int zGt, .int zLt, .ref bLt, .ref bGS, .ref bGG, .ref bES, .ref bEG])), (bLG, .inl ((cs 0), 20, .inl (upd fLG zLy.toNatClampNeg d))), (bLS, .inl ((cs 0), 80, .inl fLS)), (aSh, .inl ((cs 0), 32, .inl fSh))] := hD
  refine lv_iconst (v := 0) hx hb d_PI_addLayer_10 (by decide) ?_
  refine lv_istore (lv' := [(4, .int 0), (0, .ref pa), (1, .int d), (2, .ref aSh), (3, .int x)]) hx hb d_PI_addLayer_11 hl (by decide) rfl (fun ls hl => ?_)
  refine lv_iload hx hb d_PI_addLayer_13 (lv_at hl 0 rfl) ?_
  refine lv_iconst (v := 4) hx hb d_PI_addLayer_15 (by decide) ?_
  refine lv_icmp_ge (tgt := 47) hx hb d_PI_addLayer_16 (by decide) (fun c_16 => ?_) (fun c_16 => ?_)
  · skip
    exact absurd c_16 (by decide)
  · skip
    refine lv_aload_n hx hb d_PI_addLayer_19 rfl (lv_at hl 1 rfl) ?_
    refine va_get (D := (dC, dI)) (ci := 1) (v := .ref bLS) (C := R_PI) (T := F_PI) (N := 13) hx hb hG i_PI hown hK hP 0 rfl rfl 2 (by decide) (hG _ vq_t55) (fun _ h9 => h9) rfl d_PI_addLayer_20 ?_
    refine lv_aload_n hx hb d_PI_addLayer_23 rfl (lv_at hl 1 rfl) ?_
    refine va_get (D := (dC, dI)) (ci := 1) (v := .int zLy) (C := R_PI) (T := F_PI) (N := 13) hx hb hG i_PI hown hK hP 0 rfl rfl 3 (by decide) (hG _ vq_t56) (fun _ h9 => h9) rfl d_PI_addLayer_24 ?_
    refine lv_iconst (v := 4) hx hb d_PI_addLayer_27 (by decide) ?_
    refine lv_imul hx hb d_PI_addLayer_28 ?_
    refine lv_iload hx hb d_PI_addLayer_29 (lv_at hl 0 rfl) ?_
    refine lv_iadd hx hb d_PI_addLayer_31 ?_
    refine lv_aload_n hx hb d_PI_addLayer_32 rfl (lv_at hl 3 rfl) ?_
    refine lv_iload_n hx hb d_PI_addLayer_33 rfl (lv_at hl 4 rfl) ?_
    refine lv_iconst (v := 4) hx hb d_PI_addLayer_34 (by decide) ?_
    refine lv_imul hx hb d_PI_addLayer_35 ?_
    refine lv_iload hx hb d_PI_addLayer_36 (lv_at hl 0 rfl) ?_
    refine lv_iadd hx hb d_PI_addLayer_38 ?_
    refine va_iald (D := (dC, dI)) hx hb hK hP 3 0 rfl rfl (vq_ixM hi (e := 0) (by decide)) d_PI_addLayer_39 ?_
    refine va_iast (D := (dC, dI)) hx hb hK hP hD hS 2 0 rfl rfl (vq_ixL hy (e := 0) (by decide)) d_PI_addLayer_40 (fun H locs hP hD hS => ?_)
    have hP : va_P (dC, dI) vq_cl [(pa, .inr (1, [.int zSl, .ref bLG, .ref bLS, .int zLy, .int zGr, .int zTk, .int zGt, .int zLt, .ref bLt, .ref bGS, .ref bGG, .ref bES, .ref bEG])), (bLG, .inl ((cs 0), 20, .inl (upd fLG zLy.toNatClampNeg d))), (bLS, .inl ((cs 0), 80, .inl (alS fLS zLy fSh x 0))), (aSh, .inl ((cs 0), 32, .inl fSh))] H := hP
    have hD : va_D A [(pa, .inr (1, [.int zSl, .ref bLG, .ref bLS, .int zLy, .int zGr, .int zTk, .int zGt, .int zLt, .ref bLt, .ref bGS, .ref bGG, .ref bES, .ref bEG])), (bLG, .inl ((cs 0), 20, .inl (upd fLG zLy.toNatClampNeg d))), (bLS, .inl ((cs 0), 80, .inl (alS fLS zLy fSh x 0))), (aSh, .inl ((cs 0), 32, .inl fSh))] := hD
    refine lv_iinc (v := 1) (lv' := [(4, .int 1), (0, .ref pa), (1, .int d), (2, .ref aSh), (3, .int x)]) hx hb d_PI_addLayer_41 hl (k := 0) rfl (by decide) (by decide) rfl (fun ls hl => ?_)
    refine lv_goto (tgt := 13) hx hb d_PI_addLayer_44 (by decide) ?_
    refine lv_iload hx hb d_PI_addLayer_13 (lv_at hl 0 rfl) ?_
    refine lv_iconst (v := 4) hx hb d_PI_addLayer_15 (by decide) ?_
    refine lv_icmp_ge (tgt := 47) hx hb d_PI_addLayer_16 (by decide) (fun c_16 => ?_) (fun c_16 => ?_)
    · skip
      exact absurd c_16 (by decide)
    · skip
      refine lv_aload_n hx hb d_PI_addLayer_19 rfl (lv_at hl 1 rfl) ?_
      refine va_get (D := (dC, dI)) (ci := 1) (v := .ref bLS) (C := R_PI) (T := F_PI) (N := 13) hx hb hG i_PI hown hK hP 0 rfl rfl 2 (by decide) (hG _ vq_t55) (fun _ h9 => h9) rfl d_PI_addLayer_20 ?_
      refine lv_aload_n hx hb d_PI_addLayer_23 rfl (lv_at hl 1 rfl) ?_
      refine va_get (D := (dC, dI)) (ci := 1) (v := .int zLy) (C := R_PI) (T := F_PI) (N := 13) hx hb hG i_PI hown hK hP 0 rfl rfl 3 (by decide) (hG _ vq_t56) (fun _ h9 => h9) rfl d_PI_addLayer_24 ?_
      refine lv_iconst (v := 4) hx hb d_PI_addLayer_27 (by decide) ?_
      refine lv_imul hx hb d_PI_addLayer_28 ?_
      refine lv_iload hx hb d_PI_addLayer_29 (lv_at hl 0 rfl) ?_
      refine lv_iadd hx hb d_PI_addLayer_31 ?_
      refine lv_aload_n hx hb d_PI_addLayer_32 rfl (lv_at hl 3 rfl) ?_
      refine lv_iload_n hx hb d_PI_addLayer_33 rfl (lv_at hl 4 rfl) ?_
      refine lv_iconst (v := 4) hx hb d_PI_addLayer_34 (by decide) ?_
      refine lv_imul hx hb d_PI_addLayer_35 ?_
      refine lv_iload hx hb d_PI_addLayer_36 (lv_at hl 0 rfl) ?_
      refine lv_iadd hx hb d_PI_addLayer_38 ?_
      refine va_iald (D := (dC, dI)) hx hb hK hP 3 0 rfl rfl (vq_ixM hi (e := 1) (by decide)) d_PI_addLayer_39 ?_
      refine va_iast (D := (dC, dI)) hx hb hK hP hD hS 2 0 rfl rfl (vq_ixL hy (e := 1) (by decide)) d_PI_addLayer_40 (fun H locs hP hD hS => ?_)
      have hP : va_P (dC, dI) vq_cl [(pa, .inr (1, [.int zSl, .ref bLG, .ref bLS, .int zLy, .int zGr, .int zTk, .int zGt, .int zLt, .ref bLt, .ref bGS, .ref bGG, .ref bES, .ref bEG])), (bLG, .inl ((cs 0), 20, .inl (upd fLG zLy.toNatClampNeg d))), (bLS, .inl ((cs 0), 80, .inl (alS (alS fLS zLy fSh x 0) zLy fSh x 1))), (aSh, .inl ((cs 0), 32, .inl fSh))] H := hP
      have hD : va_D A [(pa, .inr (1, [.int zSl, .ref bLG, .ref bLS, .int zLy, .int zGr, .int zTk, .int zGt, .int zLt, .ref bLt, .ref bGS, .ref bGG, .ref bES, .ref bEG])), (bLG, .inl ((cs 0), 20, .inl (upd fLG zLy.toNatClampNeg d))), (bLS, .inl ((cs 0), 80, .inl (alS (alS fLS zLy fSh x 0) zLy fSh x 1))), (aSh, .inl ((cs 0), 32, .inl fSh))] := hD
      refine lv_iinc (v := 2) (lv' := [(4, .int 2), (0, .ref pa), (1, .int d), (2, .ref aSh), (3, .int x)]) hx hb d_PI_addLayer_41 hl (k := 0) rfl (by decide) (by decide) rfl (fun ls hl => ?_)
      refine lv_goto (tgt := 13) hx hb d_PI_addLayer_44 (by decide) ?_
      refine lv_iload hx hb d_PI_addLayer_13 (lv_at hl 0 rfl) ?_
      refine lv_iconst (v := 4) hx hb d_PI_addLayer_15 (by decide) ?_
      refine lv_icmp_ge (tgt := 47) hx hb d_PI_addLayer_16 (by decide) (fun c_16 => ?_) (fun c_16 => ?_)
      · skip
        exact absurd c_16 (by decide)
      · skip
        refine lv_aload_n hx hb d_PI_addLayer_19 rfl (lv_at hl 1 rfl) ?_
        refine va_get (D := (dC, dI)) (ci := 1) (v := .ref bLS) (C := R_PI) (T := F_PI) (N := 13) hx hb hG i_PI hown hK hP 0 rfl rfl 2 (by decide) (hG _ vq_t55) (fun _ h9 => h9) rfl d_PI_addLayer_20 ?_
        refine lv_aload_n hx hb d_PI_addLayer_23 rfl (lv_at hl 1 rfl) ?_
        refine va_get (D := (dC, dI)) (ci := 1) (v := .int zLy) (C := R_PI) (T := F_PI) (N := 13) hx hb hG i_PI hown hK hP 0 rfl rfl 3 (by decide) (hG _ vq_t56) (fun _ h9 => h9) rfl d_PI_addLayer_24 ?_
        refine lv_iconst (v := 4) hx hb d_PI_addLayer_27 (by decide) ?_
        refine lv_imul hx hb d_PI_addLayer_28 ?_
        refine lv_iload hx hb d_PI_addLayer_29 (lv_at hl 0 rfl) ?_
        refine lv_iadd hx hb d_PI_addLayer_31 ?_
        refine lv_aload_n hx hb d_PI_addLayer_32 rfl (lv_at hl 3 rfl) ?_
        refine lv_iload_n hx hb d_PI_addLayer_33 rfl (lv_at hl 4 rfl) ?_
        refine lv_iconst (v := 4) hx hb d_PI_addLayer_34 (by decide) ?_
        refine lv_imul hx hb d_PI_addLayer_35 ?_
        refine lv_iload hx hb d_PI_addLayer_36 (lv_at hl 0 rfl) ?_
        refine lv_iadd hx hb d_PI_addLayer_38 ?_
        refine va_iald (D := (dC, dI)) hx hb hK hP 3 0 rfl rfl (vq_ixM hi (e := 2) (by decide)) d_PI_addLayer_39 ?_
        refine va_iast (D := (dC, dI)) hx hb hK hP hD hS 2 0 rfl rfl (vq_ixL hy (e := 2) (by decide)) d_PI_addLayer_40 (fun H locs hP hD hS => ?_)
        have hP : va_P (dC, dI) vq_cl [(pa, .inr (1, [.int zSl, .ref bLG, .ref bLS, .int zLy, .int zGr, .int zTk, .int zGt, .int zLt, .ref bLt, .ref bGS, .ref bGG, .ref bES, .ref bEG])), (bLG, .inl ((cs 0), 20, .inl (upd fLG zLy.toNatClampNeg d))), (bLS, .inl ((cs 0), 80, .inl (alS (alS (alS fLS zLy fSh x 0) zLy fSh x 1) zLy fSh x 2))), (aSh, .inl ((cs 0), 32, .inl fSh))] H := hP
        have hD : va_D A [(pa, .inr (1, [.int zSl, .ref bLG, .ref bLS, .int zLy, .int zGr, .int zTk, .int zGt, .int zLt, .ref bLt, .ref bGS, .ref bGG, .ref bES, .ref bEG])), (bLG, .inl ((cs 0), 20, .inl (upd fLG zLy.toNatClampNeg d))), (bLS, .inl ((cs 0), 80, .inl (alS (alS (alS fLS zLy fSh x 0) zLy fSh x 1) zLy fSh x 2))), (aSh, .inl ((cs 0), 32, .inl fSh))] := hD
        refine lv_iinc (v := 3) (lv' := [(4, .int 3), (0, .ref pa), (1, .int d), (2, .ref aSh), (3, .int x)]) hx hb d_PI_addLayer_41 hl (k := 0) rfl (by decide) (by decide) rfl (fun ls hl => ?_)
        refine lv_goto (tgt := 13) hx hb d_PI_addLayer_44 (by decide) ?_
        refine lv_iload hx hb d_PI_addLayer_13 (lv_at hl 0 rfl) ?_
        refine lv_iconst (v := 4) hx hb d_PI_addLayer_15 (by decide) ?_
        refine lv_icmp_ge (tgt := 47) hx hb d_PI_addLayer_16 (by decide) (fun c_16 => ?_) (fun c_16 => ?_)
        · skip
          exact absurd c_16 (by decide)
        · skip
          refine lv_aload_n hx hb d_PI_addLayer_19 rfl (lv_at hl 1 rfl) ?_
          refine va_get (D := (dC, dI)) (ci := 1) (v := .ref bLS) (C := R_PI) (T := F_PI) (N := 13) hx hb hG i_PI hown hK hP 0 rfl rfl 2 (by decide) (hG _ vq_t55) (fun _ h9 => h9) rfl d_PI_addLayer_20 ?_
          refine lv_aload_n hx hb d_PI_addLayer_23 rfl (lv_at hl 1 rfl) ?_
          refine va_get (D := (dC, dI)) (ci := 1) (v := .int zLy) (C := R_PI) (T := F_PI) (N := 13) hx hb hG i_PI hown hK hP 0 rfl rfl 3 (by decide) (hG _ vq_t56) (fun _ h9 => h9) rfl d_PI_addLayer_24 ?_
          refine lv_iconst (v := 4) hx hb d_PI_addLayer_27 (by decide) ?_
          refine lv_imul hx hb d_PI_addLayer_28 ?_
          refine lv_iload hx hb d_PI_addLayer_29 (lv_at hl 0 rfl) ?_
          refine lv_iadd hx hb d_PI_addLayer_31 ?_
          refine lv_aload_n hx hb d_PI_addLayer_32 rfl (lv_at hl 3 rfl) ?_
          refine lv_iload_n hx hb d_PI_addLayer_33 rfl (lv_at hl 4 rfl) ?_
          refine lv_iconst (v := 4) hx hb d_PI_addLayer_34 (by decide) ?_
          refine lv_imul hx hb d_PI_addLayer_35 ?_
          refine lv_iload hx hb d_PI_addLayer_36 (lv_at hl 0 rfl) ?_
          refine lv_iadd hx hb d_PI_addLayer_38 ?_
          refine va_iald (D := (dC, dI)) hx hb hK hP 3 0 rfl rfl (vq_ixM hi (e := 3) (by decide)) d_PI_addLayer_39 ?_
          refine va_iast (D := (dC, dI)) hx hb hK hP hD hS 2 0 rfl rfl (vq_ixL hy (e := 3) (by decide)) d_PI_addLayer_40 (fun H locs hP hD hS => ?_)
          have hP : va_P (dC, dI) vq_cl [(pa, .inr (1, [.int zSl, .ref bLG, .ref bLS, .int zLy, .int zGr, .int zTk, .int zGt, .int zLt, .ref bLt, .ref bGS, .ref bGG, .ref bES, .ref bEG])), (bLG, .inl ((cs 0), 20, .inl (upd fLG zLy.toNatClampNeg d))), (bLS, .inl ((cs 0), 80, .inl (alS (alS (alS (alS fLS zLy fSh x 0) zLy fSh x 1) zLy fSh x 2) zLy fSh x 3))), (aSh, .inl ((cs 0), 32, .inl fSh))] H := hP
          have hD : va_D A [(pa, .inr (1, [.int zSl, .ref bLG, .ref bLS, .int zLy, .int zGr, .int zTk, .int zGt, .int zLt, .ref bLt, .ref bGS, .ref bGG, .ref bES, .ref bEG])), (bLG, .inl ((cs 0), 20, .inl (upd fLG zLy.toNatClampNeg d))), (bLS, .inl ((cs 0), 80, .inl (alS (alS (alS (alS fLS zLy fSh x 0) zLy fSh x 1) zLy fSh x 2) zLy fSh x 3))), (aSh, .inl ((cs 0), 32, .inl fSh))] := hD
          refine lv_iinc (v := 4) (lv' := [(4, .int 4), (0, .ref pa), (1, .int d), (2, .ref aSh), (3, .int x)]) hx hb d_PI_addLayer_41 hl (k := 0) rfl (by decide) (by decide) rfl (fun ls hl => ?_)
          refine lv_goto (tgt := 13) hx hb d_PI_addLayer_44 (by decide) ?_
          refine lv_iload hx hb d_PI_addLayer_13 (lv_at hl 0 rfl) ?_
          refine lv_iconst (v := 4) hx hb d_PI_addLayer_15 (by decide) ?_
          refine lv_icmp_ge (tgt := 47) hx hb d_PI_addLayer_16 (by decide) (fun c_16 => ?_) (fun c_16 => ?_)
          · skip
            refine lv_aload_n hx hb d_PI_addLayer_47 rfl (lv_at hl 1 rfl) ?_
            refine lv_dup hx hb d_PI_addLayer_48 rfl ?_
            refine va_get (D := (dC, dI)) (ci := 1) (v := .int zGr) (C := R_PI) (T := F_PI) (N := 13) hx hb hG i_PI hown hK hP 0 rfl rfl 4 (by decide) (hG _ vq_t58) (fun _ h9 => h9) rfl d_PI_addLayer_49 ?_
            refine lv_iload_n hx hb d_PI_addLayer_52 rfl (lv_at hl 2 rfl) ?_
            refine lv_iadd hx hb d_PI_addLayer_53 ?_
            refine va_put (D := (dC, dI)) (ci := 1) (v := .int (zGr + d)) (ty := .int) (C := R_PI) (T := F_PI) (N := 13) hx hb hG i_PI t_PI t_PI_ok n_PI hown hK hP hD hS 0 rfl rfl 4 (by decide) (hG _ vq_t58) (fun _ h9 => h9) rfl (by decide +kernel) rfl rfl (Nat.le_of_ble_eq_true rfl) d_PI_addLayer_54 (fun H locs hP hD hS => ?_)
            have hP : va_P (dC, dI) vq_cl [(pa, .inr (1, [.int zSl, .ref bLG, .ref bLS, .int zLy, .int (zGr + d), .int zTk, .int zGt, .int zLt, .ref bLt, .ref bGS, .ref bGG, .ref bES, .ref bEG])), (bLG, .inl ((cs 0), 20, .inl (upd fLG zLy.toNatClampNeg d))), (bLS, .inl ((cs 0), 80, .inl (alS (alS (alS (alS fLS zLy fSh x 0) zLy fSh x 1) zLy fSh x 2) zLy fSh x 3))), (aSh, .inl ((cs 0), 32, .inl fSh))] H := hP
            have hD : va_D A [(pa, .inr (1, [.int zSl, .ref bLG, .ref bLS, .int zLy, .int (zGr + d), .int zTk, .int zGt, .int zLt, .ref bLt, .ref bGS, .ref bGG, .ref bES, .ref bEG])), (bLG, .inl ((cs 0), 20, .inl (upd fLG zLy.toNatClampNeg d))), (bLS, .inl ((cs 0), 80, .inl (alS (alS (alS (alS fLS zLy fSh x 0) zLy fSh x 1) zLy fSh x 2) zLy fSh x 3))), (aSh, .inl ((cs 0), 32, .inl fSh))] := hD
            refine lv_aload_n hx hb d_PI_addLayer_57 rfl (lv_at hl 1 rfl) ?_
            refine lv_dup hx hb d_PI_addLayer_58 rfl ?_
            refine va_get (D := (dC, dI)) (ci := 1) (v := .int zLy) (C := R_PI) (T := F_PI) (N := 13) hx hb hG i_PI hown hK hP 0 rfl rfl 3 (by decide) (hG _ vq_t56) (fun _ h9 => h9) rfl d_PI_addLayer_59 ?_
            refine lv_iconst (v := 1) hx hb d_PI_addLayer_62 (by decide) ?_
            refine lv_iadd hx hb d_PI_addLayer_63 ?_
            refine va_put (D := (dC, dI)) (ci := 1) (v := .int (zLy + 1)) (ty := .int) (C := R_PI) (T := F_PI) (N := 13) hx hb hG i_PI t_PI t_PI_ok n_PI hown hK hP hD hS 0 rfl rfl 3 (by decide) (hG _ vq_t56) (fun _ h9 => h9) rfl (by decide +kernel) rfl rfl (Nat.le_of_ble_eq_true rfl) d_PI_addLayer_64 (fun H locs hP hD hS => ?_)
            have hP : va_P (dC, dI) vq_cl [(pa, .inr (1, [.int zSl, .ref bLG, .ref bLS, .int (zLy + 1), .int (zGr + d), .int zTk, .int zGt, .int zLt, .ref bLt, .ref bGS, .ref bGG, .ref bES, .ref bEG])), (bLG, .inl ((cs 0), 20, .inl (upd fLG zLy.toNatClampNeg d))), (bLS, .inl ((cs 0), 80, .inl (alS (alS (alS (alS fLS zLy fSh x 0) zLy fSh x 1) zLy fSh x 2) zLy fSh x 3))), (aSh, .inl ((cs 0), 32, .inl fSh))] H := hP
            have hD : va_D A [(pa, .inr (1, [.int zSl, .ref bLG, .ref bLS, .int (zLy + 1), .int (zGr + d), .int zTk, .int zGt, .int zLt, .ref bLt, .ref bGS, .ref bGG, .ref bES, .ref bEG])), (bLG, .inl ((cs 0), 20, .inl (upd fLG zLy.toNatClampNeg d))), (bLS, .inl ((cs 0), 80, .inl (alS (alS (alS (alS fLS zLy fSh x 0) zLy fSh x 1) zLy fSh x 2) zLy fSh x 3))), (aSh, .inl ((cs 0), 32, .inl fSh))] := hD
            refine W.widen (k := 0) (n := 0) (Nat.le_of_ble_eq_true rfl) (Nat.le_of_ble_eq_true rfl) ?_
            have hP9 : va_P (dC, dI) vq_cl [(pa, .inr (1, [.int zSl, .ref bLG, .ref bLS, .int (zLy + 1), .int (zGr + d), .int zTk, .int zGt, .int zLt, .ref bLt, .ref bGS, .ref bGG, .ref bES, .ref bEG])), (bLG, .inl ((cs 0), 20, .inl (upd fLG zLy.toNatClampNeg d))), (bLS, .inl ((cs 0), 80, .inl (alS (alS (alS (alS fLS zLy fSh x 0) zLy fSh x 1) zLy fSh x 2) zLy fSh x 3))), (aSh, .inl ((cs 0), 32, .inl fSh))] _ := hP.sub [0, 1, 2, 3] rfl
            have hD9 : va_D A [(pa, .inr (1, [.int zSl, .ref bLG, .ref bLS, .int (zLy + 1), .int (zGr + d), .int zTk, .int zGt, .int zLt, .ref bLt, .ref bGS, .ref bGG, .ref bES, .ref bEG])), (bLG, .inl ((cs 0), 20, .inl (upd fLG zLy.toNatClampNeg d))), (bLS, .inl ((cs 0), 80, .inl (alS (alS (alS (alS fLS zLy fSh x 0) zLy fSh x 1) zLy fSh x 2) zLy fSh x 3))), (aSh, .inl ((cs 0), 32, .inl fSh))] := hD.sub [0, 1, 2, 3] (by decide) rfl
            have e9 : ([(pa, .inr (1, [.int zSl, .ref bLG, .ref bLS, .int (zLy + 1), .int (zGr + d), .int zTk, .int zGt, .int zLt, .ref bLt, .ref bGS, .ref bGG, .ref bES, .ref bEG])), (bLG, .inl ((cs 0), 20, .inl (upd fLG zLy.toNatClampNeg d))), (bLS, .inl ((cs 0), 80, .inl (al4 fLS zLy fSh x))), (aSh, .inl ((cs 0), 32, .inl fSh))] : va_W) = [(pa, .inr (1, [.int zSl, .ref bLG, .ref bLS, .int (zLy + 1), .int (zGr + d), .int zTk, .int zGt, .int zLt, .ref bLt, .ref bGS, .ref bGG, .ref bES, .ref bEG])), (bLG, .inl ((cs 0), 20, .inl (upd fLG zLy.toNatClampNeg d))), (bLS, .inl ((cs 0), 80, .inl (alS (alS (alS (alS fLS zLy fSh x 0) zLy fSh x 1) zLy fSh x 2) zLy fSh x 3))), (aSh, .inl ((cs 0), 32, .inl fSh))] := by rfl
            rw [← e9] at hP9 hD9
            exact W.vret hx hb hr (fun t ht hW => ⟨⟨(), rfl, trivial, ⟨by rw [ht]; exact hP9, hD9⟩⟩, hS.F ht⟩) hS.2.2 d_PI_addLayer_67
          · skip
            exact absurd c_16 (by decide)
set_option maxHeartbeats 4000000 in
set_option maxRecDepth 100000 in
/-- clearLatest -/
theorem c_clearLatest (l : Launch) (dC : Nat → ClassId) (dI : Nat → Nat → Nat) (cs : Nat → ClassId) (sz : Nat) (pa : Nat) (bLG : Nat) (bLS : Nat) (bLt : Nat) (bGS : Nat) (bGG : Nat) (bES : Nat) (bEG : Nat) (zSl : Int32) (zLy : Int32) (zGr : Int32) (zTk : Int32) (zGt : Int32) (zLt : Int32) (fLt : Nat → Int64) : Met l y_PI_clearLatest w_PI_clearLatest ({ frames := 0, cells := 0, slots := 0, locals := 0 }) (vq_Pre (dC, dI) cs [(pa, .inr (1, [.int zSl, .ref bLG, .ref bLS, .int zLy, .int zGr, .int zTk, .int zGt, .int zLt, .ref bLt, .ref bGS, .ref bGG, .ref bES, .ref bEG])), (bLt, .inl ((cs 1), 4, .inr (.inl fLt)))] sz [.ref pa]) (va_Qv (fun (_ : Unit) => True) (vq_B (dC, dI) cs (va_A [(pa, .inr (1, [.int zSl, .ref bLG, .ref bLS, .int zLy, .int zGr, .int zTk, .int zGt, .int zLt, .ref bLt, .ref bGS, .ref bGG, .ref bES, .ref bEG])), (bLt, .inl ((cs 1), 4, .inr (.inl fLt)))] sz) (fun _ => [(pa, .inr (1, [.int zSl, .ref bLG, .ref bLS, .int zLy, .int zGr, .int zTk, .int zGt, .int 0, .ref bLt, .ref bGS, .ref bGG, .ref bES, .ref bEG])), (bLt, .inl ((cs 1), 4, .inr (.inl (cl4 fLt))))])) (va_A [(pa, .inr (1, [.int zSl, .ref bLG, .ref bLS, .int zLy, .int zGr, .int zTk, .int zGt, .int zLt, .ref bLt, .ref bGS, .ref bGG, .ref bES, .ref bEG])), (bLt, .inl ((cs 1), 4, .inr (.inl fLt)))] sz)) 0 0 (va_A [(pa, .inr (1, [.int zSl, .ref bLG, .ref bLS, .int zLy, .int zGr, .int zTk, .int zGt, .int zLt, .ref bLt, .ref bGS, .ref bGG, .ref bES, .ref bEG])), (bLt, .inl ((cs 1), 4, .inr (.inl fLt)))] sz) := by
  refine Met.ofW (cc := b_PI_clearLatest) (maxL := 2) (ret := none) (by decide) rfl ?_
  intro p e s m args below meth c s₁ B hml hv
  obtain ⟨rfl, hsz, hP, hD0, hCx⟩ := hv
  have hx := B.exec
  have hb := B.bytes
  have hr := B.returns
  have hG := vq_hG (atoms_spec (ws := w_PI_clearLatest) B.pre)
  have hown : s.vm.findClass R_PI = some m.cls := findClass_of_methodNamed B.named
  have hlocks := B.notSynchronized
  subst hsz
  have hK := hCx.1
  have hD := hD0.self (sz := s.heap.size)
  generalize hAe : va_A [(pa, .inr (1, [.int zSl, .ref bLG, .ref bLS, .int zLy, .int zGr, .int zTk, .int zGt, .int zLt, .ref bLt, .ref bGS, .ref bGG, .ref bES, .ref bEG])), (bLt, .inl ((cs 1), 4, .inr (.inl fLt)))] s.heap.size = A at hD hCx ⊢
  have hA : ∀ q : Nat, s.heap.size ≤ q → A q := fun q h => by rw [← hAe]; exact Or.inr h
  have hA0 : ∀ q : Nat, s.heap.size ≤ q → va_A [] s.heap.size q := fun q h => Or.inr h
  have hS : va_S (va_A [] s.heap.size) s.heap s.heap [] := va_S.rf
  have hl := lv_entry ([.ref pa]) (n := 2) (Nat.le_of_ble_eq_true rfl)
  rw [lg_entry_eq]
  generalize (lg_sl ([.ref pa]) ++ List.replicate (2 - (lg_sl ([.ref pa])).length) Slot.unset).toArray = ls at hl ⊢
  have hl : lv_has ls 2 [(0, .ref pa)] := hl
  have hP : va_P (dC, dI) vq_cl [(pa, .inr (1, [.int zSl, .ref bLG, .ref bLS, .int zLy, .int zGr, .int zTk, .int zGt, .int zLt, .ref bLt, .ref bGS, .ref bGG, .ref bES, .ref bEG])), (bLt, .inl ((cs 1), 4, .inr (.inl fLt)))] s.heap := hP
  refine lv_aload_n hx hb d_PI_clearLatest_0 rfl (lv_at hl 0 rfl) ?_
  refine lv_iconst (v := 0) hx hb d_PI_clearLatest_1 (by decide) ?_
  have hS := vq_wk hS hA
  refine va_put (D := (dC, dI)) (ci := 1) (v := .int 0) (ty := .int) (C := R_PI) (T := F_PI) (N := 13) hx hb hG i_PI t_PI t_PI_ok n_PI hown hK hP hD hS 0 rfl rfl 7 (by decide) (hG _ vq_t64) (fun _ h9 => h9) rfl (by decide +kernel) rfl rfl (Nat.le_of_ble_eq_true rfl) d_PI_clearLatest_2 (fun H locs hP hD hS => ?_)
  have hP : va_P (dC, dI) vq_cl [(pa, .inr (1, [.int zSl, .ref bLG, .ref bLS, .int zLy, .int zGr, .int zTk, .int zGt, .int 0, .ref bLt, .ref bGS, .ref bGG, .ref bES, .ref bEG])), (bLt, .inl ((cs 1), 4, .inr (.inl fLt)))] H := hP
  have hD : va_D A [(pa, .inr (1, [.int zSl, .ref bLG, .ref bLS, .int zLy, .int zGr, .int zTk, .int zGt, .int 0, .ref bLt, .ref bGS, .ref bGG, .ref bES, .ref bEG])), (bLt, .inl ((cs 1), 4, .inr (.inl fLt)))] := hD
  refine lv_iconst (v := 0) hx hb d_PI_clearLatest_5 (by decide) ?_
  refine lv_istore_n (lv' := [(1, .int 0), (0, .ref pa)]) hx hb d_PI_clearLatest_6 rfl hl (by decide) rfl (fun ls hl => ?_)
  refine lv_iload_n hx hb d_PI_clearLatest_7 rfl (lv_at hl 0 rfl) ?_
  refine lv_iconst (v := 4) hx hb d_PI_clearLatest_8 (by decide) ?_
  refine lv_icmp_ge (tgt := 25) hx hb d_PI_clearLatest_9 (by decide) (fun c_9 => ?_) (fun c_9 => ?_)
  · skip
    exact absurd c_9 (by decide)
  · skip
    refine lv_aload_n hx hb d_PI_clearLatest_12 rfl (lv_at hl 1 rfl) ?_
    refine va_get (D := (dC, dI)) (ci := 1) (v := .ref bLt) (C := R_PI) (T := F_PI) (N := 13) hx hb hG i_PI hown hK hP 0 rfl rfl 8 (by decide) (hG _ vq_t66) (fun _ h9 => h9) rfl d_PI_clearLatest_13 ?_
    refine lv_iload_n hx hb d_PI_clearLatest_16 rfl (lv_at hl 0 rfl) ?_
    refine lv_lconst (v := 0) hx hb d_PI_clearLatest_17 (by decide) ?_
    refine va_last (D := (dC, dI)) hx hb hK hP hD hS 1 1 rfl rfl (vq_in 4 rfl (by decide) (by decide)) d_PI_clearLatest_18 (fun H locs hP hD hS => ?_)
    have hP : va_P (dC, dI) vq_cl [(pa, .inr (1, [.int zSl, .ref bLG, .ref bLS, .int zLy, .int zGr, .int zTk, .int zGt, .int 0, .ref bLt, .ref bGS, .ref bGG, .ref bES, .ref bEG])), (bLt, .inl ((cs 1), 4, .inr (.inl (clS fLt 0))))] H := hP
    have hD : va_D A [(pa, .inr (1, [.int zSl, .ref bLG, .ref bLS, .int zLy, .int zGr, .int zTk, .int zGt, .int 0, .ref bLt, .ref bGS, .ref bGG, .ref bES, .ref bEG])), (bLt, .inl ((cs 1), 4, .inr (.inl (clS fLt 0))))] := hD
    refine lv_iinc (v := 1) (lv' := [(1, .int 1), (0, .ref pa)]) hx hb d_PI_clearLatest_19 hl (k := 0) rfl (by decide) (by decide) rfl (fun ls hl => ?_)
    refine lv_goto (tgt := 7) hx hb d_PI_clearLatest_22 (by decide) ?_
    refine lv_iload_n hx hb d_PI_clearLatest_7 rfl (lv_at hl 0 rfl) ?_
    refine lv_iconst (v := 4) hx hb d_PI_clearLatest_8 (by decide) ?_
    refine lv_icmp_ge (tgt := 25) hx hb d_PI_clearLatest_9 (by decide) (fun c_9 => ?_) (fun c_9 => ?_)
    · skip
      exact absurd c_9 (by decide)
    · skip
      refine lv_aload_n hx hb d_PI_clearLatest_12 rfl (lv_at hl 1 rfl) ?_
      refine va_get (D := (dC, dI)) (ci := 1) (v := .ref bLt) (C := R_PI) (T := F_PI) (N := 13) hx hb hG i_PI hown hK hP 0 rfl rfl 8 (by decide) (hG _ vq_t66) (fun _ h9 => h9) rfl d_PI_clearLatest_13 ?_
      refine lv_iload_n hx hb d_PI_clearLatest_16 rfl (lv_at hl 0 rfl) ?_
      refine lv_lconst (v := 0) hx hb d_PI_clearLatest_17 (by decide) ?_
      refine va_last (D := (dC, dI)) hx hb hK hP hD hS 1 1 rfl rfl (vq_in 4 rfl (by decide) (by decide)) d_PI_clearLatest_18 (fun H locs hP hD hS => ?_)
      have hP : va_P (dC, dI) vq_cl [(pa, .inr (1, [.int zSl, .ref bLG, .ref bLS, .int zLy, .int zGr, .int zTk, .int zGt, .int 0, .ref bLt, .ref bGS, .ref bGG, .ref bES, .ref bEG])), (bLt, .inl ((cs 1), 4, .inr (.inl (clS (clS fLt 0) 1))))] H := hP
      have hD : va_D A [(pa, .inr (1, [.int zSl, .ref bLG, .ref bLS, .int zLy, .int zGr, .int zTk, .int zGt, .int 0, .ref bLt, .ref bGS, .ref bGG, .ref bES, .ref bEG])), (bLt, .inl ((cs 1), 4, .inr (.inl (clS (clS fLt 0) 1))))] := hD
      refine lv_iinc (v := 2) (lv' := [(1, .int 2), (0, .ref pa)]) hx hb d_PI_clearLatest_19 hl (k := 0) rfl (by decide) (by decide) rfl (fun ls hl => ?_)
      refine lv_goto (tgt := 7) hx hb d_PI_clearLatest_22 (by decide) ?_
      refine lv_iload_n hx hb d_PI_clearLatest_7 rfl (lv_at hl 0 rfl) ?_
      refine lv_iconst (v := 4) hx hb d_PI_clearLatest_8 (by decide) ?_
      refine lv_icmp_ge (tgt := 25) hx hb d_PI_clearLatest_9 (by decide) (fun c_9 => ?_) (fun c_9 => ?_)
      · skip
        exact absurd c_9 (by decide)
      · skip
        refine lv_aload_n hx hb d_PI_clearLatest_12 rfl (lv_at hl 1 rfl) ?_
        refine va_get (D := (dC, dI)) (ci := 1) (v := .ref bLt) (C := R_PI) (T := F_PI) (N := 13) hx hb hG i_PI hown hK hP 0 rfl rfl 8 (by decide) (hG _ vq_t66) (fun _ h9 => h9) rfl d_PI_clearLatest_13 ?_
        refine lv_iload_n hx hb d_PI_clearLatest_16 rfl (lv_at hl 0 rfl) ?_
        refine lv_lconst (v := 0) hx hb d_PI_clearLatest_17 (by decide) ?_
        refine va_last (D := (dC, dI)) hx hb hK hP hD hS 1 1 rfl rfl (vq_in 4 rfl (by decide) (by decide)) d_PI_clearLatest_18 (fun H locs hP hD hS => ?_)
        have hP : va_P (dC, dI) vq_cl [(pa, .inr (1, [.int zSl, .ref bLG, .ref bLS, .int zLy, .int zGr, .int zTk, .int zGt, .int 0, .ref bLt, .ref bGS, .ref bGG, .ref bES, .ref bEG])), (bLt, .inl ((cs 1), 4, .inr (.inl (clS (clS (clS fLt 0) 1) 2))))] H := hP
        have hD : va_D A [(pa, .inr (1, [.int zSl, .ref bLG, .ref bLS, .int zLy, .int zGr, .int zTk, .int zGt, .int 0, .ref bLt, .ref bGS, .ref bGG, .ref bES, .ref bEG])), (bLt, .inl ((cs 1), 4, .inr (.inl (clS (clS (clS fLt 0) 1) 2))))] := hD
        refine lv_iinc (v := 3) (lv' := [(1, .int 3), (0, .ref pa)]) hx hb d_PI_clearLatest_19 hl (k := 0) rfl (by decide) (by decide) rfl (fun ls hl => ?_)
        refine lv_goto (tgt := 7) hx hb d_PI_clearLatest_22 (by decide) ?_
        refine lv_iload_n hx hb d_PI_clearLatest_7 rfl (lv_at hl 0 rfl) ?_
        refine lv_iconst (v := 4) hx hb d_PI_clearLatest_8 (by decide) ?_
        refine lv_icmp_ge (tgt := 25) hx hb d_PI_clearLatest_9 (by decide) (fun c_9 => ?_) (fun c_9 => ?_)
        · skip
          exact absurd c_9 (by decide)
        · skip
          refine lv_aload_n hx hb d_PI_clearLatest_12 rfl (lv_at hl 1 rfl) ?_
          refine va_get (D := (dC, dI)) (ci := 1) (v := .ref bLt) (C := R_PI) (T := F_PI) (N := 13) hx hb hG i_PI hown hK hP 0 rfl rfl 8 (by decide) (hG _ vq_t66) (fun _ h9 => h9) rfl d_PI_clearLatest_13 ?_
          refine lv_iload_n hx hb d_PI_clearLatest_16 rfl (lv_at hl 0 rfl) ?_
          refine lv_lconst (v := 0) hx hb d_PI_clearLatest_17 (by decide) ?_
          refine va_last (D := (dC, dI)) hx hb hK hP hD hS 1 1 rfl rfl (vq_in 4 rfl (by decide) (by decide)) d_PI_clearLatest_18 (fun H locs hP hD hS => ?_)
          have hP : va_P (dC, dI) vq_cl [(pa, .inr (1, [.int zSl, .ref bLG, .ref bLS, .int zLy, .int zGr, .int zTk, .int zGt, .int 0, .ref bLt, .ref bGS, .ref bGG, .ref bES, .ref bEG])), (bLt, .inl ((cs 1), 4, .inr (.inl (clS (clS (clS (clS fLt 0) 1) 2) 3))))] H := hP
          have hD : va_D A [(pa, .inr (1, [.int zSl, .ref bLG, .ref bLS, .int zLy, .int zGr, .int zTk, .int zGt, .int 0, .ref bLt, .ref bGS, .ref bGG, .ref bES, .ref bEG])), (bLt, .inl ((cs 1), 4, .inr (.inl (clS (clS (clS (clS fLt 0) 1) 2) 3))))] := hD
          refine lv_iinc (v := 4) (lv' := [(1, .int 4), (0, .ref pa)]) hx hb d_PI_clearLatest_19 hl (k := 0) rfl (by decide) (by decide) rfl (fun ls hl => ?_)
          refine lv_goto (tgt := 7) hx hb d_PI_clearLatest_22 (by decide) ?_
          refine lv_iload_n hx hb d_PI_clearLatest_7 rfl (lv_at hl 0 rfl) ?_
          refine lv_iconst (v := 4) hx hb d_PI_clearLatest_8 (by decide) ?_
          refine lv_icmp_ge (tgt := 25) hx hb d_PI_clearLatest_9 (by decide) (fun c_9 => ?_) (fun c_9 => ?_)
          · skip
            refine W.widen (k := 0) (n := 0) (Nat.le_of_ble_eq_true rfl) (Nat.le_of_ble_eq_true rfl) ?_
            have hP9 : va_P (dC, dI) vq_cl [(pa, .inr (1, [.int zSl, .ref bLG, .ref bLS, .int zLy, .int zGr, .int zTk, .int zGt, .int 0, .ref bLt, .ref bGS, .ref bGG, .ref bES, .ref bEG])), (bLt, .inl ((cs 1), 4, .inr (.inl (clS (clS (clS (clS fLt 0) 1) 2) 3))))] _ := hP.sub [0, 1] rfl
            have hD9 : va_D A [(pa, .inr (1, [.int zSl, .ref bLG, .ref bLS, .int zLy, .int zGr, .int zTk, .int zGt, .int 0, .ref bLt, .ref bGS, .ref bGG, .ref bES, .ref bEG])), (bLt, .inl ((cs 1), 4, .inr (.inl (clS (clS (clS (clS fLt 0) 1) 2) 3))))] := hD.sub [0, 1] (by decide) rfl
            have e9 : ([(pa, .inr (1, [.int zSl, .ref bLG, .ref bLS, .int zLy, .int zGr, .int zTk, .int zGt, .int 0, .ref bLt, .ref bGS, .ref bGG, .ref bES, .ref bEG])), (bLt, .inl ((cs 1), 4, .inr (.inl (cl4 fLt))))] : va_W) = [(pa, .inr (1, [.int zSl, .ref bLG, .ref bLS, .int zLy, .int zGr, .int zTk, .int zGt, .int 0, .ref bLt, .ref bGS, .ref bGG, .ref bES, .ref bEG])), (bLt, .inl ((cs 1), 4, .inr (.inl (clS (clS (clS (clS fLt 0) 1) 2) 3))))] := by rfl
            rw [← e9] at hP9 hD9
            exact W.vret hx hb hr (fun t ht hW => ⟨⟨(), rfl, trivial, ⟨by rw [ht]; exact hP9, hD9⟩⟩, hS.F ht⟩) hS.2.2 d_PI_clearLatest_25
          · skip
            exact absurd c_9 (by decide)
set_option maxHeartbeats 4000000 in
set_option maxRecDepth 100000 in
/-- gramsBefore -/
theorem c_gramsBefore (l : Launch) (dC : Nat → ClassId) (dI : Nat → Nat → Nat) (cs : Nat → ClassId) (sz : Nat) (pa : Nat) (bLG : Nat) (bLS : Nat) (bLt : Nat) (bGS : Nat) (bGG : Nat) (bES : Nat) (bEG : Nat) (zSl : Int32) (zLy : Int32) (zGr : Int32) (zTk : Int32) (zGt : Int32) (zLt : Int32) (fLG : Nat → Int32) (x : Int32) (y : Int32) (hi : ok20 x) : Met l y_PI_gramsBefore w_PI_gramsBefore ({ frames := 0, cells := 0, slots := 0, locals := 0 }) (vq_PreR (dC, dI) cs [(pa, .inr (1, [.int zSl, .ref bLG, .ref bLS, .int zLy, .int zGr, .int zTk, .int zGt, .int zLt, .ref bLt, .ref bGS, .ref bGG, .ref bES, .ref bEG])), (bLG, .inl ((cs 0), 20, .inl fLG))] sz [.ref pa, .int x, .int y]) (va_Qi (fun (r : Int32) (_ : Unit) => r = gbF zSl (fLG x.toNatClampNeg) y) (fun _ _ => True) (va_A [] sz)) 0 0 (va_A [] sz) := by
  refine Met.ofW (cc := b_PI_gramsBefore) (maxL := 3) (ret := (some .int)) (by decide) rfl ?_
  intro p e s m args below meth c s₁ B hml hv
  obtain ⟨rfl, hsz, hP, hCx⟩ := hv
  have hx := B.exec
  have hb := B.bytes
  have hr := B.returns
  have hG := vq_hG (atoms_spec (ws := w_PI_gramsBefore) B.pre)
  have hown : s.vm.findClass R_PI = some m.cls := findClass_of_methodNamed B.named
  have hlocks := B.notSynchronized
  subst hsz
  have hK := hCx.1
  have hA : ∀ q : Nat, s.heap.size ≤ q → va_A [] s.heap.size q := fun q h => Or.inr h
  have hA0 : ∀ q : Nat, s.heap.size ≤ q → va_A [] s.heap.size q := fun q h => Or.inr h
  have hS : va_S (va_A [] s.heap.size) s.heap s.heap [] := va_S.rf
  have hl := lv_entry ([.ref pa, .int x, .int y]) (n := 3) (Nat.le_of_ble_eq_true rfl)
  rw [lg_entry_eq]
  generalize (lg_sl ([.ref pa, .int x, .int y]) ++ List.replicate (3 - (lg_sl ([.ref pa, .int x, .int y])).length) Slot.unset).toArray = ls at hl ⊢
  have hl : lv_has ls 3 [(0, .ref pa), (1, .int x), (2, .int y)] := hl
  have hP : va_P (dC, dI) vq_cl [(pa, .inr (1, [.int zSl, .ref bLG, .ref bLS, .int zLy, .int zGr, .int zTk, .int zGt, .int zLt, .ref bLt, .ref bGS, .ref bGG, .ref bES, .ref bEG])), (bLG, .inl ((cs 0), 20, .inl fLG))] s.heap := hP
  refine lv_aload_n hx hb d_PI_gramsBefore_0 rfl (lv_at hl 0 rfl) ?_
  refine va_get (D := (dC, dI)) (ci := 1) (v := .int zSl) (C := R_PI) (T := F_PI) (N := 13) hx hb hG i_PI hown hK hP 0 rfl rfl 0 (by decide) (hG _ vq_t52) (fun _ h9 => h9) rfl d_PI_gramsBefore_1 ?_
  refine lv_iconst (v := 1) hx hb d_PI_gramsBefore_4 (by decide) ?_
  refine lv_icmp_ge (tgt := 12) hx hb d_PI_gramsBefore_5 (by decide) (fun c_5 => ?_) (fun c_5 => ?_)
  · skip
    refine lv_aload_n hx hb d_PI_gramsBefore_12 rfl (lv_at hl 0 rfl) ?_
    refine va_get (D := (dC, dI)) (ci := 1) (v := .ref bLG) (C := R_PI) (T := F_PI) (N := 13) hx hb hG i_PI hown hK hP 0 rfl rfl 1 (by decide) (hG _ vq_t54) (fun _ h9 => h9) rfl d_PI_gramsBefore_13 ?_
    refine lv_iload_n hx hb d_PI_gramsBefore_16 rfl (lv_at hl 1 rfl) ?_
    refine va_iald (D := (dC, dI)) hx hb hK hP 1 0 rfl rfl (vq_in 20 rfl hi.1 hi.2) d_PI_gramsBefore_17 ?_
    refine lv_i2l hx hb d_PI_gramsBefore_18 rfl ?_
    refine lv_iload_n hx hb d_PI_gramsBefore_19 rfl (lv_at hl 2 rfl) ?_
    refine lv_i2l hx hb d_PI_gramsBefore_20 rfl ?_
    refine lv_lmul hx hb d_PI_gramsBefore_21 ?_
    refine lv_aload_n hx hb d_PI_gramsBefore_22 rfl (lv_at hl 0 rfl) ?_
    refine va_get (D := (dC, dI)) (ci := 1) (v := .int zSl) (C := R_PI) (T := F_PI) (N := 13) hx hb hG i_PI hown hK hP 0 rfl rfl 0 (by decide) (hG _ vq_t52) (fun _ h9 => h9) rfl d_PI_gramsBefore_23 ?_
    refine lv_i2l hx hb d_PI_gramsBefore_26 rfl ?_
    refine lv_ldiv hx hb d_PI_gramsBefore_27 (vq_nz c_5) ?_
    refine lv_l2i hx hb d_PI_gramsBefore_28 rfl ?_
    refine W.widen (k := 0) (n := 0) (Nat.le_of_ble_eq_true rfl) (Nat.le_of_ble_eq_true rfl) ?_
    exact W.iret (v := ((((fLG x.toNatClampNeg).toInt64) * y.toInt64) / zSl.toInt64).toInt32) hx hb hr (fun t ht hW => ⟨⟨((((fLG x.toNatClampNeg).toInt64) * y.toInt64) / zSl.toInt64).toInt32, (), rfl, by simp only [gbF, if_pos c_5], trivial⟩, hS.F ht⟩) hS.2.2 d_PI_gramsBefore_29
  · skip
    refine lv_iconst (v := 0) hx hb d_PI_gramsBefore_8 (by decide) ?_
    refine lv_goto (tgt := 29) hx hb d_PI_gramsBefore_9 (by decide) ?_
    refine W.widen (k := 0) (n := 0) (Nat.le_of_ble_eq_true rfl) (Nat.le_of_ble_eq_true rfl) ?_
    exact W.iret (v := 0) hx hb hr (fun t ht hW => ⟨⟨0, (), rfl, by simp only [gbF, if_neg c_5], trivial⟩, hS.F ht⟩) hS.2.2 d_PI_gramsBefore_29
set_option maxHeartbeats 4000000 in
set_option maxRecDepth 100000 in
/-- takeOfLayer -/
theorem c_takeOfLayer (l : Launch) (dC : Nat → ClassId) (dI : Nat → Nat → Nat) (cs : Nat → ClassId) (sz : Nat) (pa : Nat) (bLG : Nat) (bLS : Nat) (bLt : Nat) (bGS : Nat) (bGG : Nat) (bES : Nat) (bEG : Nat) (zSl : Int32) (zLy : Int32) (zGr : Int32) (zTk : Int32) (zGt : Int32) (zLt : Int32) (fLG : Nat → Int32) (fLS : Nat → Int32) (fLt : Nat → Int64) (x : Int32) (hi : ok20 x) : Met l y_PI_takeOfLayer w_PI_takeOfLayer ({ frames := 1, cells := 0, slots := 0, locals := 22 }) (vq_Pre (dC, dI) cs [(pa, .inr (1, [.int zSl, .ref bLG, .ref bLS, .int zLy, .int zGr, .int zTk, .int zGt, .int zLt, .ref bLt, .ref bGS, .ref bGG, .ref bES, .ref bEG])), (bLG, .inl ((cs 0), 20, .inl fLG)), (bLS, .inl ((cs 0), 80, .inl fLS)), (bLt, .inl ((cs 1), 4, .inr (.inl fLt)))] sz [.ref pa, .int x]) (va_Qv (fun (_ : Unit) => True) (vq_B (dC, dI) cs (va_A [(pa, .inr (1, [.int zSl, .ref bLG, .ref bLS, .int zLy, .int zGr, .int zTk, .int zGt, .int zLt, .ref bLt, .ref bGS, .ref bGG, .ref bES, .ref bEG])), (bLG, .inl ((cs 0), 20, .inl fLG)), (bLS, .inl ((cs 0), 80, .inl fLS)), (bLt, .inl ((cs 1), 4, .inr (.inl fLt)))] sz) (fun _ => [(pa, .inr (1, [.int zSl, .ref bLG, .ref bLS, .int zLy, .int zGr, .int zTk, .int zGt, .int (zLt + (ptF zSl (fLG x.toNatClampNeg) zTk)), .ref bLt, .ref bGS, .ref bGG, .ref bES, .ref bEG])), (bLG, .inl ((cs 0), 20, .inl fLG)), (bLS, .inl ((cs 0), 80, .inl fLS)), (bLt, .inl ((cs 1), 4, .inr (.inl (tol4 (ptF zSl (fLG x.toNatClampNeg) zTk) fLS x fLt))))])) (va_A [(pa, .inr (1, [.int zSl, .ref bLG, .ref bLS, .int zLy, .int zGr, .int zTk, .int zGt, .int zLt, .ref bLt, .ref bGS, .ref bGG, .ref bES, .ref bEG])), (bLG, .inl ((cs 0), 20, .inl fLG)), (bLS, .inl ((cs 0), 80, .inl fLS)), (bLt, .inl ((cs 1), 4, .inr (.inl fLt)))] sz)) 0 0 (va_A [(pa, .inr (1, [.int zSl, .ref bLG, .ref bLS, .int zLy, .int zGr, .int zTk, .int zGt, .int zLt, .ref bLt, .ref bGS, .ref bGG, .ref bES, .ref bEG])), (bLG, .inl ((cs 0), 20, .inl fLG)), (bLS, .inl ((cs 0), 80, .inl fLS)), (bLt, .inl ((cs 1), 4, .inr (.inl fLt)))] sz) := by
  refine Met.ofW (cc := b_PI_takeOfLayer) (maxL := 4) (ret := none) (by decide) rfl ?_
  intro p e s m args below meth c s₁ B hml hv
  obtain ⟨rfl, hsz, hP, hD0, hCx⟩ := hv
  have hx := B.exec
  have hb := B.bytes
  have hr := B.returns
  have hG := vq_hG (atoms_spec (ws := w_PI_takeOfLayer) B.pre)
  have hown : s.vm.findClass R_PI = some m.cls := findClass_of_methodNamed B.named
  have hlocks := B.notSynchronized
  subst hsz
  have hK := hCx.1
  have hD := hD0.self (sz := s.heap.size)
  generalize hAe : va_A [(pa, .inr (1, [.int zSl, .ref bLG, .ref bLS, .int zLy, .int zGr, .int zTk, .int zGt, .int zLt, .ref bLt, .ref bGS, .ref bGG, .ref bES, .ref bEG])), (bLG, .inl ((cs 0), 20, .inl fLG)), (bLS, .inl ((cs 0), 80, .inl fLS)), (bLt, .inl ((cs 1), 4, .inr (.inl fLt)))] s.heap.size = A at hD hCx ⊢
  have hA : ∀ q : Nat, s.heap.size ≤ q → A q := fun q h => by rw [← hAe]; exact Or.inr h
  have hA0 : ∀ q : Nat, s.heap.size ≤ q → va_A [] s.heap.size q := fun q h => Or.inr h
  have hS : va_S (va_A [] s.heap.size) s.heap s.heap [] := va_S.rf
  have hl := lv_entry ([.ref pa, .int x]) (n := 4) (Nat.le_of_ble_eq_true rfl)
  rw [lg_entry_eq]
  generalize (lg_sl ([.ref pa, .int x]) ++ List.replicate (4 - (lg_sl ([.ref pa, .int x])).length) Slot.unset).toArray = ls at hl ⊢
  have hl : lv_has ls 4 [(0, .ref pa), (1, .int x)] := hl
  have hP : va_P (dC, dI) vq_cl [(pa, .inr (1, [.int zSl, .ref bLG, .ref bLS, .int zLy, .int zGr, .int zTk, .int zGt, .int zLt, .ref bLt, .ref bGS, .ref bGG, .ref bES, .ref bEG])), (bLG, .inl ((cs 0), 20, .inl fLG)), (bLS, .inl ((cs 0), 80, .inl fLS)), (bLt, .inl ((cs 1), 4, .inr (.inl fLt)))] s.heap := hP
  refine lv_aload_n hx hb d_PI_takeOfLayer_0 rfl (lv_at hl 0 rfl) ?_
  refine lv_iload_n hx hb d_PI_takeOfLayer_1 rfl (lv_at hl 1 rfl) ?_
  refine lv_aload_n hx hb d_PI_takeOfLayer_2 rfl (lv_at hl 0 rfl) ?_
  refine va_get (D := (dC, dI)) (ci := 1) (v := .int zTk) (C := R_PI) (T := F_PI) (N := 13) hx hb hG i_PI hown hK hP 0 rfl rfl 5 (by decide) (hG _ vq_t60) (fun _ h9 => h9) rfl d_PI_takeOfLayer_3 ?_
  refine lv_iconst (v := 1) hx hb d_PI_takeOfLayer_6 (by decide) ?_
  refine lv_iadd hx hb d_PI_takeOfLayer_7 ?_
  refine mk_ri (va_runV (As := [.int x, .int (zTk + 1)]) (rest := []) ⟨hx, hb, hml, hown, hG⟩ (c_gramsBefore l dC dI cs _ pa bLG bLS bLt bGS bGG bES bEG zSl zLy zGr zTk zGt zLt fLG x (zTk + 1) hi) (cwV 2 hG (vq_gV vq_t348 vq_t350 vq_s5 vq_t3 vq_t351) rfl rfl rfl (by decide +kernel) ⟨Nat.le_of_ble_eq_true rfl, Nat.le_of_ble_eq_true rfl⟩) (vq_preVr (wc := [(pa, .inr (1, [.int zSl, .ref bLG, .ref bLS, .int zLy, .int zGr, .int zTk, .int zGt, .int zLt, .ref bLt, .ref bGS, .ref bGG, .ref bES, .ref bEG])), (bLG, .inl ((cs 0), 20, .inl fLG))]) (va_recv hK hP (ci := 1) (q0 := 0) rfl rfl) hCx hP (vq_wk hS hA) hA [0, 1] rfl) rfl rfl hl.1 rfl (lv_room (Nat.le_of_ble_eq_true rfl)) d_PI_takeOfLayer_8 ⟨Nat.le_of_ble_eq_true rfl, Nat.le_of_ble_eq_true rfl⟩) hP hS hA0 (fun r_8 H locs w_8 hP hS => ?_)
  subst w_8
  refine lv_aload_n hx hb d_PI_takeOfLayer_11 rfl (lv_at hl 0 rfl) ?_
  refine lv_iload_n hx hb d_PI_takeOfLayer_12 rfl (lv_at hl 1 rfl) ?_
  refine lv_aload_n hx hb d_PI_takeOfLayer_13 rfl (lv_at hl 0 rfl) ?_
  refine va_get (D := (dC, dI)) (ci := 1) (v := .int zTk) (C := R_PI) (T := F_PI) (N := 13) hx hb hG i_PI hown hK hP 0 rfl rfl 5 (by decide) (hG _ vq_t60) (fun _ h9 => h9) rfl d_PI_takeOfLayer_14 ?_
  refine mk_ri (va_runV (As := [.int x, .int zTk]) (rest := [.int (gbF zSl (fLG x.toNatClampNeg) (zTk + 1))]) ⟨hx, hb, hml, hown, hG⟩ (c_gramsBefore l dC dI cs _ pa bLG bLS bLt bGS bGG bES bEG zSl zLy zGr zTk zGt zLt fLG x zTk hi) (cwV 2 hG (vq_gV vq_t348 vq_t350 vq_s5 vq_t3 vq_t351) rfl rfl rfl (by decide +kernel) ⟨Nat.le_of_ble_eq_true rfl, Nat.le_of_ble_eq_true rfl⟩) (vq_preVr (wc := [(pa, .inr (1, [.int zSl, .ref bLG, .ref bLS, .int zLy, .int zGr, .int zTk, .int zGt, .int zLt, .ref bLt, .ref bGS, .ref bGG, .ref bES, .ref bEG])), (bLG, .inl ((cs 0), 20, .inl fLG))]) (va_recv hK hP (ci := 1) (q0 := 0) rfl rfl) hCx hP (vq_wk hS hA) hA [0, 1] rfl) rfl rfl hl.1 rfl (lv_room (Nat.le_of_ble_eq_true rfl)) d_PI_takeOfLayer_17 ⟨Nat.le_of_ble_eq_true rfl, Nat.le_of_ble_eq_true rfl⟩) hP hS hA0 (fun r_17 H locs w_17 hP hS => ?_)
  subst w_17
  refine lv_isub hx hb d_PI_takeOfLayer_20 ?_
  refine lv_istore_n (lv' := [(2, .int (ptF zSl (fLG x.toNatClampNeg) zTk)), (0, .ref pa), (1, .int x)]) hx hb d_PI_takeOfLayer_21 rfl hl (by decide) rfl (fun ls hl => ?_)
  refine lv_aload_n hx hb d_PI_takeOfLayer_22 rfl (lv_at hl 1 rfl) ?_
  refine lv_dup hx hb d_PI_takeOfLayer_23 rfl ?_
  refine va_get (D := (dC, dI)) (ci := 1) (v := .int zLt) (C := R_PI) (T := F_PI) (N := 13) hx hb hG i_PI hown hK hP 0 rfl rfl 7 (by decide) (hG _ vq_t64) (fun _ h9 => h9) rfl d_PI_takeOfLayer_24 ?_
  refine lv_iload_n hx hb d_PI_takeOfLayer_27 rfl (lv_at hl 0 rfl) ?_
  refine lv_iadd hx hb d_PI_takeOfLayer_28 ?_
  have hS := vq_wk hS hA
  refine va_put (D := (dC, dI)) (ci := 1) (v := .int (zLt + (ptF zSl (fLG x.toNatClampNeg) zTk))) (ty := .int) (C := R_PI) (T := F_PI) (N := 13) hx hb hG i_PI t_PI t_PI_ok n_PI hown hK hP hD hS 0 rfl rfl 7 (by decide) (hG _ vq_t64) (fun _ h9 => h9) rfl (by decide +kernel) rfl rfl (Nat.le_of_ble_eq_true rfl) d_PI_takeOfLayer_29 (fun H locs hP hD hS => ?_)
  have hP : va_P (dC, dI) vq_cl [(pa, .inr (1, [.int zSl, .ref bLG, .ref bLS, .int zLy, .int zGr, .int zTk, .int zGt, .int (zLt + (ptF zSl (fLG x.toNatClampNeg) zTk)), .ref bLt, .ref bGS, .ref bGG, .ref bES, .ref bEG])), (bLG, .inl ((cs 0), 20, .inl fLG)), (bLS, .inl ((cs 0), 80, .inl fLS)), (bLt, .inl ((cs 1), 4, .inr (.inl fLt)))] H := hP
  have hD : va_D A [(pa, .inr (1, [.int zSl, .ref bLG, .ref bLS, .int zLy, .int zGr, .int zTk, .int zGt, .int (zLt + (ptF zSl (fLG x.toNatClampNeg) zTk)), .ref bLt, .ref bGS, .ref bGG, .ref bES, .ref bEG])), (bLG, .inl ((cs 0), 20, .inl fLG)), (bLS, .inl ((cs 0), 80, .inl fLS)), (bLt, .inl ((cs 1), 4, .inr (.inl fLt)))] := hD
  refine lv_iconst (v := 0) hx hb d_PI_takeOfLayer_32 (by decide) ?_
  refine lv_istore_n (lv' := [(3, .int 0), (2, .int (ptF zSl (fLG x.toNatClampNeg) zTk)), (0, .ref pa), (1, .int x)]) hx hb d_PI_takeOfLayer_33 rfl hl (by decide) rfl (fun ls hl => ?_)
  refine lv_iload_n hx hb d_PI_takeOfLayer_34 rfl (lv_at hl 0 rfl) ?_
  refine lv_iconst (v := 4) hx hb d_PI_takeOfLayer_35 (by decide) ?_
  refine lv_icmp_ge (tgt := 68) hx hb d_PI_takeOfLayer_36 (by decide) (fun c_36 => ?_) (fun c_36 => ?_)
  · skip
    exact absurd c_36 (by decide)
  · skip
    refine lv_aload_n hx hb d_PI_takeOfLayer_39 rfl (lv_at hl 2 rfl) ?_
    refine va_get (D := (dC, dI)) (ci := 1) (v := .ref bLt) (C := R_PI) (T := F_PI) (N := 13) hx hb hG i_PI hown hK hP 0 rfl rfl 8 (by decide) (hG _ vq_t66) (fun _ h9 => h9) rfl d_PI_takeOfLayer_40 ?_
    refine lv_iload_n hx hb d_PI_takeOfLayer_43 rfl (lv_at hl 0 rfl) ?_
    refine lv_dup2_11 hx hb d_PI_takeOfLayer_44 rfl rfl ?_
    refine va_lald (D := (dC, dI)) hx hb hK hP 3 1 rfl rfl (vq_in 4 rfl (by decide) (by decide)) d_PI_takeOfLayer_45 ?_
    refine lv_iload_n hx hb d_PI_takeOfLayer_46 rfl (lv_at hl 1 rfl) ?_
    refine lv_i2l hx hb d_PI_takeOfLayer_47 rfl ?_
    refine lv_aload_n hx hb d_PI_takeOfLayer_48 rfl (lv_at hl 2 rfl) ?_
    refine va_get (D := (dC, dI)) (ci := 1) (v := .ref bLS) (C := R_PI) (T := F_PI) (N := 13) hx hb hG i_PI hown hK hP 0 rfl rfl 2 (by decide) (hG _ vq_t55) (fun _ h9 => h9) rfl d_PI_takeOfLayer_49 ?_
    refine lv_iload_n hx hb d_PI_takeOfLayer_52 rfl (lv_at hl 3 rfl) ?_
    refine lv_iconst (v := 4) hx hb d_PI_takeOfLayer_53 (by decide) ?_
    refine lv_imul hx hb d_PI_takeOfLayer_54 ?_
    refine lv_iload_n hx hb d_PI_takeOfLayer_55 rfl (lv_at hl 0 rfl) ?_
    refine lv_iadd hx hb d_PI_takeOfLayer_56 ?_
    refine va_iald (D := (dC, dI)) hx hb hK hP 2 0 rfl rfl (vq_ixL hi (e := 0) (by decide)) d_PI_takeOfLayer_57 ?_
    refine lv_i2l hx hb d_PI_takeOfLayer_58 rfl ?_
    refine lv_lmul hx hb d_PI_takeOfLayer_59 ?_
    refine lv_ladd hx hb d_PI_takeOfLayer_60 ?_
    refine va_last (D := (dC, dI)) hx hb hK hP hD hS 3 1 rfl rfl (vq_in 4 rfl (by decide) (by decide)) d_PI_takeOfLayer_61 (fun H locs hP hD hS => ?_)
    have hP : va_P (dC, dI) vq_cl [(pa, .inr (1, [.int zSl, .ref bLG, .ref bLS, .int zLy, .int zGr, .int zTk, .int zGt, .int (zLt + (ptF zSl (fLG x.toNatClampNeg) zTk)), .ref bLt, .ref bGS, .ref bGG, .ref bES, .ref bEG])), (bLG, .inl ((cs 0), 20, .inl fLG)), (bLS, .inl ((cs 0), 80, .inl fLS)), (bLt, .inl ((cs 1), 4, .inr (.inl (tolS (ptF zSl (fLG x.toNatClampNeg) zTk) fLS x fLt 0))))] H := hP
    have hD : va_D A [(pa, .inr (1, [.int zSl, .ref bLG, .ref bLS, .int zLy, .int zGr, .int zTk, .int zGt, .int (zLt + (ptF zSl (fLG x.toNatClampNeg) zTk)), .ref bLt, .ref bGS, .ref bGG, .ref bES, .ref bEG])), (bLG, .inl ((cs 0), 20, .inl fLG)), (bLS, .inl ((cs 0), 80, .inl fLS)), (bLt, .inl ((cs 1), 4, .inr (.inl (tolS (ptF zSl (fLG x.toNatClampNeg) zTk) fLS x fLt 0))))] := hD
    refine lv_iinc (v := 1) (lv' := [(3, .int 1), (2, .int (ptF zSl (fLG x.toNatClampNeg) zTk)), (0, .ref pa), (1, .int x)]) hx hb d_PI_takeOfLayer_62 hl (k := 0) rfl (by decide) (by decide) rfl (fun ls hl => ?_)
    refine lv_goto (tgt := 34) hx hb d_PI_takeOfLayer_65 (by decide) ?_
    refine lv_iload_n hx hb d_PI_takeOfLayer_34 rfl (lv_at hl 0 rfl) ?_
    refine lv_iconst (v := 4) hx hb d_PI_takeOfLayer_35 (by decide) ?_
    refine lv_icmp_ge (tgt := 68) hx hb d_PI_takeOfLayer_36 (by decide) (fun c_36 => ?_) (fun c_36 => ?_)
    · skip
      exact absurd c_36 (by decide)
    · skip
      refine lv_aload_n hx hb d_PI_takeOfLayer_39 rfl (lv_at hl 2 rfl) ?_
      refine va_get (D := (dC, dI)) (ci := 1) (v := .ref bLt) (C := R_PI) (T := F_PI) (N := 13) hx hb hG i_PI hown hK hP 0 rfl rfl 8 (by decide) (hG _ vq_t66) (fun _ h9 => h9) rfl d_PI_takeOfLayer_40 ?_
      refine lv_iload_n hx hb d_PI_takeOfLayer_43 rfl (lv_at hl 0 rfl) ?_
      refine lv_dup2_11 hx hb d_PI_takeOfLayer_44 rfl rfl ?_
      refine va_lald (D := (dC, dI)) hx hb hK hP 3 1 rfl rfl (vq_in 4 rfl (by decide) (by decide)) d_PI_takeOfLayer_45 ?_
      refine lv_iload_n hx hb d_PI_takeOfLayer_46 rfl (lv_at hl 1 rfl) ?_
      refine lv_i2l hx hb d_PI_takeOfLayer_47 rfl ?_
      refine lv_aload_n hx hb d_PI_takeOfLayer_48 rfl (lv_at hl 2 rfl) ?_
      refine va_get (D := (dC, dI)) (ci := 1) (v := .ref bLS) (C := R_PI) (T := F_PI) (N := 13) hx hb hG i_PI hown hK hP 0 rfl rfl 2 (by decide) (hG _ vq_t55) (fun _ h9 => h9) rfl d_PI_takeOfLayer_49 ?_
      refine lv_iload_n hx hb d_PI_takeOfLayer_52 rfl (lv_at hl 3 rfl) ?_
      refine lv_iconst (v := 4) hx hb d_PI_takeOfLayer_53 (by decide) ?_
      refine lv_imul hx hb d_PI_takeOfLayer_54 ?_
      refine lv_iload_n hx hb d_PI_takeOfLayer_55 rfl (lv_at hl 0 rfl) ?_
      refine lv_iadd hx hb d_PI_takeOfLayer_56 ?_
      refine va_iald (D := (dC, dI)) hx hb hK hP 2 0 rfl rfl (vq_ixL hi (e := 1) (by decide)) d_PI_takeOfLayer_57 ?_
      refine lv_i2l hx hb d_PI_takeOfLayer_58 rfl ?_
      refine lv_lmul hx hb d_PI_takeOfLayer_59 ?_
      refine lv_ladd hx hb d_PI_takeOfLayer_60 ?_
      refine va_last (D := (dC, dI)) hx hb hK hP hD hS 3 1 rfl rfl (vq_in 4 rfl (by decide) (by decide)) d_PI_takeOfLayer_61 (fun H locs hP hD hS => ?_)
      have hP : va_P (dC, dI) vq_cl [(pa, .inr (1, [.int zSl, .ref bLG, .ref bLS, .int zLy, .int zGr, .int zTk, .int zGt, .int (zLt + (ptF zSl (fLG x.toNatClampNeg) zTk)), .ref bLt, .ref bGS, .ref bGG, .ref bES, .ref bEG])), (bLG, .inl ((cs 0), 20, .inl fLG)), (bLS, .inl ((cs 0), 80, .inl fLS)), (bLt, .inl ((cs 1), 4, .inr (.inl (tolS (ptF zSl (fLG x.toNatClampNeg) zTk) fLS x (tolS (ptF zSl (fLG x.toNatClampNeg) zTk) fLS x fLt 0) 1))))] H := hP
      have hD : va_D A [(pa, .inr (1, [.int zSl, .ref bLG, .ref bLS, .int zLy, .int zGr, .int zTk, .int zGt, .int (zLt + (ptF zSl (fLG x.toNatClampNeg) zTk)), .ref bLt, .ref bGS, .ref bGG, .ref bES, .ref bEG])), (bLG, .inl ((cs 0), 20, .inl fLG)), (bLS, .inl ((cs 0), 80, .inl fLS)), (bLt, .inl ((cs 1), 4, .inr (.inl (tolS (ptF zSl (fLG x.toNatClampNeg) zTk) fLS x (tolS (ptF zSl (fLG x.toNatClampNeg) zTk) fLS x fLt 0) 1))))] := hD
      refine lv_iinc (v := 2) (lv' := [(3, .int 2), (2, .int (ptF zSl (fLG x.toNatClampNeg) zTk)), (0, .ref pa), (1, .int x)]) hx hb d_PI_takeOfLayer_62 hl (k := 0) rfl (by decide) (by decide) rfl (fun ls hl => ?_)
      refine lv_goto (tgt := 34) hx hb d_PI_takeOfLayer_65 (by decide) ?_
      refine lv_iload_n hx hb d_PI_takeOfLayer_34 rfl (lv_at hl 0 rfl) ?_
      refine lv_iconst (v := 4) hx hb d_PI_takeOfLayer_35 (by decide) ?_
      refine lv_icmp_ge (tgt := 68) hx hb d_PI_takeOfLayer_36 (by decide) (fun c_36 => ?_) (fun c_36 => ?_)
      · skip
        exact absurd c_36 (by decide)
      · skip
        refine lv_aload_n hx hb d_PI_takeOfLayer_39 rfl (lv_at hl 2 rfl) ?_
        refine va_get (D := (dC, dI)) (ci := 1) (v := .ref bLt) (C := R_PI) (T := F_PI) (N := 13) hx hb hG i_PI hown hK hP 0 rfl rfl 8 (by decide) (hG _ vq_t66) (fun _ h9 => h9) rfl d_PI_takeOfLayer_40 ?_
        refine lv_iload_n hx hb d_PI_takeOfLayer_43 rfl (lv_at hl 0 rfl) ?_
        refine lv_dup2_11 hx hb d_PI_takeOfLayer_44 rfl rfl ?_
        refine va_lald (D := (dC, dI)) hx hb hK hP 3 1 rfl rfl (vq_in 4 rfl (by decide) (by decide)) d_PI_takeOfLayer_45 ?_
        refine lv_iload_n hx hb d_PI_takeOfLayer_46 rfl (lv_at hl 1 rfl) ?_
        refine lv_i2l hx hb d_PI_takeOfLayer_47 rfl ?_
        refine lv_aload_n hx hb d_PI_takeOfLayer_48 rfl (lv_at hl 2 rfl) ?_
        refine va_get (D := (dC, dI)) (ci := 1) (v := .ref bLS) (C := R_PI) (T := F_PI) (N := 13) hx hb hG i_PI hown hK hP 0 rfl rfl 2 (by decide) (hG _ vq_t55) (fun _ h9 => h9) rfl d_PI_takeOfLayer_49 ?_
        refine lv_iload_n hx hb d_PI_takeOfLayer_52 rfl (lv_at hl 3 rfl) ?_
        refine lv_iconst (v := 4) hx hb d_PI_takeOfLayer_53 (by decide) ?_
        refine lv_imul hx hb d_PI_takeOfLayer_54 ?_
        refine lv_iload_n hx hb d_PI_takeOfLayer_55 rfl (lv_at hl 0 rfl) ?_
        refine lv_iadd hx hb d_PI_takeOfLayer_56 ?_
        refine va_iald (D := (dC, dI)) hx hb hK hP 2 0 rfl rfl (vq_ixL hi (e := 2) (by decide)) d_PI_takeOfLayer_57 ?_
        refine lv_i2l hx hb d_PI_takeOfLayer_58 rfl ?_
        refine lv_lmul hx hb d_PI_takeOfLayer_59 ?_
        refine lv_ladd hx hb d_PI_takeOfLayer_60 ?_
        refine va_last (D := (dC, dI)) hx hb hK hP hD hS 3 1 rfl rfl (vq_in 4 rfl (by decide) (by decide)) d_PI_takeOfLayer_61 (fun H locs hP hD hS => ?_)
        have hP : va_P (dC, dI) vq_cl [(pa, .inr (1, [.int zSl, .ref bLG, .ref bLS, .int zLy, .int zGr, .int zTk, .int zGt, .int (zLt + (ptF zSl (fLG x.toNatClampNeg) zTk)), .ref bLt, .ref bGS, .ref bGG, .ref bES, .ref bEG])), (bLG, .inl ((cs 0), 20, .inl fLG)), (bLS, .inl ((cs 0), 80, .inl fLS)), (bLt, .inl ((cs 1), 4, .inr (.inl (tolS (ptF zSl (fLG x.toNatClampNeg) zTk) fLS x (tolS (ptF zSl (fLG x.toNatClampNeg) zTk) fLS x (tolS (ptF zSl (fLG x.toNatClampNeg) zTk) fLS x fLt 0) 1) 2))))] H := hP
        have hD : va_D A [(pa, .inr (1, [.int zSl, .ref bLG, .ref bLS, .int zLy, .int zGr, .int zTk, .int zGt, .int (zLt + (ptF zSl (fLG x.toNatClampNeg) zTk)), .ref bLt, .ref bGS, .ref bGG, .ref bES, .ref bEG])), (bLG, .inl ((cs 0), 20, .inl fLG)), (bLS, .inl ((cs 0), 80, .inl fLS)), (bLt, .inl ((cs 1), 4, .inr (.inl (tolS (ptF zSl (fLG x.toNatClampNeg) zTk) fLS x (tolS (ptF zSl (fLG x.toNatClampNeg) zTk) fLS x (tolS (ptF zSl (fLG x.toNatClampNeg) zTk) fLS x fLt 0) 1) 2))))] := hD
        refine lv_iinc (v := 3) (lv' := [(3, .int 3), (2, .int (ptF zSl (fLG x.toNatClampNeg) zTk)), (0, .ref pa), (1, .int x)]) hx hb d_PI_takeOfLayer_62 hl (k := 0) rfl (by decide) (by decide) rfl (fun ls hl => ?_)
        refine lv_goto (tgt := 34) hx hb d_PI_takeOfLayer_65 (by decide) ?_
        refine lv_iload_n hx hb d_PI_takeOfLayer_34 rfl (lv_at hl 0 rfl) ?_
        refine lv_iconst (v := 4) hx hb d_PI_takeOfLayer_35 (by decide) ?_
        refine lv_icmp_ge (tgt := 68) hx hb d_PI_takeOfLayer_36 (by decide) (fun c_36 => ?_) (fun c_36 => ?_)
        · skip
          exact absurd c_36 (by decide)
        · skip
          refine lv_aload_n hx hb d_PI_takeOfLayer_39 rfl (lv_at hl 2 rfl) ?_
          refine va_get (D := (dC, dI)) (ci := 1) (v := .ref bLt) (C := R_PI) (T := F_PI) (N := 13) hx hb hG i_PI hown hK hP 0 rfl rfl 8 (by decide) (hG _ vq_t66) (fun _ h9 => h9) rfl d_PI_takeOfLayer_40 ?_
          refine lv_iload_n hx hb d_PI_takeOfLayer_43 rfl (lv_at hl 0 rfl) ?_
          refine lv_dup2_11 hx hb d_PI_takeOfLayer_44 rfl rfl ?_
          refine va_lald (D := (dC, dI)) hx hb hK hP 3 1 rfl rfl (vq_in 4 rfl (by decide) (by decide)) d_PI_takeOfLayer_45 ?_
          refine lv_iload_n hx hb d_PI_takeOfLayer_46 rfl (lv_at hl 1 rfl) ?_
          refine lv_i2l hx hb d_PI_takeOfLayer_47 rfl ?_
          refine lv_aload_n hx hb d_PI_takeOfLayer_48 rfl (lv_at hl 2 rfl) ?_
          refine va_get (D := (dC, dI)) (ci := 1) (v := .ref bLS) (C := R_PI) (T := F_PI) (N := 13) hx hb hG i_PI hown hK hP 0 rfl rfl 2 (by decide) (hG _ vq_t55) (fun _ h9 => h9) rfl d_PI_takeOfLayer_49 ?_
          refine lv_iload_n hx hb d_PI_takeOfLayer_52 rfl (lv_at hl 3 rfl) ?_
          refine lv_iconst (v := 4) hx hb d_PI_takeOfLayer_53 (by decide) ?_
          refine lv_imul hx hb d_PI_takeOfLayer_54 ?_
          refine lv_iload_n hx hb d_PI_takeOfLayer_55 rfl (lv_at hl 0 rfl) ?_
          refine lv_iadd hx hb d_PI_takeOfLayer_56 ?_
          refine va_iald (D := (dC, dI)) hx hb hK hP 2 0 rfl rfl (vq_ixL hi (e := 3) (by decide)) d_PI_takeOfLayer_57 ?_
          refine lv_i2l hx hb d_PI_takeOfLayer_58 rfl ?_
          refine lv_lmul hx hb d_PI_takeOfLayer_59 ?_
          refine lv_ladd hx hb d_PI_takeOfLayer_60 ?_
          refine va_last (D := (dC, dI)) hx hb hK hP hD hS 3 1 rfl rfl (vq_in 4 rfl (by decide) (by decide)) d_PI_takeOfLayer_61 (fun H locs hP hD hS => ?_)
          have hP : va_P (dC, dI) vq_cl [(pa, .inr (1, [.int zSl, .ref bLG, .ref bLS, .int zLy, .int zGr, .int zTk, .int zGt, .int (zLt + (ptF zSl (fLG x.toNatClampNeg) zTk)), .ref bLt, .ref bGS, .ref bGG, .ref bES, .ref bEG])), (bLG, .inl ((cs 0), 20, .inl fLG)), (bLS, .inl ((cs 0), 80, .inl fLS)), (bLt, .inl ((cs 1), 4, .inr (.inl (tolS (ptF zSl (fLG x.toNatClampNeg) zTk) fLS x (tolS (ptF zSl (fLG x.toNatClampNeg) zTk) fLS x (tolS (ptF zSl (fLG x.toNatClampNeg) zTk) fLS x (tolS (ptF zSl (fLG x.toNatClampNeg) zTk) fLS x fLt 0) 1) 2) 3))))] H := hP
          have hD : va_D A [(pa, .inr (1, [.int zSl, .ref bLG, .ref bLS, .int zLy, .int zGr, .int zTk, .int zGt, .int (zLt + (ptF zSl (fLG x.toNatClampNeg) zTk)), .ref bLt, .ref bGS, .ref bGG, .ref bES, .ref bEG])), (bLG, .inl ((cs 0), 20, .inl fLG)), (bLS, .inl ((cs 0), 80, .inl fLS)), (bLt, .inl ((cs 1), 4, .inr (.inl (tolS (ptF zSl (fLG x.toNatClampNeg) zTk) fLS x (tolS (ptF zSl (fLG x.toNatClampNeg) zTk) fLS x (tolS (ptF zSl (fLG x.toNatClampNeg) zTk) fLS x (tolS (ptF zSl (fLG x.toNatClampNeg) zTk) fLS x fLt 0) 1) 2) 3))))] := hD
          refine lv_iinc (v := 4) (lv' := [(3, .int 4), (2, .int (ptF zSl (fLG x.toNatClampNeg) zTk)), (0, .ref pa), (1, .int x)]) hx hb d_PI_takeOfLayer_62 hl (k := 0) rfl (by decide) (by decide) rfl (fun ls hl => ?_)
          refine lv_goto (tgt := 34) hx hb d_PI_takeOfLayer_65 (by decide) ?_
          refine lv_iload_n hx hb d_PI_takeOfLayer_34 rfl (lv_at hl 0 rfl) ?_
          refine lv_iconst (v := 4) hx hb d_PI_takeOfLayer_35 (by decide) ?_
          refine lv_icmp_ge (tgt := 68) hx hb d_PI_takeOfLayer_36 (by decide) (fun c_36 => ?_) (fun c_36 => ?_)
          · skip
            refine W.widen (k := 0) (n := 0) (Nat.le_of_ble_eq_true rfl) (Nat.le_of_ble_eq_true rfl) ?_
            have hP9 : va_P (dC, dI) vq_cl [(pa, .inr (1, [.int zSl, .ref bLG, .ref bLS, .int zLy, .int zGr, .int zTk, .int zGt, .int (zLt + (ptF zSl (fLG x.toNatClampNeg) zTk)), .ref bLt, .ref bGS, .ref bGG, .ref bES, .ref bEG])), (bLG, .inl ((cs 0), 20, .inl fLG)), (bLS, .inl ((cs 0), 80, .inl fLS)), (bLt, .inl ((cs 1), 4, .inr (.inl (tolS (ptF zSl (fLG x.toNatClampNeg) zTk) fLS x (tolS (ptF zSl (fLG x.toNatClampNeg) zTk) fLS x (tolS (ptF zSl (fLG x.toNatClampNeg) zTk) fLS x (tolS (ptF zSl (fLG x.toNatClampNeg) zTk) fLS x fLt 0) 1) 2) 3))))] _ := hP.sub [0, 1, 2, 3] rfl
            have hD9 : va_D A [(pa, .inr (1, [.int zSl, .ref bLG, .ref bLS, .int zLy, .int zGr, .int zTk, .int zGt, .int (zLt + (ptF zSl (fLG x.toNatClampNeg) zTk)), .ref bLt, .ref bGS, .ref bGG, .ref bES, .ref bEG])), (bLG, .inl ((cs 0), 20, .inl fLG)), (bLS, .inl ((cs 0), 80, .inl fLS)), (bLt, .inl ((cs 1), 4, .inr (.inl (tolS (ptF zSl (fLG x.toNatClampNeg) zTk) fLS x (tolS (ptF zSl (fLG x.toNatClampNeg) zTk) fLS x (tolS (ptF zSl (fLG x.toNatClampNeg) zTk) fLS x (tolS (ptF zSl (fLG x.toNatClampNeg) zTk) fLS x fLt 0) 1) 2) 3))))] := hD.sub [0, 1, 2, 3] (by decide) rfl
            have e9 : ([(pa, .inr (1, [.int zSl, .ref bLG, .ref bLS, .int zLy, .int zGr, .int zTk, .int zGt, .int (zLt + (ptF zSl (fLG x.toNatClampNeg) zTk)), .ref bLt, .ref bGS, .ref bGG, .ref bES, .ref bEG])), (bLG, .inl ((cs 0), 20, .inl fLG)), (bLS, .inl ((cs 0), 80, .inl fLS)), (bLt, .inl ((cs 1), 4, .inr (.inl (tol4 (ptF zSl (fLG x.toNatClampNeg) zTk) fLS x fLt))))] : va_W) = [(pa, .inr (1, [.int zSl, .ref bLG, .ref bLS, .int zLy, .int zGr, .int zTk, .int zGt, .int (zLt + (ptF zSl (fLG x.toNatClampNeg) zTk)), .ref bLt, .ref bGS, .ref bGG, .ref bES, .ref bEG])), (bLG, .inl ((cs 0), 20, .inl fLG)), (bLS, .inl ((cs 0), 80, .inl fLS)), (bLt, .inl ((cs 1), 4, .inr (.inl (tolS (ptF zSl (fLG x.toNatClampNeg) zTk) fLS x (tolS (ptF zSl (fLG x.toNatClampNeg) zTk) fLS x (tolS (ptF zSl (fLG x.toNatClampNeg) zTk) fLS x (tolS (ptF zSl (fLG x.toNatClampNeg) zTk) fLS x fLt 0) 1) 2) 3))))] := by rfl
            rw [← e9] at hP9 hD9
            exact W.vret hx hb hr (fun t ht hW => ⟨⟨(), rfl, trivial, ⟨by rw [ht]; exact hP9, hD9⟩⟩, hS.F ht⟩) hS.2.2 d_PI_takeOfLayer_68
          · skip
            exact absurd c_36 (by decide)
set_option maxHeartbeats 4000000 in
set_option maxRecDepth 100000 in
/-- noteGreatest -/
theorem c_noteGreatest (l : Launch) (dC : Nat → ClassId) (dI : Nat → Nat → Nat) (cs : Nat → ClassId) (sz : Nat) (pa : Nat) (bLG : Nat) (bLS : Nat) (bLt : Nat) (bGS : Nat) (bGG : Nat) (bES : Nat) (bEG : Nat) (zSl : Int32) (zLy : Int32) (zGr : Int32) (zTk : Int32) (zGt : Int32) (zLt : Int32) (fLt : Nat → Int64) (fGS : Nat → Int64) (fGG : Nat → Int32) (k : Int32) (hi : okE k) : Met l y_PI_noteGreatest w_PI_noteGreatest ({ frames := 0, cells := 0, slots := 0, locals := 0 }) (vq_Pre (dC, dI) cs [(pa, .inr (1, [.int zSl, .ref bLG, .ref bLS, .int zLy, .int zGr, .int zTk, .int zGt, .int zLt, .ref bLt, .ref bGS, .ref bGG, .ref bES, .ref bEG])), (bLt, .inl ((cs 1), 4, .inr (.inl fLt))), (bGS, .inl ((cs 1), 4, .inr (.inl fGS))), (bGG, .inl ((cs 0), 4, .inl fGG))] sz [.ref pa, .int k]) (va_Qv (fun (_ : Unit) => True) (vq_B (dC, dI) cs (va_A [(pa, .inr (1, [.int zSl, .ref bLG, .ref bLS, .int zLy, .int zGr, .int zTk, .int zGt, .int zLt, .ref bLt, .ref bGS, .ref bGG, .ref bES, .ref bEG])), (bLt, .inl ((cs 1), 4, .inr (.inl fLt))), (bGS, .inl ((cs 1), 4, .inr (.inl fGS))), (bGG, .inl ((cs 0), 4, .inl fGG))] sz) (fun _ => [(pa, .inr (1, [.int zSl, .ref bLG, .ref bLS, .int zLy, .int zGr, .int zTk, .int zGt, .int zLt, .ref bLt, .ref bGS, .ref bGG, .ref bES, .ref bEG])), (bLt, .inl ((cs 1), 4, .inr (.inl fLt))), (bGS, .inl ((cs 1), 4, .inr (.inl (ngS zLt fLt fGS fGG k)))), (bGG, .inl ((cs 0), 4, .inl (ngG zLt fLt fGS fGG k)))])) (va_A [(pa, .inr (1, [.int zSl, .ref bLG, .ref bLS, .int zLy, .int zGr, .int zTk, .int zGt, .int zLt, .ref bLt, .ref bGS, .ref bGG, .ref bES, .ref bEG])), (bLt, .inl ((cs 1), 4, .inr (.inl fLt))), (bGS, .inl ((cs 1), 4, .inr (.inl fGS))), (bGG, .inl ((cs 0), 4, .inl fGG))] sz)) 0 0 (va_A [(pa, .inr (1, [.int zSl, .ref bLG, .ref bLS, .int zLy, .int zGr, .int zTk, .int zGt, .int zLt, .ref bLt, .ref bGS, .ref bGG, .ref bES, .ref bEG])), (bLt, .inl ((cs 1), 4, .inr (.inl fLt))), (bGS, .inl ((cs 1), 4, .inr (.inl fGS))), (bGG, .inl ((cs 0), 4, .inl fGG))] sz) := by
  refine Met.ofW (cc := b_PI_noteGreatest) (maxL := 2) (ret := none) (by decide) rfl ?_
  intro p e s m args below meth c s₁ B hml hv
  obtain ⟨rfl, hsz, hP, hD0, hCx⟩ := hv
  have hx := B.exec
  have hb := B.bytes
  have hr := B.returns
  have hG := vq_hG (atoms_spec (ws := w_PI_noteGreatest) B.pre)
  have hown : s.vm.findClass R_PI = some m.cls := findClass_of_methodNamed B.named
  have hlocks := B.notSynchronized
  subst hsz
  have hK := hCx.1
  have hD := hD0.self (sz := s.heap.size)
  generalize hAe : va_A [(pa, .inr (1, [.int zSl, .ref bLG, .ref bLS, .int zLy, .int zGr, .int zTk, .int zGt, .int zLt, .ref bLt, .ref bGS, .ref bGG, .ref bES, .ref bEG])), (bLt, .inl ((cs 1), 4, .inr (.inl fLt))), (bGS, .inl ((cs 1), 4, .inr (.inl fGS))), (bGG, .inl ((cs 0), 4, .inl fGG))] s.heap.size = A at hD hCx ⊢
  have hA : ∀ q : Nat, s.heap.size ≤ q → A q := fun q h => by rw [← hAe]; exact Or.inr h
  have hA0 : ∀ q : Nat, s.heap.size ≤ q → va_A [] s.heap.size q := fun q h => Or.inr h
  have hS : va_S (va_A [] s.heap.size) s.heap s.heap [] := va_S.rf
  have hl := lv_entry ([.ref pa, .int k]) (n := 2) (Nat.le_of_ble_eq_true rfl)
  rw [lg_entry_eq]
  generalize (lg_sl ([.ref pa, .int k]) ++ List.replicate (2 - (lg_sl ([.ref pa, .int k])).length) Slot.unset).toArray = ls at hl ⊢
  have hl : lv_has ls 2 [(0, .ref pa), (1, .int k)] := hl
  have hP : va_P (dC, dI) vq_cl [(pa, .inr (1, [.int zSl, .ref bLG, .ref bLS, .int zLy, .int zGr, .int zTk, .int zGt, .int zLt, .ref bLt, .ref bGS, .ref bGG, .ref bES, .ref bEG])), (bLt, .inl ((cs 1), 4, .inr (.inl fLt))), (bGS, .inl ((cs 1), 4, .inr (.inl fGS))), (bGG, .inl ((cs 0), 4, .inl fGG))] s.heap := hP
  refine lv_aload_n hx hb d_PI_noteGreatest_0 rfl (lv_at hl 0 rfl) ?_
  refine va_get (D := (dC, dI)) (ci := 1) (v := .ref bGG) (C := R_PI) (T := F_PI) (N := 13) hx hb hG i_PI hown hK hP 0 rfl rfl 10 (by decide) (hG _ vq_t69) (fun _ h9 => h9) rfl d_PI_noteGreatest_1 ?_
  refine lv_iload_n hx hb d_PI_noteGreatest_4 rfl (lv_at hl 1 rfl) ?_
  refine va_iald (D := (dC, dI)) hx hb hK hP 3 0 rfl rfl (vq_in 4 rfl hi.1 hi.2) d_PI_noteGreatest_5 ?_
  refine lv_if_eq (tgt := 39) hx hb d_PI_noteGreatest_6 (by decide) (fun c_6 => ?_) (fun c_6 => ?_)
  · skip
    refine lv_aload_n hx hb d_PI_noteGreatest_39 rfl (lv_at hl 0 rfl) ?_
    refine va_get (D := (dC, dI)) (ci := 1) (v := .ref bGS) (C := R_PI) (T := F_PI) (N := 13) hx hb hG i_PI hown hK hP 0 rfl rfl 9 (by decide) (hG _ vq_t68) (fun _ h9 => h9) rfl d_PI_noteGreatest_40 ?_
    refine lv_iload_n hx hb d_PI_noteGreatest_43 rfl (lv_at hl 1 rfl) ?_
    refine lv_aload_n hx hb d_PI_noteGreatest_44 rfl (lv_at hl 0 rfl) ?_
    refine va_get (D := (dC, dI)) (ci := 1) (v := .ref bLt) (C := R_PI) (T := F_PI) (N := 13) hx hb hG i_PI hown hK hP 0 rfl rfl 8 (by decide) (hG _ vq_t66) (fun _ h9 => h9) rfl d_PI_noteGreatest_45 ?_
    refine lv_iload_n hx hb d_PI_noteGreatest_48 rfl (lv_at hl 1 rfl) ?_
    refine va_lald (D := (dC, dI)) hx hb hK hP 1 1 rfl rfl (vq_in 4 rfl hi.1 hi.2) d_PI_noteGreatest_49 ?_
    have hS := vq_wk hS hA
    refine va_last (D := (dC, dI)) hx hb hK hP hD hS 2 1 rfl rfl (vq_in 4 rfl hi.1 hi.2) d_PI_noteGreatest_50 (fun H locs hP hD hS => ?_)
    have hP : va_P (dC, dI) vq_cl [(pa, .inr (1, [.int zSl, .ref bLG, .ref bLS, .int zLy, .int zGr, .int zTk, .int zGt, .int zLt, .ref bLt, .ref bGS, .ref bGG, .ref bES, .ref bEG])), (bLt, .inl ((cs 1), 4, .inr (.inl fLt))), (bGS, .inl ((cs 1), 4, .inr (.inl (vp_updL fGS k.toNatClampNeg (fLt k.toNatClampNeg))))), (bGG, .inl ((cs 0), 4, .inl fGG))] H := hP
    have hD : va_D A [(pa, .inr (1, [.int zSl, .ref bLG, .ref bLS, .int zLy, .int zGr, .int zTk, .int zGt, .int zLt, .ref bLt, .ref bGS, .ref bGG, .ref bES, .ref bEG])), (bLt, .inl ((cs 1), 4, .inr (.inl fLt))), (bGS, .inl ((cs 1), 4, .inr (.inl (vp_updL fGS k.toNatClampNeg (fLt k.toNatClampNeg))))), (bGG, .inl ((cs 0), 4, .inl fGG))] := hD
    refine lv_aload_n hx hb d_PI_noteGreatest_51 rfl (lv_at hl 0 rfl) ?_
    refine va_get (D := (dC, dI)) (ci := 1) (v := .ref bGG) (C := R_PI) (T := F_PI) (N := 13) hx hb hG i_PI hown hK hP 0 rfl rfl 10 (by decide) (hG _ vq_t69) (fun _ h9 => h9) rfl d_PI_noteGreatest_52 ?_
    refine lv_iload_n hx hb d_PI_noteGreatest_55 rfl (lv_at hl 1 rfl) ?_
    refine lv_aload_n hx hb d_PI_noteGreatest_56 rfl (lv_at hl 0 rfl) ?_
    refine va_get (D := (dC, dI)) (ci := 1) (v := .int zLt) (C := R_PI) (T := F_PI) (N := 13) hx hb hG i_PI hown hK hP 0 rfl rfl 7 (by decide) (hG _ vq_t64) (fun _ h9 => h9) rfl d_PI_noteGreatest_57 ?_
    refine va_iast (D := (dC, dI)) hx hb hK hP hD hS 3 0 rfl rfl (vq_in 4 rfl hi.1 hi.2) d_PI_noteGreatest_60 (fun H locs hP hD hS => ?_)
    have hP : va_P (dC, dI) vq_cl [(pa, .inr (1, [.int zSl, .ref bLG, .ref bLS, .int zLy, .int zGr, .int zTk, .int zGt, .int zLt, .ref bLt, .ref bGS, .ref bGG, .ref bES, .ref bEG])), (bLt, .inl ((cs 1), 4, .inr (.inl fLt))), (bGS, .inl ((cs 1), 4, .inr (.inl (vp_updL fGS k.toNatClampNeg (fLt k.toNatClampNeg))))), (bGG, .inl ((cs 0), 4, .inl (upd fGG k.toNatClampNeg zLt)))] H := hP
    have hD : va_D A [(pa, .inr (1, [.int zSl, .ref bLG, .ref bLS, .int zLy, .int zGr, .int zTk, .int zGt, .int zLt, .ref bLt, .ref bGS, .ref bGG, .ref bES, .ref bEG])), (bLt, .inl ((cs 1), 4, .inr (.inl fLt))), (bGS, .inl ((cs 1), 4, .inr (.inl (vp_updL fGS k.toNatClampNeg (fLt k.toNatClampNeg))))), (bGG, .inl ((cs 0), 4, .inl (upd fGG k.toNatClampNeg zLt)))] := hD
    refine W.widen (k := 0) (n := 0) (Nat.le_of_ble_eq_true rfl) (Nat.le_of_ble_eq_true rfl) ?_
    have hP9 : va_P (dC, dI) vq_cl [(pa, .inr (1, [.int zSl, .ref bLG, .ref bLS, .int zLy, .int zGr, .int zTk, .int zGt, .int zLt, .ref bLt, .ref bGS, .ref bGG, .ref bES, .ref bEG])), (bLt, .inl ((cs 1), 4, .inr (.inl fLt))), (bGS, .inl ((cs 1), 4, .inr (.inl (vp_updL fGS k.toNatClampNeg (fLt k.toNatClampNeg))))), (bGG, .inl ((cs 0), 4, .inl (upd fGG k.toNatClampNeg zLt)))] _ := hP.sub [0, 1, 2, 3] rfl
    have hD9 : va_D A [(pa, .inr (1, [.int zSl, .ref bLG, .ref bLS, .int zLy, .int zGr, .int zTk, .int zGt, .int zLt, .ref bLt, .ref bGS, .ref bGG, .ref bES, .ref bEG])), (bLt, .inl ((cs 1), 4, .inr (.inl fLt))), (bGS, .inl ((cs 1), 4, .inr (.inl (vp_updL fGS k.toNatClampNeg (fLt k.toNatClampNeg))))), (bGG, .inl ((cs 0), 4, .inl (upd fGG k.toNatClampNeg zLt)))] := hD.sub [0, 1, 2, 3] (by decide) rfl
    have e9 : ([(pa, .inr (1, [.int zSl, .ref bLG, .ref bLS, .int zLy, .int zGr, .int zTk, .int zGt, .int zLt, .ref bLt, .ref bGS, .ref bGG, .ref bES, .ref bEG])), (bLt, .inl ((cs 1), 4, .inr (.inl fLt))), (bGS, .inl ((cs 1), 4, .inr (.inl (ngS zLt fLt fGS fGG k)))), (bGG, .inl ((cs 0), 4, .inl (ngG zLt fLt fGS fGG k)))] : va_W) = [(pa, .inr (1, [.int zSl, .ref bLG, .ref bLS, .int zLy, .int zGr, .int zTk, .int zGt, .int zLt, .ref bLt, .ref bGS, .ref bGG, .ref bES, .ref bEG])), (bLt, .inl ((cs 1), 4, .inr (.inl fLt))), (bGS, .inl ((cs 1), 4, .inr (.inl (vp_updL fGS k.toNatClampNeg (fLt k.toNatClampNeg))))), (bGG, .inl ((cs 0), 4, .inl (upd fGG k.toNatClampNeg zLt)))] := by simp only [ngS, ngG, if_pos c_6]
    rw [← e9] at hP9 hD9
    exact W.vret hx hb hr (fun t ht hW => ⟨⟨(), rfl, trivial, ⟨by rw [ht]; exact hP9, hD9⟩⟩, hS.F ht⟩) hS.2.2 d_PI_noteGreatest_61
  · skip
    refine lv_aload_n hx hb d_PI_noteGreatest_9 rfl (lv_at hl 0 rfl) ?_
    refine va_get (D := (dC, dI)) (ci := 1) (v := .ref bLt) (C := R_PI) (T := F_PI) (N := 13) hx hb hG i_PI hown hK hP 0 rfl rfl 8 (by decide) (hG _ vq_t66) (fun _ h9 => h9) rfl d_PI_noteGreatest_10 ?_
    refine lv_iload_n hx hb d_PI_noteGreatest_13 rfl (lv_at hl 1 rfl) ?_
    refine va_lald (D := (dC, dI)) hx hb hK hP 1 1 rfl rfl (vq_in 4 rfl hi.1 hi.2) d_PI_noteGreatest_14 ?_
    refine lv_aload_n hx hb d_PI_noteGreatest_15 rfl (lv_at hl 0 rfl) ?_
    refine va_get (D := (dC, dI)) (ci := 1) (v := .ref bGG) (C := R_PI) (T := F_PI) (N := 13) hx hb hG i_PI hown hK hP 0 rfl rfl 10 (by decide) (hG _ vq_t69) (fun _ h9 => h9) rfl d_PI_noteGreatest_16 ?_
    refine lv_iload_n hx hb d_PI_noteGreatest_19 rfl (lv_at hl 1 rfl) ?_
    refine va_iald (D := (dC, dI)) hx hb hK hP 3 0 rfl rfl (vq_in 4 rfl hi.1 hi.2) d_PI_noteGreatest_20 ?_
    refine lv_i2l hx hb d_PI_noteGreatest_21 rfl ?_
    refine lv_lmul hx hb d_PI_noteGreatest_22 ?_
    refine lv_aload_n hx hb d_PI_noteGreatest_23 rfl (lv_at hl 0 rfl) ?_
    refine va_get (D := (dC, dI)) (ci := 1) (v := .ref bGS) (C := R_PI) (T := F_PI) (N := 13) hx hb hG i_PI hown hK hP 0 rfl rfl 9 (by decide) (hG _ vq_t68) (fun _ h9 => h9) rfl d_PI_noteGreatest_24 ?_
    refine lv_iload_n hx hb d_PI_noteGreatest_27 rfl (lv_at hl 1 rfl) ?_
    refine va_lald (D := (dC, dI)) hx hb hK hP 2 1 rfl rfl (vq_in 4 rfl hi.1 hi.2) d_PI_noteGreatest_28 ?_
    refine lv_aload_n hx hb d_PI_noteGreatest_29 rfl (lv_at hl 0 rfl) ?_
    refine va_get (D := (dC, dI)) (ci := 1) (v := .int zLt) (C := R_PI) (T := F_PI) (N := 13) hx hb hG i_PI hown hK hP 0 rfl rfl 7 (by decide) (hG _ vq_t64) (fun _ h9 => h9) rfl d_PI_noteGreatest_30 ?_
    refine lv_i2l hx hb d_PI_noteGreatest_33 rfl ?_
    refine lv_lmul hx hb d_PI_noteGreatest_34 ?_
    refine W.lcmp hx hb d_PI_noteGreatest_35 ?_
    refine lv_if_le (tgt := 61) hx hb d_PI_noteGreatest_36 (by decide) (fun c_36 => ?_) (fun c_36 => ?_)
    · skip
      have c_36 := (lg_cmp_le ((fLt k.toNatClampNeg) * ((fGG k.toNatClampNeg).toInt64)) ((fGS k.toNatClampNeg) * zLt.toInt64)).mp c_36
      have hS := vq_wk hS hA
      refine W.widen (k := 0) (n := 0) (Nat.le_of_ble_eq_true rfl) (Nat.le_of_ble_eq_true rfl) ?_
      have hP9 : va_P (dC, dI) vq_cl [(pa, .inr (1, [.int zSl, .ref bLG, .ref bLS, .int zLy, .int zGr, .int zTk, .int zGt, .int zLt, .ref bLt, .ref bGS, .ref bGG, .ref bES, .ref bEG])), (bLt, .inl ((cs 1), 4, .inr (.inl fLt))), (bGS, .inl ((cs 1), 4, .inr (.inl fGS))), (bGG, .inl ((cs 0), 4, .inl fGG))] _ := hP.sub [0, 1, 2, 3] rfl
      have hD9 : va_D A [(pa, .inr (1, [.int zSl, .ref bLG, .ref bLS, .int zLy, .int zGr, .int zTk, .int zGt, .int zLt, .ref bLt, .ref bGS, .ref bGG, .ref bES, .ref bEG])), (bLt, .inl ((cs 1), 4, .inr (.inl fLt))), (bGS, .inl ((cs 1), 4, .inr (.inl fGS))), (bGG, .inl ((cs 0), 4, .inl fGG))] := hD.sub [0, 1, 2, 3] (by decide) rfl
      have e9 : ([(pa, .inr (1, [.int zSl, .ref bLG, .ref bLS, .int zLy, .int zGr, .int zTk, .int zGt, .int zLt, .ref bLt, .ref bGS, .ref bGG, .ref bES, .ref bEG])), (bLt, .inl ((cs 1), 4, .inr (.inl fLt))), (bGS, .inl ((cs 1), 4, .inr (.inl (ngS zLt fLt fGS fGG k)))), (bGG, .inl ((cs 0), 4, .inl (ngG zLt fLt fGS fGG k)))] : va_W) = [(pa, .inr (1, [.int zSl, .ref bLG, .ref bLS, .int zLy, .int zGr, .int zTk, .int zGt, .int zLt, .ref bLt, .ref bGS, .ref bGG, .ref bES, .ref bEG])), (bLt, .inl ((cs 1), 4, .inr (.inl fLt))), (bGS, .inl ((cs 1), 4, .inr (.inl fGS))), (bGG, .inl ((cs 0), 4, .inl fGG))] := by simp only [ngS, ngG, if_neg c_6, if_pos c_36]
      rw [← e9] at hP9 hD9
      exact W.vret hx hb hr (fun t ht hW => ⟨⟨(), rfl, trivial, ⟨by rw [ht]; exact hP9, hD9⟩⟩, hS.F ht⟩) hS.2.2 d_PI_noteGreatest_61
    · skip
      have c_36 := (not_congr (lg_cmp_le ((fLt k.toNatClampNeg) * ((fGG k.toNatClampNeg).toInt64)) ((fGS k.toNatClampNeg) * zLt.toInt64))).mp c_36
      refine lv_aload_n hx hb d_PI_noteGreatest_39 rfl (lv_at hl 0 rfl) ?_
      refine va_get (D := (dC, dI)) (ci := 1) (v := .ref bGS) (C := R_PI) (T := F_PI) (N := 13) hx hb hG i_PI hown hK hP 0 rfl rfl 9 (by decide) (hG _ vq_t68) (fun _ h9 => h9) rfl d_PI_noteGreatest_40 ?_
      refine lv_iload_n hx hb d_PI_noteGreatest_43 rfl (lv_at hl 1 rfl) ?_
      refine lv_aload_n hx hb d_PI_noteGreatest_44 rfl (lv_at hl 0 rfl) ?_
      refine va_get (D := (dC, dI)) (ci := 1) (v := .ref bLt) (C := R_PI) (T := F_PI) (N := 13) hx hb hG i_PI hown hK hP 0 rfl rfl 8 (by decide) (hG _ vq_t66) (fun _ h9 => h9) rfl d_PI_noteGreatest_45 ?_
      refine lv_iload_n hx hb d_PI_noteGreatest_48 rfl (lv_at hl 1 rfl) ?_
      refine va_lald (D := (dC, dI)) hx hb hK hP 1 1 rfl rfl (vq_in 4 rfl hi.1 hi.2) d_PI_noteGreatest_49 ?_
      have hS := vq_wk hS hA
      refine va_last (D := (dC, dI)) hx hb hK hP hD hS 2 1 rfl rfl (vq_in 4 rfl hi.1 hi.2) d_PI_noteGreatest_50 (fun H locs hP hD hS => ?_)
      have hP : va_P (dC, dI) vq_cl [(pa, .inr (1, [.int zSl, .ref bLG, .ref bLS, .int zLy, .int zGr, .int zTk, .int zGt, .int zLt, .ref bLt, .ref bGS, .ref bGG, .ref bES, .ref bEG])), (bLt, .inl ((cs 1), 4, .inr (.inl fLt))), (bGS, .inl ((cs 1), 4, .inr (.inl (vp_updL fGS k.toNatClampNeg (fLt k.toNatClampNeg))))), (bGG, .inl ((cs 0), 4, .inl fGG))] H := hP
      have hD : va_D A [(pa, .inr (1, [.int zSl, .ref bLG, .ref bLS, .int zLy, .int zGr, .int zTk, .int zGt, .int zLt, .ref bLt, .ref bGS, .ref bGG, .ref bES, .ref bEG])), (bLt, .inl ((cs 1), 4, .inr (.inl fLt))), (bGS, .inl ((cs 1), 4, .inr (.inl (vp_updL fGS k.toNatClampNeg (fLt k.toNatClampNeg))))), (bGG, .inl ((cs 0), 4, .inl fGG))] := hD
      refine lv_aload_n hx hb d_PI_noteGreatest_51 rfl (lv_at hl 0 rfl) ?_
      refine va_get (D := (dC, dI)) (ci := 1) (v := .ref bGG) (C := R_PI) (T := F_PI) (N := 13) hx hb hG i_PI hown hK hP 0 rfl rfl 10 (by decide) (hG _ vq_t69) (fun _ h9 => h9) rfl d_PI_noteGreatest_52 ?_
      refine lv_iload_n hx hb d_PI_noteGreatest_55 rfl (lv_at hl 1 rfl) ?_
      refine lv_aload_n hx hb d_PI_noteGreatest_56 rfl (lv_at hl 0 rfl) ?_
      refine va_get (D := (dC, dI)) (ci := 1) (v := .int zLt) (C := R_PI) (T := F_PI) (N := 13) hx hb hG i_PI hown hK hP 0 rfl rfl 7 (by decide) (hG _ vq_t64) (fun _ h9 => h9) rfl d_PI_noteGreatest_57 ?_
      refine va_iast (D := (dC, dI)) hx hb hK hP hD hS 3 0 rfl rfl (vq_in 4 rfl hi.1 hi.2) d_PI_noteGreatest_60 (fun H locs hP hD hS => ?_)
      have hP : va_P (dC, dI) vq_cl [(pa, .inr (1, [.int zSl, .ref bLG, .ref bLS, .int zLy, .int zGr, .int zTk, .int zGt, .int zLt, .ref bLt, .ref bGS, .ref bGG, .ref bES, .ref bEG])), (bLt, .inl ((cs 1), 4, .inr (.inl fLt))), (bGS, .inl ((cs 1), 4, .inr (.inl (vp_updL fGS k.toNatClampNeg (fLt k.toNatClampNeg))))), (bGG, .inl ((cs 0), 4, .inl (upd fGG k.toNatClampNeg zLt)))] H := hP
      have hD : va_D A [(pa, .inr (1, [.int zSl, .ref bLG, .ref bLS, .int zLy, .int zGr, .int zTk, .int zGt, .int zLt, .ref bLt, .ref bGS, .ref bGG, .ref bES, .ref bEG])), (bLt, .inl ((cs 1), 4, .inr (.inl fLt))), (bGS, .inl ((cs 1), 4, .inr (.inl (vp_updL fGS k.toNatClampNeg (fLt k.toNatClampNeg))))), (bGG, .inl ((cs 0), 4, .inl (upd fGG k.toNatClampNeg zLt)))] := hD
      refine W.widen (k := 0) (n := 0) (Nat.le_of_ble_eq_true rfl) (Nat.le_of_ble_eq_true rfl) ?_
      have hP9 : va_P (dC, dI) vq_cl [(pa, .inr (1, [.int zSl, .ref bLG, .ref bLS, .int zLy, .int zGr, .int zTk, .int zGt, .int zLt, .ref bLt, .ref bGS, .ref bGG, .ref bES, .ref bEG])), (bLt, .inl ((cs 1), 4, .inr (.inl fLt))), (bGS, .inl ((cs 1), 4, .inr (.inl (vp_updL fGS k.toNatClampNeg (fLt k.toNatClampNeg))))), (bGG, .inl ((cs 0), 4, .inl (upd fGG k.toNatClampNeg zLt)))] _ := hP.sub [0, 1, 2, 3] rfl
      have hD9 : va_D A [(pa, .inr (1, [.int zSl, .ref bLG, .ref bLS, .int zLy, .int zGr, .int zTk, .int zGt, .int zLt, .ref bLt, .ref bGS, .ref bGG, .ref bES, .ref bEG])), (bLt, .inl ((cs 1), 4, .inr (.inl fLt))), (bGS, .inl ((cs 1), 4, .inr (.inl (vp_updL fGS k.toNatClampNeg (fLt k.toNatClampNeg))))), (bGG, .inl ((cs 0), 4, .inl (upd fGG k.toNatClampNeg zLt)))] := hD.sub [0, 1, 2, 3] (by decide) rfl
      have e9 : ([(pa, .inr (1, [.int zSl, .ref bLG, .ref bLS, .int zLy, .int zGr, .int zTk, .int zGt, .int zLt, .ref bLt, .ref bGS, .ref bGG, .ref bES, .ref bEG])), (bLt, .inl ((cs 1), 4, .inr (.inl fLt))), (bGS, .inl ((cs 1), 4, .inr (.inl (ngS zLt fLt fGS fGG k)))), (bGG, .inl ((cs 0), 4, .inl (ngG zLt fLt fGS fGG k)))] : va_W) = [(pa, .inr (1, [.int zSl, .ref bLG, .ref bLS, .int zLy, .int zGr, .int zTk, .int zGt, .int zLt, .ref bLt, .ref bGS, .ref bGG, .ref bES, .ref bEG])), (bLt, .inl ((cs 1), 4, .inr (.inl fLt))), (bGS, .inl ((cs 1), 4, .inr (.inl (vp_updL fGS k.toNatClampNeg (fLt k.toNatClampNeg))))), (bGG, .inl ((cs 0), 4, .inl (upd fGG k.toNatClampNeg zLt)))] := by simp only [ngS, ngG, if_neg c_6, if_neg c_36]
      rw [← e9] at hP9 hD9
      exact W.vret hx hb hr (fun t ht hW => ⟨⟨(), rfl, trivial, ⟨by rw [ht]; exact hP9, hD9⟩⟩, hS.F ht⟩) hS.2.2 d_PI_noteGreatest_61
set_option maxHeartbeats 4000000 in
set_option maxRecDepth 100000 in
/-- noteLeast -/
theorem c_noteLeast (l : Launch) (dC : Nat → ClassId) (dI : Nat → Nat → Nat) (cs : Nat → ClassId) (sz : Nat) (pa : Nat) (bLG : Nat) (bLS : Nat) (bLt : Nat) (bGS : Nat) (bGG : Nat) (bES : Nat) (bEG : Nat) (zSl : Int32) (zLy : Int32) (zGr : Int32) (zTk : Int32) (zGt : Int32) (zLt : Int32) (fLt : Nat → Int64) (fES : Nat → Int64) (fEG : Nat → Int32) (k : Int32) (hi : okE k) : Met l y_PI_noteLeast w_PI_noteLeast ({ frames := 0, cells := 0, slots := 0, locals := 0 }) (vq_Pre (dC, dI) cs [(pa, .inr (1, [.int zSl, .ref bLG, .ref bLS, .int zLy, .int zGr, .int zTk, .int zGt, .int zLt, .ref bLt, .ref bGS, .ref bGG, .ref bES, .ref bEG])), (bLt, .inl ((cs 1), 4, .inr (.inl fLt))), (bES, .inl ((cs 1), 4, .inr (.inl fES))), (bEG, .inl ((cs 0), 4, .inl fEG))] sz [.ref pa, .int k]) (va_Qv (fun (_ : Unit) => True) (vq_B (dC, dI) cs (va_A [(pa, .inr (1, [.int zSl, .ref bLG, .ref bLS, .int zLy, .int zGr, .int zTk, .int zGt, .int zLt, .ref bLt, .ref bGS, .ref bGG, .ref bES, .ref bEG])), (bLt, .inl ((cs 1), 4, .inr (.inl fLt))), (bES, .inl ((cs 1), 4, .inr (.inl fES))), (bEG, .inl ((cs 0), 4, .inl fEG))] sz) (fun _ => [(pa, .inr (1, [.int zSl, .ref bLG, .ref bLS, .int zLy, .int zGr, .int zTk, .int zGt, .int zLt, .ref bLt, .ref bGS, .ref bGG, .ref bES, .ref bEG])), (bLt, .inl ((cs 1), 4, .inr (.inl fLt))), (bES, .inl ((cs 1), 4, .inr (.inl (neS zLt fLt fES fEG k)))), (bEG, .inl ((cs 0), 4, .inl (neG zLt fLt fES fEG k)))])) (va_A [(pa, .inr (1, [.int zSl, .ref bLG, .ref bLS, .int zLy, .int zGr, .int zTk, .int zGt, .int zLt, .ref bLt, .ref bGS, .ref bGG, .ref bES, .ref bEG])), (bLt, .inl ((cs 1), 4, .inr (.inl fLt))), (bES, .inl ((cs 1), 4, .inr (.inl fES))), (bEG, .inl ((cs 0), 4, .inl fEG))] sz)) 0 0 (va_A [(pa, .inr (1, [.int zSl, .ref bLG, .ref bLS, .int zLy, .int zGr, .int zTk, .int zGt, .int zLt, .ref bLt, .ref bGS, .ref bGG, .ref bES, .ref bEG])), (bLt, .inl ((cs 1), 4, .inr (.inl fLt))), (bES, .inl ((cs 1), 4, .inr (.inl fES))), (bEG, .inl ((cs 0), 4, .inl fEG))] sz) := by
  refine Met.ofW (cc := b_PI_noteLeast) (maxL := 2) (ret := none) (by decide) rfl ?_
  intro p e s m args below meth c s₁ B hml hv
  obtain ⟨rfl, hsz, hP, hD0, hCx⟩ := hv
  have hx := B.exec
  have hb := B.bytes
  have hr := B.returns
  have hG := vq_hG (atoms_spec (ws := w_PI_noteLeast) B.pre)
  have hown : s.vm.findClass R_PI = some m.cls := findClass_of_methodNamed B.named
  have hlocks := B.notSynchronized
  subst hsz
  have hK := hCx.1
  have hD := hD0.self (sz := s.heap.size)
  generalize hAe : va_A [(pa, .inr (1, [.int zSl, .ref bLG, .ref bLS, .int zLy, .int zGr, .int zTk, .int zGt, .int zLt, .ref bLt, .ref bGS, .ref bGG, .ref bES, .ref bEG])), (bLt, .inl ((cs 1), 4, .inr (.inl fLt))), (bES, .inl ((cs 1), 4, .inr (.inl fES))), (bEG, .inl ((cs 0), 4, .inl fEG))] s.heap.size = A at hD hCx ⊢
  have hA : ∀ q : Nat, s.heap.size ≤ q → A q := fun q h => by rw [← hAe]; exact Or.inr h
  have hA0 : ∀ q : Nat, s.heap.size ≤ q → va_A [] s.heap.size q := fun q h => Or.inr h
  have hS : va_S (va_A [] s.heap.size) s.heap s.heap [] := va_S.rf
  have hl := lv_entry ([.ref pa, .int k]) (n := 2) (Nat.le_of_ble_eq_true rfl)
  rw [lg_entry_eq]
  generalize (lg_sl ([.ref pa, .int k]) ++ List.replicate (2 - (lg_sl ([.ref pa, .int k])).length) Slot.unset).toArray = ls at hl ⊢
  have hl : lv_has ls 2 [(0, .ref pa), (1, .int k)] := hl
  have hP : va_P (dC, dI) vq_cl [(pa, .inr (1, [.int zSl, .ref bLG, .ref bLS, .int zLy, .int zGr, .int zTk, .int zGt, .int zLt, .ref bLt, .ref bGS, .ref bGG, .ref bES, .ref bEG])), (bLt, .inl ((cs 1), 4, .inr (.inl fLt))), (bES, .inl ((cs 1), 4, .inr (.inl fES))), (bEG, .inl ((cs 0), 4, .inl fEG))] s.heap := hP
  refine lv_aload_n hx hb d_PI_noteLeast_0 rfl (lv_at hl 0 rfl) ?_
  refine va_get (D := (dC, dI)) (ci := 1) (v := .ref bEG) (C := R_PI) (T := F_PI) (N := 13) hx hb hG i_PI hown hK hP 0 rfl rfl 12 (by decide) (hG _ vq_t71) (fun _ h9 => h9) rfl d_PI_noteLeast_1 ?_
  refine lv_iload_n hx hb d_PI_noteLeast_4 rfl (lv_at hl 1 rfl) ?_
  refine va_iald (D := (dC, dI)) hx hb hK hP 3 0 rfl rfl (vq_in 4 rfl hi.1 hi.2) d_PI_noteLeast_5 ?_
  refine lv_if_eq (tgt := 39) hx hb d_PI_noteLeast_6 (by decide) (fun c_6 => ?_) (fun c_6 => ?_)
  · skip
    refine lv_aload_n hx hb d_PI_noteLeast_39 rfl (lv_at hl 0 rfl) ?_
    refine va_get (D := (dC, dI)) (ci := 1) (v := .ref bES) (C := R_PI) (T := F_PI) (N := 13) hx hb hG i_PI hown hK hP 0 rfl rfl 11 (by decide) (hG _ vq_t70) (fun _ h9 => h9) rfl d_PI_noteLeast_40 ?_
    refine lv_iload_n hx hb d_PI_noteLeast_43 rfl (lv_at hl 1 rfl) ?_
    refine lv_aload_n hx hb d_PI_noteLeast_44 rfl (lv_at hl 0 rfl) ?_
    refine va_get (D := (dC, dI)) (ci := 1) (v := .ref bLt) (C := R_PI) (T := F_PI) (N := 13) hx hb hG i_PI hown hK hP 0 rfl rfl 8 (by decide) (hG _ vq_t66) (fun _ h9 => h9) rfl d_PI_noteLeast_45 ?_
    refine lv_iload_n hx hb d_PI_noteLeast_48 rfl (lv_at hl 1 rfl) ?_
    refine va_lald (D := (dC, dI)) hx hb hK hP 1 1 rfl rfl (vq_in 4 rfl hi.1 hi.2) d_PI_noteLeast_49 ?_
    have hS := vq_wk hS hA
    refine va_last (D := (dC, dI)) hx hb hK hP hD hS 2 1 rfl rfl (vq_in 4 rfl hi.1 hi.2) d_PI_noteLeast_50 (fun H locs hP hD hS => ?_)
    have hP : va_P (dC, dI) vq_cl [(pa, .inr (1, [.int zSl, .ref bLG, .ref bLS, .int zLy, .int zGr, .int zTk, .int zGt, .int zLt, .ref bLt, .ref bGS, .ref bGG, .ref bES, .ref bEG])), (bLt, .inl ((cs 1), 4, .inr (.inl fLt))), (bES, .inl ((cs 1), 4, .inr (.inl (vp_updL fES k.toNatClampNeg (fLt k.toNatClampNeg))))), (bEG, .inl ((cs 0), 4, .inl fEG))] H := hP
    have hD : va_D A [(pa, .inr (1, [.int zSl, .ref bLG, .ref bLS, .int zLy, .int zGr, .int zTk, .int zGt, .int zLt, .ref bLt, .ref bGS, .ref bGG, .ref bES, .ref bEG])), (bLt, .inl ((cs 1), 4, .inr (.inl fLt))), (bES, .inl ((cs 1), 4, .inr (.inl (vp_updL fES k.toNatClampNeg (fLt k.toNatClampNeg))))), (bEG, .inl ((cs 0), 4, .inl fEG))] := hD
    refine lv_aload_n hx hb d_PI_noteLeast_51 rfl (lv_at hl 0 rfl) ?_
    refine va_get (D := (dC, dI)) (ci := 1) (v := .ref bEG) (C := R_PI) (T := F_PI) (N := 13) hx hb hG i_PI hown hK hP 0 rfl rfl 12 (by decide) (hG _ vq_t71) (fun _ h9 => h9) rfl d_PI_noteLeast_52 ?_
    refine lv_iload_n hx hb d_PI_noteLeast_55 rfl (lv_at hl 1 rfl) ?_
    refine lv_aload_n hx hb d_PI_noteLeast_56 rfl (lv_at hl 0 rfl) ?_
    refine va_get (D := (dC, dI)) (ci := 1) (v := .int zLt) (C := R_PI) (T := F_PI) (N := 13) hx hb hG i_PI hown hK hP 0 rfl rfl 7 (by decide) (hG _ vq_t64) (fun _ h9 => h9) rfl d_PI_noteLeast_57 ?_
    refine va_iast (D := (dC, dI)) hx hb hK hP hD hS 3 0 rfl rfl (vq_in 4 rfl hi.1 hi.2) d_PI_noteLeast_60 (fun H locs hP hD hS => ?_)
    have hP : va_P (dC, dI) vq_cl [(pa, .inr (1, [.int zSl, .ref bLG, .ref bLS, .int zLy, .int zGr, .int zTk, .int zGt, .int zLt, .ref bLt, .ref bGS, .ref bGG, .ref bES, .ref bEG])), (bLt, .inl ((cs 1), 4, .inr (.inl fLt))), (bES, .inl ((cs 1), 4, .inr (.inl (vp_updL fES k.toNatClampNeg (fLt k.toNatClampNeg))))), (bEG, .inl ((cs 0), 4, .inl (upd fEG k.toNatClampNeg zLt)))] H := hP
    have hD : va_D A [(pa, .inr (1, [.int zSl, .ref bLG, .ref bLS, .int zLy, .int zGr, .int zTk, .int zGt, .int zLt, .ref bLt, .ref bGS, .ref bGG, .ref bES, .ref bEG])), (bLt, .inl ((cs 1), 4, .inr (.inl fLt))), (bES, .inl ((cs 1), 4, .inr (.inl (vp_updL fES k.toNatClampNeg (fLt k.toNatClampNeg))))), (bEG, .inl ((cs 0), 4, .inl (upd fEG k.toNatClampNeg zLt)))] := hD
    refine W.widen (k := 0) (n := 0) (Nat.le_of_ble_eq_true rfl) (Nat.le_of_ble_eq_true rfl) ?_
    have hP9 : va_P (dC, dI) vq_cl [(pa, .inr (1, [.int zSl, .ref bLG, .ref bLS, .int zLy, .int zGr, .int zTk, .int zGt, .int zLt, .ref bLt, .ref bGS, .ref bGG, .ref bES, .ref bEG])), (bLt, .inl ((cs 1), 4, .inr (.inl fLt))), (bES, .inl ((cs 1), 4, .inr (.inl (vp_updL fES k.toNatClampNeg (fLt k.toNatClampNeg))))), (bEG, .inl ((cs 0), 4, .inl (upd fEG k.toNatClampNeg zLt)))] _ := hP.sub [0, 1, 2, 3] rfl
    have hD9 : va_D A [(pa, .inr (1, [.int zSl, .ref bLG, .ref bLS, .int zLy, .int zGr, .int zTk, .int zGt, .int zLt, .ref bLt, .ref bGS, .ref bGG, .ref bES, .ref bEG])), (bLt, .inl ((cs 1), 4, .inr (.inl fLt))), (bES, .inl ((cs 1), 4, .inr (.inl (vp_updL fES k.toNatClampNeg (fLt k.toNatClampNeg))))), (bEG, .inl ((cs 0), 4, .inl (upd fEG k.toNatClampNeg zLt)))] := hD.sub [0, 1, 2, 3] (by decide) rfl
    have e9 : ([(pa, .inr (1, [.int zSl, .ref bLG, .ref bLS, .int zLy, .int zGr, .int zTk, .int zGt, .int zLt, .ref bLt, .ref bGS, .ref bGG, .ref bES, .ref bEG])), (bLt, .inl ((cs 1), 4, .inr (.inl fLt))), (bES, .inl ((cs 1), 4, .inr (.inl (neS zLt fLt fES fEG k)))), (bEG, .inl ((cs 0), 4, .inl (neG zLt fLt fES fEG k)))] : va_W) = [(pa, .inr (1, [.int zSl, .ref bLG, .ref bLS, .int zLy, .int zGr, .int zTk, .int zGt, .int zLt, .ref bLt, .ref bGS, .ref bGG, .ref bES, .ref bEG])), (bLt, .inl ((cs 1), 4, .inr (.inl fLt))), (bES, .inl ((cs 1), 4, .inr (.inl (vp_updL fES k.toNatClampNeg (fLt k.toNatClampNeg))))), (bEG, .inl ((cs 0), 4, .inl (upd fEG k.toNatClampNeg zLt)))] := by simp only [neS, neG, if_pos c_6]
    rw [← e9] at hP9 hD9
    exact W.vret hx hb hr (fun t ht hW => ⟨⟨(), rfl, trivial, ⟨by rw [ht]; exact hP9, hD9⟩⟩, hS.F ht⟩) hS.2.2 d_PI_noteLeast_61
  · skip
    refine lv_aload_n hx hb d_PI_noteLeast_9 rfl (lv_at hl 0 rfl) ?_
    refine va_get (D := (dC, dI)) (ci := 1) (v := .ref bLt) (C := R_PI) (T := F_PI) (N := 13) hx hb hG i_PI hown hK hP 0 rfl rfl 8 (by decide) (hG _ vq_t66) (fun _ h9 => h9) rfl d_PI_noteLeast_10 ?_
    refine lv_iload_n hx hb d_PI_noteLeast_13 rfl (lv_at hl 1 rfl) ?_
    refine va_lald (D := (dC, dI)) hx hb hK hP 1 1 rfl rfl (vq_in 4 rfl hi.1 hi.2) d_PI_noteLeast_14 ?_
    refine lv_aload_n hx hb d_PI_noteLeast_15 rfl (lv_at hl 0 rfl) ?_
    refine va_get (D := (dC, dI)) (ci := 1) (v := .ref bEG) (C := R_PI) (T := F_PI) (N := 13) hx hb hG i_PI hown hK hP 0 rfl rfl 12 (by decide) (hG _ vq_t71) (fun _ h9 => h9) rfl d_PI_noteLeast_16 ?_
    refine lv_iload_n hx hb d_PI_noteLeast_19 rfl (lv_at hl 1 rfl) ?_
    refine va_iald (D := (dC, dI)) hx hb hK hP 3 0 rfl rfl (vq_in 4 rfl hi.1 hi.2) d_PI_noteLeast_20 ?_
    refine lv_i2l hx hb d_PI_noteLeast_21 rfl ?_
    refine lv_lmul hx hb d_PI_noteLeast_22 ?_
    refine lv_aload_n hx hb d_PI_noteLeast_23 rfl (lv_at hl 0 rfl) ?_
    refine va_get (D := (dC, dI)) (ci := 1) (v := .ref bES) (C := R_PI) (T := F_PI) (N := 13) hx hb hG i_PI hown hK hP 0 rfl rfl 11 (by decide) (hG _ vq_t70) (fun _ h9 => h9) rfl d_PI_noteLeast_24 ?_
    refine lv_iload_n hx hb d_PI_noteLeast_27 rfl (lv_at hl 1 rfl) ?_
    refine va_lald (D := (dC, dI)) hx hb hK hP 2 1 rfl rfl (vq_in 4 rfl hi.1 hi.2) d_PI_noteLeast_28 ?_
    refine lv_aload_n hx hb d_PI_noteLeast_29 rfl (lv_at hl 0 rfl) ?_
    refine va_get (D := (dC, dI)) (ci := 1) (v := .int zLt) (C := R_PI) (T := F_PI) (N := 13) hx hb hG i_PI hown hK hP 0 rfl rfl 7 (by decide) (hG _ vq_t64) (fun _ h9 => h9) rfl d_PI_noteLeast_30 ?_
    refine lv_i2l hx hb d_PI_noteLeast_33 rfl ?_
    refine lv_lmul hx hb d_PI_noteLeast_34 ?_
    refine W.lcmp hx hb d_PI_noteLeast_35 ?_
    refine lv_if_ge (tgt := 61) hx hb d_PI_noteLeast_36 (by decide) (fun c_36 => ?_) (fun c_36 => ?_)
    · skip
      have c_36 := (lg_cmp_ge ((fLt k.toNatClampNeg) * ((fEG k.toNatClampNeg).toInt64)) ((fES k.toNatClampNeg) * zLt.toInt64)).mp c_36
      have hS := vq_wk hS hA
      refine W.widen (k := 0) (n := 0) (Nat.le_of_ble_eq_true rfl) (Nat.le_of_ble_eq_true rfl) ?_
      have hP9 : va_P (dC, dI) vq_cl [(pa, .inr (1, [.int zSl, .ref bLG, .ref bLS, .int zLy, .int zGr, .int zTk, .int zGt, .int zLt, .ref bLt, .ref bGS, .ref bGG, .ref bES, .ref bEG])), (bLt, .inl ((cs 1), 4, .inr (.inl fLt))), (bES, .inl ((cs 1), 4, .inr (.inl fES))), (bEG, .inl ((cs 0), 4, .inl fEG))] _ := hP.sub [0, 1, 2, 3] rfl
      have hD9 : va_D A [(pa, .inr (1, [.int zSl, .ref bLG, .ref bLS, .int zLy, .int zGr, .int zTk, .int zGt, .int zLt, .ref bLt, .ref bGS, .ref bGG, .ref bES, .ref bEG])), (bLt, .inl ((cs 1), 4, .inr (.inl fLt))), (bES, .inl ((cs 1), 4, .inr (.inl fES))), (bEG, .inl ((cs 0), 4, .inl fEG))] := hD.sub [0, 1, 2, 3] (by decide) rfl
      have e9 : ([(pa, .inr (1, [.int zSl, .ref bLG, .ref bLS, .int zLy, .int zGr, .int zTk, .int zGt, .int zLt, .ref bLt, .ref bGS, .ref bGG, .ref bES, .ref bEG])), (bLt, .inl ((cs 1), 4, .inr (.inl fLt))), (bES, .inl ((cs 1), 4, .inr (.inl (neS zLt fLt fES fEG k)))), (bEG, .inl ((cs 0), 4, .inl (neG zLt fLt fES fEG k)))] : va_W) = [(pa, .inr (1, [.int zSl, .ref bLG, .ref bLS, .int zLy, .int zGr, .int zTk, .int zGt, .int zLt, .ref bLt, .ref bGS, .ref bGG, .ref bES, .ref bEG])), (bLt, .inl ((cs 1), 4, .inr (.inl fLt))), (bES, .inl ((cs 1), 4, .inr (.inl fES))), (bEG, .inl ((cs 0), 4, .inl fEG))] := by simp only [neS, neG, if_neg c_6, if_pos c_36]
      rw [← e9] at hP9 hD9
      exact W.vret hx hb hr (fun t ht hW => ⟨⟨(), rfl, trivial, ⟨by rw [ht]; exact hP9, hD9⟩⟩, hS.F ht⟩) hS.2.2 d_PI_noteLeast_61
    · skip
      have c_36 := (not_congr (lg_cmp_ge ((fLt k.toNatClampNeg) * ((fEG k.toNatClampNeg).toInt64)) ((fES k.toNatClampNeg) * zLt.toInt64))).mp c_36
      refine lv_aload_n hx hb d_PI_noteLeast_39 rfl (lv_at hl 0 rfl) ?_
      refine va_get (D := (dC, dI)) (ci := 1) (v := .ref bES) (C := R_PI) (T := F_PI) (N := 13) hx hb hG i_PI hown hK hP 0 rfl rfl 11 (by decide) (hG _ vq_t70) (fun _ h9 => h9) rfl d_PI_noteLeast_40 ?_
      refine lv_iload_n hx hb d_PI_noteLeast_43 rfl (lv_at hl 1 rfl) ?_
      refine lv_aload_n hx hb d_PI_noteLeast_44 rfl (lv_at hl 0 rfl) ?_
      refine va_get (D := (dC, dI)) (ci := 1) (v := .ref bLt) (C := R_PI) (T := F_PI) (N := 13) hx hb hG i_PI hown hK hP 0 rfl rfl 8 (by decide) (hG _ vq_t66) (fun _ h9 => h9) rfl d_PI_noteLeast_45 ?_
      refine lv_iload_n hx hb d_PI_noteLeast_48 rfl (lv_at hl 1 rfl) ?_
      refine va_lald (D := (dC, dI)) hx hb hK hP 1 1 rfl rfl (vq_in 4 rfl hi.1 hi.2) d_PI_noteLeast_49 ?_
      have hS := vq_wk hS hA
      refine va_last (D := (dC, dI)) hx hb hK hP hD hS 2 1 rfl rfl (vq_in 4 rfl hi.1 hi.2) d_PI_noteLeast_50 (fun H locs hP hD hS => ?_)
      have hP : va_P (dC, dI) vq_cl [(pa, .inr (1, [.int zSl, .ref bLG, .ref bLS, .int zLy, .int zGr, .int zTk, .int zGt, .int zLt, .ref bLt, .ref bGS, .ref bGG, .ref bES, .ref bEG])), (bLt, .inl ((cs 1), 4, .inr (.inl fLt))), (bES, .inl ((cs 1), 4, .inr (.inl (vp_updL fES k.toNatClampNeg (fLt k.toNatClampNeg))))), (bEG, .inl ((cs 0), 4, .inl fEG))] H := hP
      have hD : va_D A [(pa, .inr (1, [.int zSl, .ref bLG, .ref bLS, .int zLy, .int zGr, .int zTk, .int zGt, .int zLt, .ref bLt, .ref bGS, .ref bGG, .ref bES, .ref bEG])), (bLt, .inl ((cs 1), 4, .inr (.inl fLt))), (bES, .inl ((cs 1), 4, .inr (.inl (vp_updL fES k.toNatClampNeg (fLt k.toNatClampNeg))))), (bEG, .inl ((cs 0), 4, .inl fEG))] := hD
      refine lv_aload_n hx hb d_PI_noteLeast_51 rfl (lv_at hl 0 rfl) ?_
      refine va_get (D := (dC, dI)) (ci := 1) (v := .ref bEG) (C := R_PI) (T := F_PI) (N := 13) hx hb hG i_PI hown hK hP 0 rfl rfl 12 (by decide) (hG _ vq_t71) (fun _ h9 => h9) rfl d_PI_noteLeast_52 ?_
      refine lv_iload_n hx hb d_PI_noteLeast_55 rfl (lv_at hl 1 rfl) ?_
      refine lv_aload_n hx hb d_PI_noteLeast_56 rfl (lv_at hl 0 rfl) ?_
      refine va_get (D := (dC, dI)) (ci := 1) (v := .int zLt) (C := R_PI) (T := F_PI) (N := 13) hx hb hG i_PI hown hK hP 0 rfl rfl 7 (by decide) (hG _ vq_t64) (fun _ h9 => h9) rfl d_PI_noteLeast_57 ?_
      refine va_iast (D := (dC, dI)) hx hb hK hP hD hS 3 0 rfl rfl (vq_in 4 rfl hi.1 hi.2) d_PI_noteLeast_60 (fun H locs hP hD hS => ?_)
      have hP : va_P (dC, dI) vq_cl [(pa, .inr (1, [.int zSl, .ref bLG, .ref bLS, .int zLy, .int zGr, .int zTk, .int zGt, .int zLt, .ref bLt, .ref bGS, .ref bGG, .ref bES, .ref bEG])), (bLt, .inl ((cs 1), 4, .inr (.inl fLt))), (bES, .inl ((cs 1), 4, .inr (.inl (vp_updL fES k.toNatClampNeg (fLt k.toNatClampNeg))))), (bEG, .inl ((cs 0), 4, .inl (upd fEG k.toNatClampNeg zLt)))] H := hP
      have hD : va_D A [(pa, .inr (1, [.int zSl, .ref bLG, .ref bLS, .int zLy, .int zGr, .int zTk, .int zGt, .int zLt, .ref bLt, .ref bGS, .ref bGG, .ref bES, .ref bEG])), (bLt, .inl ((cs 1), 4, .inr (.inl fLt))), (bES, .inl ((cs 1), 4, .inr (.inl (vp_updL fES k.toNatClampNeg (fLt k.toNatClampNeg))))), (bEG, .inl ((cs 0), 4, .inl (upd fEG k.toNatClampNeg zLt)))] := hD
      refine W.widen (k := 0) (n := 0) (Nat.le_of_ble_eq_true rfl) (Nat.le_of_ble_eq_true rfl) ?_
      have hP9 : va_P (dC, dI) vq_cl [(pa, .inr (1, [.int zSl, .ref bLG, .ref bLS, .int zLy, .int zGr, .int zTk, .int zGt, .int zLt, .ref bLt, .ref bGS, .ref bGG, .ref bES, .ref bEG])), (bLt, .inl ((cs 1), 4, .inr (.inl fLt))), (bES, .inl ((cs 1), 4, .inr (.inl (vp_updL fES k.toNatClampNeg (fLt k.toNatClampNeg))))), (bEG, .inl ((cs 0), 4, .inl (upd fEG k.toNatClampNeg zLt)))] _ := hP.sub [0, 1, 2, 3] rfl
      have hD9 : va_D A [(pa, .inr (1, [.int zSl, .ref bLG, .ref bLS, .int zLy, .int zGr, .int zTk, .int zGt, .int zLt, .ref bLt, .ref bGS, .ref bGG, .ref bES, .ref bEG])), (bLt, .inl ((cs 1), 4, .inr (.inl fLt))), (bES, .inl ((cs 1), 4, .inr (.inl (vp_updL fES k.toNatClampNeg (fLt k.toNatClampNeg))))), (bEG, .inl ((cs 0), 4, .inl (upd fEG k.toNatClampNeg zLt)))] := hD.sub [0, 1, 2, 3] (by decide) rfl
      have e9 : ([(pa, .inr (1, [.int zSl, .ref bLG, .ref bLS, .int zLy, .int zGr, .int zTk, .int zGt, .int zLt, .ref bLt, .ref bGS, .ref bGG, .ref bES, .ref bEG])), (bLt, .inl ((cs 1), 4, .inr (.inl fLt))), (bES, .inl ((cs 1), 4, .inr (.inl (neS zLt fLt fES fEG k)))), (bEG, .inl ((cs 0), 4, .inl (neG zLt fLt fES fEG k)))] : va_W) = [(pa, .inr (1, [.int zSl, .ref bLG, .ref bLS, .int zLy, .int zGr, .int zTk, .int zGt, .int zLt, .ref bLt, .ref bGS, .ref bGG, .ref bES, .ref bEG])), (bLt, .inl ((cs 1), 4, .inr (.inl fLt))), (bES, .inl ((cs 1), 4, .inr (.inl (vp_updL fES k.toNatClampNeg (fLt k.toNatClampNeg))))), (bEG, .inl ((cs 0), 4, .inl (upd fEG k.toNatClampNeg zLt)))] := by simp only [neS, neG, if_neg c_6, if_neg c_36]
      rw [← e9] at hP9 hD9
      exact W.vret hx hb hr (fun t ht hW => ⟨⟨(), rfl, trivial, ⟨by rw [ht]; exact hP9, hD9⟩⟩, hS.F ht⟩) hS.2.2 d_PI_noteLeast_61
set_option maxHeartbeats 4000000 in
set_option maxRecDepth 100000 in
/-- spreadUpper -/
theorem c_spreadUpper (l : Launch) (dC : Nat → ClassId) (dI : Nat → Nat → Nat) (cs : Nat → ClassId) (sz : Nat) (pa : Nat) (bLG : Nat) (bLS : Nat) (bLt : Nat) (bGS : Nat) (bGG : Nat) (bES : Nat) (bEG : Nat) (zSl : Int32) (zLy : Int32) (zGr : Int32) (zTk : Int32) (zGt : Int32) (zLt : Int32) (fGS : Nat → Int64) (fES : Nat → Int64) (fGG : Nat → Int32) (fEG : Nat → Int32) (k : Int32) (hi : okE k) : Met l y_PI_spreadUpper w_PI_spreadUpper ({ frames := 0, cells := 0, slots := 0, locals := 0 }) (vq_PreR (dC, dI) cs [(pa, .inr (1, [.int zSl, .ref bLG, .ref bLS, .int zLy, .int zGr, .int zTk, .int zGt, .int zLt, .ref bLt, .ref bGS, .ref bGG, .ref bES, .ref bEG])), (bGS, .inl ((cs 1), 4, .inr (.inl fGS))), (bGG, .inl ((cs 0), 4, .inl fGG)), (bES, .inl ((cs 1), 4, .inr (.inl fES))), (bEG, .inl ((cs 0), 4, .inl fEG))] sz [.ref pa, .int k]) (va_Ql (fun (r : Int64) (_ : Unit) => r = ((fGS k.toNatClampNeg * (fEG k.toNatClampNeg).toInt64) - (fES k.toNatClampNeg * (fGG k.toNatClampNeg).toInt64))) (fun _ _ => True) (va_A [] sz)) 0 0 (va_A [] sz) := by
  refine Met.ofW (cc := b_PI_spreadUpper) (maxL := 2) (ret := (some .long)) (by decide) rfl ?_
  intro p e s m args below meth c s₁ B hml hv
  obtain ⟨rfl, hsz, hP, hCx⟩ := hv
  have hx := B.exec
  have hb := B.bytes
  have hr := B.returns
  have hG := vq_hG (atoms_spec (ws := w_PI_spreadUpper) B.pre)
  have hown : s.vm.findClass R_PI = some m.cls := findClass_of_methodNamed B.named
  have hlocks := B.notSynchronized
  subst hsz
  have hK := hCx.1
  have hA : ∀ q : Nat, s.heap.size ≤ q → va_A [] s.heap.size q := fun q h => Or.inr h
  have hA0 : ∀ q : Nat, s.heap.size ≤ q → va_A [] s.heap.size q := fun q h => Or.inr h
  have hS : va_S (va_A [] s.heap.size) s.heap s.heap [] := va_S.rf
  have hl := lv_entry ([.ref pa, .int k]) (n := 2) (Nat.le_of_ble_eq_true rfl)
  rw [lg_entry_eq]
  generalize (lg_sl ([.ref pa, .int k]) ++ List.replicate (2 - (lg_sl ([.ref pa, .int k])).length) Slot.unset).toArray = ls at hl ⊢
  have hl : lv_has ls 2 [(0, .ref pa), (1, .int k)] := hl
  have hP : va_P (dC, dI) vq_cl [(pa, .inr (1, [.int zSl, .ref bLG, .ref bLS, .int zLy, .int zGr, .int zTk, .int zGt, .int zLt, .ref bLt, .ref bGS, .ref bGG, .ref bES, .ref bEG])), (bGS, .inl ((cs 1), 4, .inr (.inl fGS))), (bGG, .inl ((cs 0), 4, .inl fGG)), (bES, .inl ((cs 1), 4, .inr (.inl fES))), (bEG, .inl ((cs 0), 4, .inl fEG))] s.heap := hP
  refine lv_aload_n hx hb d_PI_spreadUpper_0 rfl (lv_at hl 0 rfl) ?_
  refine va_get (D := (dC, dI)) (ci := 1) (v := .ref bGS) (C := R_PI) (T := F_PI) (N := 13) hx hb hG i_PI hown hK hP 0 rfl rfl 9 (by decide) (hG _ vq_t68) (fun _ h9 => h9) rfl d_PI_spreadUpper_1 ?_
  refine lv_iload_n hx hb d_PI_spreadUpper_4 rfl (lv_at hl 1 rfl) ?_
  refine va_lald (D := (dC, dI)) hx hb hK hP 1 1 rfl rfl (vq_in 4 rfl hi.1 hi.2) d_PI_spreadUpper_5 ?_
  refine lv_aload_n hx hb d_PI_spreadUpper_6 rfl (lv_at hl 0 rfl) ?_
  refine va_get (D := (dC, dI)) (ci := 1) (v := .ref bEG) (C := R_PI) (T := F_PI) (N := 13) hx hb hG i_PI hown hK hP 0 rfl rfl 12 (by decide) (hG _ vq_t71) (fun _ h9 => h9) rfl d_PI_spreadUpper_7 ?_
  refine lv_iload_n hx hb d_PI_spreadUpper_10 rfl (lv_at hl 1 rfl) ?_
  refine va_iald (D := (dC, dI)) hx hb hK hP 4 0 rfl rfl (vq_in 4 rfl hi.1 hi.2) d_PI_spreadUpper_11 ?_
  refine lv_i2l hx hb d_PI_spreadUpper_12 rfl ?_
  refine lv_lmul hx hb d_PI_spreadUpper_13 ?_
  refine lv_aload_n hx hb d_PI_spreadUpper_14 rfl (lv_at hl 0 rfl) ?_
  refine va_get (D := (dC, dI)) (ci := 1) (v := .ref bES) (C := R_PI) (T := F_PI) (N := 13) hx hb hG i_PI hown hK hP 0 rfl rfl 11 (by decide) (hG _ vq_t70) (fun _ h9 => h9) rfl d_PI_spreadUpper_15 ?_
  refine lv_iload_n hx hb d_PI_spreadUpper_18 rfl (lv_at hl 1 rfl) ?_
  refine va_lald (D := (dC, dI)) hx hb hK hP 3 1 rfl rfl (vq_in 4 rfl hi.1 hi.2) d_PI_spreadUpper_19 ?_
  refine lv_aload_n hx hb d_PI_spreadUpper_20 rfl (lv_at hl 0 rfl) ?_
  refine va_get (D := (dC, dI)) (ci := 1) (v := .ref bGG) (C := R_PI) (T := F_PI) (N := 13) hx hb hG i_PI hown hK hP 0 rfl rfl 10 (by decide) (hG _ vq_t69) (fun _ h9 => h9) rfl d_PI_spreadUpper_21 ?_
  refine lv_iload_n hx hb d_PI_spreadUpper_24 rfl (lv_at hl 1 rfl) ?_
  refine va_iald (D := (dC, dI)) hx hb hK hP 2 0 rfl rfl (vq_in 4 rfl hi.1 hi.2) d_PI_spreadUpper_25 ?_
  refine lv_i2l hx hb d_PI_spreadUpper_26 rfl ?_
  refine lv_lmul hx hb d_PI_spreadUpper_27 ?_
  refine lv_lsub hx hb d_PI_spreadUpper_28 ?_
  refine W.widen (k := 0) (n := 0) (Nat.le_of_ble_eq_true rfl) (Nat.le_of_ble_eq_true rfl) ?_
  exact W.lret (v := (((fGS k.toNatClampNeg) * ((fEG k.toNatClampNeg).toInt64)) - ((fES k.toNatClampNeg) * ((fGG k.toNatClampNeg).toInt64)))) hx hb hr (fun t ht hW => ⟨⟨(((fGS k.toNatClampNeg) * ((fEG k.toNatClampNeg).toInt64)) - ((fES k.toNatClampNeg) * ((fGG k.toNatClampNeg).toInt64))), (), rfl, by rfl, trivial⟩, hS.F ht⟩) hS.2.2 d_PI_spreadUpper_29
set_option maxHeartbeats 4000000 in
set_option maxRecDepth 100000 in
/-- spreadLower -/
theorem c_spreadLower (l : Launch) (dC : Nat → ClassId) (dI : Nat → Nat → Nat) (cs : Nat → ClassId) (sz : Nat) (pa : Nat) (bLG : Nat) (bLS : Nat) (bLt : Nat) (bGS : Nat) (bGG : Nat) (bES : Nat) (bEG : Nat) (zSl : Int32) (zLy : Int32) (zGr : Int32) (zTk : Int32) (zGt : Int32) (zLt : Int32) (fGG : Nat → Int32) (fEG : Nat → Int32) (k : Int32) (hi : okE k) : Met l y_PI_spreadLower w_PI_spreadLower ({ frames := 0, cells := 0, slots := 0, locals := 0 }) (vq_PreR (dC, dI) cs [(pa, .inr (1, [.int zSl, .ref bLG, .ref bLS, .int zLy, .int zGr, .int zTk, .int zGt, .int zLt, .ref bLt, .ref bGS, .ref bGG, .ref bES, .ref bEG])), (bGG, .inl ((cs 0), 4, .inl fGG)), (bEG, .inl ((cs 0), 4, .inl fEG))] sz [.ref pa, .int k]) (va_Ql (fun (r : Int64) (_ : Unit) => r = ((fGG k.toNatClampNeg).toInt64 * (fEG k.toNatClampNeg).toInt64)) (fun _ _ => True) (va_A [] sz)) 0 0 (va_A [] sz) := by
  refine Met.ofW (cc := b_PI_spreadLower) (maxL := 2) (ret := (some .long)) (by decide) rfl ?_
  intro p e s m args below meth c s₁ B hml hv
  obtain ⟨rfl, hsz, hP, hCx⟩ := hv
  have hx := B.exec
  have hb := B.bytes
  have hr := B.returns
  have hG := vq_hG (atoms_spec (ws := w_PI_spreadLower) B.pre)
  have hown : s.vm.findClass R_PI = some m.cls := findClass_of_methodNamed B.named
  have hlocks := B.notSynchronized
  subst hsz
  have hK := hCx.1
  have hA : ∀ q : Nat, s.heap.size ≤ q → va_A [] s.heap.size q := fun q h => Or.inr h
  have hA0 : ∀ q : Nat, s.heap.size ≤ q → va_A [] s.heap.size q := fun q h => Or.inr h
  have hS : va_S (va_A [] s.heap.size) s.heap s.heap [] := va_S.rf
  have hl := lv_entry ([.ref pa, .int k]) (n := 2) (Nat.le_of_ble_eq_true rfl)
  rw [lg_entry_eq]
  generalize (lg_sl ([.ref pa, .int k]) ++ List.replicate (2 - (lg_sl ([.ref pa, .int k])).length) Slot.unset).toArray = ls at hl ⊢
  have hl : lv_has ls 2 [(0, .ref pa), (1, .int k)] := hl
  have hP : va_P (dC, dI) vq_cl [(pa, .inr (1, [.int zSl, .ref bLG, .ref bLS, .int zLy, .int zGr, .int zTk, .int zGt, .int zLt, .ref bLt, .ref bGS, .ref bGG, .ref bES, .ref bEG])), (bGG, .inl ((cs 0), 4, .inl fGG)), (bEG, .inl ((cs 0), 4, .inl fEG))] s.heap := hP
  refine lv_aload_n hx hb d_PI_spreadLower_0 rfl (lv_at hl 0 rfl) ?_
  refine va_get (D := (dC, dI)) (ci := 1) (v := .ref bGG) (C := R_PI) (T := F_PI) (N := 13) hx hb hG i_PI hown hK hP 0 rfl rfl 10 (by decide) (hG _ vq_t69) (fun _ h9 => h9) rfl d_PI_spreadLower_1 ?_
  refine lv_iload_n hx hb d_PI_spreadLower_4 rfl (lv_at hl 1 rfl) ?_
  refine va_iald (D := (dC, dI)) hx hb hK hP 1 0 rfl rfl (vq_in 4 rfl hi.1 hi.2) d_PI_spreadLower_5 ?_
  refine lv_i2l hx hb d_PI_spreadLower_6 rfl ?_
  refine lv_aload_n hx hb d_PI_spreadLower_7 rfl (lv_at hl 0 rfl) ?_
  refine va_get (D := (dC, dI)) (ci := 1) (v := .ref bEG) (C := R_PI) (T := F_PI) (N := 13) hx hb hG i_PI hown hK hP 0 rfl rfl 12 (by decide) (hG _ vq_t71) (fun _ h9 => h9) rfl d_PI_spreadLower_8 ?_
  refine lv_iload_n hx hb d_PI_spreadLower_11 rfl (lv_at hl 1 rfl) ?_
  refine va_iald (D := (dC, dI)) hx hb hK hP 2 0 rfl rfl (vq_in 4 rfl hi.1 hi.2) d_PI_spreadLower_12 ?_
  refine lv_i2l hx hb d_PI_spreadLower_13 rfl ?_
  refine lv_lmul hx hb d_PI_spreadLower_14 ?_
  refine W.widen (k := 0) (n := 0) (Nat.le_of_ble_eq_true rfl) (Nat.le_of_ble_eq_true rfl) ?_
  exact W.lret (v := (((fGG k.toNatClampNeg).toInt64) * ((fEG k.toNatClampNeg).toInt64))) hx hb hr (fun t ht hW => ⟨⟨(((fGG k.toNatClampNeg).toInt64) * ((fEG k.toNatClampNeg).toInt64)), (), rfl, by rfl, trivial⟩, hS.F ht⟩) hS.2.2 d_PI_spreadLower_15
set_option maxHeartbeats 4000000 in
set_option maxRecDepth 100000 in
/-- the loop of takeNext over the layers -/
theorem lp_take {p : Program} {l : Launch} {e : Env} {R : Room} {s : State} {m : MethodId} {args : Array Value} {below : List Frame} {meth : Method} {c : Code} {cells slots : Nat} {Q : State → Prop} {dC : Nat → ClassId} {dI : Nat → Nat → Nat} {cs : Nat → ClassId} {pa : Nat} {bLG : Nat} {bLS : Nat} {bLt : Nat} {bGS : Nat} {bGG : Nat} {bES : Nat} {bEG : Nat} {zSl : Int32} {zLy : Int32} {zGr : Int32} {zTk : Int32} {zGt : Int32} {fLG : Nat → Int32} {fLS : Nat → Int32} {fGG : Nat → Int32} {fEG : Nat → Int32} {fGS : Nat → Int64} {fES : Nat → Int64} {A : Nat → Prop} (hx : p.tables.exec = Jvm.exec) (hb : c.code = b_PI_takeNext) (hml : c.maxLocals = 2) (hG : ∀ w ∈ vq_G, w.before args s = true) (hown : s.vm.findClass R_PI = some m.cls) (hCx : vq_Cx (dC, dI) cs A s) (hA : ∀ q, s.heap.size ≤ q → A q) (hRf : 1 + 1 ≤ R.frames) (hRl : 45 ≤ R.locals) (hRc : cells ≤ R.cells) (hRs : slots ≤ R.slots) :
    ∀ (n i : Nat) (lt : Int32) (G : Nat → Int64) (H : Heap) (locs : List Loc) (ls : Array Slot), i + n = 20 → va_P (dC, dI) vq_cl [(pa, .inr (1, [.int zSl, .ref bLG, .ref bLS, .int zLy, .int zGr, .int zTk, .int zGt, .int lt, .ref bLt, .ref bGS, .ref bGG, .ref bES, .ref bEG])), (bLG, .inl ((cs 0), 20, .inl fLG)), (bLS, .inl ((cs 0), 80, .inl fLS)), (bLt, .inl ((cs 1), 4, .inr (.inl G))), (bGS, .inl ((cs 1), 4, .inr (.inl fGS))), (bGG, .inl ((cs 0), 4, .inl fGG)), (bES, .inl ((cs 1), 4, .inr (.inl fES))), (bEG, .inl ((cs 0), 4, .inl fEG))] H → va_D A [(pa, .inr (1, [.int zSl, .ref bLG, .ref bLS, .int zLy, .int zGr, .int zTk, .int zGt, .int lt, .ref bLt, .ref bGS, .ref bGG, .ref bES, .ref bEG])), (bLG, .inl ((cs 0), 20, .inl fLG)), (bLS, .inl ((cs 0), 80, .inl fLS)), (bLt, .inl ((cs 1), 4, .inr (.inl G))), (bGS, .inl ((cs 1), 4, .inr (.inl fGS))), (bGG, .inl ((cs 0), 4, .inl fGG)), (bES, .inl ((cs 1), 4, .inr (.inl fES))), (bEG, .inl ((cs 0), 4, .inl fEG))] → va_S A s.heap H locs → lv_has ls 2 [(0, .ref pa), (1, .int (nI i))] → (∀ (H : Heap) (locs : List Loc) (ls : Array Slot), va_P (dC, dI) vq_cl [(pa, .inr (1, [.int zSl, .ref bLG, .ref bLS, .int zLy, .int zGr, .int zTk, .int zGt, .int (tkG zSl zTk fLG zLy n i lt), .ref bLt, .ref bGS, .ref bGG, .ref bES, .ref bEG])), (bLG, .inl ((cs 0), 20, .inl fLG)), (bLS, .inl ((cs 0), 80, .inl fLS)), (bLt, .inl ((cs 1), 4, .inr (.inl (tkS zSl zTk fLG fLS zLy n i G)))), (bGS, .inl ((cs 1), 4, .inr (.inl fGS))), (bGG, .inl ((cs 0), 4, .inl fGG)), (bES, .inl ((cs 1), 4, .inr (.inl fES))), (bEG, .inl ((cs 0), 4, .inl fEG))] H → va_D A [(pa, .inr (1, [.int zSl, .ref bLG, .ref bLS, .int zLy, .int zGr, .int zTk, .int zGt, .int (tkG zSl zTk fLG zLy n i lt), .ref bLt, .ref bGS, .ref bGG, .ref bES, .ref bEG])), (bLG, .inl ((cs 0), 20, .inl fLG)), (bLS, .inl ((cs 0), 80, .inl fLS)), (bLt, .inl ((cs 1), 4, .inr (.inl (tkS zSl zTk fLG fLS zLy n i G)))), (bGS, .inl ((cs 1), 4, .inr (.inl fGS))), (bGG, .inl ((cs 0), 4, .inl fGG)), (bES, .inl ((cs 1), 4, .inr (.inl fES))), (bEG, .inl ((cs 0), 4, .inl fEG))] → va_S A s.heap H locs → lv_has ls 2 [(0, .ref pa)] → W p l e R s m args below meth c H locs cells slots Q (F0 m 31 ls [])) → W p l e R s m args below meth c H locs cells slots Q (F0 m 6 ls []) := by
  have hK := hCx.1
  intro n
  induction n with
  | zero =>
    intro i lt G H locs ls hi hP hD hS hl kk
    refine lv_iload_n hx hb d_PI_takeNext_6 rfl (lv_at hl 1 rfl) ?_
    refine lv_bipush (v := 20) hx hb d_PI_takeNext_7 (by decide) ?_
    refine lv_icmp_ge (tgt := 31) hx hb d_PI_takeNext_9 (by decide) (fun c_9 => ?_) (fun c_9 => ?_)
    · skip
      exact kk H locs ls hP hD hS (lv_sub hl [0] rfl)
    · skip
      exact absurd c_9 (not_not_intro (by rw [show i = 20 by omega]; decide))
  | succ n ih =>
    intro i lt G H locs ls hi hP hD hS hl kk
    have hin : ok20 (nI i) := ⟨nI_pos (by omega), nI_lt (b := 20) (by omega) (by decide)⟩
    refine lv_iload_n hx hb d_PI_takeNext_6 rfl (lv_at hl 1 rfl) ?_
    refine lv_bipush (v := 20) hx hb d_PI_takeNext_7 (by decide) ?_
    refine lv_icmp_ge (tgt := 31) hx hb d_PI_takeNext_9 (by decide) (fun c_9 => ?_) (fun c_9 => ?_)
    · skip
      exact absurd c_9 (fun z => nI_ge (a := i) (b := 20) (by omega) (by decide) z)
    · skip
      refine lv_iload_n hx hb d_PI_takeNext_12 rfl (lv_at hl 1 rfl) ?_
      refine lv_aload_n hx hb d_PI_takeNext_13 rfl (lv_at hl 0 rfl) ?_
      refine va_get (D := (dC, dI)) (ci := 1) (v := .int zLy) (C := R_PI) (T := F_PI) (N := 13) hx hb hG i_PI hown hK hP 0 rfl rfl 3 (by decide) (hG _ vq_t56) (fun _ h9 => h9) rfl d_PI_takeNext_14 ?_
      refine lv_icmp_ge (tgt := 31) hx hb d_PI_takeNext_17 (by decide) (fun c_17 => ?_) (fun c_17 => ?_)
      · skip
        exact kk H locs ls (by rw [tkG, tkS, if_pos c_17, if_pos c_17]; exact hP) (by rw [tkG, tkS, if_pos c_17, if_pos c_17]; exact hD) hS (lv_sub hl [0] rfl)
      · skip
        refine lv_aload_n hx hb d_PI_takeNext_20 rfl (lv_at hl 0 rfl) ?_
        refine lv_iload_n hx hb d_PI_takeNext_21 rfl (lv_at hl 1 rfl) ?_
        refine mk_wv (va_runV (As := [.int (nI i)]) (rest := []) ⟨hx, hb, hml, hown, hG⟩ (c_takeOfLayer l dC dI cs _ pa bLG bLS bLt bGS bGG bES bEG zSl zLy zGr zTk zGt lt fLG fLS G (nI i) hin) (cwV 1 hG (vq_gV vq_t344 vq_t346 vq_s4 vq_t3 vq_t347) rfl rfl rfl (by decide +kernel) ⟨hRf, hRl⟩) (vq_preVw (wc := [(pa, .inr (1, [.int zSl, .ref bLG, .ref bLS, .int zLy, .int zGr, .int zTk, .int zGt, .int lt, .ref bLt, .ref bGS, .ref bGG, .ref bES, .ref bEG])), (bLG, .inl ((cs 0), 20, .inl fLG)), (bLS, .inl ((cs 0), 80, .inl fLS)), (bLt, .inl ((cs 1), 4, .inr (.inl G)))]) (va_recv hK hP (ci := 1) (q0 := 0) rfl rfl) hCx hP hD hS hA [0, 1, 2, 3] rfl rfl (by decide)) rfl rfl hl.1 rfl (lv_room (Nat.le_of_ble_eq_true rfl)) d_PI_takeNext_22 ⟨hRc, hRs⟩) hP hD hS hA [0, 1, 2, 3] [4, 5, 6, 7] rfl rfl (by decide) (by decide) (fun _ H locs w_22 hP hD hS => ?_)
        have hP : va_P (dC, dI) vq_cl [(bGS, .inl ((cs 1), 4, .inr (.inl fGS))), (bGG, .inl ((cs 0), 4, .inl fGG)), (bES, .inl ((cs 1), 4, .inr (.inl fES))), (bEG, .inl ((cs 0), 4, .inl fEG)), (pa, .inr (1, [.int zSl, .ref bLG, .ref bLS, .int zLy, .int zGr, .int zTk, .int zGt, .int (lt + (ptF zSl (fLG (nI i).toNatClampNeg) zTk)), .ref bLt, .ref bGS, .ref bGG, .ref bES, .ref bEG])), (bLG, .inl ((cs 0), 20, .inl fLG)), (bLS, .inl ((cs 0), 80, .inl fLS)), (bLt, .inl ((cs 1), 4, .inr (.inl (tol4 (ptF zSl (fLG (nI i).toNatClampNeg) zTk) fLS (nI i) G))))] H := hP
        have hD : va_D A [(bGS, .inl ((cs 1), 4, .inr (.inl fGS))), (bGG, .inl ((cs 0), 4, .inl fGG)), (bES, .inl ((cs 1), 4, .inr (.inl fES))), (bEG, .inl ((cs 0), 4, .inl fEG)), (pa, .inr (1, [.int zSl, .ref bLG, .ref bLS, .int zLy, .int zGr, .int zTk, .int zGt, .int (lt + (ptF zSl (fLG (nI i).toNatClampNeg) zTk)), .ref bLt, .ref bGS, .ref bGG, .ref bES, .ref bEG])), (bLG, .inl ((cs 0), 20, .inl fLG)), (bLS, .inl ((cs 0), 80, .inl fLS)), (bLt, .inl ((cs 1), 4, .inr (.inl (tol4 (ptF zSl (fLG (nI i).toNatClampNeg) zTk) fLS (nI i) G))))] := hD
        refine lv_iinc (v := (nI (i + 1))) (lv' := [(1, .int (nI (i + 1))), (0, .ref pa)]) hx hb d_PI_takeNext_25 hl (k := 1) rfl (nI_1 i) (by decide) rfl (fun ls hl => ?_)
        refine lv_goto (tgt := 6) hx hb d_PI_takeNext_28 (by decide) ?_
        exact ih (i + 1) (lt + (ptF zSl (fLG (nI i).toNatClampNeg) zTk)) (tol4 (ptF zSl (fLG (nI i).toNatClampNeg) zTk) fLS (nI i) G) H locs ls (by omega) (hP.sub [4, 5, 6, 7, 0, 1, 2, 3] rfl) (hD.sub [4, 5, 6, 7, 0, 1, 2, 3] (by decide) rfl) hS (lv_sub hl [1, 0] rfl) (fun H locs ls hP hD hS hl => kk H locs ls (by rw [tkG, tkS, if_neg c_17, if_neg c_17]; exact hP) (by rw [tkG, tkS, if_neg c_17, if_neg c_17]; exact hD) hS hl)
set_option maxHeartbeats 4000000 in
set_option maxRecDepth 100000 in
/-- takeNext -/
theorem c_takeNext (l : Launch) (dC : Nat → ClassId) (dI : Nat → Nat → Nat) (cs : Nat → ClassId) (sz : Nat) (pa : Nat) (bLG : Nat) (bLS : Nat) (bLt : Nat) (bGS : Nat) (bGG : Nat) (bES : Nat) (bEG : Nat) (zSl : Int32) (zLy : Int32) (zGr : Int32) (zTk : Int32) (zGt : Int32) (zLt : Int32) (fLG : Nat → Int32) (fLS : Nat → Int32) (fGG : Nat → Int32) (fEG : Nat → Int32) (fLt : Nat → Int64) (fGS : Nat → Int64) (fES : Nat → Int64) : Met l y_PI_takeNext w_PI_takeNext ({ frames := 2, cells := 0, slots := 0, locals := 45 }) (vq_Pre (dC, dI) cs [(pa, .inr (1, [.int zSl, .ref bLG, .ref bLS, .int zLy, .int zGr, .int zTk, .int zGt, .int zLt, .ref bLt, .ref bGS, .ref bGG, .ref bES, .ref bEG])), (bLG, .inl ((cs 0), 20, .inl fLG)), (bLS, .inl ((cs 0), 80, .inl fLS)), (bLt, .inl ((cs 1), 4, .inr (.inl fLt))), (bGS, .inl ((cs 1), 4, .inr (.inl fGS))), (bGG, .inl ((cs 0), 4, .inl fGG)), (bES, .inl ((cs 1), 4, .inr (.inl fES))), (bEG, .inl ((cs 0), 4, .inl fEG))] sz [.ref pa]) (va_Qv (fun (_ : Unit) => True) (vq_B (dC, dI) cs (va_A [(pa, .inr (1, [.int zSl, .ref bLG, .ref bLS, .int zLy, .int zGr, .int zTk, .int zGt, .int zLt, .ref bLt, .ref bGS, .ref bGG, .ref bES, .ref bEG])), (bLG, .inl ((cs 0), 20, .inl fLG)), (bLS, .inl ((cs 0), 80, .inl fLS)), (bLt, .inl ((cs 1), 4, .inr (.inl fLt))), (bGS, .inl ((cs 1), 4, .inr (.inl fGS))), (bGG, .inl ((cs 0), 4, .inl fGG)), (bES, .inl ((cs 1), 4, .inr (.inl fES))), (bEG, .inl ((cs 0), 4, .inl fEG))] sz) (fun _ => [(pa, .inr (1, [.int zSl, .ref bLG, .ref bLS, .int zLy, .int zGr, .int (zTk + 1), .int (zGt + (tkG zSl zTk fLG zLy 20 0 0)), .int (tkG zSl zTk fLG zLy 20 0 0), .ref bLt, .ref bGS, .ref bGG, .ref bES, .ref bEG])), (bLG, .inl ((cs 0), 20, .inl fLG)), (bLS, .inl ((cs 0), 80, .inl fLS)), (bLt, .inl ((cs 1), 4, .inr (.inl (tkS zSl zTk fLG fLS zLy 20 0 (cl4 fLt))))), (bGS, .inl ((cs 1), 4, .inr (.inl ((tnG (tkG zSl zTk fLG zLy 20 0 0) (tkS zSl zTk fLG fLS zLy 20 0 (cl4 fLt)) (fGS, fGG)).1)))), (bGG, .inl ((cs 0), 4, .inl ((tnG (tkG zSl zTk fLG zLy 20 0 0) (tkS zSl zTk fLG fLS zLy 20 0 (cl4 fLt)) (fGS, fGG)).2))), (bES, .inl ((cs 1), 4, .inr (.inl ((tnE (tkG zSl zTk fLG zLy 20 0 0) (tkS zSl zTk fLG fLS zLy 20 0 (cl4 fLt)) (fES, fEG)).1)))), (bEG, .inl ((cs 0), 4, .inl ((tnE (tkG zSl zTk fLG zLy 20 0 0) (tkS zSl zTk fLG fLS zLy 20 0 (cl4 fLt)) (fES, fEG)).2)))])) (va_A [(pa, .inr (1, [.int zSl, .ref bLG, .ref bLS, .int zLy, .int zGr, .int zTk, .int zGt, .int zLt, .ref bLt, .ref bGS, .ref bGG, .ref bES, .ref bEG])), (bLG, .inl ((cs 0), 20, .inl fLG)), (bLS, .inl ((cs 0), 80, .inl fLS)), (bLt, .inl ((cs 1), 4, .inr (.inl fLt))), (bGS, .inl ((cs 1), 4, .inr (.inl fGS))), (bGG, .inl ((cs 0), 4, .inl fGG)), (bES, .inl ((cs 1), 4, .inr (.inl fES))), (bEG, .inl ((cs 0), 4, .inl fEG))] sz)) 0 0 (va_A [(pa, .inr (1, [.int zSl, .ref bLG, .ref bLS, .int zLy, .int zGr, .int zTk, .int zGt, .int zLt, .ref bLt, .ref bGS, .ref bGG, .ref bES, .ref bEG])), (bLG, .inl ((cs 0), 20, .inl fLG)), (bLS, .inl ((cs 0), 80, .inl fLS)), (bLt, .inl ((cs 1), 4, .inr (.inl fLt))), (bGS, .inl ((cs 1), 4, .inr (.inl fGS))), (bGG, .inl ((cs 0), 4, .inl fGG)), (bES, .inl ((cs 1), 4, .inr (.inl fES))), (bEG, .inl ((cs 0), 4, .inl fEG))] sz) := by
  refine Met.ofW (cc := b_PI_takeNext) (maxL := 2) (ret := none) (by decide) rfl ?_
  intro p e s m args below meth c s₁ B hml hv
  obtain ⟨rfl, hsz, hP, hD0, hCx⟩ := hv
  have hx := B.exec
  have hb := B.bytes
  have hr := B.returns
  have hG := vq_hG (atoms_spec (ws := w_PI_takeNext) B.pre)
  have hown : s.vm.findClass R_PI = some m.cls := findClass_of_methodNamed B.named
  have hlocks := B.notSynchronized
  subst hsz
  have hK := hCx.1
  have hD := hD0.self (sz := s.heap.size)
  generalize hAe : va_A [(pa, .inr (1, [.int zSl, .ref bLG, .ref bLS, .int zLy, .int zGr, .int zTk, .int zGt, .int zLt, .ref bLt, .ref bGS, .ref bGG, .ref bES, .ref bEG])), (bLG, .inl ((cs 0), 20, .inl fLG)), (bLS, .inl ((cs 0), 80, .inl fLS)), (bLt, .inl ((cs 1), 4, .inr (.inl fLt))), (bGS, .inl ((cs 1), 4, .inr (.inl fGS))), (bGG, .inl ((cs 0), 4, .inl fGG)), (bES, .inl ((cs 1), 4, .inr (.inl fES))), (bEG, .inl ((cs 0), 4, .inl fEG))] s.heap.size = A at hD hCx ⊢
  have hA : ∀ q : Nat, s.heap.size ≤ q → A q := fun q h => by rw [← hAe]; exact Or.inr h
  have hA0 : ∀ q : Nat, s.heap.size ≤ q → va_A [] s.heap.size q := fun q h => Or.inr h
  have hS : va_S (va_A [] s.heap.size) s.heap s.heap [] := va_S.rf
  have hl := lv_entry ([.ref pa]) (n := 2) (Nat.le_of_ble_eq_true rfl)
  rw [lg_entry_eq]
  generalize (lg_sl ([.ref pa]) ++ List.replicate (2 - (lg_sl ([.ref pa])).length) Slot.unset).toArray = ls at hl ⊢
  have hl : lv_has ls 2 [(0, .ref pa)] := hl
  have hP : va_P (dC, dI) vq_cl [(pa, .inr (1, [.int zSl, .ref bLG, .ref bLS, .int zLy, .int zGr, .int zTk, .int zGt, .int zLt, .ref bLt, .ref bGS, .ref bGG, .ref bES, .ref bEG])), (bLG, .inl ((cs 0), 20, .inl fLG)), (bLS, .inl ((cs 0), 80, .inl fLS)), (bLt, .inl ((cs 1), 4, .inr (.inl fLt))), (bGS, .inl ((cs 1), 4, .inr (.inl fGS))), (bGG, .inl ((cs 0), 4, .inl fGG)), (bES, .inl ((cs 1), 4, .inr (.inl fES))), (bEG, .inl ((cs 0), 4, .inl fEG))] s.heap := hP
  refine lv_aload_n hx hb d_PI_takeNext_0 rfl (lv_at hl 0 rfl) ?_
  have hS := vq_wk hS hA
  refine mk_wv (va_runV (As := []) (rest := []) ⟨hx, hb, hml, hown, hG⟩ (c_clearLatest l dC dI cs _ pa bLG bLS bLt bGS bGG bES bEG zSl zLy zGr zTk zGt zLt fLt) (cwV 0 hG (vq_gV vq_t340 vq_t342 vq_s3 vq_t3 vq_t343) rfl rfl rfl (by decide +kernel) ⟨Nat.le_of_ble_eq_true rfl, Nat.le_of_ble_eq_true rfl⟩) (vq_preVw (wc := [(pa, .inr (1, [.int zSl, .ref bLG, .ref bLS, .int zLy, .int zGr, .int zTk, .int zGt, .int zLt, .ref bLt, .ref bGS, .ref bGG, .ref bES, .ref bEG])), (bLt, .inl ((cs 1), 4, .inr (.inl fLt)))]) (va_recv hK hP (ci := 1) (q0 := 0) rfl rfl) hCx hP hD hS hA [0, 3] rfl rfl (by decide)) rfl rfl hl.1 rfl (lv_room (Nat.le_of_ble_eq_true rfl)) d_PI_takeNext_1 ⟨Nat.le_of_ble_eq_true rfl, Nat.le_of_ble_eq_true rfl⟩) hP hD hS hA [0, 3] [1, 2, 4, 5, 6, 7] rfl rfl (by decide) (by decide) (fun _ H locs w_1 hP hD hS => ?_)
  have hP : va_P (dC, dI) vq_cl [(bLG, .inl ((cs 0), 20, .inl fLG)), (bLS, .inl ((cs 0), 80, .inl fLS)), (bGS, .inl ((cs 1), 4, .inr (.inl fGS))), (bGG, .inl ((cs 0), 4, .inl fGG)), (bES, .inl ((cs 1), 4, .inr (.inl fES))), (bEG, .inl ((cs 0), 4, .inl fEG)), (pa, .inr (1, [.int zSl, .ref bLG, .ref bLS, .int zLy, .int zGr, .int zTk, .int zGt, .int 0, .ref bLt, .ref bGS, .ref bGG, .ref bES, .ref bEG])), (bLt, .inl ((cs 1), 4, .inr (.inl (cl4 fLt))))] H := hP
  have hD : va_D A [(bLG, .inl ((cs 0), 20, .inl fLG)), (bLS, .inl ((cs 0), 80, .inl fLS)), (bGS, .inl ((cs 1), 4, .inr (.inl fGS))), (bGG, .inl ((cs 0), 4, .inl fGG)), (bES, .inl ((cs 1), 4, .inr (.inl fES))), (bEG, .inl ((cs 0), 4, .inl fEG)), (pa, .inr (1, [.int zSl, .ref bLG, .ref bLS, .int zLy, .int zGr, .int zTk, .int zGt, .int 0, .ref bLt, .ref bGS, .ref bGG, .ref bES, .ref bEG])), (bLt, .inl ((cs 1), 4, .inr (.inl (cl4 fLt))))] := hD
  refine lv_iconst (v := 0) hx hb d_PI_takeNext_4 (by decide) ?_
  refine lv_istore_n (lv' := [(1, .int 0), (0, .ref pa)]) hx hb d_PI_takeNext_5 rfl hl (by decide) rfl (fun ls hl => ?_)
  refine lp_take (fGG := fGG) (fEG := fEG) (fGS := fGS) (fES := fES) hx hb hml hG hown hCx hA (Nat.le_of_ble_eq_true rfl) (Nat.le_of_ble_eq_true rfl) (Nat.le_of_ble_eq_true rfl) (Nat.le_of_ble_eq_true rfl) 20 0 0 (cl4 fLt) H locs ls rfl (hP.sub [6, 0, 1, 7, 2, 3, 4, 5] rfl) (hD.sub [6, 0, 1, 7, 2, 3, 4, 5] (by decide) rfl) hS (lv_sub hl [1, 0] rfl) (fun H locs ls hP hD hS hl => ?_)
  refine lv_aload_n hx hb d_PI_takeNext_31 rfl (lv_at hl 0 rfl) ?_
  refine lv_dup hx hb d_PI_takeNext_32 rfl ?_
  refine va_get (D := (dC, dI)) (ci := 1) (v := .int zTk) (C := R_PI) (T := F_PI) (N := 13) hx hb hG i_PI hown hK hP 0 rfl rfl 5 (by decide) (hG _ vq_t60) (fun _ h9 => h9) rfl d_PI_takeNext_33 ?_
  refine lv_iconst (v := 1) hx hb d_PI_takeNext_36 (by decide) ?_
  refine lv_iadd hx hb d_PI_takeNext_37 ?_
  refine va_put (D := (dC, dI)) (ci := 1) (v := .int (zTk + 1)) (ty := .int) (C := R_PI) (T := F_PI) (N := 13) hx hb hG i_PI t_PI t_PI_ok n_PI hown hK hP hD hS 0 rfl rfl 5 (by decide) (hG _ vq_t60) (fun _ h9 => h9) rfl (by decide +kernel) rfl rfl (Nat.le_of_ble_eq_true rfl) d_PI_takeNext_38 (fun H locs hP hD hS => ?_)
  have hP : va_P (dC, dI) vq_cl [(pa, .inr (1, [.int zSl, .ref bLG, .ref bLS, .int zLy, .int zGr, .int (zTk + 1), .int zGt, .int (tkG zSl zTk fLG zLy 20 0 0), .ref bLt, .ref bGS, .ref bGG, .ref bES, .ref bEG])), (bLG, .inl ((cs 0), 20, .inl fLG)), (bLS, .inl ((cs 0), 80, .inl fLS)), (bLt, .inl ((cs 1), 4, .inr (.inl (tkS zSl zTk fLG fLS zLy 20 0 (cl4 fLt))))), (bGS, .inl ((cs 1), 4, .inr (.inl fGS))), (bGG, .inl ((cs 0), 4, .inl fGG)), (bES, .inl ((cs 1), 4, .inr (.inl fES))), (bEG, .inl ((cs 0), 4, .inl fEG))] H := hP
  have hD : va_D A [(pa, .inr (1, [.int zSl, .ref bLG, .ref bLS, .int zLy, .int zGr, .int (zTk + 1), .int zGt, .int (tkG zSl zTk fLG zLy 20 0 0), .ref bLt, .ref bGS, .ref bGG, .ref bES, .ref bEG])), (bLG, .inl ((cs 0), 20, .inl fLG)), (bLS, .inl ((cs 0), 80, .inl fLS)), (bLt, .inl ((cs 1), 4, .inr (.inl (tkS zSl zTk fLG fLS zLy 20 0 (cl4 fLt))))), (bGS, .inl ((cs 1), 4, .inr (.inl fGS))), (bGG, .inl ((cs 0), 4, .inl fGG)), (bES, .inl ((cs 1), 4, .inr (.inl fES))), (bEG, .inl ((cs 0), 4, .inl fEG))] := hD
  refine lv_aload_n hx hb d_PI_takeNext_41 rfl (lv_at hl 0 rfl) ?_
  refine lv_dup hx hb d_PI_takeNext_42 rfl ?_
  refine va_get (D := (dC, dI)) (ci := 1) (v := .int zGt) (C := R_PI) (T := F_PI) (N := 13) hx hb hG i_PI hown hK hP 0 rfl rfl 6 (by decide) (hG _ vq_t62) (fun _ h9 => h9) rfl d_PI_takeNext_43 ?_
  refine lv_aload_n hx hb d_PI_takeNext_46 rfl (lv_at hl 0 rfl) ?_
  refine va_get (D := (dC, dI)) (ci := 1) (v := .int (tkG zSl zTk fLG zLy 20 0 0)) (C := R_PI) (T := F_PI) (N := 13) hx hb hG i_PI hown hK hP 0 rfl rfl 7 (by decide) (hG _ vq_t64) (fun _ h9 => h9) rfl d_PI_takeNext_47 ?_
  refine lv_iadd hx hb d_PI_takeNext_50 ?_
  refine va_put (D := (dC, dI)) (ci := 1) (v := .int (zGt + (tkG zSl zTk fLG zLy 20 0 0))) (ty := .int) (C := R_PI) (T := F_PI) (N := 13) hx hb hG i_PI t_PI t_PI_ok n_PI hown hK hP hD hS 0 rfl rfl 6 (by decide) (hG _ vq_t62) (fun _ h9 => h9) rfl (by decide +kernel) rfl rfl (Nat.le_of_ble_eq_true rfl) d_PI_takeNext_51 (fun H locs hP hD hS => ?_)
  have hP : va_P (dC, dI) vq_cl [(pa, .inr (1, [.int zSl, .ref bLG, .ref bLS, .int zLy, .int zGr, .int (zTk + 1), .int (zGt + (tkG zSl zTk fLG zLy 20 0 0)), .int (tkG zSl zTk fLG zLy 20 0 0), .ref bLt, .ref bGS, .ref bGG, .ref bES, .ref bEG])), (bLG, .inl ((cs 0), 20, .inl fLG)), (bLS, .inl ((cs 0), 80, .inl fLS)), (bLt, .inl ((cs 1), 4, .inr (.inl (tkS zSl zTk fLG fLS zLy 20 0 (cl4 fLt))))), (bGS, .inl ((cs 1), 4, .inr (.inl fGS))), (bGG, .inl ((cs 0), 4, .inl fGG)), (bES, .inl ((cs 1), 4, .inr (.inl fES))), (bEG, .inl ((cs 0), 4, .inl fEG))] H := hP
  have hD : va_D A [(pa, .inr (1, [.int zSl, .ref bLG, .ref bLS, .int zLy, .int zGr, .int (zTk + 1), .int (zGt + (tkG zSl zTk fLG zLy 20 0 0)), .int (tkG zSl zTk fLG zLy 20 0 0), .ref bLt, .ref bGS, .ref bGG, .ref bES, .ref bEG])), (bLG, .inl ((cs 0), 20, .inl fLG)), (bLS, .inl ((cs 0), 80, .inl fLS)), (bLt, .inl ((cs 1), 4, .inr (.inl (tkS zSl zTk fLG fLS zLy 20 0 (cl4 fLt))))), (bGS, .inl ((cs 1), 4, .inr (.inl fGS))), (bGG, .inl ((cs 0), 4, .inl fGG)), (bES, .inl ((cs 1), 4, .inr (.inl fES))), (bEG, .inl ((cs 0), 4, .inl fEG))] := hD
  refine lv_aload_n hx hb d_PI_takeNext_54 rfl (lv_at hl 0 rfl) ?_
  refine va_get (D := (dC, dI)) (ci := 1) (v := .int (tkG zSl zTk fLG zLy 20 0 0)) (C := R_PI) (T := F_PI) (N := 13) hx hb hG i_PI hown hK hP 0 rfl rfl 7 (by decide) (hG _ vq_t64) (fun _ h9 => h9) rfl d_PI_takeNext_55 ?_
  refine lv_if_le (tgt := 84) hx hb d_PI_takeNext_58 (by decide) (fun c_58 => ?_) (fun c_58 => ?_)
  · skip
    refine W.widen (k := 0) (n := 0) (Nat.le_of_ble_eq_true rfl) (Nat.le_of_ble_eq_true rfl) ?_
    have hP9 : va_P (dC, dI) vq_cl [(pa, .inr (1, [.int zSl, .ref bLG, .ref bLS, .int zLy, .int zGr, .int (zTk + 1), .int (zGt + (tkG zSl zTk fLG zLy 20 0 0)), .int (tkG zSl zTk fLG zLy 20 0 0), .ref bLt, .ref bGS, .ref bGG, .ref bES, .ref bEG])), (bLG, .inl ((cs 0), 20, .inl fLG)), (bLS, .inl ((cs 0), 80, .inl fLS)), (bLt, .inl ((cs 1), 4, .inr (.inl (tkS zSl zTk fLG fLS zLy 20 0 (cl4 fLt))))), (bGS, .inl ((cs 1), 4, .inr (.inl fGS))), (bGG, .inl ((cs 0), 4, .inl fGG)), (bES, .inl ((cs 1), 4, .inr (.inl fES))), (bEG, .inl ((cs 0), 4, .inl fEG))] _ := hP.sub [0, 1, 2, 3, 4, 5, 6, 7] rfl
    have hD9 : va_D A [(pa, .inr (1, [.int zSl, .ref bLG, .ref bLS, .int zLy, .int zGr, .int (zTk + 1), .int (zGt + (tkG zSl zTk fLG zLy 20 0 0)), .int (tkG zSl zTk fLG zLy 20 0 0), .ref bLt, .ref bGS, .ref bGG, .ref bES, .ref bEG])), (bLG, .inl ((cs 0), 20, .inl fLG)), (bLS, .inl ((cs 0), 80, .inl fLS)), (bLt, .inl ((cs 1), 4, .inr (.inl (tkS zSl zTk fLG fLS zLy 20 0 (cl4 fLt))))), (bGS, .inl ((cs 1), 4, .inr (.inl fGS))), (bGG, .inl ((cs 0), 4, .inl fGG)), (bES, .inl ((cs 1), 4, .inr (.inl fES))), (bEG, .inl ((cs 0), 4, .inl fEG))] := hD.sub [0, 1, 2, 3, 4, 5, 6, 7] (by decide) rfl
    have e9 : ([(pa, .inr (1, [.int zSl, .ref bLG, .ref bLS, .int zLy, .int zGr, .int (zTk + 1), .int (zGt + (tkG zSl zTk fLG zLy 20 0 0)), .int (tkG zSl zTk fLG zLy 20 0 0), .ref bLt, .ref bGS, .ref bGG, .ref bES, .ref bEG])), (bLG, .inl ((cs 0), 20, .inl fLG)), (bLS, .inl ((cs 0), 80, .inl fLS)), (bLt, .inl ((cs 1), 4, .inr (.inl (tkS zSl zTk fLG fLS zLy 20 0 (cl4 fLt))))), (bGS, .inl ((cs 1), 4, .inr (.inl ((tnG (tkG zSl zTk fLG zLy 20 0 0) (tkS zSl zTk fLG fLS zLy 20 0 (cl4 fLt)) (fGS, fGG)).1)))), (bGG, .inl ((cs 0), 4, .inl ((tnG (tkG zSl zTk fLG zLy 20 0 0) (tkS zSl zTk fLG fLS zLy 20 0 (cl4 fLt)) (fGS, fGG)).2))), (bES, .inl ((cs 1), 4, .inr (.inl ((tnE (tkG zSl zTk fLG zLy 20 0 0) (tkS zSl zTk fLG fLS zLy 20 0 (cl4 fLt)) (fES, fEG)).1)))), (bEG, .inl ((cs 0), 4, .inl ((tnE (tkG zSl zTk fLG zLy 20 0 0) (tkS zSl zTk fLG fLS zLy 20 0 (cl4 fLt)) (fES, fEG)).2)))] : va_W) = [(pa, .inr (1, [.int zSl, .ref bLG, .ref bLS, .int zLy, .int zGr, .int (zTk + 1), .int (zGt + (tkG zSl zTk fLG zLy 20 0 0)), .int (tkG zSl zTk fLG zLy 20 0 0), .ref bLt, .ref bGS, .ref bGG, .ref bES, .ref bEG])), (bLG, .inl ((cs 0), 20, .inl fLG)), (bLS, .inl ((cs 0), 80, .inl fLS)), (bLt, .inl ((cs 1), 4, .inr (.inl (tkS zSl zTk fLG fLS zLy 20 0 (cl4 fLt))))), (bGS, .inl ((cs 1), 4, .inr (.inl fGS))), (bGG, .inl ((cs 0), 4, .inl fGG)), (bES, .inl ((cs 1), 4, .inr (.inl fES))), (bEG, .inl ((cs 0), 4, .inl fEG))] := by simp only [tnG, tnE, if_pos c_58]
    rw [← e9] at hP9 hD9
    exact W.vret hx hb hr (fun t ht hW => ⟨⟨(), rfl, trivial, ⟨by rw [ht]; exact hP9, hD9⟩⟩, hS.F ht⟩) hS.2.2 d_PI_takeNext_84
  · skip
    refine lv_iconst (v := 0) hx hb d_PI_takeNext_61 (by decide) ?_
    refine lv_istore_n (lv' := [(1, .int 0), (0, .ref pa)]) hx hb d_PI_takeNext_62 rfl hl (by decide) rfl (fun ls hl => ?_)
    refine lv_iload_n hx hb d_PI_takeNext_63 rfl (lv_at hl 0 rfl) ?_
    refine lv_iconst (v := 4) hx hb d_PI_takeNext_64 (by decide) ?_
    refine lv_icmp_ge (tgt := 84) hx hb d_PI_takeNext_65 (by decide) (fun c_65 => ?_) (fun c_65 => ?_)
    · skip
      exact absurd c_65 (by decide)
    · skip
      refine lv_aload_n hx hb d_PI_takeNext_68 rfl (lv_at hl 1 rfl) ?_
      refine lv_iload_n hx hb d_PI_takeNext_69 rfl (lv_at hl 0 rfl) ?_
      refine mk_wv (va_runV (As := [.int 0]) (rest := []) ⟨hx, hb, hml, hown, hG⟩ (c_noteGreatest l dC dI cs _ pa bLG bLS bLt bGS bGG bES bEG zSl zLy zGr (zTk + 1) (zGt + (tkG zSl zTk fLG zLy 20 0 0)) (tkG zSl zTk fLG zLy 20 0 0) (tkS zSl zTk fLG fLS zLy 20 0 (cl4 fLt)) fGS fGG 0 (⟨by decide, by decide⟩)) (cwV 1 hG (vq_gV vq_t352 vq_t354 vq_s6 vq_t3 vq_t355) rfl rfl rfl (by decide +kernel) ⟨Nat.le_of_ble_eq_true rfl, Nat.le_of_ble_eq_true rfl⟩) (vq_preVw (wc := [(pa, .inr (1, [.int zSl, .ref bLG, .ref bLS, .int zLy, .int zGr, .int (zTk + 1), .int (zGt + (tkG zSl zTk fLG zLy 20 0 0)), .int (tkG zSl zTk fLG zLy 20 0 0), .ref bLt, .ref bGS, .ref bGG, .ref bES, .ref bEG])), (bLt, .inl ((cs 1), 4, .inr (.inl (tkS zSl zTk fLG fLS zLy 20 0 (cl4 fLt))))), (bGS, .inl ((cs 1), 4, .inr (.inl fGS))), (bGG, .inl ((cs 0), 4, .inl fGG))]) (va_recv hK hP (ci := 1) (q0 := 0) rfl rfl) hCx hP hD hS hA [0, 3, 4, 5] rfl rfl (by decide)) rfl rfl hl.1 rfl (lv_room (Nat.le_of_ble_eq_true rfl)) d_PI_takeNext_70 ⟨Nat.le_of_ble_eq_true rfl, Nat.le_of_ble_eq_true rfl⟩) hP hD hS hA [0, 3, 4, 5] [1, 2, 6, 7] rfl rfl (by decide) (by decide) (fun _ H locs w_70 hP hD hS => ?_)
      have hP : va_P (dC, dI) vq_cl [(bLG, .inl ((cs 0), 20, .inl fLG)), (bLS, .inl ((cs 0), 80, .inl fLS)), (bES, .inl ((cs 1), 4, .inr (.inl fES))), (bEG, .inl ((cs 0), 4, .inl fEG)), (pa, .inr (1, [.int zSl, .ref bLG, .ref bLS, .int zLy, .int zGr, .int (zTk + 1), .int (zGt + (tkG zSl zTk fLG zLy 20 0 0)), .int (tkG zSl zTk fLG zLy 20 0 0), .ref bLt, .ref bGS, .ref bGG, .ref bES, .ref bEG])), (bLt, .inl ((cs 1), 4, .inr (.inl (tkS zSl zTk fLG fLS zLy 20 0 (cl4 fLt))))), (bGS, .inl ((cs 1), 4, .inr (.inl ((ngP (tkG zSl zTk fLG zLy 20 0 0) (tkS zSl zTk fLG fLS zLy 20 0 (cl4 fLt)) (fGS, fGG) 0).1)))), (bGG, .inl ((cs 0), 4, .inl ((ngP (tkG zSl zTk fLG zLy 20 0 0) (tkS zSl zTk fLG fLS zLy 20 0 (cl4 fLt)) (fGS, fGG) 0).2)))] H := hP
      have hD : va_D A [(bLG, .inl ((cs 0), 20, .inl fLG)), (bLS, .inl ((cs 0), 80, .inl fLS)), (bES, .inl ((cs 1), 4, .inr (.inl fES))), (bEG, .inl ((cs 0), 4, .inl fEG)), (pa, .inr (1, [.int zSl, .ref bLG, .ref bLS, .int zLy, .int zGr, .int (zTk + 1), .int (zGt + (tkG zSl zTk fLG zLy 20 0 0)), .int (tkG zSl zTk fLG zLy 20 0 0), .ref bLt, .ref bGS, .ref bGG, .ref bES, .ref bEG])), (bLt, .inl ((cs 1), 4, .inr (.inl (tkS zSl zTk fLG fLS zLy 20 0 (cl4 fLt))))), (bGS, .inl ((cs 1), 4, .inr (.inl ((ngP (tkG zSl zTk fLG zLy 20 0 0) (tkS zSl zTk fLG fLS zLy 20 0 (cl4 fLt)) (fGS, fGG) 0).1)))), (bGG, .inl ((cs 0), 4, .inl ((ngP (tkG zSl zTk fLG zLy 20 0 0) (tkS zSl zTk fLG fLS zLy 20 0 (cl4 fLt)) (fGS, fGG) 0).2)))] := hD
      refine lv_aload_n hx hb d_PI_takeNext_73 rfl (lv_at hl 1 rfl) ?_
      refine lv_iload_n hx hb d_PI_takeNext_74 rfl (lv_at hl 0 rfl) ?_
      refine mk_wv (va_runV (As := [.int 0]) (rest := []) ⟨hx, hb, hml, hown, hG⟩ (c_noteLeast l dC dI cs _ pa bLG bLS bLt bGS bGG bES bEG zSl zLy zGr (zTk + 1) (zGt + (tkG zSl zTk fLG zLy 20 0 0)) (tkG zSl zTk fLG zLy 20 0 0) (tkS zSl zTk fLG fLS zLy 20 0 (cl4 fLt)) fES fEG 0 (⟨by decide, by decide⟩)) (cwV 1 hG (vq_gV vq_t356 vq_t358 vq_s7 vq_t3 vq_t359) rfl rfl rfl (by decide +kernel) ⟨Nat.le_of_ble_eq_true rfl, Nat.le_of_ble_eq_true rfl⟩) (vq_preVw (wc := [(pa, .inr (1, [.int zSl, .ref bLG, .ref bLS, .int zLy, .int zGr, .int (zTk + 1), .int (zGt + (tkG zSl zTk fLG zLy 20 0 0)), .int (tkG zSl zTk fLG zLy 20 0 0), .ref bLt, .ref bGS, .ref bGG, .ref bES, .ref bEG])), (bLt, .inl ((cs 1), 4, .inr (.inl (tkS zSl zTk fLG fLS zLy 20 0 (cl4 fLt))))), (bES, .inl ((cs 1), 4, .inr (.inl fES))), (bEG, .inl ((cs 0), 4, .inl fEG))]) (va_recv hK hP (ci := 1) (q0 := 4) rfl rfl) hCx hP hD hS hA [4, 5, 2, 3] rfl rfl (by decide)) rfl rfl hl.1 rfl (lv_room (Nat.le_of_ble_eq_true rfl)) d_PI_takeNext_75 ⟨Nat.le_of_ble_eq_true rfl, Nat.le_of_ble_eq_true rfl⟩) hP hD hS hA [4, 5, 2, 3] [0, 1, 6, 7] rfl rfl (by decide) (by decide) (fun _ H locs w_75 hP hD hS => ?_)
      have hP : va_P (dC, dI) vq_cl [(bLG, .inl ((cs 0), 20, .inl fLG)), (bLS, .inl ((cs 0), 80, .inl fLS)), (bGS, .inl ((cs 1), 4, .inr (.inl ((ngP (tkG zSl zTk fLG zLy 20 0 0) (tkS zSl zTk fLG fLS zLy 20 0 (cl4 fLt)) (fGS, fGG) 0).1)))), (bGG, .inl ((cs 0), 4, .inl ((ngP (tkG zSl zTk fLG zLy 20 0 0) (tkS zSl zTk fLG fLS zLy 20 0 (cl4 fLt)) (fGS, fGG) 0).2))), (pa, .inr (1, [.int zSl, .ref bLG, .ref bLS, .int zLy, .int zGr, .int (zTk + 1), .int (zGt + (tkG zSl zTk fLG zLy 20 0 0)), .int (tkG zSl zTk fLG zLy 20 0 0), .ref bLt, .ref bGS, .ref bGG, .ref bES, .ref bEG])), (bLt, .inl ((cs 1), 4, .inr (.inl (tkS zSl zTk fLG fLS zLy 20 0 (cl4 fLt))))), (bES, .inl ((cs 1), 4, .inr (.inl ((neP (tkG zSl zTk fLG zLy 20 0 0) (tkS zSl zTk fLG fLS zLy 20 0 (cl4 fLt)) (fES, fEG) 0).1)))), (bEG, .inl ((cs 0), 4, .inl ((neP (tkG zSl zTk fLG zLy 20 0 0) (tkS zSl zTk fLG fLS zLy 20 0 (cl4 fLt)) (fES, fEG) 0).2)))] H := hP
      have hD : va_D A [(bLG, .inl ((cs 0), 20, .inl fLG)), (bLS, .inl ((cs 0), 80, .inl fLS)), (bGS, .inl ((cs 1), 4, .inr (.inl ((ngP (tkG zSl zTk fLG zLy 20 0 0) (tkS zSl zTk fLG fLS zLy 20 0 (cl4 fLt)) (fGS, fGG) 0).1)))), (bGG, .inl ((cs 0), 4, .inl ((ngP (tkG zSl zTk fLG zLy 20 0 0) (tkS zSl zTk fLG fLS zLy 20 0 (cl4 fLt)) (fGS, fGG) 0).2))), (pa, .inr (1, [.int zSl, .ref bLG, .ref bLS, .int zLy, .int zGr, .int (zTk + 1), .int (zGt + (tkG zSl zTk fLG zLy 20 0 0)), .int (tkG zSl zTk fLG zLy 20 0 0), .ref bLt, .ref bGS, .ref bGG, .ref bES, .ref bEG])), (bLt, .inl ((cs 1), 4, .inr (.inl (tkS zSl zTk fLG fLS zLy 20 0 (cl4 fLt))))), (bES, .inl ((cs 1), 4, .inr (.inl ((neP (tkG zSl zTk fLG zLy 20 0 0) (tkS zSl zTk fLG fLS zLy 20 0 (cl4 fLt)) (fES, fEG) 0).1)))), (bEG, .inl ((cs 0), 4, .inl ((neP (tkG zSl zTk fLG zLy 20 0 0) (tkS zSl zTk fLG fLS zLy 20 0 (cl4 fLt)) (fES, fEG) 0).2)))] := hD
      refine lv_iinc (v := 1) (lv' := [(1, .int 1), (0, .ref pa)]) hx hb d_PI_takeNext_78 hl (k := 0) rfl (by decide) (by decide) rfl (fun ls hl => ?_)
      refine lv_goto (tgt := 63) hx hb d_PI_takeNext_81 (by decide) ?_
      refine lv_iload_n hx hb d_PI_takeNext_63 rfl (lv_at hl 0 rfl) ?_
      refine lv_iconst (v := 4) hx hb d_PI_takeNext_64 (by decide) ?_
      refine lv_icmp_ge (tgt := 84) hx hb d_PI_takeNext_65 (by decide) (fun c_65 => ?_) (fun c_65 => ?_)
      · skip
        exact absurd c_65 (by decide)
      · skip
        refine lv_aload_n hx hb d_PI_takeNext_68 rfl (lv_at hl 1 rfl) ?_
        refine lv_iload_n hx hb d_PI_takeNext_69 rfl (lv_at hl 0 rfl) ?_
        refine mk_wv (va_runV (As := [.int 1]) (rest := []) ⟨hx, hb, hml, hown, hG⟩ (c_noteGreatest l dC dI cs _ pa bLG bLS bLt bGS bGG bES bEG zSl zLy zGr (zTk + 1) (zGt + (tkG zSl zTk fLG zLy 20 0 0)) (tkG zSl zTk fLG zLy 20 0 0) (tkS zSl zTk fLG fLS zLy 20 0 (cl4 fLt)) ((ngP (tkG zSl zTk fLG zLy 20 0 0) (tkS zSl zTk fLG fLS zLy 20 0 (cl4 fLt)) (fGS, fGG) 0).1) ((ngP (tkG zSl zTk fLG zLy 20 0 0) (tkS zSl zTk fLG fLS zLy 20 0 (cl4 fLt)) (fGS, fGG) 0).2) 1 (⟨by decide, by decide⟩)) (cwV 1 hG (vq_gV vq_t352 vq_t354 vq_s6 vq_t3 vq_t355) rfl rfl rfl (by decide +kernel) ⟨Nat.le_of_ble_eq_true rfl, Nat.le_of_ble_eq_true rfl⟩) (vq_preVw (wc := [(pa, .inr (1, [.int zSl, .ref bLG, .ref bLS, .int zLy, .int zGr, .int (zTk + 1), .int (zGt + (tkG zSl zTk fLG zLy 20 0 0)), .int (tkG zSl zTk fLG zLy 20 0 0), .ref bLt, .ref bGS, .ref bGG, .ref bES, .ref bEG])), (bLt, .inl ((cs 1), 4, .inr (.inl (tkS zSl zTk fLG fLS zLy 20 0 (cl4 fLt))))), (bGS, .inl ((cs 1), 4, .inr (.inl ((ngP (tkG zSl zTk fLG zLy 20 0 0) (tkS zSl zTk fLG fLS zLy 20 0 (cl4 fLt)) (fGS, fGG) 0).1)))), (bGG, .inl ((cs 0), 4, .inl ((ngP (tkG zSl zTk fLG zLy 20 0 0) (tkS zSl zTk fLG fLS zLy 20 0 (cl4 fLt)) (fGS, fGG) 0).2)))]) (va_recv hK hP (ci := 1) (q0 := 4) rfl rfl) hCx hP hD hS hA [4, 5, 2, 3] rfl rfl (by decide)) rfl rfl hl.1 rfl (lv_room (Nat.le_of_ble_eq_true rfl)) d_PI_takeNext_70 ⟨Nat.le_of_ble_eq_true rfl, Nat.le_of_ble_eq_true rfl⟩) hP hD hS hA [4, 5, 2, 3] [0, 1, 6, 7] rfl rfl (by decide) (by decide) (fun _ H locs w_70 hP hD hS => ?_)
        have hP : va_P (dC, dI) vq_cl [(bLG, .inl ((cs 0), 20, .inl fLG)), (bLS, .inl ((cs 0), 80, .inl fLS)), (bES, .inl ((cs 1), 4, .inr (.inl ((neP (tkG zSl zTk fLG zLy 20 0 0) (tkS zSl zTk fLG fLS zLy 20 0 (cl4 fLt)) (fES, fEG) 0).1)))), (bEG, .inl ((cs 0), 4, .inl ((neP (tkG zSl zTk fLG zLy 20 0 0) (tkS zSl zTk fLG fLS zLy 20 0 (cl4 fLt)) (fES, fEG) 0).2))), (pa, .inr (1, [.int zSl, .ref bLG, .ref bLS, .int zLy, .int zGr, .int (zTk + 1), .int (zGt + (tkG zSl zTk fLG zLy 20 0 0)), .int (tkG zSl zTk fLG zLy 20 0 0), .ref bLt, .ref bGS, .ref bGG, .ref bES, .ref bEG])), (bLt, .inl ((cs 1), 4, .inr (.inl (tkS zSl zTk fLG fLS zLy 20 0 (cl4 fLt))))), (bGS, .inl ((cs 1), 4, .inr (.inl ((ngP (tkG zSl zTk fLG zLy 20 0 0) (tkS zSl zTk fLG fLS zLy 20 0 (cl4 fLt)) (ngP (tkG zSl zTk fLG zLy 20 0 0) (tkS zSl zTk fLG fLS zLy 20 0 (cl4 fLt)) (fGS, fGG) 0) 1).1)))), (bGG, .inl ((cs 0), 4, .inl ((ngP (tkG zSl zTk fLG zLy 20 0 0) (tkS zSl zTk fLG fLS zLy 20 0 (cl4 fLt)) (ngP (tkG zSl zTk fLG zLy 20 0 0) (tkS zSl zTk fLG fLS zLy 20 0 (cl4 fLt)) (fGS, fGG) 0) 1).2)))] H := hP
        have hD : va_D A [(bLG, .inl ((cs 0), 20, .inl fLG)), (bLS, .inl ((cs 0), 80, .inl fLS)), (bES, .inl ((cs 1), 4, .inr (.inl ((neP (tkG zSl zTk fLG zLy 20 0 0) (tkS zSl zTk fLG fLS zLy 20 0 (cl4 fLt)) (fES, fEG) 0).1)))), (bEG, .inl ((cs 0), 4, .inl ((neP (tkG zSl zTk fLG zLy 20 0 0) (tkS zSl zTk fLG fLS zLy 20 0 (cl4 fLt)) (fES, fEG) 0).2))), (pa, .inr (1, [.int zSl, .ref bLG, .ref bLS, .int zLy, .int zGr, .int (zTk + 1), .int (zGt + (tkG zSl zTk fLG zLy 20 0 0)), .int (tkG zSl zTk fLG zLy 20 0 0), .ref bLt, .ref bGS, .ref bGG, .ref bES, .ref bEG])), (bLt, .inl ((cs 1), 4, .inr (.inl (tkS zSl zTk fLG fLS zLy 20 0 (cl4 fLt))))), (bGS, .inl ((cs 1), 4, .inr (.inl ((ngP (tkG zSl zTk fLG zLy 20 0 0) (tkS zSl zTk fLG fLS zLy 20 0 (cl4 fLt)) (ngP (tkG zSl zTk fLG zLy 20 0 0) (tkS zSl zTk fLG fLS zLy 20 0 (cl4 fLt)) (fGS, fGG) 0) 1).1)))), (bGG, .inl ((cs 0), 4, .inl ((ngP (tkG zSl zTk fLG zLy 20 0 0) (tkS zSl zTk fLG fLS zLy 20 0 (cl4 fLt)) (ngP (tkG zSl zTk fLG zLy 20 0 0) (tkS zSl zTk fLG fLS zLy 20 0 (cl4 fLt)) (fGS, fGG) 0) 1).2)))] := hD
        refine lv_aload_n hx hb d_PI_takeNext_73 rfl (lv_at hl 1 rfl) ?_
        refine lv_iload_n hx hb d_PI_takeNext_74 rfl (lv_at hl 0 rfl) ?_
        refine mk_wv (va_runV (As := [.int 1]) (rest := []) ⟨hx, hb, hml, hown, hG⟩ (c_noteLeast l dC dI cs _ pa bLG bLS bLt bGS bGG bES bEG zSl zLy zGr (zTk + 1) (zGt + (tkG zSl zTk fLG zLy 20 0 0)) (tkG zSl zTk fLG zLy 20 0 0) (tkS zSl zTk fLG fLS zLy 20 0 (cl4 fLt)) ((neP (tkG zSl zTk fLG zLy 20 0 0) (tkS zSl zTk fLG fLS zLy 20 0 (cl4 fLt)) (fES, fEG) 0).1) ((neP (tkG zSl zTk fLG zLy 20 0 0) (tkS zSl zTk fLG fLS zLy 20 0 (cl4 fLt)) (fES, fEG) 0).2) 1 (⟨by decide, by decide⟩)) (cwV 1 hG (vq_gV vq_t356 vq_t358 vq_s7 vq_t3 vq_t359) rfl rfl rfl (by decide +kernel) ⟨Nat.le_of_ble_eq_true rfl, Nat.le_of_ble_eq_true rfl⟩) (vq_preVw (wc := [(pa, .inr (1, [.int zSl, .ref bLG, .ref bLS, .int zLy, .int zGr, .int (zTk + 1), .int (zGt + (tkG zSl zTk fLG zLy 20 0 0)), .int (tkG zSl zTk fLG zLy 20 0 0), .ref bLt, .ref bGS, .ref bGG, .ref bES, .ref bEG])), (bLt, .inl ((cs 1), 4, .inr (.inl (tkS zSl zTk fLG fLS zLy 20 0 (cl4 fLt))))), (bES, .inl ((cs 1), 4, .inr (.inl ((neP (tkG zSl zTk fLG zLy 20 0 0) (tkS zSl zTk fLG fLS zLy 20 0 (cl4 fLt)) (fES, fEG) 0).1)))), (bEG, .inl ((cs 0), 4, .inl ((neP (tkG zSl zTk fLG zLy 20 0 0) (tkS zSl zTk fLG fLS zLy 20 0 (cl4 fLt)) (fES, fEG) 0).2)))]) (va_recv hK hP (ci := 1) (q0 := 4) rfl rfl) hCx hP hD hS hA [4, 5, 2, 3] rfl rfl (by decide)) rfl rfl hl.1 rfl (lv_room (Nat.le_of_ble_eq_true rfl)) d_PI_takeNext_75 ⟨Nat.le_of_ble_eq_true rfl, Nat.le_of_ble_eq_true rfl⟩) hP hD hS hA [4, 5, 2, 3] [0, 1, 6, 7] rfl rfl (by decide) (by decide) (fun _ H locs w_75 hP hD hS => ?_)
        have hP : va_P (dC, dI) vq_cl [(bLG, .inl ((cs 0), 20, .inl fLG)), (bLS, .inl ((cs 0), 80, .inl fLS)), (bGS, .inl ((cs 1), 4, .inr (.inl ((ngP (tkG zSl zTk fLG zLy 20 0 0) (tkS zSl zTk fLG fLS zLy 20 0 (cl4 fLt)) (ngP (tkG zSl zTk fLG zLy 20 0 0) (tkS zSl zTk fLG fLS zLy 20 0 (cl4 fLt)) (fGS, fGG) 0) 1).1)))), (bGG, .inl ((cs 0), 4, .inl ((ngP (tkG zSl zTk fLG zLy 20 0 0) (tkS zSl zTk fLG fLS zLy 20 0 (cl4 fLt)) (ngP (tkG zSl zTk fLG zLy 20 0 0) (tkS zSl zTk fLG fLS zLy 20 0 (cl4 fLt)) (fGS, fGG) 0) 1).2))), (pa, .inr (1, [.int zSl, .ref bLG, .ref bLS, .int zLy, .int zGr, .int (zTk + 1), .int (zGt + (tkG zSl zTk fLG zLy 20 0 0)), .int (tkG zSl zTk fLG zLy 20 0 0), .ref bLt, .ref bGS, .ref bGG, .ref bES, .ref bEG])), (bLt, .inl ((cs 1), 4, .inr (.inl (tkS zSl zTk fLG fLS zLy 20 0 (cl4 fLt))))), (bES, .inl ((cs 1), 4, .inr (.inl ((neP (tkG zSl zTk fLG zLy 20 0 0) (tkS zSl zTk fLG fLS zLy 20 0 (cl4 fLt)) (neP (tkG zSl zTk fLG zLy 20 0 0) (tkS zSl zTk fLG fLS zLy 20 0 (cl4 fLt)) (fES, fEG) 0) 1).1)))), (bEG, .inl ((cs 0), 4, .inl ((neP (tkG zSl zTk fLG zLy 20 0 0) (tkS zSl zTk fLG fLS zLy 20 0 (cl4 fLt)) (neP (tkG zSl zTk fLG zLy 20 0 0) (tkS zSl zTk fLG fLS zLy 20 0 (cl4 fLt)) (fES, fEG) 0) 1).2)))] H := hP
        have hD : va_D A [(bLG, .inl ((cs 0), 20, .inl fLG)), (bLS, .inl ((cs 0), 80, .inl fLS)), (bGS, .inl ((cs 1), 4, .inr (.inl ((ngP (tkG zSl zTk fLG zLy 20 0 0) (tkS zSl zTk fLG fLS zLy 20 0 (cl4 fLt)) (ngP (tkG zSl zTk fLG zLy 20 0 0) (tkS zSl zTk fLG fLS zLy 20 0 (cl4 fLt)) (fGS, fGG) 0) 1).1)))), (bGG, .inl ((cs 0), 4, .inl ((ngP (tkG zSl zTk fLG zLy 20 0 0) (tkS zSl zTk fLG fLS zLy 20 0 (cl4 fLt)) (ngP (tkG zSl zTk fLG zLy 20 0 0) (tkS zSl zTk fLG fLS zLy 20 0 (cl4 fLt)) (fGS, fGG) 0) 1).2))), (pa, .inr (1, [.int zSl, .ref bLG, .ref bLS, .int zLy, .int zGr, .int (zTk + 1), .int (zGt + (tkG zSl zTk fLG zLy 20 0 0)), .int (tkG zSl zTk fLG zLy 20 0 0), .ref bLt, .ref bGS, .ref bGG, .ref bES, .ref bEG])), (bLt, .inl ((cs 1), 4, .inr (.inl (tkS zSl zTk fLG fLS zLy 20 0 (cl4 fLt))))), (bES, .inl ((cs 1), 4, .inr (.inl ((neP (tkG zSl zTk fLG zLy 20 0 0) (tkS zSl zTk fLG fLS zLy 20 0 (cl4 fLt)) (neP (tkG zSl zTk fLG zLy 20 0 0) (tkS zSl zTk fLG fLS zLy 20 0 (cl4 fLt)) (fES, fEG) 0) 1).1)))), (bEG, .inl ((cs 0), 4, .inl ((neP (tkG zSl zTk fLG zLy 20 0 0) (tkS zSl zTk fLG fLS zLy 20 0 (cl4 fLt)) (neP (tkG zSl zTk fLG zLy 20 0 0) (tkS zSl zTk fLG fLS zLy 20 0 (cl4 fLt)) (fES, fEG) 0) 1).2)))] := hD
        refine lv_iinc (v := 2) (lv' := [(1, .int 2), (0, .ref pa)]) hx hb d_PI_takeNext_78 hl (k := 0) rfl (by decide) (by decide) rfl (fun ls hl => ?_)
        refine lv_goto (tgt := 63) hx hb d_PI_takeNext_81 (by decide) ?_
        refine lv_iload_n hx hb d_PI_takeNext_63 rfl (lv_at hl 0 rfl) ?_
        refine lv_iconst (v := 4) hx hb d_PI_takeNext_64 (by decide) ?_
        refine lv_icmp_ge (tgt := 84) hx hb d_PI_takeNext_65 (by decide) (fun c_65 => ?_) (fun c_65 => ?_)
        · skip
          exact absurd c_65 (by decide)
        · skip
          refine lv_aload_n hx hb d_PI_takeNext_68 rfl (lv_at hl 1 rfl) ?_
          refine lv_iload_n hx hb d_PI_takeNext_69 rfl (lv_at hl 0 rfl) ?_
          refine mk_wv (va_runV (As := [.int 2]) (rest := []) ⟨hx, hb, hml, hown, hG⟩ (c_noteGreatest l dC dI cs _ pa bLG bLS bLt bGS bGG bES bEG zSl zLy zGr (zTk + 1) (zGt + (tkG zSl zTk fLG zLy 20 0 0)) (tkG zSl zTk fLG zLy 20 0 0) (tkS zSl zTk fLG fLS zLy 20 0 (cl4 fLt)) ((ngP (tkG zSl zTk fLG zLy 20 0 0) (tkS zSl zTk fLG fLS zLy 20 0 (cl4 fLt)) (ngP (tkG zSl zTk fLG zLy 20 0 0) (tkS zSl zTk fLG fLS zLy 20 0 (cl4 fLt)) (fGS, fGG) 0) 1).1) ((ngP (tkG zSl zTk fLG zLy 20 0 0) (tkS zSl zTk fLG fLS zLy 20 0 (cl4 fLt)) (ngP (tkG zSl zTk fLG zLy 20 0 0) (tkS zSl zTk fLG fLS zLy 20 0 (cl4 fLt)) (fGS, fGG) 0) 1).2) 2 (⟨by decide, by decide⟩)) (cwV 1 hG (vq_gV vq_t352 vq_t354 vq_s6 vq_t3 vq_t355) rfl rfl rfl (by decide +kernel) ⟨Nat.le_of_ble_eq_true rfl, Nat.le_of_ble_eq_true rfl⟩) (vq_preVw (wc := [(pa, .inr (1, [.int zSl, .ref bLG, .ref bLS, .int zLy, .int zGr, .int (zTk + 1), .int (zGt + (tkG zSl zTk fLG zLy 20 0 0)), .int (tkG zSl zTk fLG zLy 20 0 0), .ref bLt, .ref bGS, .ref bGG, .ref bES, .ref bEG])), (bLt, .inl ((cs 1), 4, .inr (.inl (tkS zSl zTk fLG fLS zLy 20 0 (cl4 fLt))))), (bGS, .inl ((cs 1), 4, .inr (.inl ((ngP (tkG zSl zTk fLG zLy 20 0 0) (tkS zSl zTk fLG fLS zLy 20 0 (cl4 fLt)) (ngP (tkG zSl zTk fLG zLy 20 0 0) (tkS zSl zTk fLG fLS zLy 20 0 (cl4 fLt)) (fGS, fGG) 0) 1).1)))), (bGG, .inl ((cs 0), 4, .inl ((ngP (tkG zSl zTk fLG zLy 20 0 0) (tkS zSl zTk fLG fLS zLy 20 0 (cl4 fLt)) (ngP (tkG zSl zTk fLG zLy 20 0 0) (tkS zSl zTk fLG fLS zLy 20 0 (cl4 fLt)) (fGS, fGG) 0) 1).2)))]) (va_recv hK hP (ci := 1) (q0 := 4) rfl rfl) hCx hP hD hS hA [4, 5, 2, 3] rfl rfl (by decide)) rfl rfl hl.1 rfl (lv_room (Nat.le_of_ble_eq_true rfl)) d_PI_takeNext_70 ⟨Nat.le_of_ble_eq_true rfl, Nat.le_of_ble_eq_true rfl⟩) hP hD hS hA [4, 5, 2, 3] [0, 1, 6, 7] rfl rfl (by decide) (by decide) (fun _ H locs w_70 hP hD hS => ?_)
          have hP : va_P (dC, dI) vq_cl [(bLG, .inl ((cs 0), 20, .inl fLG)), (bLS, .inl ((cs 0), 80, .inl fLS)), (bES, .inl ((cs 1), 4, .inr (.inl ((neP (tkG zSl zTk fLG zLy 20 0 0) (tkS zSl zTk fLG fLS zLy 20 0 (cl4 fLt)) (neP (tkG zSl zTk fLG zLy 20 0 0) (tkS zSl zTk fLG fLS zLy 20 0 (cl4 fLt)) (fES, fEG) 0) 1).1)))), (bEG, .inl ((cs 0), 4, .inl ((neP (tkG zSl zTk fLG zLy 20 0 0) (tkS zSl zTk fLG fLS zLy 20 0 (cl4 fLt)) (neP (tkG zSl zTk fLG zLy 20 0 0) (tkS zSl zTk fLG fLS zLy 20 0 (cl4 fLt)) (fES, fEG) 0) 1).2))), (pa, .inr (1, [.int zSl, .ref bLG, .ref bLS, .int zLy, .int zGr, .int (zTk + 1), .int (zGt + (tkG zSl zTk fLG zLy 20 0 0)), .int (tkG zSl zTk fLG zLy 20 0 0), .ref bLt, .ref bGS, .ref bGG, .ref bES, .ref bEG])), (bLt, .inl ((cs 1), 4, .inr (.inl (tkS zSl zTk fLG fLS zLy 20 0 (cl4 fLt))))), (bGS, .inl ((cs 1), 4, .inr (.inl ((ngP (tkG zSl zTk fLG zLy 20 0 0) (tkS zSl zTk fLG fLS zLy 20 0 (cl4 fLt)) (ngP (tkG zSl zTk fLG zLy 20 0 0) (tkS zSl zTk fLG fLS zLy 20 0 (cl4 fLt)) (ngP (tkG zSl zTk fLG zLy 20 0 0) (tkS zSl zTk fLG fLS zLy 20 0 (cl4 fLt)) (fGS, fGG) 0) 1) 2).1)))), (bGG, .inl ((cs 0), 4, .inl ((ngP (tkG zSl zTk fLG zLy 20 0 0) (tkS zSl zTk fLG fLS zLy 20 0 (cl4 fLt)) (ngP (tkG zSl zTk fLG zLy 20 0 0) (tkS zSl zTk fLG fLS zLy 20 0 (cl4 fLt)) (ngP (tkG zSl zTk fLG zLy 20 0 0) (tkS zSl zTk fLG fLS zLy 20 0 (cl4 fLt)) (fGS, fGG) 0) 1) 2).2)))] H := hP
          have hD : va_D A [(bLG, .inl ((cs 0), 20, .inl fLG)), (bLS, .inl ((cs 0), 80, .inl fLS)), (bES, .inl ((cs 1), 4, .inr (.inl ((neP (tkG zSl zTk fLG zLy 20 0 0) (tkS zSl zTk fLG fLS zLy 20 0 (cl4 fLt)) (neP (tkG zSl zTk fLG zLy 20 0 0) (tkS zSl zTk fLG fLS zLy 20 0 (cl4 fLt)) (fES, fEG) 0) 1).1)))), (bEG, .inl ((cs 0), 4, .inl ((neP (tkG zSl zTk fLG zLy 20 0 0) (tkS zSl zTk fLG fLS zLy 20 0 (cl4 fLt)) (neP (tkG zSl zTk fLG zLy 20 0 0) (tkS zSl zTk fLG fLS zLy 20 0 (cl4 fLt)) (fES, fEG) 0) 1).2))), (pa, .inr (1, [.int zSl, .ref bLG, .ref bLS, .int zLy, .int zGr, .int (zTk + 1), .int (zGt + (tkG zSl zTk fLG zLy 20 0 0)), .int (tkG zSl zTk fLG zLy 20 0 0), .ref bLt, .ref bGS, .ref bGG, .ref bES, .ref bEG])), (bLt, .inl ((cs 1), 4, .inr (.inl (tkS zSl zTk fLG fLS zLy 20 0 (cl4 fLt))))), (bGS, .inl ((cs 1), 4, .inr (.inl ((ngP (tkG zSl zTk fLG zLy 20 0 0) (tkS zSl zTk fLG fLS zLy 20 0 (cl4 fLt)) (ngP (tkG zSl zTk fLG zLy 20 0 0) (tkS zSl zTk fLG fLS zLy 20 0 (cl4 fLt)) (ngP (tkG zSl zTk fLG zLy 20 0 0) (tkS zSl zTk fLG fLS zLy 20 0 (cl4 fLt)) (fGS, fGG) 0) 1) 2).1)))), (bGG, .inl ((cs 0), 4, .inl ((ngP (tkG zSl zTk fLG zLy 20 0 0) (tkS zSl zTk fLG fLS zLy 20 0 (cl4 fLt)) (ngP (tkG zSl zTk fLG zLy 20 0 0) (tkS zSl zTk fLG fLS zLy 20 0 (cl4 fLt)) (ngP (tkG zSl zTk fLG zLy 20 0 0) (tkS zSl zTk fLG fLS zLy 20 0 (cl4 fLt)) (fGS, fGG) 0) 1) 2).2)))] := hD
          refine lv_aload_n hx hb d_PI_takeNext_73 rfl (lv_at hl 1 rfl) ?_
          refine lv_iload_n hx hb d_PI_takeNext_74 rfl (lv_at hl 0 rfl) ?_
          refine mk_wv (va_runV (As := [.int 2]) (rest := []) ⟨hx, hb, hml, hown, hG⟩ (c_noteLeast l dC dI cs _ pa bLG bLS bLt bGS bGG bES bEG zSl zLy zGr (zTk + 1) (zGt + (tkG zSl zTk fLG zLy 20 0 0)) (tkG zSl zTk fLG zLy 20 0 0) (tkS zSl zTk fLG fLS zLy 20 0 (cl4 fLt)) ((neP (tkG zSl zTk fLG zLy 20 0 0) (tkS zSl zTk fLG fLS zLy 20 0 (cl4 fLt)) (neP (tkG zSl zTk fLG zLy 20 0 0) (tkS zSl zTk fLG fLS zLy 20 0 (cl4 fLt)) (fES, fEG) 0) 1).1) ((neP (tkG zSl zTk fLG zLy 20 0 0) (tkS zSl zTk fLG fLS zLy 20 0 (cl4 fLt)) (neP (tkG zSl zTk fLG zLy 20 0 0) (tkS zSl zTk fLG fLS zLy 20 0 (cl4 fLt)) (fES, fEG) 0) 1).2) 2 (⟨by decide, by decide⟩)) (cwV 1 hG (vq_gV vq_t356 vq_t358 vq_s7 vq_t3 vq_t359) rfl rfl rfl (by decide +kernel) ⟨Nat.le_of_ble_eq_true rfl, Nat.le_of_ble_eq_true rfl⟩) (vq_preVw (wc := [(pa, .inr (1, [.int zSl, .ref bLG, .ref bLS, .int zLy, .int zGr, .int (zTk + 1), .int (zGt + (tkG zSl zTk fLG zLy 20 0 0)), .int (tkG zSl zTk fLG zLy 20 0 0), .ref bLt, .ref bGS, .ref bGG, .ref bES, .ref bEG])), (bLt, .inl ((cs 1), 4, .inr (.inl (tkS zSl zTk fLG fLS zLy 20 0 (cl4 fLt))))), (bES, .inl ((cs 1), 4, .inr (.inl ((neP (tkG zSl zTk fLG zLy 20 0 0) (tkS zSl zTk fLG fLS zLy 20 0 (cl4 fLt)) (neP (tkG zSl zTk fLG zLy 20 0 0) (tkS zSl zTk fLG fLS zLy 20 0 (cl4 fLt)) (fES, fEG) 0) 1).1)))), (bEG, .inl ((cs 0), 4, .inl ((neP (tkG zSl zTk fLG zLy 20 0 0) (tkS zSl zTk fLG fLS zLy 20 0 (cl4 fLt)) (neP (tkG zSl zTk fLG zLy 20 0 0) (tkS zSl zTk fLG fLS zLy 20 0 (cl4 fLt)) (fES, fEG) 0) 1).2)))]) (va_recv hK hP (ci := 1) (q0 := 4) rfl rfl) hCx hP hD hS hA [4, 5, 2, 3] rfl rfl (by decide)) rfl rfl hl.1 rfl (lv_room (Nat.le_of_ble_eq_true rfl)) d_PI_takeNext_75 ⟨Nat.le_of_ble_eq_true rfl, Nat.le_of_ble_eq_true rfl⟩) hP hD hS hA [4, 5, 2, 3] [0, 1, 6, 7] rfl rfl (by decide) (by decide) (fun _ H locs w_75 hP hD hS => ?_)
          have hP : va_P (dC, dI) vq_cl [(bLG, .inl ((cs 0), 20, .inl fLG)), (bLS, .inl ((cs 0), 80, .inl fLS)), (bGS, .inl ((cs 1), 4, .inr (.inl ((ngP (tkG zSl zTk fLG zLy 20 0 0) (tkS zSl zTk fLG fLS zLy 20 0 (cl4 fLt)) (ngP (tkG zSl zTk fLG zLy 20 0 0) (tkS zSl zTk fLG fLS zLy 20 0 (cl4 fLt)) (ngP (tkG zSl zTk fLG zLy 20 0 0) (tkS zSl zTk fLG fLS zLy 20 0 (cl4 fLt)) (fGS, fGG) 0) 1) 2).1)))), (bGG, .inl ((cs 0), 4, .inl ((ngP (tkG zSl zTk fLG zLy 20 0 0) (tkS zSl zTk fLG fLS zLy 20 0 (cl4 fLt)) (ngP (tkG zSl zTk fLG zLy 20 0 0) (tkS zSl zTk fLG fLS zLy 20 0 (cl4 fLt)) (ngP (tkG zSl zTk fLG zLy 20 0 0) (tkS zSl zTk fLG fLS zLy 20 0 (cl4 fLt)) (fGS, fGG) 0) 1) 2).2))), (pa, .inr (1, [.int zSl, .ref bLG, .ref bLS, .int zLy, .int zGr, .int (zTk + 1), .int (zGt + (tkG zSl zTk fLG zLy 20 0 0)), .int (tkG zSl zTk fLG zLy 20 0 0), .ref bLt, .ref bGS, .ref bGG, .ref bES, .ref bEG])), (bLt, .inl ((cs 1), 4, .inr (.inl (tkS zSl zTk fLG fLS zLy 20 0 (cl4 fLt))))), (bES, .inl ((cs 1), 4, .inr (.inl ((neP (tkG zSl zTk fLG zLy 20 0 0) (tkS zSl zTk fLG fLS zLy 20 0 (cl4 fLt)) (neP (tkG zSl zTk fLG zLy 20 0 0) (tkS zSl zTk fLG fLS zLy 20 0 (cl4 fLt)) (neP (tkG zSl zTk fLG zLy 20 0 0) (tkS zSl zTk fLG fLS zLy 20 0 (cl4 fLt)) (fES, fEG) 0) 1) 2).1)))), (bEG, .inl ((cs 0), 4, .inl ((neP (tkG zSl zTk fLG zLy 20 0 0) (tkS zSl zTk fLG fLS zLy 20 0 (cl4 fLt)) (neP (tkG zSl zTk fLG zLy 20 0 0) (tkS zSl zTk fLG fLS zLy 20 0 (cl4 fLt)) (neP (tkG zSl zTk fLG zLy 20 0 0) (tkS zSl zTk fLG fLS zLy 20 0 (cl4 fLt)) (fES, fEG) 0) 1) 2).2)))] H := hP
          have hD : va_D A [(bLG, .inl ((cs 0), 20, .inl fLG)), (bLS, .inl ((cs 0), 80, .inl fLS)), (bGS, .inl ((cs 1), 4, .inr (.inl ((ngP (tkG zSl zTk fLG zLy 20 0 0) (tkS zSl zTk fLG fLS zLy 20 0 (cl4 fLt)) (ngP (tkG zSl zTk fLG zLy 20 0 0) (tkS zSl zTk fLG fLS zLy 20 0 (cl4 fLt)) (ngP (tkG zSl zTk fLG zLy 20 0 0) (tkS zSl zTk fLG fLS zLy 20 0 (cl4 fLt)) (fGS, fGG) 0) 1) 2).1)))), (bGG, .inl ((cs 0), 4, .inl ((ngP (tkG zSl zTk fLG zLy 20 0 0) (tkS zSl zTk fLG fLS zLy 20 0 (cl4 fLt)) (ngP (tkG zSl zTk fLG zLy 20 0 0) (tkS zSl zTk fLG fLS zLy 20 0 (cl4 fLt)) (ngP (tkG zSl zTk fLG zLy 20 0 0) (tkS zSl zTk fLG fLS zLy 20 0 (cl4 fLt)) (fGS, fGG) 0) 1) 2).2))), (pa, .inr (1, [.int zSl, .ref bLG, .ref bLS, .int zLy, .int zGr, .int (zTk + 1), .int (zGt + (tkG zSl zTk fLG zLy 20 0 0)), .int (tkG zSl zTk fLG zLy 20 0 0), .ref bLt, .ref bGS, .ref bGG, .ref bES, .ref bEG])), (bLt, .inl ((cs 1), 4, .inr (.inl (tkS zSl zTk fLG fLS zLy 20 0 (cl4 fLt))))), (bES, .inl ((cs 1), 4, .inr (.inl ((neP (tkG zSl zTk fLG zLy 20 0 0) (tkS zSl zTk fLG fLS zLy 20 0 (cl4 fLt)) (neP (tkG zSl zTk fLG zLy 20 0 0) (tkS zSl zTk fLG fLS zLy 20 0 (cl4 fLt)) (neP (tkG zSl zTk fLG zLy 20 0 0) (tkS zSl zTk fLG fLS zLy 20 0 (cl4 fLt)) (fES, fEG) 0) 1) 2).1)))), (bEG, .inl ((cs 0), 4, .inl ((neP (tkG zSl zTk fLG zLy 20 0 0) (tkS zSl zTk fLG fLS zLy 20 0 (cl4 fLt)) (neP (tkG zSl zTk fLG zLy 20 0 0) (tkS zSl zTk fLG fLS zLy 20 0 (cl4 fLt)) (neP (tkG zSl zTk fLG zLy 20 0 0) (tkS zSl zTk fLG fLS zLy 20 0 (cl4 fLt)) (fES, fEG) 0) 1) 2).2)))] := hD
          refine lv_iinc (v := 3) (lv' := [(1, .int 3), (0, .ref pa)]) hx hb d_PI_takeNext_78 hl (k := 0) rfl (by decide) (by decide) rfl (fun ls hl => ?_)
          refine lv_goto (tgt := 63) hx hb d_PI_takeNext_81 (by decide) ?_
          refine lv_iload_n hx hb d_PI_takeNext_63 rfl (lv_at hl 0 rfl) ?_
          refine lv_iconst (v := 4) hx hb d_PI_takeNext_64 (by decide) ?_
          refine lv_icmp_ge (tgt := 84) hx hb d_PI_takeNext_65 (by decide) (fun c_65 => ?_) (fun c_65 => ?_)
          · skip
            exact absurd c_65 (by decide)
          · skip
            refine lv_aload_n hx hb d_PI_takeNext_68 rfl (lv_at hl 1 rfl) ?_
            refine lv_iload_n hx hb d_PI_takeNext_69 rfl (lv_at hl 0 rfl) ?_
            refine mk_wv (va_runV (As := [.int 3]) (rest := []) ⟨hx, hb, hml, hown, hG⟩ (c_noteGreatest l dC dI cs _ pa bLG bLS bLt bGS bGG bES bEG zSl zLy zGr (zTk + 1) (zGt + (tkG zSl zTk fLG zLy 20 0 0)) (tkG zSl zTk fLG zLy 20 0 0) (tkS zSl zTk fLG fLS zLy 20 0 (cl4 fLt)) ((ngP (tkG zSl zTk fLG zLy 20 0 0) (tkS zSl zTk fLG fLS zLy 20 0 (cl4 fLt)) (ngP (tkG zSl zTk fLG zLy 20 0 0) (tkS zSl zTk fLG fLS zLy 20 0 (cl4 fLt)) (ngP (tkG zSl zTk fLG zLy 20 0 0) (tkS zSl zTk fLG fLS zLy 20 0 (cl4 fLt)) (fGS, fGG) 0) 1) 2).1) ((ngP (tkG zSl zTk fLG zLy 20 0 0) (tkS zSl zTk fLG fLS zLy 20 0 (cl4 fLt)) (ngP (tkG zSl zTk fLG zLy 20 0 0) (tkS zSl zTk fLG fLS zLy 20 0 (cl4 fLt)) (ngP (tkG zSl zTk fLG zLy 20 0 0) (tkS zSl zTk fLG fLS zLy 20 0 (cl4 fLt)) (fGS, fGG) 0) 1) 2).2) 3 (⟨by decide, by decide⟩)) (cwV 1 hG (vq_gV vq_t352 vq_t354 vq_s6 vq_t3 vq_t355) rfl rfl rfl (by decide +kernel) ⟨Nat.le_of_ble_eq_true rfl, Nat.le_of_ble_eq_true rfl⟩) (vq_preVw (wc := [(pa, .inr (1, [.int zSl, .ref bLG, .ref bLS, .int zLy, .int zGr, .int (zTk + 1), .int (zGt + (tkG zSl zTk fLG zLy 20 0 0)), .int (tkG zSl zTk fLG zLy 20 0 0), .ref bLt, .ref bGS, .ref bGG, .ref bES, .ref bEG])), (bLt, .inl ((cs 1), 4, .inr (.inl (tkS zSl zTk fLG fLS zLy 20 0 (cl4 fLt))))), (bGS, .inl ((cs 1), 4, .inr (.inl ((ngP (tkG zSl zTk fLG zLy 20 0 0) (tkS zSl zTk fLG fLS zLy 20 0 (cl4 fLt)) (ngP (tkG zSl zTk fLG zLy 20 0 0) (tkS zSl zTk fLG fLS zLy 20 0 (cl4 fLt)) (ngP (tkG zSl zTk fLG zLy 20 0 0) (tkS zSl zTk fLG fLS zLy 20 0 (cl4 fLt)) (fGS, fGG) 0) 1) 2).1)))), (bGG, .inl ((cs 0), 4, .inl ((ngP (tkG zSl zTk fLG zLy 20 0 0) (tkS zSl zTk fLG fLS zLy 20 0 (cl4 fLt)) (ngP (tkG zSl zTk fLG zLy 20 0 0) (tkS zSl zTk fLG fLS zLy 20 0 (cl4 fLt)) (ngP (tkG zSl zTk fLG zLy 20 0 0) (tkS zSl zTk fLG fLS zLy 20 0 (cl4 fLt)) (fGS, fGG) 0) 1) 2).2)))]) (va_recv hK hP (ci := 1) (q0 := 4) rfl rfl) hCx hP hD hS hA [4, 5, 2, 3] rfl rfl (by decide)) rfl rfl hl.1 rfl (lv_room (Nat.le_of_ble_eq_true rfl)) d_PI_takeNext_70 ⟨Nat.le_of_ble_eq_true rfl, Nat.le_of_ble_eq_true rfl⟩) hP hD hS hA [4, 5, 2, 3] [0, 1, 6, 7] rfl rfl (by decide) (by decide) (fun _ H locs w_70 hP hD hS => ?_)
            have hP : va_P (dC, dI) vq_cl [(bLG, .inl ((cs 0), 20, .inl fLG)), (bLS, .inl ((cs 0), 80, .inl fLS)), (bES, .inl ((cs 1), 4, .inr (.inl ((neP (tkG zSl zTk fLG zLy 20 0 0) (tkS zSl zTk fLG fLS zLy 20 0 (cl4 fLt)) (neP (tkG zSl zTk fLG zLy 20 0 0) (tkS zSl zTk fLG fLS zLy 20 0 (cl4 fLt)) (neP (tkG zSl zTk fLG zLy 20 0 0) (tkS zSl zTk fLG fLS zLy 20 0 (cl4 fLt)) (fES, fEG) 0) 1) 2).1)))), (bEG, .inl ((cs 0), 4, .inl ((neP (tkG zSl zTk fLG zLy 20 0 0) (tkS zSl zTk fLG fLS zLy 20 0 (cl4 fLt)) (neP (tkG zSl zTk fLG zLy 20 0 0) (tkS zSl zTk fLG fLS zLy 20 0 (cl4 fLt)) (neP (tkG zSl zTk fLG zLy 20 0 0) (tkS zSl zTk fLG fLS zLy 20 0 (cl4 fLt)) (fES, fEG) 0) 1) 2).2))), (pa, .inr (1, [.int zSl, .ref bLG, .ref bLS, .int zLy, .int zGr, .int (zTk + 1), .int (zGt + (tkG zSl zTk fLG zLy 20 0 0)), .int (tkG zSl zTk fLG zLy 20 0 0), .ref bLt, .ref bGS, .ref bGG, .ref bES, .ref bEG])), (bLt, .inl ((cs 1), 4, .inr (.inl (tkS zSl zTk fLG fLS zLy 20 0 (cl4 fLt))))), (bGS, .inl ((cs 1), 4, .inr (.inl ((ngP (tkG zSl zTk fLG zLy 20 0 0) (tkS zSl zTk fLG fLS zLy 20 0 (cl4 fLt)) (ngP (tkG zSl zTk fLG zLy 20 0 0) (tkS zSl zTk fLG fLS zLy 20 0 (cl4 fLt)) (ngP (tkG zSl zTk fLG zLy 20 0 0) (tkS zSl zTk fLG fLS zLy 20 0 (cl4 fLt)) (ngP (tkG zSl zTk fLG zLy 20 0 0) (tkS zSl zTk fLG fLS zLy 20 0 (cl4 fLt)) (fGS, fGG) 0) 1) 2) 3).1)))), (bGG, .inl ((cs 0), 4, .inl ((ngP (tkG zSl zTk fLG zLy 20 0 0) (tkS zSl zTk fLG fLS zLy 20 0 (cl4 fLt)) (ngP (tkG zSl zTk fLG zLy 20 0 0) (tkS zSl zTk fLG fLS zLy 20 0 (cl4 fLt)) (ngP (tkG zSl zTk fLG zLy 20 0 0) (tkS zSl zTk fLG fLS zLy 20 0 (cl4 fLt)) (ngP (tkG zSl zTk fLG zLy 20 0 0) (tkS zSl zTk fLG fLS zLy 20 0 (cl4 fLt)) (fGS, fGG) 0) 1) 2) 3).2)))] H := hP
            have hD : va_D A [(bLG, .inl ((cs 0), 20, .inl fLG)), (bLS, .inl ((cs 0), 80, .inl fLS)), (bES, .inl ((cs 1), 4, .inr (.inl ((neP (tkG zSl zTk fLG zLy 20 0 0) (tkS zSl zTk fLG fLS zLy 20 0 (cl4 fLt)) (neP (tkG zSl zTk fLG zLy 20 0 0) (tkS zSl zTk fLG fLS zLy 20 0 (cl4 fLt)) (neP (tkG zSl zTk fLG zLy 20 0 0) (tkS zSl zTk fLG fLS zLy 20 0 (cl4 fLt)) (fES, fEG) 0) 1) 2).1)))), (bEG, .inl ((cs 0), 4, .inl ((neP (tkG zSl zTk fLG zLy 20 0 0) (tkS zSl zTk fLG fLS zLy 20 0 (cl4 fLt)) (neP (tkG zSl zTk fLG zLy 20 0 0) (tkS zSl zTk fLG fLS zLy 20 0 (cl4 fLt)) (neP (tkG zSl zTk fLG zLy 20 0 0) (tkS zSl zTk fLG fLS zLy 20 0 (cl4 fLt)) (fES, fEG) 0) 1) 2).2))), (pa, .inr (1, [.int zSl, .ref bLG, .ref bLS, .int zLy, .int zGr, .int (zTk + 1), .int (zGt + (tkG zSl zTk fLG zLy 20 0 0)), .int (tkG zSl zTk fLG zLy 20 0 0), .ref bLt, .ref bGS, .ref bGG, .ref bES, .ref bEG])), (bLt, .inl ((cs 1), 4, .inr (.inl (tkS zSl zTk fLG fLS zLy 20 0 (cl4 fLt))))), (bGS, .inl ((cs 1), 4, .inr (.inl ((ngP (tkG zSl zTk fLG zLy 20 0 0) (tkS zSl zTk fLG fLS zLy 20 0 (cl4 fLt)) (ngP (tkG zSl zTk fLG zLy 20 0 0) (tkS zSl zTk fLG fLS zLy 20 0 (cl4 fLt)) (ngP (tkG zSl zTk fLG zLy 20 0 0) (tkS zSl zTk fLG fLS zLy 20 0 (cl4 fLt)) (ngP (tkG zSl zTk fLG zLy 20 0 0) (tkS zSl zTk fLG fLS zLy 20 0 (cl4 fLt)) (fGS, fGG) 0) 1) 2) 3).1)))), (bGG, .inl ((cs 0), 4, .inl ((ngP (tkG zSl zTk fLG zLy 20 0 0) (tkS zSl zTk fLG fLS zLy 20 0 (cl4 fLt)) (ngP (tkG zSl zTk fLG zLy 20 0 0) (tkS zSl zTk fLG fLS zLy 20 0 (cl4 fLt)) (ngP (tkG zSl zTk fLG zLy 20 0 0) (tkS zSl zTk fLG fLS zLy 20 0 (cl4 fLt)) (ngP (tkG zSl zTk fLG zLy 20 0 0) (tkS zSl zTk fLG fLS zLy 20 0 (cl4 fLt)) (fGS, fGG) 0) 1) 2) 3).2)))] := hD
            refine lv_aload_n hx hb d_PI_takeNext_73 rfl (lv_at hl 1 rfl) ?_
            refine lv_iload_n hx hb d_PI_takeNext_74 rfl (lv_at hl 0 rfl) ?_
            refine mk_wv (va_runV (As := [.int 3]) (rest := []) ⟨hx, hb, hml, hown, hG⟩ (c_noteLeast l dC dI cs _ pa bLG bLS bLt bGS bGG bES bEG zSl zLy zGr (zTk + 1) (zGt + (tkG zSl zTk fLG zLy 20 0 0)) (tkG zSl zTk fLG zLy 20 0 0) (tkS zSl zTk fLG fLS zLy 20 0 (cl4 fLt)) ((neP (tkG zSl zTk fLG zLy 20 0 0) (tkS zSl zTk fLG fLS zLy 20 0 (cl4 fLt)) (neP (tkG zSl zTk fLG zLy 20 0 0) (tkS zSl zTk fLG fLS zLy 20 0 (cl4 fLt)) (neP (tkG zSl zTk fLG zLy 20 0 0) (tkS zSl zTk fLG fLS zLy 20 0 (cl4 fLt)) (fES, fEG) 0) 1) 2).1) ((neP (tkG zSl zTk fLG zLy 20 0 0) (tkS zSl zTk fLG fLS zLy 20 0 (cl4 fLt)) (neP (tkG zSl zTk fLG zLy 20 0 0) (tkS zSl zTk fLG fLS zLy 20 0 (cl4 fLt)) (neP (tkG zSl zTk fLG zLy 20 0 0) (tkS zSl zTk fLG fLS zLy 20 0 (cl4 fLt)) (fES, fEG) 0) 1) 2).2) 3 (⟨by decide, by decide⟩)) (cwV 1 hG (vq_gV vq_t356 vq_t358 vq_s7 vq_t3 vq_t359) rfl rfl rfl (by decide +kernel) ⟨Nat.le_of_ble_eq_true rfl, Nat.le_of_ble_eq_true rfl⟩) (vq_preVw (wc := [(pa, .inr (1, [.int zSl, .ref bLG, .ref bLS, .int zLy, .int zGr, .int (zTk + 1), .int (zGt + (tkG zSl zTk fLG zLy 20 0 0)), .int (tkG zSl zTk fLG zLy 20 0 0), .ref bLt, .ref bGS, .ref bGG, .ref bES, .ref bEG])), (bLt, .inl ((cs 1), 4, .inr (.inl (tkS zSl zTk fLG fLS zLy 20 0 (cl4 fLt))))), (bES, .inl ((cs 1), 4, .inr (.inl ((neP (tkG zSl zTk fLG zLy 20 0 0) (tkS zSl zTk fLG fLS zLy 20 0 (cl4 fLt)) (neP (tkG zSl zTk fLG zLy 20 0 0) (tkS zSl zTk fLG fLS zLy 20 0 (cl4 fLt)) (neP (tkG zSl zTk fLG zLy 20 0 0) (tkS zSl zTk fLG fLS zLy 20 0 (cl4 fLt)) (fES, fEG) 0) 1) 2).1)))), (bEG, .inl ((cs 0), 4, .inl ((neP (tkG zSl zTk fLG zLy 20 0 0) (tkS zSl zTk fLG fLS zLy 20 0 (cl4 fLt)) (neP (tkG zSl zTk fLG zLy 20 0 0) (tkS zSl zTk fLG fLS zLy 20 0 (cl4 fLt)) (neP (tkG zSl zTk fLG zLy 20 0 0) (tkS zSl zTk fLG fLS zLy 20 0 (cl4 fLt)) (fES, fEG) 0) 1) 2).2)))]) (va_recv hK hP (ci := 1) (q0 := 4) rfl rfl) hCx hP hD hS hA [4, 5, 2, 3] rfl rfl (by decide)) rfl rfl hl.1 rfl (lv_room (Nat.le_of_ble_eq_true rfl)) d_PI_takeNext_75 ⟨Nat.le_of_ble_eq_true rfl, Nat.le_of_ble_eq_true rfl⟩) hP hD hS hA [4, 5, 2, 3] [0, 1, 6, 7] rfl rfl (by decide) (by decide) (fun _ H locs w_75 hP hD hS => ?_)
            have hP : va_P (dC, dI) vq_cl [(bLG, .inl ((cs 0), 20, .inl fLG)), (bLS, .inl ((cs 0), 80, .inl fLS)), (bGS, .inl ((cs 1), 4, .inr (.inl ((ngP (tkG zSl zTk fLG zLy 20 0 0) (tkS zSl zTk fLG fLS zLy 20 0 (cl4 fLt)) (ngP (tkG zSl zTk fLG zLy 20 0 0) (tkS zSl zTk fLG fLS zLy 20 0 (cl4 fLt)) (ngP (tkG zSl zTk fLG zLy 20 0 0) (tkS zSl zTk fLG fLS zLy 20 0 (cl4 fLt)) (ngP (tkG zSl zTk fLG zLy 20 0 0) (tkS zSl zTk fLG fLS zLy 20 0 (cl4 fLt)) (fGS, fGG) 0) 1) 2) 3).1)))), (bGG, .inl ((cs 0), 4, .inl ((ngP (tkG zSl zTk fLG zLy 20 0 0) (tkS zSl zTk fLG fLS zLy 20 0 (cl4 fLt)) (ngP (tkG zSl zTk fLG zLy 20 0 0) (tkS zSl zTk fLG fLS zLy 20 0 (cl4 fLt)) (ngP (tkG zSl zTk fLG zLy 20 0 0) (tkS zSl zTk fLG fLS zLy 20 0 (cl4 fLt)) (ngP (tkG zSl zTk fLG zLy 20 0 0) (tkS zSl zTk fLG fLS zLy 20 0 (cl4 fLt)) (fGS, fGG) 0) 1) 2) 3).2))), (pa, .inr (1, [.int zSl, .ref bLG, .ref bLS, .int zLy, .int zGr, .int (zTk + 1), .int (zGt + (tkG zSl zTk fLG zLy 20 0 0)), .int (tkG zSl zTk fLG zLy 20 0 0), .ref bLt, .ref bGS, .ref bGG, .ref bES, .ref bEG])), (bLt, .inl ((cs 1), 4, .inr (.inl (tkS zSl zTk fLG fLS zLy 20 0 (cl4 fLt))))), (bES, .inl ((cs 1), 4, .inr (.inl ((neP (tkG zSl zTk fLG zLy 20 0 0) (tkS zSl zTk fLG fLS zLy 20 0 (cl4 fLt)) (neP (tkG zSl zTk fLG zLy 20 0 0) (tkS zSl zTk fLG fLS zLy 20 0 (cl4 fLt)) (neP (tkG zSl zTk fLG zLy 20 0 0) (tkS zSl zTk fLG fLS zLy 20 0 (cl4 fLt)) (neP (tkG zSl zTk fLG zLy 20 0 0) (tkS zSl zTk fLG fLS zLy 20 0 (cl4 fLt)) (fES, fEG) 0) 1) 2) 3).1)))), (bEG, .inl ((cs 0), 4, .inl ((neP (tkG zSl zTk fLG zLy 20 0 0) (tkS zSl zTk fLG fLS zLy 20 0 (cl4 fLt)) (neP (tkG zSl zTk fLG zLy 20 0 0) (tkS zSl zTk fLG fLS zLy 20 0 (cl4 fLt)) (neP (tkG zSl zTk fLG zLy 20 0 0) (tkS zSl zTk fLG fLS zLy 20 0 (cl4 fLt)) (neP (tkG zSl zTk fLG zLy 20 0 0) (tkS zSl zTk fLG fLS zLy 20 0 (cl4 fLt)) (fES, fEG) 0) 1) 2) 3).2)))] H := hP
            have hD : va_D A [(bLG, .inl ((cs 0), 20, .inl fLG)), (bLS, .inl ((cs 0), 80, .inl fLS)), (bGS, .inl ((cs 1), 4, .inr (.inl ((ngP (tkG zSl zTk fLG zLy 20 0 0) (tkS zSl zTk fLG fLS zLy 20 0 (cl4 fLt)) (ngP (tkG zSl zTk fLG zLy 20 0 0) (tkS zSl zTk fLG fLS zLy 20 0 (cl4 fLt)) (ngP (tkG zSl zTk fLG zLy 20 0 0) (tkS zSl zTk fLG fLS zLy 20 0 (cl4 fLt)) (ngP (tkG zSl zTk fLG zLy 20 0 0) (tkS zSl zTk fLG fLS zLy 20 0 (cl4 fLt)) (fGS, fGG) 0) 1) 2) 3).1)))), (bGG, .inl ((cs 0), 4, .inl ((ngP (tkG zSl zTk fLG zLy 20 0 0) (tkS zSl zTk fLG fLS zLy 20 0 (cl4 fLt)) (ngP (tkG zSl zTk fLG zLy 20 0 0) (tkS zSl zTk fLG fLS zLy 20 0 (cl4 fLt)) (ngP (tkG zSl zTk fLG zLy 20 0 0) (tkS zSl zTk fLG fLS zLy 20 0 (cl4 fLt)) (ngP (tkG zSl zTk fLG zLy 20 0 0) (tkS zSl zTk fLG fLS zLy 20 0 (cl4 fLt)) (fGS, fGG) 0) 1) 2) 3).2))), (pa, .inr (1, [.int zSl, .ref bLG, .ref bLS, .int zLy, .int zGr, .int (zTk + 1), .int (zGt + (tkG zSl zTk fLG zLy 20 0 0)), .int (tkG zSl zTk fLG zLy 20 0 0), .ref bLt, .ref bGS, .ref bGG, .ref bES, .ref bEG])), (bLt, .inl ((cs 1), 4, .inr (.inl (tkS zSl zTk fLG fLS zLy 20 0 (cl4 fLt))))), (bES, .inl ((cs 1), 4, .inr (.inl ((neP (tkG zSl zTk fLG zLy 20 0 0) (tkS zSl zTk fLG fLS zLy 20 0 (cl4 fLt)) (neP (tkG zSl zTk fLG zLy 20 0 0) (tkS zSl zTk fLG fLS zLy 20 0 (cl4 fLt)) (neP (tkG zSl zTk fLG zLy 20 0 0) (tkS zSl zTk fLG fLS zLy 20 0 (cl4 fLt)) (neP (tkG zSl zTk fLG zLy 20 0 0) (tkS zSl zTk fLG fLS zLy 20 0 (cl4 fLt)) (fES, fEG) 0) 1) 2) 3).1)))), (bEG, .inl ((cs 0), 4, .inl ((neP (tkG zSl zTk fLG zLy 20 0 0) (tkS zSl zTk fLG fLS zLy 20 0 (cl4 fLt)) (neP (tkG zSl zTk fLG zLy 20 0 0) (tkS zSl zTk fLG fLS zLy 20 0 (cl4 fLt)) (neP (tkG zSl zTk fLG zLy 20 0 0) (tkS zSl zTk fLG fLS zLy 20 0 (cl4 fLt)) (neP (tkG zSl zTk fLG zLy 20 0 0) (tkS zSl zTk fLG fLS zLy 20 0 (cl4 fLt)) (fES, fEG) 0) 1) 2) 3).2)))] := hD
            refine lv_iinc (v := 4) (lv' := [(1, .int 4), (0, .ref pa)]) hx hb d_PI_takeNext_78 hl (k := 0) rfl (by decide) (by decide) rfl (fun ls hl => ?_)
            refine lv_goto (tgt := 63) hx hb d_PI_takeNext_81 (by decide) ?_
            refine lv_iload_n hx hb d_PI_takeNext_63 rfl (lv_at hl 0 rfl) ?_
            refine lv_iconst (v := 4) hx hb d_PI_takeNext_64 (by decide) ?_
            refine lv_icmp_ge (tgt := 84) hx hb d_PI_takeNext_65 (by decide) (fun c_65 => ?_) (fun c_65 => ?_)
            · skip
              refine W.widen (k := 0) (n := 0) (Nat.le_of_ble_eq_true rfl) (Nat.le_of_ble_eq_true rfl) ?_
              have hP9 : va_P (dC, dI) vq_cl [(pa, .inr (1, [.int zSl, .ref bLG, .ref bLS, .int zLy, .int zGr, .int (zTk + 1), .int (zGt + (tkG zSl zTk fLG zLy 20 0 0)), .int (tkG zSl zTk fLG zLy 20 0 0), .ref bLt, .ref bGS, .ref bGG, .ref bES, .ref bEG])), (bLG, .inl ((cs 0), 20, .inl fLG)), (bLS, .inl ((cs 0), 80, .inl fLS)), (bLt, .inl ((cs 1), 4, .inr (.inl (tkS zSl zTk fLG fLS zLy 20 0 (cl4 fLt))))), (bGS, .inl ((cs 1), 4, .inr (.inl ((ngP (tkG zSl zTk fLG zLy 20 0 0) (tkS zSl zTk fLG fLS zLy 20 0 (cl4 fLt)) (ngP (tkG zSl zTk fLG zLy 20 0 0) (tkS zSl zTk fLG fLS zLy 20 0 (cl4 fLt)) (ngP (tkG zSl zTk fLG zLy 20 0 0) (tkS zSl zTk fLG fLS zLy 20 0 (cl4 fLt)) (ngP (tkG zSl zTk fLG zLy 20 0 0) (tkS zSl zTk fLG fLS zLy 20 0 (cl4 fLt)) (fGS, fGG) 0) 1) 2) 3).1)))), (bGG, .inl ((cs 0), 4, .inl ((ngP (tkG zSl zTk fLG zLy 20 0 0) (tkS zSl zTk fLG fLS zLy 20 0 (cl4 fLt)) (ngP (tkG zSl zTk fLG zLy 20 0 0) (tkS zSl zTk fLG fLS zLy 20 0 (cl4 fLt)) (ngP (tkG zSl zTk fLG zLy 20 0 0) (tkS zSl zTk fLG fLS zLy 20 0 (cl4 fLt)) (ngP (tkG zSl zTk fLG zLy 20 0 0) (tkS zSl zTk fLG fLS zLy 20 0 (cl4 fLt)) (fGS, fGG) 0) 1) 2) 3).2))), (bES, .inl ((cs 1), 4, .inr (.inl ((neP (tkG zSl zTk fLG zLy 20 0 0) (tkS zSl zTk fLG fLS zLy 20 0 (cl4 fLt)) (neP (tkG zSl zTk fLG zLy 20 0 0) (tkS zSl zTk fLG fLS zLy 20 0 (cl4 fLt)) (neP (tkG zSl zTk fLG zLy 20 0 0) (tkS zSl zTk fLG fLS zLy 20 0 (cl4 fLt)) (neP (tkG zSl zTk fLG zLy 20 0 0) (tkS zSl zTk fLG fLS zLy 20 0 (cl4 fLt)) (fES, fEG) 0) 1) 2) 3).1)))), (bEG, .inl ((cs 0), 4, .inl ((neP (tkG zSl zTk fLG zLy 20 0 0) (tkS zSl zTk fLG fLS zLy 20 0 (cl4 fLt)) (neP (tkG zSl zTk fLG zLy 20 0 0) (tkS zSl zTk fLG fLS zLy 20 0 (cl4 fLt)) (neP (tkG zSl zTk fLG zLy 20 0 0) (tkS zSl zTk fLG fLS zLy 20 0 (cl4 fLt)) (neP (tkG zSl zTk fLG zLy 20 0 0) (tkS zSl zTk fLG fLS zLy 20 0 (cl4 fLt)) (fES, fEG) 0) 1) 2) 3).2)))] _ := hP.sub [4, 0, 1, 5, 2, 3, 6, 7] rfl
              have hD9 : va_D A [(pa, .inr (1, [.int zSl, .ref bLG, .ref bLS, .int zLy, .int zGr, .int (zTk + 1), .int (zGt + (tkG zSl zTk fLG zLy 20 0 0)), .int (tkG zSl zTk fLG zLy 20 0 0), .ref bLt, .ref bGS, .ref bGG, .ref bES, .ref bEG])), (bLG, .inl ((cs 0), 20, .inl fLG)), (bLS, .inl ((cs 0), 80, .inl fLS)), (bLt, .inl ((cs 1), 4, .inr (.inl (tkS zSl zTk fLG fLS zLy 20 0 (cl4 fLt))))), (bGS, .inl ((cs 1), 4, .inr (.inl ((ngP (tkG zSl zTk fLG zLy 20 0 0) (tkS zSl zTk fLG fLS zLy 20 0 (cl4 fLt)) (ngP (tkG zSl zTk fLG zLy 20 0 0) (tkS zSl zTk fLG fLS zLy 20 0 (cl4 fLt)) (ngP (tkG zSl zTk fLG zLy 20 0 0) (tkS zSl zTk fLG fLS zLy 20 0 (cl4 fLt)) (ngP (tkG zSl zTk fLG zLy 20 0 0) (tkS zSl zTk fLG fLS zLy 20 0 (cl4 fLt)) (fGS, fGG) 0) 1) 2) 3).1)))), (bGG, .inl ((cs 0), 4, .inl ((ngP (tkG zSl zTk fLG zLy 20 0 0) (tkS zSl zTk fLG fLS zLy 20 0 (cl4 fLt)) (ngP (tkG zSl zTk fLG zLy 20 0 0) (tkS zSl zTk fLG fLS zLy 20 0 (cl4 fLt)) (ngP (tkG zSl zTk fLG zLy 20 0 0) (tkS zSl zTk fLG fLS zLy 20 0 (cl4 fLt)) (ngP (tkG zSl zTk fLG zLy 20 0 0) (tkS zSl zTk fLG fLS zLy 20 0 (cl4 fLt)) (fGS, fGG) 0) 1) 2) 3).2))), (bES, .inl ((cs 1), 4, .inr (.inl ((neP (tkG zSl zTk fLG zLy 20 0 0) (tkS zSl zTk fLG fLS zLy 20 0 (cl4 fLt)) (neP (tkG zSl zTk fLG zLy 20 0 0) (tkS zSl zTk fLG fLS zLy 20 0 (cl4 fLt)) (neP (tkG zSl zTk fLG zLy 20 0 0) (tkS zSl zTk fLG fLS zLy 20 0 (cl4 fLt)) (neP (tkG zSl zTk fLG zLy 20 0 0) (tkS zSl zTk fLG fLS zLy 20 0 (cl4 fLt)) (fES, fEG) 0) 1) 2) 3).1)))), (bEG, .inl ((cs 0), 4, .inl ((neP (tkG zSl zTk fLG zLy 20 0 0) (tkS zSl zTk fLG fLS zLy 20 0 (cl4 fLt)) (neP (tkG zSl zTk fLG zLy 20 0 0) (tkS zSl zTk fLG fLS zLy 20 0 (cl4 fLt)) (neP (tkG zSl zTk fLG zLy 20 0 0) (tkS zSl zTk fLG fLS zLy 20 0 (cl4 fLt)) (neP (tkG zSl zTk fLG zLy 20 0 0) (tkS zSl zTk fLG fLS zLy 20 0 (cl4 fLt)) (fES, fEG) 0) 1) 2) 3).2)))] := hD.sub [4, 0, 1, 5, 2, 3, 6, 7] (by decide) rfl
              have e9 : ([(pa, .inr (1, [.int zSl, .ref bLG, .ref bLS, .int zLy, .int zGr, .int (zTk + 1), .int (zGt + (tkG zSl zTk fLG zLy 20 0 0)), .int (tkG zSl zTk fLG zLy 20 0 0), .ref bLt, .ref bGS, .ref bGG, .ref bES, .ref bEG])), (bLG, .inl ((cs 0), 20, .inl fLG)), (bLS, .inl ((cs 0), 80, .inl fLS)), (bLt, .inl ((cs 1), 4, .inr (.inl (tkS zSl zTk fLG fLS zLy 20 0 (cl4 fLt))))), (bGS, .inl ((cs 1), 4, .inr (.inl ((tnG (tkG zSl zTk fLG zLy 20 0 0) (tkS zSl zTk fLG fLS zLy 20 0 (cl4 fLt)) (fGS, fGG)).1)))), (bGG, .inl ((cs 0), 4, .inl ((tnG (tkG zSl zTk fLG zLy 20 0 0) (tkS zSl zTk fLG fLS zLy 20 0 (cl4 fLt)) (fGS, fGG)).2))), (bES, .inl ((cs 1), 4, .inr (.inl ((tnE (tkG zSl zTk fLG zLy 20 0 0) (tkS zSl zTk fLG fLS zLy 20 0 (cl4 fLt)) (fES, fEG)).1)))), (bEG, .inl ((cs 0), 4, .inl ((tnE (tkG zSl zTk fLG zLy 20 0 0) (tkS zSl zTk fLG fLS zLy 20 0 (cl4 fLt)) (fES, fEG)).2)))] : va_W) = [(pa, .inr (1, [.int zSl, .ref bLG, .ref bLS, .int zLy, .int zGr, .int (zTk + 1), .int (zGt + (tkG zSl zTk fLG zLy 20 0 0)), .int (tkG zSl zTk fLG zLy 20 0 0), .ref bLt, .ref bGS, .ref bGG, .ref bES, .ref bEG])), (bLG, .inl ((cs 0), 20, .inl fLG)), (bLS, .inl ((cs 0), 80, .inl fLS)), (bLt, .inl ((cs 1), 4, .inr (.inl (tkS zSl zTk fLG fLS zLy 20 0 (cl4 fLt))))), (bGS, .inl ((cs 1), 4, .inr (.inl ((ngP (tkG zSl zTk fLG zLy 20 0 0) (tkS zSl zTk fLG fLS zLy 20 0 (cl4 fLt)) (ngP (tkG zSl zTk fLG zLy 20 0 0) (tkS zSl zTk fLG fLS zLy 20 0 (cl4 fLt)) (ngP (tkG zSl zTk fLG zLy 20 0 0) (tkS zSl zTk fLG fLS zLy 20 0 (cl4 fLt)) (ngP (tkG zSl zTk fLG zLy 20 0 0) (tkS zSl zTk fLG fLS zLy 20 0 (cl4 fLt)) (fGS, fGG) 0) 1) 2) 3).1)))), (bGG, .inl ((cs 0), 4, .inl ((ngP (tkG zSl zTk fLG zLy 20 0 0) (tkS zSl zTk fLG fLS zLy 20 0 (cl4 fLt)) (ngP (tkG zSl zTk fLG zLy 20 0 0) (tkS zSl zTk fLG fLS zLy 20 0 (cl4 fLt)) (ngP (tkG zSl zTk fLG zLy 20 0 0) (tkS zSl zTk fLG fLS zLy 20 0 (cl4 fLt)) (ngP (tkG zSl zTk fLG zLy 20 0 0) (tkS zSl zTk fLG fLS zLy 20 0 (cl4 fLt)) (fGS, fGG) 0) 1) 2) 3).2))), (bES, .inl ((cs 1), 4, .inr (.inl ((neP (tkG zSl zTk fLG zLy 20 0 0) (tkS zSl zTk fLG fLS zLy 20 0 (cl4 fLt)) (neP (tkG zSl zTk fLG zLy 20 0 0) (tkS zSl zTk fLG fLS zLy 20 0 (cl4 fLt)) (neP (tkG zSl zTk fLG zLy 20 0 0) (tkS zSl zTk fLG fLS zLy 20 0 (cl4 fLt)) (neP (tkG zSl zTk fLG zLy 20 0 0) (tkS zSl zTk fLG fLS zLy 20 0 (cl4 fLt)) (fES, fEG) 0) 1) 2) 3).1)))), (bEG, .inl ((cs 0), 4, .inl ((neP (tkG zSl zTk fLG zLy 20 0 0) (tkS zSl zTk fLG fLS zLy 20 0 (cl4 fLt)) (neP (tkG zSl zTk fLG zLy 20 0 0) (tkS zSl zTk fLG fLS zLy 20 0 (cl4 fLt)) (neP (tkG zSl zTk fLG zLy 20 0 0) (tkS zSl zTk fLG fLS zLy 20 0 (cl4 fLt)) (neP (tkG zSl zTk fLG zLy 20 0 0) (tkS zSl zTk fLG fLS zLy 20 0 (cl4 fLt)) (fES, fEG) 0) 1) 2) 3).2)))] := by simp only [tnG, tnE, if_neg c_58]
              rw [← e9] at hP9 hD9
              exact W.vret hx hb hr (fun t ht hW => ⟨⟨(), rfl, trivial, ⟨by rw [ht]; exact hP9, hD9⟩⟩, hS.F ht⟩) hS.2.2 d_PI_takeNext_84
            · skip
              exact absurd c_65 (by decide)
