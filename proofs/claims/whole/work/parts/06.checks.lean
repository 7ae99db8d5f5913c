set_option maxHeartbeats 4000000 in
set_option maxRecDepth 100000 in
/-- needMaterial -/
theorem c_needMaterial (l : Launch) (hlT : l.stackTraces = false) (dC : Nat → ClassId) (dI : Nat → Nat → Nat) (cs : Nat → ClassId) (sz : Nat) (x : Int32) : vx_Met l y_BR_needMaterial w_BR_needMaterial ({ frames := 6, cells := 1, slots := 6, locals := 82 }) (vq_PreR (dC, dI) cs [] sz [.int x]) (va_Qv (fun (_ : Unit) => okM x) (fun _ _ => True) (va_A [] sz)) (vq_X (fun E => E = xI ∧ ¬ okM x) sz) 1 6 (va_A [] sz) := by
  refine vx_ofW (cc := b_BR_needMaterial) (maxL := 1) (ret := none) (by decide) rfl ?_
  intro p e s m args below meth c s₁ B hml htb hv
  obtain ⟨rfl, hsz, hP, hCx⟩ := hv
  have hx := B.exec
  have hb := B.bytes
  have hr := B.returns
  have hG := vq_hG (atoms_spec (ws := w_BR_needMaterial) B.pre)
  have hown : s.vm.findClass R_BR = some m.cls := findClass_of_methodNamed B.named
  have hlocks := B.notSynchronized
  subst hsz
  have hK := hCx.1
  have hA : ∀ q : Nat, s.heap.size ≤ q → va_A [] s.heap.size q := fun q h => Or.inr h
  have hA0 : ∀ q : Nat, s.heap.size ≤ q → va_A [] s.heap.size q := fun q h => Or.inr h
  have hS : va_S (va_A [] s.heap.size) s.heap s.heap [] := va_S.rf
  have hl := lv_entry ([.int x]) (n := 1) (Nat.le_of_ble_eq_true rfl)
  rw [lg_entry_eq]
  generalize (lg_sl ([.int x]) ++ List.replicate (1 - (lg_sl ([.int x])).length) Slot.unset).toArray = ls at hl ⊢
  have hl : lv_has ls 1 [(0, .int x)] := hl
  have hP : va_P (dC, dI) vq_cl [] s.heap := hP
  refine lv_iload_n hx hb d_BR_needMaterial_0 rfl (lv_at hl 0 rfl) ?_
  refine lv_if_lt (tgt := 10) hx hb d_BR_needMaterial_1 (by decide) (fun c_1 => ?_) (fun c_1 => ?_)
  · skip
    exact vq_thr hx hb hlT hown hG hCx hA vq_tw0 hS (by rw [hml]; exact hl.1) d_BR_needMaterial_10 d_BR_needMaterial_13 d_BR_needMaterial_14 d_BR_needMaterial_16 d_BR_needMaterial_19 htb hlocks (Nat.le_of_ble_eq_true rfl) (Nat.le_of_ble_eq_true rfl) (Nat.le_of_ble_eq_true rfl) (Nat.le_of_ble_eq_true rfl) (⟨rfl, fun h => by first | exact h.1 c_1 | exact c_7 h.2⟩) (Nat.le_of_ble_eq_true rfl) (Nat.le_of_ble_eq_true rfl)
  · skip
    refine lv_iload_n hx hb d_BR_needMaterial_4 rfl (lv_at hl 0 rfl) ?_
    refine lv_bipush (v := 8) hx hb d_BR_needMaterial_5 (by decide) ?_
    refine lv_icmp_lt (tgt := 20) hx hb d_BR_needMaterial_7 (by decide) (fun c_7 => ?_) (fun c_7 => ?_)
    · skip
      refine vx_ret ?_
      refine W.widen (k := 1) (n := 6) (Nat.le_of_ble_eq_true rfl) (Nat.le_of_ble_eq_true rfl) ?_
      exact W.vret hx hb hr (fun t ht hW => ⟨⟨(), rfl, ⟨c_1, c_7⟩, trivial⟩, hS.F ht⟩) hS.2.2 d_BR_needMaterial_20
    · skip
      exact vq_thr hx hb hlT hown hG hCx hA vq_tw0 hS (by rw [hml]; exact hl.1) d_BR_needMaterial_10 d_BR_needMaterial_13 d_BR_needMaterial_14 d_BR_needMaterial_16 d_BR_needMaterial_19 htb hlocks (Nat.le_of_ble_eq_true rfl) (Nat.le_of_ble_eq_true rfl) (Nat.le_of_ble_eq_true rfl) (Nat.le_of_ble_eq_true rfl) (⟨rfl, fun h => by first | exact h.1 c_1 | exact c_7 h.2⟩) (Nat.le_of_ble_eq_true rfl) (Nat.le_of_ble_eq_true rfl)
set_option maxHeartbeats 4000000 in
set_option maxRecDepth 100000 in
/-- needElement -/
theorem c_needElement (l : Launch) (hlT : l.stackTraces = false) (dC : Nat → ClassId) (dI : Nat → Nat → Nat) (cs : Nat → ClassId) (sz : Nat) (x : Int32) : vx_Met l y_BR_needElement w_BR_needElement ({ frames := 6, cells := 1, slots := 6, locals := 82 }) (vq_PreR (dC, dI) cs [] sz [.int x]) (va_Qv (fun (_ : Unit) => okE x) (fun _ _ => True) (va_A [] sz)) (vq_X (fun E => E = xI ∧ ¬ okE x) sz) 1 6 (va_A [] sz) := by
  refine vx_ofW (cc := b_BR_needElement) (maxL := 1) (ret := none) (by decide) rfl ?_
  intro p e s m args below meth c s₁ B hml htb hv
  obtain ⟨rfl, hsz, hP, hCx⟩ := hv
  have hx := B.exec
  have hb := B.bytes
  have hr := B.returns
  have hG := vq_hG (atoms_spec (ws := w_BR_needElement) B.pre)
  have hown : s.vm.findClass R_BR = some m.cls := findClass_of_methodNamed B.named
  have hlocks := B.notSynchronized
  subst hsz
  have hK := hCx.1
  have hA : ∀ q : Nat, s.heap.size ≤ q → va_A [] s.heap.size q := fun q h => Or.inr h
  have hA0 : ∀ q : Nat, s.heap.size ≤ q → va_A [] s.heap.size q := fun q h => Or.inr h
  have hS : va_S (va_A [] s.heap.size) s.heap s.heap [] := va_S.rf
  have hl := lv_entry ([.int x]) (n := 1) (Nat.le_of_ble_eq_true rfl)
  rw [lg_entry_eq]
  generalize (lg_sl ([.int x]) ++ List.replicate (1 - (lg_sl ([.int x])).length) Slot.unset).toArray = ls at hl ⊢
  have hl : lv_has ls 1 [(0, .int x)] := hl
  have hP : va_P (dC, dI) vq_cl [] s.heap := hP
  refine lv_iload_n hx hb d_BR_needElement_0 rfl (lv_at hl 0 rfl) ?_
  refine lv_if_lt (tgt := 9) hx hb d_BR_needElement_1 (by decide) (fun c_1 => ?_) (fun c_1 => ?_)
  · skip
    exact vq_thr hx hb hlT hown hG hCx hA vq_tw1 hS (by rw [hml]; exact hl.1) d_BR_needElement_9 d_BR_needElement_12 d_BR_needElement_13 d_BR_needElement_15 d_BR_needElement_18 htb hlocks (Nat.le_of_ble_eq_true rfl) (Nat.le_of_ble_eq_true rfl) (Nat.le_of_ble_eq_true rfl) (Nat.le_of_ble_eq_true rfl) (⟨rfl, fun h => by first | exact h.1 c_1 | exact c_6 h.2⟩) (Nat.le_of_ble_eq_true rfl) (Nat.le_of_ble_eq_true rfl)
  · skip
    refine lv_iload_n hx hb d_BR_needElement_4 rfl (lv_at hl 0 rfl) ?_
    refine lv_iconst (v := 4) hx hb d_BR_needElement_5 (by decide) ?_
    refine lv_icmp_lt (tgt := 19) hx hb d_BR_needElement_6 (by decide) (fun c_6 => ?_) (fun c_6 => ?_)
    · skip
      refine vx_ret ?_
      refine W.widen (k := 1) (n := 6) (Nat.le_of_ble_eq_true rfl) (Nat.le_of_ble_eq_true rfl) ?_
      exact W.vret hx hb hr (fun t ht hW => ⟨⟨(), rfl, ⟨c_1, c_6⟩, trivial⟩, hS.F ht⟩) hS.2.2 d_BR_needElement_19
    · skip
      exact vq_thr hx hb hlT hown hG hCx hA vq_tw1 hS (by rw [hml]; exact hl.1) d_BR_needElement_9 d_BR_needElement_12 d_BR_needElement_13 d_BR_needElement_15 d_BR_needElement_18 htb hlocks (Nat.le_of_ble_eq_true rfl) (Nat.le_of_ble_eq_true rfl) (Nat.le_of_ble_eq_true rfl) (Nat.le_of_ble_eq_true rfl) (⟨rfl, fun h => by first | exact h.1 c_1 | exact c_6 h.2⟩) (Nat.le_of_ble_eq_true rfl) (Nat.le_of_ble_eq_true rfl)
set_option maxHeartbeats 4000000 in
set_option maxRecDepth 100000 in
/-- needPart -/
theorem c_needPart (l : Launch) (hlT : l.stackTraces = false) (dC : Nat → ClassId) (dI : Nat → Nat → Nat) (cs : Nat → ClassId) (sz : Nat) (x : Int32) : vx_Met l y_BR_needPart w_BR_needPart ({ frames := 6, cells := 1, slots := 6, locals := 82 }) (vq_PreR (dC, dI) cs [] sz [.int x]) (va_Qv (fun (_ : Unit) => okQ x) (fun _ _ => True) (va_A [] sz)) (vq_X (fun E => E = xI ∧ ¬ okQ x) sz) 1 6 (va_A [] sz) := by
  refine vx_ofW (cc := b_BR_needPart) (maxL := 1) (ret := none) (by decide) rfl ?_
  intro p e s m args below meth c s₁ B hml htb hv
  obtain ⟨rfl, hsz, hP, hCx⟩ := hv
  have hx := B.exec
  have hb := B.bytes
  have hr := B.returns
  have hG := vq_hG (atoms_spec (ws := w_BR_needPart) B.pre)
  have hown : s.vm.findClass R_BR = some m.cls := findClass_of_methodNamed B.named
  have hlocks := B.notSynchronized
  subst hsz
  have hK := hCx.1
  have hA : ∀ q : Nat, s.heap.size ≤ q → va_A [] s.heap.size q := fun q h => Or.inr h
  have hA0 : ∀ q : Nat, s.heap.size ≤ q → va_A [] s.heap.size q := fun q h => Or.inr h
  have hS : va_S (va_A [] s.heap.size) s.heap s.heap [] := va_S.rf
  have hl := lv_entry ([.int x]) (n := 1) (Nat.le_of_ble_eq_true rfl)
  rw [lg_entry_eq]
  generalize (lg_sl ([.int x]) ++ List.replicate (1 - (lg_sl ([.int x])).length) Slot.unset).toArray = ls at hl ⊢
  have hl : lv_has ls 1 [(0, .int x)] := hl
  have hP : va_P (dC, dI) vq_cl [] s.heap := hP
  refine lv_iload_n hx hb d_BR_needPart_0 rfl (lv_at hl 0 rfl) ?_
  refine lv_if_lt (tgt := 9) hx hb d_BR_needPart_1 (by decide) (fun c_1 => ?_) (fun c_1 => ?_)
  · skip
    exact vq_thr hx hb hlT hown hG hCx hA vq_tw2 hS (by rw [hml]; exact hl.1) d_BR_needPart_9 d_BR_needPart_12 d_BR_needPart_13 d_BR_needPart_15 d_BR_needPart_18 htb hlocks (Nat.le_of_ble_eq_true rfl) (Nat.le_of_ble_eq_true rfl) (Nat.le_of_ble_eq_true rfl) (Nat.le_of_ble_eq_true rfl) (⟨rfl, fun h => by first | exact h.1 c_1 | exact c_6 h.2⟩) (Nat.le_of_ble_eq_true rfl) (Nat.le_of_ble_eq_true rfl)
  · skip
    refine lv_iload_n hx hb d_BR_needPart_4 rfl (lv_at hl 0 rfl) ?_
    refine lv_iconst (v := 1) hx hb d_BR_needPart_5 (by decide) ?_
    refine lv_icmp_le (tgt := 19) hx hb d_BR_needPart_6 (by decide) (fun c_6 => ?_) (fun c_6 => ?_)
    · skip
      refine vx_ret ?_
      refine W.widen (k := 1) (n := 6) (Nat.le_of_ble_eq_true rfl) (Nat.le_of_ble_eq_true rfl) ?_
      exact W.vret hx hb hr (fun t ht hW => ⟨⟨(), rfl, ⟨c_1, c_6⟩, trivial⟩, hS.F ht⟩) hS.2.2 d_BR_needPart_19
    · skip
      exact vq_thr hx hb hlT hown hG hCx hA vq_tw2 hS (by rw [hml]; exact hl.1) d_BR_needPart_9 d_BR_needPart_12 d_BR_needPart_13 d_BR_needPart_15 d_BR_needPart_18 htb hlocks (Nat.le_of_ble_eq_true rfl) (Nat.le_of_ble_eq_true rfl) (Nat.le_of_ble_eq_true rfl) (Nat.le_of_ble_eq_true rfl) (⟨rfl, fun h => by first | exact h.1 c_1 | exact c_6 h.2⟩) (Nat.le_of_ble_eq_true rfl) (Nat.le_of_ble_eq_true rfl)
set_option maxHeartbeats 4000000 in
set_option maxRecDepth 100000 in
/-- needRange -/
theorem c_needRange (l : Launch) (hlT : l.stackTraces = false) (dC : Nat → ClassId) (dI : Nat → Nat → Nat) (cs : Nat → ClassId) (sz : Nat) (x : Int32) (lo : Int32) (hi : Int32) : vx_Met l y_BR_needRange w_BR_needRange ({ frames := 6, cells := 1, slots := 6, locals := 82 }) (vq_PreR (dC, dI) cs [] sz [.int x, .int lo, .int hi]) (va_Qv (fun (_ : Unit) => okR x lo hi) (fun _ _ => True) (va_A [] sz)) (vq_X (fun E => E = xA ∧ ¬ okR x lo hi) sz) 1 6 (va_A [] sz) := by
  refine vx_ofW (cc := b_BR_needRange) (maxL := 3) (ret := none) (by decide) rfl ?_
  intro p e s m args below meth c s₁ B hml htb hv
  obtain ⟨rfl, hsz, hP, hCx⟩ := hv
  have hx := B.exec
  have hb := B.bytes
  have hr := B.returns
  have hG := vq_hG (atoms_spec (ws := w_BR_needRange) B.pre)
  have hown : s.vm.findClass R_BR = some m.cls := findClass_of_methodNamed B.named
  have hlocks := B.notSynchronized
  subst hsz
  have hK := hCx.1
  have hA : ∀ q : Nat, s.heap.size ≤ q → va_A [] s.heap.size q := fun q h => Or.inr h
  have hA0 : ∀ q : Nat, s.heap.size ≤ q → va_A [] s.heap.size q := fun q h => Or.inr h
  have hS : va_S (va_A [] s.heap.size) s.heap s.heap [] := va_S.rf
  have hl := lv_entry ([.int x, .int lo, .int hi]) (n := 3) (Nat.le_of_ble_eq_true rfl)
  rw [lg_entry_eq]
  generalize (lg_sl ([.int x, .int lo, .int hi]) ++ List.replicate (3 - (lg_sl ([.int x, .int lo, .int hi])).length) Slot.unset).toArray = ls at hl ⊢
  have hl : lv_has ls 3 [(0, .int x), (1, .int lo), (2, .int hi)] := hl
  have hP : va_P (dC, dI) vq_cl [] s.heap := hP
  refine lv_iload_n hx hb d_BR_needRange_0 rfl (lv_at hl 0 rfl) ?_
  refine lv_iload_n hx hb d_BR_needRange_1 rfl (lv_at hl 1 rfl) ?_
  refine lv_icmp_lt (tgt := 10) hx hb d_BR_needRange_2 (by decide) (fun c_2 => ?_) (fun c_2 => ?_)
  · skip
    exact vq_thr hx hb hlT hown hG hCx hA vq_tw3 hS (by rw [hml]; exact hl.1) d_BR_needRange_10 d_BR_needRange_13 d_BR_needRange_14 d_BR_needRange_16 d_BR_needRange_19 htb hlocks (Nat.le_of_ble_eq_true rfl) (Nat.le_of_ble_eq_true rfl) (Nat.le_of_ble_eq_true rfl) (Nat.le_of_ble_eq_true rfl) (⟨rfl, fun h => by first | exact h.1 c_2 | exact c_7 h.2⟩) (Nat.le_of_ble_eq_true rfl) (Nat.le_of_ble_eq_true rfl)
  · skip
    refine lv_iload_n hx hb d_BR_needRange_5 rfl (lv_at hl 0 rfl) ?_
    refine lv_iload_n hx hb d_BR_needRange_6 rfl (lv_at hl 2 rfl) ?_
    refine lv_icmp_le (tgt := 20) hx hb d_BR_needRange_7 (by decide) (fun c_7 => ?_) (fun c_7 => ?_)
    · skip
      refine vx_ret ?_
      refine W.widen (k := 1) (n := 6) (Nat.le_of_ble_eq_true rfl) (Nat.le_of_ble_eq_true rfl) ?_
      exact W.vret hx hb hr (fun t ht hW => ⟨⟨(), rfl, ⟨c_2, c_7⟩, trivial⟩, hS.F ht⟩) hS.2.2 d_BR_needRange_20
    · skip
      exact vq_thr hx hb hlT hown hG hCx hA vq_tw3 hS (by rw [hml]; exact hl.1) d_BR_needRange_10 d_BR_needRange_13 d_BR_needRange_14 d_BR_needRange_16 d_BR_needRange_19 htb hlocks (Nat.le_of_ble_eq_true rfl) (Nat.le_of_ble_eq_true rfl) (Nat.le_of_ble_eq_true rfl) (Nat.le_of_ble_eq_true rfl) (⟨rfl, fun h => by first | exact h.1 c_2 | exact c_7 h.2⟩) (Nat.le_of_ble_eq_true rfl) (Nat.le_of_ble_eq_true rfl)
set_option maxHeartbeats 4000000 in
set_option maxRecDepth 100000 in
/-- needTaken -/
theorem c_needTaken (l : Launch) (hlT : l.stackTraces = false) (dC : Nat → ClassId) (dI : Nat → Nat → Nat) (cs : Nat → ClassId) (sz : Nat) (pa : Nat) (bLG : Nat) (bLS : Nat) (bLt : Nat) (bGS : Nat) (bGG : Nat) (bES : Nat) (bEG : Nat) (zSl : Int32) (zLy : Int32) (zGr : Int32) (zTk : Int32) (zGt : Int32) (zLt : Int32) : vx_Met l y_BR_needTaken w_BR_needTaken ({ frames := 6, cells := 1, slots := 6, locals := 82 }) (vq_PreR (dC, dI) cs [(pa, .inr (1, [.int zSl, .ref bLG, .ref bLS, .int zLy, .int zGr, .int zTk, .int zGt, .int zLt, .ref bLt, .ref bGS, .ref bGG, .ref bES, .ref bEG]))] sz [.ref pa]) (va_Qv (fun (_ : Unit) => ¬ zTk = 0) (fun _ _ => True) (va_A [] sz)) (vq_X (fun E => E = xS ∧ ¬ ¬ zTk = 0) sz) 1 6 (va_A [] sz) := by
  refine vx_ofW (cc := b_BR_needTaken) (maxL := 1) (ret := none) (by decide) rfl ?_
  intro p e s m args below meth c s₁ B hml htb hv
  obtain ⟨rfl, hsz, hP, hCx⟩ := hv
  have hx := B.exec
  have hb := B.bytes
  have hr := B.returns
  have hG := vq_hG (atoms_spec (ws := w_BR_needTaken) B.pre)
  have hown : s.vm.findClass R_BR = some m.cls := findClass_of_methodNamed B.named
  have hlocks := B.notSynchronized
  subst hsz
  have hK := hCx.1
  have hA : ∀ q : Nat, s.heap.size ≤ q → va_A [] s.heap.size q := fun q h => Or.inr h
  have hA0 : ∀ q : Nat, s.heap.size ≤ q → va_A [] s.heap.size q := fun q h => Or.inr h
  have hS : va_S (va_A [] s.heap.size) s.heap s.heap [] := va_S.rf
  have hl := lv_entry ([.ref pa]) (n := 1) (Nat.le_of_ble_eq_true rfl)
  rw [lg_entry_eq]
  generalize (lg_sl ([.ref pa]) ++ List.replicate (1 - (lg_sl ([.ref pa])).length) Slot.unset).toArray = ls at hl ⊢
  have hl : lv_has ls 1 [(0, .ref pa)] := hl
  have hP : va_P (dC, dI) vq_cl [(pa, .inr (1, [.int zSl, .ref bLG, .ref bLS, .int zLy, .int zGr, .int zTk, .int zGt, .int zLt, .ref bLt, .ref bGS, .ref bGG, .ref bES, .ref bEG]))] s.heap := hP
  refine lv_aload_n hx hb d_BR_needTaken_0 rfl (lv_at hl 0 rfl) ?_
  refine va_getN (D := (dC, dI)) (ci := 1) (v := .int zTk) (C := R_PI) (T := F_PI) (N := 13) hx hb hG i_PI hown hK hP 0 rfl rfl 5 (by decide) (va_Nw.use rfl (hCx.2.1 _ vq_nf0)) (fun _ h9 => h9) rfl d_BR_needTaken_1 ?_
  refine lv_if_ne (tgt := 17) hx hb d_BR_needTaken_4 (by decide) (fun c_4 => ?_) (fun c_4 => ?_)
  · skip
    refine vx_ret ?_
    refine W.widen (k := 1) (n := 6) (Nat.le_of_ble_eq_true rfl) (Nat.le_of_ble_eq_true rfl) ?_
    exact W.vret hx hb hr (fun t ht hW => ⟨⟨(), rfl, c_4, trivial⟩, hS.F ht⟩) hS.2.2 d_BR_needTaken_17
  · skip
    exact vq_thr hx hb hlT hown hG hCx hA vq_tw4 hS (by rw [hml]; exact hl.1) d_BR_needTaken_7 d_BR_needTaken_10 d_BR_needTaken_11 d_BR_needTaken_13 d_BR_needTaken_16 htb hlocks (Nat.le_of_ble_eq_true rfl) (Nat.le_of_ble_eq_true rfl) (Nat.le_of_ble_eq_true rfl) (Nat.le_of_ble_eq_true rfl) (⟨rfl, fun h => h c_4⟩) (Nat.le_of_ble_eq_true rfl) (Nat.le_of_ble_eq_true rfl)
set_option maxHeartbeats 4000000 in
set_option maxRecDepth 100000 in
/-- needPile, there is one -/
theorem c_needPile_ok (l : Launch) (dC : Nat → ClassId) (dI : Nat → Nat → Nat) (cs : Nat → ClassId) (sz : Nat) (h0 : Nat) (aMo : Nat) (aSh : Nat) (aLa : Nat) (aDy : Nat) (aMa : Nat) (aKi : Nat) (aPi : Nat) (aLn : Nat) (zCn : Int32) (zPc : Int32) (zTo : Int32) (fPi : Nat → Option Nat) (x : Int32) (pa : Nat) (hi : okP x) (hf : fPi x.toNatClampNeg = some pa) (hz : ¬ zPc ≤ x) : Met l y_BR_needPile w_BR_needPile ({ frames := 0, cells := 0, slots := 0, locals := 0 }) (vq_PreR (dC, dI) cs [(h0, .inr (0, [.ref aMo, .ref aSh, .ref aLa, .ref aDy, .ref aMa, .ref aKi, .int zCn, .ref aPi, .int zPc, .ref aLn, .int zTo])), (aPi, .inl ((cs 2), 4, .inr (.inr (.inr (.inr fPi)))))] sz [.ref h0, .int x]) (va_Qr (fun _ : Unit => True) (fun _ a _ => a = pa) (va_A [] sz)) 0 0 (va_A [] sz) := by
  refine Met.ofW (cc := b_BR_needPile) (maxL := 3) (ret := (some (.object "BlendRows$Pile"))) (by decide) rfl ?_
  intro p e s m args below meth c s₁ B hml hv
  obtain ⟨rfl, hsz, hP, hCx⟩ := hv
  have hx := B.exec
  have hb := B.bytes
  have hr := B.returns
  have hG := vq_hG (atoms_spec (ws := w_BR_needPile) B.pre)
  have hown : s.vm.findClass R_BR = some m.cls := findClass_of_methodNamed B.named
  have hlocks := B.notSynchronized
  subst hsz
  have hK := hCx.1
  have hA : ∀ q : Nat, s.heap.size ≤ q → va_A [] s.heap.size q := fun q h => Or.inr h
  have hA0 : ∀ q : Nat, s.heap.size ≤ q → va_A [] s.heap.size q := fun q h => Or.inr h
  have hS : va_S (va_A [] s.heap.size) s.heap s.heap [] := va_S.rf
  have hl := lv_entry ([.ref h0, .int x]) (n := 3) (Nat.le_of_ble_eq_true rfl)
  rw [lg_entry_eq]
  generalize (lg_sl ([.ref h0, .int x]) ++ List.replicate (3 - (lg_sl ([.ref h0, .int x])).length) Slot.unset).toArray = ls at hl ⊢
  have hl : lv_has ls 3 [(0, .ref h0), (1, .int x)] := hl
  have hP : va_P (dC, dI) vq_cl [(h0, .inr (0, [.ref aMo, .ref aSh, .ref aLa, .ref aDy, .ref aMa, .ref aKi, .int zCn, .ref aPi, .int zPc, .ref aLn, .int zTo])), (aPi, .inl ((cs 2), 4, .inr (.inr (.inr (.inr fPi)))))] s.heap := hP
  refine lv_iload_n hx hb d_BR_needPile_0 rfl (lv_at hl 1 rfl) ?_
  refine lv_if_lt (tgt := 26) hx hb d_BR_needPile_1 (by decide) (fun c_1 => ?_) (fun c_1 => ?_)
  · skip
    exact absurd c_1 hi.1
  · skip
    refine lv_iload_n hx hb d_BR_needPile_4 rfl (lv_at hl 1 rfl) ?_
    refine lv_iconst (v := 4) hx hb d_BR_needPile_5 (by decide) ?_
    refine lv_icmp_ge (tgt := 26) hx hb d_BR_needPile_6 (by decide) (fun c_6 => ?_) (fun c_6 => ?_)
    · skip
      exact absurd c_6 hi.2
    · skip
      refine lv_iload_n hx hb d_BR_needPile_9 rfl (lv_at hl 1 rfl) ?_
      refine lv_aload_n hx hb d_BR_needPile_10 rfl (lv_at hl 0 rfl) ?_
      refine va_get (D := (dC, dI)) (ci := 0) (v := .int zPc) (C := R_BR) (T := F_BR) (N := 11) hx hb hG i_BR hown hK hP 0 rfl rfl 8 (by decide) (hG _ vq_t108) (fun _ h9 => h9) rfl d_BR_needPile_11 ?_
      refine lv_icmp_ge (tgt := 26) hx hb d_BR_needPile_14 (by decide) (fun c_14 => ?_) (fun c_14 => ?_)
      · skip
        exact absurd c_14 hz
      · skip
        refine lv_aload_n hx hb d_BR_needPile_17 rfl (lv_at hl 0 rfl) ?_
        refine va_get (D := (dC, dI)) (ci := 0) (v := .ref aPi) (C := R_BR) (T := F_BR) (N := 11) hx hb hG i_BR hown hK hP 0 rfl rfl 7 (by decide) (hG _ vq_t107) (fun _ h9 => h9) rfl d_BR_needPile_18 ?_
        refine lv_iload_n hx hb d_BR_needPile_21 rfl (lv_at hl 1 rfl) ?_
        refine va_aldq (D := (dC, dI)) hx hb hK hP 1 2 rfl rfl (vq_in0 4 rfl hi.1 hi.2) d_BR_needPile_22 ?_
        rw [hf]
        refine lv_goto (tgt := 27) hx hb d_BR_needPile_23 (by decide) ?_
        refine lv_astore_n (lv' := [(2, .ref pa), (0, .ref h0), (1, .int x)]) hx hb d_BR_needPile_27 rfl hl (by decide) rfl (fun ls hl => ?_)
        refine lv_aload_n hx hb d_BR_needPile_28 rfl (lv_at hl 0 rfl) ?_
        refine lv_ifnonnull (tgt := 42) hx hb d_BR_needPile_29 (by decide) ?_
        refine lv_aload_n hx hb d_BR_needPile_42 rfl (lv_at hl 0 rfl) ?_
        refine W.widen (k := 0) (n := 0) (Nat.le_of_ble_eq_true rfl) (Nat.le_of_ble_eq_true rfl) ?_
        exact W.aret hx hb hr (Or.inl ⟨_, rfl⟩) (Or.inr ⟨_, rfl⟩) (fun t ht hW => ⟨⟨(), pa, rfl, trivial, rfl⟩, hS.F ht⟩) hS.2.2 d_BR_needPile_43
set_option maxHeartbeats 4000000 in
set_option maxRecDepth 100000 in
/-- needPile, there is none -/
theorem c_needPile_bad (l : Launch) (hlT : l.stackTraces = false) (dC : Nat → ClassId) (dI : Nat → Nat → Nat) (cs : Nat → ClassId) (sz : Nat) (h0 : Nat) (aMo : Nat) (aSh : Nat) (aLa : Nat) (aDy : Nat) (aMa : Nat) (aKi : Nat) (aPi : Nat) (aLn : Nat) (zCn : Int32) (zPc : Int32) (zTo : Int32) (x : Int32) (hi : okP x → zPc ≤ x) : vx_Met l y_BR_needPile w_BR_needPile ({ frames := 6, cells := 1, slots := 6, locals := 82 }) (vq_PreR (dC, dI) cs [(h0, .inr (0, [.ref aMo, .ref aSh, .ref aLa, .ref aDy, .ref aMa, .ref aKi, .int zCn, .ref aPi, .int zPc, .ref aLn, .int zTo]))] sz [.ref h0, .int x]) (va_Qv (fun (_ : Unit) => False) (fun _ _ => True) (va_A [] sz)) (vq_X (fun E => E = xI) sz) 1 6 (va_A [] sz) := by
  refine vx_ofW (cc := b_BR_needPile) (maxL := 3) (ret := (some (.object "BlendRows$Pile"))) (by decide) rfl ?_
  intro p e s m args below meth c s₁ B hml htb hv
  obtain ⟨rfl, hsz, hP, hCx⟩ := hv
  have hx := B.exec
  have hb := B.bytes
  have hr := B.returns
  have hG := vq_hG (atoms_spec (ws := w_BR_needPile) B.pre)
  have hown : s.vm.findClass R_BR = some m.cls := findClass_of_methodNamed B.named
  have hlocks := B.notSynchronized
  subst hsz
  have hK := hCx.1
  have hA : ∀ q : Nat, s.heap.size ≤ q → va_A [] s.heap.size q := fun q h => Or.inr h
  have hA0 : ∀ q : Nat, s.heap.size ≤ q → va_A [] s.heap.size q := fun q h => Or.inr h
  have hS : va_S (va_A [] s.heap.size) s.heap s.heap [] := va_S.rf
  have hl := lv_entry ([.ref h0, .int x]) (n := 3) (Nat.le_of_ble_eq_true rfl)
  rw [lg_entry_eq]
  generalize (lg_sl ([.ref h0, .int x]) ++ List.replicate (3 - (lg_sl ([.ref h0, .int x])).length) Slot.unset).toArray = ls at hl ⊢
  have hl : lv_has ls 3 [(0, .ref h0), (1, .int x)] := hl
  have hP : va_P (dC, dI) vq_cl [(h0, .inr (0, [.ref aMo, .ref aSh, .ref aLa, .ref aDy, .ref aMa, .ref aKi, .int zCn, .ref aPi, .int zPc, .ref aLn, .int zTo]))] s.heap := hP
  refine lv_iload_n hx hb d_BR_needPile_0 rfl (lv_at hl 1 rfl) ?_
  refine lv_if_lt (tgt := 26) hx hb d_BR_needPile_1 (by decide) (fun c_1 => ?_) (fun c_1 => ?_)
  · skip
    refine lv_null hx hb d_BR_needPile_26 ?_
    refine lv_astore_nN (lv' := [(2, .null), (0, .ref h0), (1, .int x)]) hx hb d_BR_needPile_27 rfl hl (by decide) rfl (fun ls hl => ?_)
    refine lv_aload_nN hx hb d_BR_needPile_28 rfl (lv_at hl 0 rfl) ?_
    refine lv_ifnonnullN hx hb d_BR_needPile_29 ?_
    exact vq_thr hx hb hlT hown hG hCx hA vq_tw5 hS (by rw [hml]; exact hl.1) d_BR_needPile_32 d_BR_needPile_35 d_BR_needPile_36 d_BR_needPile_38 d_BR_needPile_41 htb hlocks (Nat.le_of_ble_eq_true rfl) (Nat.le_of_ble_eq_true rfl) (Nat.le_of_ble_eq_true rfl) (Nat.le_of_ble_eq_true rfl) rfl (Nat.le_of_ble_eq_true rfl) (Nat.le_of_ble_eq_true rfl)
  · skip
    refine lv_iload_n hx hb d_BR_needPile_4 rfl (lv_at hl 1 rfl) ?_
    refine lv_iconst (v := 4) hx hb d_BR_needPile_5 (by decide) ?_
    refine lv_icmp_ge (tgt := 26) hx hb d_BR_needPile_6 (by decide) (fun c_6 => ?_) (fun c_6 => ?_)
    · skip
      refine lv_null hx hb d_BR_needPile_26 ?_
      refine lv_astore_nN (lv' := [(2, .null), (0, .ref h0), (1, .int x)]) hx hb d_BR_needPile_27 rfl hl (by decide) rfl (fun ls hl => ?_)
      refine lv_aload_nN hx hb d_BR_needPile_28 rfl (lv_at hl 0 rfl) ?_
      refine lv_ifnonnullN hx hb d_BR_needPile_29 ?_
      exact vq_thr hx hb hlT hown hG hCx hA vq_tw5 hS (by rw [hml]; exact hl.1) d_BR_needPile_32 d_BR_needPile_35 d_BR_needPile_36 d_BR_needPile_38 d_BR_needPile_41 htb hlocks (Nat.le_of_ble_eq_true rfl) (Nat.le_of_ble_eq_true rfl) (Nat.le_of_ble_eq_true rfl) (Nat.le_of_ble_eq_true rfl) rfl (Nat.le_of_ble_eq_true rfl) (Nat.le_of_ble_eq_true rfl)
    · skip
      refine lv_iload_n hx hb d_BR_needPile_9 rfl (lv_at hl 1 rfl) ?_
      refine lv_aload_n hx hb d_BR_needPile_10 rfl (lv_at hl 0 rfl) ?_
      refine va_get (D := (dC, dI)) (ci := 0) (v := .int zPc) (C := R_BR) (T := F_BR) (N := 11) hx hb hG i_BR hown hK hP 0 rfl rfl 8 (by decide) (hG _ vq_t108) (fun _ h9 => h9) rfl d_BR_needPile_11 ?_
      refine lv_icmp_ge (tgt := 26) hx hb d_BR_needPile_14 (by decide) (fun c_14 => ?_) (fun c_14 => ?_)
      · skip
        refine lv_null hx hb d_BR_needPile_26 ?_
        refine lv_astore_nN (lv' := [(2, .null), (0, .ref h0), (1, .int x)]) hx hb d_BR_needPile_27 rfl hl (by decide) rfl (fun ls hl => ?_)
        refine lv_aload_nN hx hb d_BR_needPile_28 rfl (lv_at hl 0 rfl) ?_
        refine lv_ifnonnullN hx hb d_BR_needPile_29 ?_
        exact vq_thr hx hb hlT hown hG hCx hA vq_tw5 hS (by rw [hml]; exact hl.1) d_BR_needPile_32 d_BR_needPile_35 d_BR_needPile_36 d_BR_needPile_38 d_BR_needPile_41 htb hlocks (Nat.le_of_ble_eq_true rfl) (Nat.le_of_ble_eq_true rfl) (Nat.le_of_ble_eq_true rfl) (Nat.le_of_ble_eq_true rfl) rfl (Nat.le_of_ble_eq_true rfl) (Nat.le_of_ble_eq_true rfl)
      · skip
        exact absurd c_14 (not_not_intro (hi ⟨c_1, c_6⟩))
set_option maxHeartbeats 4000000 in
set_option maxRecDepth 100000 in
/-- lostKilos -/
theorem c_lostKilos (l : Launch) (dC : Nat → ClassId) (dI : Nat → Nat → Nat) (cs : Nat → ClassId) (sz : Nat) (k : Int32) (lo : Int32) : Met l y_BR_lostKilos w_BR_lostKilos ({ frames := 0, cells := 0, slots := 0, locals := 0 }) (vq_PreR (dC, dI) cs [] sz [.int k, .int lo]) (va_Qi (fun (r : Int32) (_ : Unit) => r = (((k * lo) + 1000) - 1) / 1000) (fun _ _ => True) (va_A [] sz)) 0 0 (va_A [] sz) := by
  refine Met.ofW (cc := b_BR_lostKilos) (maxL := 2) (ret := (some .int)) (by decide) rfl ?_
  intro p e s m args below meth c s₁ B hml hv
  obtain ⟨rfl, hsz, hP, hCx⟩ := hv
  have hx := B.exec
  have hb := B.bytes
  have hr := B.returns
  have hG := vq_hG (atoms_spec (ws := w_BR_lostKilos) B.pre)
  have hown : s.vm.findClass R_BR = some m.cls := findClass_of_methodNamed B.named
  have hlocks := B.notSynchronized
  subst hsz
  have hK := hCx.1
  have hA : ∀ q : Nat, s.heap.size ≤ q → va_A [] s.heap.size q := fun q h => Or.inr h
  have hA0 : ∀ q : Nat, s.heap.size ≤ q → va_A [] s.heap.size q := fun q h => Or.inr h
  have hS : va_S (va_A [] s.heap.size) s.heap s.heap [] := va_S.rf
  have hl := lv_entry ([.int k, .int lo]) (n := 2) (Nat.le_of_ble_eq_true rfl)
  rw [lg_entry_eq]
  generalize (lg_sl ([.int k, .int lo]) ++ List.replicate (2 - (lg_sl ([.int k, .int lo])).length) Slot.unset).toArray = ls at hl ⊢
  have hl : lv_has ls 2 [(0, .int k), (1, .int lo)] := hl
  have hP : va_P (dC, dI) vq_cl [] s.heap := hP
  refine lv_iload_n hx hb d_BR_lostKilos_0 rfl (lv_at hl 0 rfl) ?_
  refine lv_iload_n hx hb d_BR_lostKilos_1 rfl (lv_at hl 1 rfl) ?_
  refine lv_imul hx hb d_BR_lostKilos_2 ?_
  refine lv_sipush (v := 1000) hx hb d_BR_lostKilos_3 (by decide) ?_
  refine lv_iadd hx hb d_BR_lostKilos_6 ?_
  refine lv_iconst (v := 1) hx hb d_BR_lostKilos_7 (by decide) ?_
  refine lv_isub hx hb d_BR_lostKilos_8 ?_
  refine lv_sipush (v := 1000) hx hb d_BR_lostKilos_9 (by decide) ?_
  refine lv_idiv hx hb d_BR_lostKilos_12 (by decide) ?_
  refine W.widen (k := 0) (n := 0) (Nat.le_of_ble_eq_true rfl) (Nat.le_of_ble_eq_true rfl) ?_
  exact W.iret (v := ((((k * lo) + 1000) - 1) / 1000)) hx hb hr (fun t ht hW => ⟨⟨((((k * lo) + 1000) - 1) / 1000), (), rfl, by rfl, trivial⟩, hS.F ht⟩) hS.2.2 d_BR_lostKilos_13
