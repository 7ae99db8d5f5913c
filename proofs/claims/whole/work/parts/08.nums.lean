set_option maxHeartbeats 4000000 in
set_option maxRecDepth 100000 in
/-- the loop of commonDivisor -/
theorem lp_gcd {p : Program} {l : Launch} {e : Env} {R : Room} {s : State} {m : MethodId} {args : Array Value} {below : List Frame} {meth : Method} {c : Code} {cells slots : Nat} {Q : State → Prop} {H : Heap} {locs : List Loc} (hx : p.tables.exec = Jvm.exec) (hb : c.code = b_BR_commonDivisor) :
    ∀ (n i : Nat) (dv rs : Int64) (ls : Array Slot), i + n = 100 → lv_has ls 11 [(4, .long dv), (6, .long rs), (8, .int (nI i))] → (∀ ls : Array Slot, lv_has ls 11 [(4, .long (gcdL n dv rs))] → W p l e R s m args below meth c H locs cells slots Q (F0 m 50 ls [])) → W p l e R s m args below meth c H locs cells slots Q (F0 m 15 ls []) := by
  intro n
  induction n with
  | zero =>
    intro i dv rs ls hi hl kk
    refine lv_iload hx hb d_BR_commonDivisor_15 (lv_at hl 2 rfl) ?_
    refine lv_bipush (v := 100) hx hb d_BR_commonDivisor_17 (by decide) ?_
    refine lv_icmp_ge (tgt := 50) hx hb d_BR_commonDivisor_19 (by decide) (fun c_19 => ?_) (fun c_19 => ?_)
    · skip
      exact kk ls (lv_sub hl [0] rfl)
    · skip
      exact absurd c_19 (not_not_intro (by rw [show i = 100 by omega]; decide))
  | succ n ih =>
    intro i dv rs ls hi hl kk
    refine lv_iload hx hb d_BR_commonDivisor_15 (lv_at hl 2 rfl) ?_
    refine lv_bipush (v := 100) hx hb d_BR_commonDivisor_17 (by decide) ?_
    refine lv_icmp_ge (tgt := 50) hx hb d_BR_commonDivisor_19 (by decide) (fun c_19 => ?_) (fun c_19 => ?_)
    · skip
      exact absurd c_19 (fun z => nI_ge (a := i) (b := 100) (by omega) (by decide) z)
    · skip
      refine lv_lload hx hb d_BR_commonDivisor_22 (lv_at hl 1 rfl) ?_
      refine lv_lconst (v := 0) hx hb d_BR_commonDivisor_24 (by decide) ?_
      refine W.lcmp hx hb d_BR_commonDivisor_25 ?_
      refine lv_if_eq (tgt := 50) hx hb d_BR_commonDivisor_26 (by decide) (fun c_26 => ?_) (fun c_26 => ?_)
      · skip
        have c_26 := (lg_cmp_eq rs 0).mp c_26
        exact kk ls (by rw [gcdL, if_pos c_26]; exact lv_sub hl [0] rfl)
      · skip
        have c_26 := (not_congr (lg_cmp_eq rs 0)).mp c_26
        refine lv_lload hx hb d_BR_commonDivisor_29 (lv_at hl 0 rfl) ?_
        refine lv_lload hx hb d_BR_commonDivisor_31 (lv_at hl 1 rfl) ?_
        refine lv_lrem hx hb d_BR_commonDivisor_33 c_26 ?_
        refine lv_lstore (lv' := [(9, .long (dv - dv / rs * rs)), (4, .long dv), (6, .long rs), (8, .int (nI i))]) hx hb d_BR_commonDivisor_34 hl (by decide) rfl (fun ls hl => ?_)
        refine lv_lload hx hb d_BR_commonDivisor_36 (lv_at hl 2 rfl) ?_
        refine lv_lstore (lv' := [(4, .long rs), (9, .long (dv - dv / rs * rs)), (6, .long rs), (8, .int (nI i))]) hx hb d_BR_commonDivisor_38 hl (by decide) rfl (fun ls hl => ?_)
        refine lv_lload hx hb d_BR_commonDivisor_40 (lv_at hl 1 rfl) ?_
        refine lv_lstore (lv' := [(6, .long (dv - dv / rs * rs)), (4, .long rs), (9, .long (dv - dv / rs * rs)), (8, .int (nI i))]) hx hb d_BR_commonDivisor_42 hl (by decide) rfl (fun ls hl => ?_)
        refine lv_iinc (v := (nI (i + 1))) (lv' := [(8, .int (nI (i + 1))), (6, .long (dv - dv / rs * rs)), (4, .long rs), (9, .long (dv - dv / rs * rs))]) hx hb d_BR_commonDivisor_44 hl (k := 3) rfl (nI_1 i) (by decide) rfl (fun ls hl => ?_)
        refine lv_goto (tgt := 15) hx hb d_BR_commonDivisor_47 (by decide) ?_
        exact ih (i + 1) rs (dv - dv / rs * rs) ls (by omega) (lv_sub hl [2, 1, 0] rfl) (fun ls hl => kk ls (by rw [gcdL, if_neg c_26]; exact hl))
set_option maxHeartbeats 4000000 in
set_option maxRecDepth 100000 in
/-- commonDivisor -/
theorem c_commonDivisor (l : Launch) (dC : Nat → ClassId) (dI : Nat → Nat → Nat) (cs : Nat → ClassId) (sz : Nat) (u : Int64) (v : Int64) : Met l y_BR_commonDivisor w_BR_commonDivisor ({ frames := 1, cells := 0, slots := 0, locals := 13 }) (vq_PreR (dC, dI) cs [] sz [.long u, .long v]) (va_Ql (fun (r : Int64) (_ : Unit) => r = gcdF u v) (fun _ _ => True) (va_A [] sz)) 0 0 (va_A [] sz) := by
  refine Met.ofW (cc := b_BR_commonDivisor) (maxL := 11) (ret := (some .long)) (by decide) rfl ?_
  intro p e s m args below meth c s₁ B hml hv
  obtain ⟨rfl, hsz, hP, hCx⟩ := hv
  have hx := B.exec
  have hb := B.bytes
  have hr := B.returns
  have hG := vq_hG (atoms_spec (ws := w_BR_commonDivisor) B.pre)
  have hown : s.vm.findClass R_BR = some m.cls := findClass_of_methodNamed B.named
  have hlocks := B.notSynchronized
  subst hsz
  have hK := hCx.1
  have hA : ∀ q : Nat, s.heap.size ≤ q → va_A [] s.heap.size q := fun q h => Or.inr h
  have hA0 : ∀ q : Nat, s.heap.size ≤ q → va_A [] s.heap.size q := fun q h => Or.inr h
  have hS : va_S (va_A [] s.heap.size) s.heap s.heap [] := va_S.rf
  have hl := lv_entry ([.long u, .long v]) (n := 11) (Nat.le_of_ble_eq_true rfl)
  rw [lg_entry_eq]
  generalize (lg_sl ([.long u, .long v]) ++ List.replicate (11 - (lg_sl ([.long u, .long v])).length) Slot.unset).toArray = ls at hl ⊢
  have hl : lv_has ls 11 [(0, .long u), (2, .long v)] := hl
  have hP : va_P (dC, dI) vq_cl [] s.heap := hP
  refine lv_lload_n hx hb d_BR_commonDivisor_0 rfl (lv_at hl 0 rfl) ?_
  refine va_mabs_long hx hb (by rw [hml]; exact hl.1.symm) hown (hG _ vq_t382) (hG _ vq_t383) (hG _ vq_t12) (hG _ vq_t384) (Nat.le_of_ble_eq_true rfl) (Nat.le_of_ble_eq_true rfl) (Nat.le_of_ble_eq_true rfl) (Nat.le_of_ble_eq_true rfl) d_BR_commonDivisor_1 ?_
  refine lv_lstore (lv' := [(4, .long (if 0 < u then u else -u)), (0, .long u), (2, .long v)]) hx hb d_BR_commonDivisor_4 hl (by decide) rfl (fun ls hl => ?_)
  refine lv_lload_n hx hb d_BR_commonDivisor_6 rfl (lv_at hl 2 rfl) ?_
  refine va_mabs_long hx hb (by rw [hml]; exact hl.1.symm) hown (hG _ vq_t382) (hG _ vq_t383) (hG _ vq_t12) (hG _ vq_t384) (Nat.le_of_ble_eq_true rfl) (Nat.le_of_ble_eq_true rfl) (Nat.le_of_ble_eq_true rfl) (Nat.le_of_ble_eq_true rfl) d_BR_commonDivisor_7 ?_
  refine lv_lstore (lv' := [(6, .long (if 0 < v then v else -v)), (4, .long (if 0 < u then u else -u)), (0, .long u), (2, .long v)]) hx hb d_BR_commonDivisor_10 hl (by decide) rfl (fun ls hl => ?_)
  refine lv_iconst (v := 0) hx hb d_BR_commonDivisor_12 (by decide) ?_
  refine lv_istore (lv' := [(8, .int 0), (6, .long (if 0 < v then v else -v)), (4, .long (if 0 < u then u else -u)), (0, .long u), (2, .long v)]) hx hb d_BR_commonDivisor_13 hl (by decide) rfl (fun ls hl => ?_)
  refine lp_gcd hx hb 100 0 _ _ ls rfl (lv_sub hl [2, 1, 0] rfl) (fun ls hl => ?_)
  refine lv_lload hx hb d_BR_commonDivisor_50 (lv_at hl 0 rfl) ?_
  refine W.widen (k := 0) (n := 0) (Nat.le_of_ble_eq_true rfl) (Nat.le_of_ble_eq_true rfl) ?_
  exact W.lret (v := (gcdF u v)) hx hb hr (fun t ht hW => ⟨⟨(gcdF u v), (), rfl, by rfl, trivial⟩, hS.F ht⟩) hS.2.2 d_BR_commonDivisor_52
set_option maxHeartbeats 4000000 in
set_option maxRecDepth 100000 in
/-- lowestTerms -/
theorem c_lowestTerms (l : Launch) (dC : Nat → ClassId) (dI : Nat → Nat → Nat) (cs : Nat → ClassId) (sz : Nat) (u : Int64) (v : Int64) (q : Int32) : Met l y_BR_lowestTerms w_BR_lowestTerms ({ frames := 2, cells := 0, slots := 0, locals := 43 }) (vq_PreR (dC, dI) cs [] sz [.long u, .long v, .int q]) (va_Ql (fun (r : Int64) (_ : Unit) => r = lowF u v q) (fun _ _ => True) (va_A [] sz)) 0 0 (va_A [] sz) := by
  refine Met.ofW (cc := b_BR_lowestTerms) (maxL := 9) (ret := (some .long)) (by decide) rfl ?_
  intro p e s m args below meth c s₁ B hml hv
  obtain ⟨rfl, hsz, hP, hCx⟩ := hv
  have hx := B.exec
  have hb := B.bytes
  have hr := B.returns
  have hG := vq_hG (atoms_spec (ws := w_BR_lowestTerms) B.pre)
  have hown : s.vm.findClass R_BR = some m.cls := findClass_of_methodNamed B.named
  have hlocks := B.notSynchronized
  subst hsz
  have hK := hCx.1
  have hA : ∀ q : Nat, s.heap.size ≤ q → va_A [] s.heap.size q := fun q h => Or.inr h
  have hA0 : ∀ q : Nat, s.heap.size ≤ q → va_A [] s.heap.size q := fun q h => Or.inr h
  have hS : va_S (va_A [] s.heap.size) s.heap s.heap [] := va_S.rf
  have hl := lv_entry ([.long u, .long v, .int q]) (n := 9) (Nat.le_of_ble_eq_true rfl)
  rw [lg_entry_eq]
  generalize (lg_sl ([.long u, .long v, .int q]) ++ List.replicate (9 - (lg_sl ([.long u, .long v, .int q])).length) Slot.unset).toArray = ls at hl ⊢
  have hl : lv_has ls 9 [(0, .long u), (2, .long v), (4, .int q)] := hl
  have hP : va_P (dC, dI) vq_cl [] s.heap := hP
  refine lv_lload_n hx hb d_BR_lowestTerms_0 rfl (lv_at hl 0 rfl) ?_
  refine lv_lload_n hx hb d_BR_lowestTerms_1 rfl (lv_at hl 1 rfl) ?_
  refine mk_rl (va_runS (As := [.long u, .long v]) (rest := []) ⟨hx, hb, hml, hown, hG⟩ (c_commonDivisor l dC dI cs _ u v) (cwS 2 hG (vq_gS vq_t379 vq_t380 vq_t1 vq_t381) rfl rfl rfl (by decide +kernel) ⟨Nat.le_of_ble_eq_true rfl, Nat.le_of_ble_eq_true rfl⟩) (vq_preSr (wc := []) hCx hP (vq_wk hS hA) hA [] rfl) rfl rfl hl.1 rfl (lv_room (Nat.le_of_ble_eq_true rfl)) d_BR_lowestTerms_2 ⟨Nat.le_of_ble_eq_true rfl, Nat.le_of_ble_eq_true rfl⟩) hP hS hA0 (fun r_2 H locs w_2 hP hS => ?_)
  subst w_2
  refine lv_lstore (lv' := [(5, .long (gcdF u v)), (0, .long u), (2, .long v), (4, .int q)]) hx hb d_BR_lowestTerms_5 hl (by decide) rfl (fun ls hl => ?_)
  refine lv_lload hx hb d_BR_lowestTerms_7 (lv_at hl 0 rfl) ?_
  refine lv_lconst (v := 0) hx hb d_BR_lowestTerms_9 (by decide) ?_
  refine W.lcmp hx hb d_BR_lowestTerms_10 ?_
  refine lv_if_ne (tgt := 16) hx hb d_BR_lowestTerms_11 (by decide) (fun c_11 => ?_) (fun c_11 => ?_)
  · skip
    have c_11 := (not_congr (lg_cmp_eq (gcdF u v) 0)).mp c_11
    refine lv_iload hx hb d_BR_lowestTerms_16 (lv_at hl 3 rfl) ?_
    refine lv_if_ne (tgt := 25) hx hb d_BR_lowestTerms_18 (by decide) (fun c_18 => ?_) (fun c_18 => ?_)
    · skip
      refine lv_lload_n hx hb d_BR_lowestTerms_25 rfl (lv_at hl 2 rfl) ?_
      refine lv_lload hx hb d_BR_lowestTerms_26 (lv_at hl 0 rfl) ?_
      refine lv_ldiv hx hb d_BR_lowestTerms_28 c_11 ?_
      refine lv_lstore (lv' := [(7, .long (v / (gcdF u v))), (5, .long (gcdF u v)), (0, .long u), (2, .long v), (4, .int q)]) hx hb d_BR_lowestTerms_29 hl (by decide) rfl (fun ls hl => ?_)
      refine lv_lload_n hx hb d_BR_lowestTerms_31 rfl (lv_at hl 3 rfl) ?_
      refine lv_lconst (v := 0) hx hb d_BR_lowestTerms_32 (by decide) ?_
      refine W.lcmp hx hb d_BR_lowestTerms_33 ?_
      refine lv_if_ge (tgt := 43) hx hb d_BR_lowestTerms_34 (by decide) (fun c_34 => ?_) (fun c_34 => ?_)
      · skip
        have c_34 := (lg_cmp_ge v 0).mp c_34
        refine lv_lload hx hb d_BR_lowestTerms_43 (lv_at hl 0 rfl) ?_
        refine W.widen (k := 0) (n := 0) (Nat.le_of_ble_eq_true rfl) (Nat.le_of_ble_eq_true rfl) ?_
        exact W.lret (v := (v / (gcdF u v))) hx hb hr (fun t ht hW => ⟨⟨(v / (gcdF u v)), (), rfl, by simp only [lowF, if_neg c_11, if_neg c_18, if_pos c_34], trivial⟩, hS.F ht⟩) hS.2.2 d_BR_lowestTerms_45
      · skip
        have c_34 := (not_congr (lg_cmp_ge v 0)).mp c_34
        refine lv_lload hx hb d_BR_lowestTerms_37 (lv_at hl 0 rfl) ?_
        refine lv_lneg hx hb d_BR_lowestTerms_39 ?_
        refine lv_goto (tgt := 45) hx hb d_BR_lowestTerms_40 (by decide) ?_
        refine W.widen (k := 0) (n := 0) (Nat.le_of_ble_eq_true rfl) (Nat.le_of_ble_eq_true rfl) ?_
        exact W.lret (v := (-(v / (gcdF u v)))) hx hb hr (fun t ht hW => ⟨⟨(-(v / (gcdF u v))), (), rfl, by simp only [lowF, if_neg c_11, if_neg c_18, if_neg c_34], trivial⟩, hS.F ht⟩) hS.2.2 d_BR_lowestTerms_45
    · skip
      refine lv_lload_n hx hb d_BR_lowestTerms_21 rfl (lv_at hl 1 rfl) ?_
      refine lv_goto (tgt := 26) hx hb d_BR_lowestTerms_22 (by decide) ?_
      refine lv_lload hx hb d_BR_lowestTerms_26 (lv_at hl 0 rfl) ?_
      refine lv_ldiv hx hb d_BR_lowestTerms_28 c_11 ?_
      refine lv_lstore (lv' := [(7, .long (u / (gcdF u v))), (5, .long (gcdF u v)), (0, .long u), (2, .long v), (4, .int q)]) hx hb d_BR_lowestTerms_29 hl (by decide) rfl (fun ls hl => ?_)
      refine lv_lload_n hx hb d_BR_lowestTerms_31 rfl (lv_at hl 3 rfl) ?_
      refine lv_lconst (v := 0) hx hb d_BR_lowestTerms_32 (by decide) ?_
      refine W.lcmp hx hb d_BR_lowestTerms_33 ?_
      refine lv_if_ge (tgt := 43) hx hb d_BR_lowestTerms_34 (by decide) (fun c_34 => ?_) (fun c_34 => ?_)
      · skip
        have c_34 := (lg_cmp_ge v 0).mp c_34
        refine lv_lload hx hb d_BR_lowestTerms_43 (lv_at hl 0 rfl) ?_
        refine W.widen (k := 0) (n := 0) (Nat.le_of_ble_eq_true rfl) (Nat.le_of_ble_eq_true rfl) ?_
        exact W.lret (v := (u / (gcdF u v))) hx hb hr (fun t ht hW => ⟨⟨(u / (gcdF u v)), (), rfl, by simp only [lowF, if_neg c_11, if_pos c_18, if_pos c_34], trivial⟩, hS.F ht⟩) hS.2.2 d_BR_lowestTerms_45
      · skip
        have c_34 := (not_congr (lg_cmp_ge v 0)).mp c_34
        refine lv_lload hx hb d_BR_lowestTerms_37 (lv_at hl 0 rfl) ?_
        refine lv_lneg hx hb d_BR_lowestTerms_39 ?_
        refine lv_goto (tgt := 45) hx hb d_BR_lowestTerms_40 (by decide) ?_
        refine W.widen (k := 0) (n := 0) (Nat.le_of_ble_eq_true rfl) (Nat.le_of_ble_eq_true rfl) ?_
        exact W.lret (v := (-(u / (gcdF u v)))) hx hb hr (fun t ht hW => ⟨⟨(-(u / (gcdF u v))), (), rfl, by simp only [lowF, if_neg c_11, if_pos c_18, if_neg c_34], trivial⟩, hS.F ht⟩) hS.2.2 d_BR_lowestTerms_45
  · skip
    have c_11 := (lg_cmp_eq (gcdF u v) 0).mp c_11
    refine lv_lconst (v := 0) hx hb d_BR_lowestTerms_14 (by decide) ?_
    refine W.widen (k := 0) (n := 0) (Nat.le_of_ble_eq_true rfl) (Nat.le_of_ble_eq_true rfl) ?_
    exact W.lret (v := 0) hx hb hr (fun t ht hW => ⟨⟨0, (), rfl, by simp only [lowF, if_pos c_11], trivial⟩, hS.F ht⟩) hS.2.2 d_BR_lowestTerms_15
set_option maxHeartbeats 4000000 in
set_option maxRecDepth 100000 in
/-- the loop of stockOf -/
theorem lp_stock {p : Program} {l : Launch} {e : Env} {R : Room} {s : State} {m : MethodId} {args : Array Value} {below : List Frame} {meth : Method} {c : Code} {cells slots : Nat} {Q : State → Prop} {H : Heap} {locs : List Loc} {dC : Nat → ClassId} {dI : Nat → Nat → Nat} {cs : Nat → ClassId} {h0 : Nat} {aMo : Nat} {aSh : Nat} {aLa : Nat} {aDy : Nat} {aMa : Nat} {aKi : Nat} {aPi : Nat} {aLn : Nat} {zCn : Int32} {zPc : Int32} {zTo : Int32} {fLa : Nat → Int32} {fDy : Nat → Int32} {fMa : Nat → Int32} {fKi : Nat → Int32} {x : Int32} (hx : p.tables.exec = Jvm.exec) (hb : c.code = b_BR_stockOf) (hG : ∀ w ∈ vq_G, w.before args s = true) (hown : s.vm.findClass R_BR = some m.cls) (hK : va_K (dC, dI) vq_cl (vq_tys cs) s) (hP : va_P (dC, dI) vq_cl [(h0, .inr (0, [.ref aMo, .ref aSh, .ref aLa, .ref aDy, .ref aMa, .ref aKi, .int zCn, .ref aPi, .int zPc, .ref aLn, .int zTo])), (aLa, .inl ((cs 0), 8, .inl fLa)), (aDy, .inl ((cs 0), 40, .inl fDy)), (aMa, .inl ((cs 0), 40, .inl fMa)), (aKi, .inl ((cs 0), 40, .inl fKi))] H) :
    ∀ (n i : Nat) (acc : Int32) (ls : Array Slot), i + n = 40 → lv_has ls 4 [(0, .ref h0), (1, .int x), (2, .int acc), (3, .int (nI i))] → (∀ ls : Array Slot, lv_has ls 4 [(2, .int (stockL fDy fMa fKi zCn zTo x n i acc))] → W p l e R s m args below meth c H locs cells slots Q (F0 m 62 ls [])) → W p l e R s m args below meth c H locs cells slots Q (F0 m 10 ls []) := by
  intro n
  induction n with
  | zero =>
    intro i acc ls hi hl kk
    refine lv_iload_n hx hb d_BR_stockOf_10 rfl (lv_at hl 3 rfl) ?_
    refine lv_bipush (v := 40) hx hb d_BR_stockOf_11 (by decide) ?_
    refine lv_icmp_ge (tgt := 62) hx hb d_BR_stockOf_13 (by decide) (fun c_13 => ?_) (fun c_13 => ?_)
    · skip
      exact kk ls (lv_sub hl [2] rfl)
    · skip
      exact absurd c_13 (not_not_intro (by rw [show i = 40 by omega]; decide))
  | succ n ih =>
    intro i acc ls hi hl kk
    have hin : vp_in (nI i) 40 := vp_in_nI (by omega) (by decide)
    refine lv_iload_n hx hb d_BR_stockOf_10 rfl (lv_at hl 3 rfl) ?_
    refine lv_bipush (v := 40) hx hb d_BR_stockOf_11 (by decide) ?_
    refine lv_icmp_ge (tgt := 62) hx hb d_BR_stockOf_13 (by decide) (fun c_13 => ?_) (fun c_13 => ?_)
    · skip
      exact absurd c_13 (fun z => nI_ge (a := i) (b := 40) (by omega) (by decide) z)
    · skip
      refine lv_iload_n hx hb d_BR_stockOf_16 rfl (lv_at hl 3 rfl) ?_
      refine lv_aload_n hx hb d_BR_stockOf_17 rfl (lv_at hl 0 rfl) ?_
      refine va_get (D := (dC, dI)) (ci := 0) (v := .int zCn) (C := R_BR) (T := F_BR) (N := 11) hx hb hG i_BR hown hK hP 0 rfl rfl 6 (by decide) (hG _ vq_t106) (fun _ h9 => h9) rfl d_BR_stockOf_18 ?_
      refine lv_icmp_ge (tgt := 62) hx hb d_BR_stockOf_21 (by decide) (fun c_21 => ?_) (fun c_21 => ?_)
      · skip
        exact kk ls (by rw [stockL, if_pos c_21]; exact lv_sub hl [2] rfl)
      · skip
        refine lv_aload_n hx hb d_BR_stockOf_24 rfl (lv_at hl 0 rfl) ?_
        refine va_get (D := (dC, dI)) (ci := 0) (v := .ref aMa) (C := R_BR) (T := F_BR) (N := 11) hx hb hG i_BR hown hK hP 0 rfl rfl 4 (by decide) (hG _ vq_t104) (fun _ h9 => h9) rfl d_BR_stockOf_25 ?_
        refine lv_iload_n hx hb d_BR_stockOf_28 rfl (lv_at hl 3 rfl) ?_
        refine va_iald (D := (dC, dI)) hx hb hK hP 3 0 rfl rfl hin d_BR_stockOf_29 ?_
        refine lv_iload_n hx hb d_BR_stockOf_30 rfl (lv_at hl 1 rfl) ?_
        refine lv_icmp_ne (tgt := 56) hx hb d_BR_stockOf_31 (by decide) (fun c_31 => ?_) (fun c_31 => ?_)
        · skip
          refine lv_iinc (v := (nI (i + 1))) (lv' := [(3, .int (nI (i + 1))), (0, .ref h0), (1, .int x), (2, .int acc)]) hx hb d_BR_stockOf_56 hl (k := 3) rfl (nI_1 i) (by decide) rfl (fun ls hl => ?_)
          refine lv_goto (tgt := 10) hx hb d_BR_stockOf_59 (by decide) ?_
          exact ih (i + 1) acc ls (by omega) (lv_sub hl [1, 2, 3, 0] rfl) (fun ls hl => kk ls (by rw [stockL, if_neg c_21, if_neg c_31]; exact hl))
        · skip
          refine lv_aload_n hx hb d_BR_stockOf_34 rfl (lv_at hl 0 rfl) ?_
          refine va_get (D := (dC, dI)) (ci := 0) (v := .ref aDy) (C := R_BR) (T := F_BR) (N := 11) hx hb hG i_BR hown hK hP 0 rfl rfl 3 (by decide) (hG _ vq_t103) (fun _ h9 => h9) rfl d_BR_stockOf_35 ?_
          refine lv_iload_n hx hb d_BR_stockOf_38 rfl (lv_at hl 3 rfl) ?_
          refine va_iald (D := (dC, dI)) hx hb hK hP 2 0 rfl rfl hin d_BR_stockOf_39 ?_
          refine lv_aload_n hx hb d_BR_stockOf_40 rfl (lv_at hl 0 rfl) ?_
          refine va_get (D := (dC, dI)) (ci := 0) (v := .int zTo) (C := R_BR) (T := F_BR) (N := 11) hx hb hG i_BR hown hK hP 0 rfl rfl 10 (by decide) (hG _ vq_t110) (fun _ h9 => h9) rfl d_BR_stockOf_41 ?_
          refine lv_icmp_gt (tgt := 56) hx hb d_BR_stockOf_44 (by decide) (fun c_44 => ?_) (fun c_44 => ?_)
          · skip
            refine lv_iinc (v := (nI (i + 1))) (lv' := [(3, .int (nI (i + 1))), (0, .ref h0), (1, .int x), (2, .int acc)]) hx hb d_BR_stockOf_56 hl (k := 3) rfl (nI_1 i) (by decide) rfl (fun ls hl => ?_)
            refine lv_goto (tgt := 10) hx hb d_BR_stockOf_59 (by decide) ?_
            exact ih (i + 1) acc ls (by omega) (lv_sub hl [1, 2, 3, 0] rfl) (fun ls hl => kk ls (by rw [stockL, if_neg c_21, if_pos c_31, if_pos c_44]; exact hl))
          · skip
            refine lv_iload_n hx hb d_BR_stockOf_47 rfl (lv_at hl 2 rfl) ?_
            refine lv_aload_n hx hb d_BR_stockOf_48 rfl (lv_at hl 0 rfl) ?_
            refine va_get (D := (dC, dI)) (ci := 0) (v := .ref aKi) (C := R_BR) (T := F_BR) (N := 11) hx hb hG i_BR hown hK hP 0 rfl rfl 5 (by decide) (hG _ vq_t105) (fun _ h9 => h9) rfl d_BR_stockOf_49 ?_
            refine lv_iload_n hx hb d_BR_stockOf_52 rfl (lv_at hl 3 rfl) ?_
            refine va_iald (D := (dC, dI)) hx hb hK hP 4 0 rfl rfl hin d_BR_stockOf_53 ?_
            refine lv_iadd hx hb d_BR_stockOf_54 ?_
            refine lv_istore_n (lv' := [(2, .int (acc + (fKi (nI i).toNatClampNeg))), (0, .ref h0), (1, .int x), (3, .int (nI i))]) hx hb d_BR_stockOf_55 rfl hl (by decide) rfl (fun ls hl => ?_)
            refine lv_iinc (v := (nI (i + 1))) (lv' := [(3, .int (nI (i + 1))), (2, .int (acc + (fKi (nI i).toNatClampNeg))), (0, .ref h0), (1, .int x)]) hx hb d_BR_stockOf_56 hl (k := 3) rfl (nI_1 i) (by decide) rfl (fun ls hl => ?_)
            refine lv_goto (tgt := 10) hx hb d_BR_stockOf_59 (by decide) ?_
            exact ih (i + 1) (acc + (fKi (nI i).toNatClampNeg)) ls (by omega) (lv_sub hl [2, 3, 1, 0] rfl) (fun ls hl => kk ls (by rw [stockL, if_neg c_21, if_pos c_31, if_neg c_44]; exact hl))
set_option maxHeartbeats 4000000 in
set_option maxRecDepth 100000 in
/-- stockOf -/
theorem c_stockOf (l : Launch) (dC : Nat → ClassId) (dI : Nat → Nat → Nat) (cs : Nat → ClassId) (sz : Nat) (h0 : Nat) (aMo : Nat) (aSh : Nat) (aLa : Nat) (aDy : Nat) (aMa : Nat) (aKi : Nat) (aPi : Nat) (aLn : Nat) (zCn : Int32) (zPc : Int32) (zTo : Int32) (fLa : Nat → Int32) (fDy : Nat → Int32) (fMa : Nat → Int32) (fKi : Nat → Int32) (x : Int32) (hi : okM x) : Met l y_BR_stockOf w_BR_stockOf ({ frames := 0, cells := 0, slots := 0, locals := 0 }) (vq_PreR (dC, dI) cs [(h0, .inr (0, [.ref aMo, .ref aSh, .ref aLa, .ref aDy, .ref aMa, .ref aKi, .int zCn, .ref aPi, .int zPc, .ref aLn, .int zTo])), (aLa, .inl ((cs 0), 8, .inl fLa)), (aDy, .inl ((cs 0), 40, .inl fDy)), (aMa, .inl ((cs 0), 40, .inl fMa)), (aKi, .inl ((cs 0), 40, .inl fKi))] sz [.ref h0, .int x]) (va_Qi (fun (r : Int32) (_ : Unit) => r = stockF fLa fDy fMa fKi zCn zTo x) (fun _ _ => True) (va_A [] sz)) 0 0 (va_A [] sz) := by
  refine Met.ofW (cc := b_BR_stockOf) (maxL := 4) (ret := (some .int)) (by decide) rfl ?_
  intro p e s m args below meth c s₁ B hml hv
  obtain ⟨rfl, hsz, hP, hCx⟩ := hv
  have hx := B.exec
  have hb := B.bytes
  have hr := B.returns
  have hG := vq_hG (atoms_spec (ws := w_BR_stockOf) B.pre)
  have hown : s.vm.findClass R_BR = some m.cls := findClass_of_methodNamed B.named
  have hlocks := B.notSynchronized
  subst hsz
  have hK := hCx.1
  have hA : ∀ q : Nat, s.heap.size ≤ q → va_A [] s.heap.size q := fun q h => Or.inr h
  have hA0 : ∀ q : Nat, s.heap.size ≤ q → va_A [] s.heap.size q := fun q h => Or.inr h
  have hS : va_S (va_A [] s.heap.size) s.heap s.heap [] := va_S.rf
  have hl := lv_entry ([.ref h0, .int x]) (n := 4) (Nat.le_of_ble_eq_true rfl)
  rw [lg_entry_eq]
  generalize (lg_sl ([.ref h0, .int x]) ++ List.replicate (4 - (lg_sl ([.ref h0, .int x])).length) Slot.unset).toArray = ls at hl ⊢
  have hl : lv_has ls 4 [(0, .ref h0), (1, .int x)] := hl
  have hP : va_P (dC, dI) vq_cl [(h0, .inr (0, [.ref aMo, .ref aSh, .ref aLa, .ref aDy, .ref aMa, .ref aKi, .int zCn, .ref aPi, .int zPc, .ref aLn, .int zTo])), (aLa, .inl ((cs 0), 8, .inl fLa)), (aDy, .inl ((cs 0), 40, .inl fDy)), (aMa, .inl ((cs 0), 40, .inl fMa)), (aKi, .inl ((cs 0), 40, .inl fKi))] s.heap := hP
  refine lv_aload_n hx hb d_BR_stockOf_0 rfl (lv_at hl 0 rfl) ?_
  refine va_get (D := (dC, dI)) (ci := 0) (v := .ref aLa) (C := R_BR) (T := F_BR) (N := 11) hx hb hG i_BR hown hK hP 0 rfl rfl 2 (by decide) (hG _ vq_t102) (fun _ h9 => h9) rfl d_BR_stockOf_1 ?_
  refine lv_iload_n hx hb d_BR_stockOf_4 rfl (lv_at hl 1 rfl) ?_
  refine va_iald (D := (dC, dI)) hx hb hK hP 1 0 rfl rfl (vq_in 8 rfl hi.1 hi.2) d_BR_stockOf_5 ?_
  refine lv_ineg hx hb d_BR_stockOf_6 ?_
  refine lv_istore_n (lv' := [(2, .int (-(fLa x.toNatClampNeg))), (0, .ref h0), (1, .int x)]) hx hb d_BR_stockOf_7 rfl hl (by decide) rfl (fun ls hl => ?_)
  refine lv_iconst (v := 0) hx hb d_BR_stockOf_8 (by decide) ?_
  refine lv_istore_n (lv' := [(3, .int 0), (2, .int (-(fLa x.toNatClampNeg))), (0, .ref h0), (1, .int x)]) hx hb d_BR_stockOf_9 rfl hl (by decide) rfl (fun ls hl => ?_)
  refine lp_stock hx hb hG hown hK hP 40 0 _ ls rfl (lv_sub hl [2, 3, 1, 0] rfl) (fun ls hl => ?_)
  refine lv_iload_n hx hb d_BR_stockOf_62 rfl (lv_at hl 0 rfl) ?_
  refine W.widen (k := 0) (n := 0) (Nat.le_of_ble_eq_true rfl) (Nat.le_of_ble_eq_true rfl) ?_
  exact W.iret (v := (stockF fLa fDy fMa fKi zCn zTo x)) hx hb hr (fun t ht hW => ⟨⟨(stockF fLa fDy fMa fKi zCn zTo x), (), rfl, by rfl, trivial⟩, hS.F ht⟩) hS.2.2 d_BR_stockOf_63
