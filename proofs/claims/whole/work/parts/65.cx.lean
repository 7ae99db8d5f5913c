-- THE CONTEXT, out of the tables and of what the Statement gives
set_option maxRecDepth 100000 in
theorem st_nf : ∀ q ∈ vq_NF, Cond.fieldLinkNest q.1 q.2.1 q.2.2.1 q.2.2.2.1 q.2.2.2.2.1 q.2.2.2.2.2 ∈ lw_tbl := by decide +kernel
set_option maxRecDepth 100000 in
theorem st_nm : ∀ q ∈ vq_NM, Cond.methodLinkNest q.1 q.2.1 q.2.2.1 q.2.2.2 ∈ lw_tbl := by decide +kernel
set_option maxRecDepth 100000 in
theorem st_sw : ∀ q ∈ vq_SW, Cond.stringRef q.1 q.2.1 q.2.2 ∈ lw_tbl := by decide +kernel
theorem st_br : ∀ q ∈ vq_SW, q.1 = R_BR := by decide +kernel
set_option maxRecDepth 100000 in
theorem st_ao : Cond.arrayOver (.object "BlendRows$Pile") ∈ lw_tbl := by decide +kernel
set_option maxRecDepth 100000 in
theorem st_ca : ∀ E ∈ vq_E, Cond.castable E E ∈ lw_tbl := by decide +kernel
set_option maxRecDepth 100000 in
theorem st_de : ∀ y ∈ vq_DE, Cond.declares y ∈ lw_tbl := by decide +kernel
set_option maxRecDepth 100000 in
theorem st_nc : ∀ E ∈ vq_E, ∀ F ∈ vq_E, E ≠ F → Cond.not (.castable E F) ∈ flatC (Jvm.Cond.and given_1 narrow_1) := by decide +kernel
set_option maxRecDepth 100000 in
theorem st_l1 : Cond.laysStatic Bundle.tN "UNASSIGNED_STACK" Bundle.steD ∈ lw_tbl ∧ Cond.laysStatic Bundle.tN "SUPPRESSED_SENTINEL" Bundle.listD ∈ lw_tbl ∧ Cond.initialized Bundle.tN ∈ lw_tbl := by decide +kernel
set_option maxRecDepth 100000 in
theorem st_l2 : Cond.isRef (.static Bundle.tN "UNASSIGNED_STACK" Bundle.steD) ∈ flatC (Jvm.Cond.and given_1 narrow_1) ∧ Cond.isRef (.static Bundle.tN "SUPPRESSED_SENTINEL" Bundle.listD) ∈ flatC (Jvm.Cond.and given_1 narrow_1) := by decide +kernel
theorem start_cx {s : State} {b : Nat} (hts : ∀ w ∈ lw_tbl, w.before #[Value.ref b] s = true) (hgv : (Jvm.Cond.and given_1 narrow_1).before #[Value.ref b] s = true) : ∃ (dC : Nat → ClassId) (dI : Nat → Nat → Nat) (cs : Nat → ClassId), vq_Cx (dC, dI) cs (fun q : Nat => s.heap.size ≤ q) s := by
  have hG : ∀ w ∈ vq_G, w.before #[Value.ref b] s = true := fun w h => hts w (List.mem_filter.mp h).1
  have hfl := flat_of_before _ hgv
  have hA : ∀ a : Nat, a < s.heap.size → ¬ (fun q : Nat => s.heap.size ≤ q) a := fun a h => Nat.not_le.mpr h
  obtain ⟨c0, i0, k0⟩ := u_known (C := R_BR) (T := F_BR) (N := 11) (n := 11) hG i_BR (hG _ vq_t14)
  obtain ⟨c1, i1, k1⟩ := u_known (C := R_PI) (T := F_PI) (N := 13) (n := 13) hG i_PI (hG _ vq_t47)
  obtain ⟨c2, i2, k2⟩ := u_known (C := R_LI) (T := F_LI) (N := 5) (n := 5) hG i_LI (hG _ vq_t24)
  obtain ⟨c3, i3, k3⟩ := u_known (C := R_MO) (T := F_MO) (N := 22) (n := 22) hG i_MO (hG _ vq_t472)
  obtain ⟨aI, kI, pI, f1, f2, f3⟩ := Cond.arrayClass_spec (hG _ vq_arrI)
  obtain ⟨aJ, kJ, pJ, g1, g2, g3⟩ := Cond.arrayClass_spec (hG _ vq_arrJ)
  have hAO := hts _ st_ao
  obtain ⟨comp, aP, kP, p1, p2, p3, p4, p5⟩ := Cond.arrayOver_spec hAO
  obtain ⟨cB, kB, hfcB, -⟩ := Cond.instantiable_spec (hG _ vq_t14)
  refine ⟨fun k => if k = 0 then c0 else if k = 1 then c1 else if k = 2 then c2 else c3, fun k => if k = 0 then i0 else if k = 1 then i1 else if k = 2 then i2 else i3, fun k => if k = 0 then aI else if k = 1 then aJ else aP, ⟨?_, ?_⟩, ?_, ?_, ?_, ?_, ?_, ?_, ?_, ?_, ?_⟩
  · intro k q hq
    match k, hq with
    | 0, hq => cases hq; exact k0
    | 1, hq => cases hq; exact k1
    | 2, hq => cases hq; exact k2
    | 3, hq => cases hq; exact k3
    | k + 4, hq => simp at hq
  · intro k q hq
    match k, hq with
    | 0, hq => cases hq; exact ⟨fun n z => ⟨fun k h => (by cases h), kI, f2, pI, f3⟩, f1⟩
    | 1, hq => cases hq; exact ⟨fun n z => ⟨fun k h => (by cases h), kJ, g2, pJ, g3⟩, g1⟩
    | 2, hq => cases hq; exact ⟨fun n z => ⟨fun k h => (by cases h), kP, p3, comp, p4⟩, ⟨kP, comp, p3, p4, p1, p5⟩⟩
    | k + 3, hq => simp at hq
  · exact fun q hq => va_Nw.of rfl (hts _ (st_nf q hq))
  · exact fun q hq => va_Nw.of rfl (hts _ (st_nm q hq))
  · intro q hq
    have h := hts _ (st_sw q hq)
    have hc : s.vm.findClass q.1 = some cB := by rw [st_br q hq]; exact hfcB
    obtain ⟨_, _, _, a, _, _, _, _, _, he⟩ := Cond.stringRef_spec hc h
    exact ⟨a, vk_R.of h he⟩
  · intro C hC
    rw [List.mem_singleton.mp hC]
    exact va_AO.of hAO
  · exact fun E hE => va_Nw.of rfl (hts _ (st_ca E hE))
  · exact fun E hE F hF hn => va_Nc.of (hfl _ (st_nc E hE F hF hn))
  · exact fun y hy => va_Nw.of rfl (hts _ (st_de y hy))
  · exact vx_Zqof (hts _ st_l1.1) (hts _ st_l1.2.2) (hfl _ st_l2.1) hA
  · exact vx_Zqof (hts _ st_l1.2.1) (hts _ st_l1.2.2) (hfl _ st_l2.2) hA
