-- THE CONTEXT of every method of ours, calls and throws in it
/-- what every method of ours is given beside its cells: the classes, the links across the nest, the texts, what a throw needs -/
def vq_Cx (D : va_G) (cs : Nat → ClassId) (A : Nat → Prop) (U : State) : Prop :=
  va_K D vq_cl (vq_tys cs) U ∧ (∀ q ∈ vq_NF, va_Nw (.fieldLinkNest q.1 q.2.1 q.2.2.1 q.2.2.2.1 q.2.2.2.2.1 q.2.2.2.2.2) U) ∧ (∀ q ∈ vq_NM, va_Nw (.methodLinkNest q.1 q.2.1 q.2.2.1 q.2.2.2) U) ∧
  (∀ q ∈ vq_SW, ∃ sa, vk_R q.1 q.2.1 q.2.2 sa U) ∧ (∀ C ∈ vq_AO, va_AO C U) ∧ (∀ E ∈ vq_E, va_Nw (.castable E E) U) ∧ (∀ E ∈ vq_E, ∀ F ∈ vq_E, E ≠ F → va_Nc E F U) ∧ (∀ y ∈ vq_DE, va_Nw (.declares y) U) ∧ vx_Zq Bundle.tN "UNASSIGNED_STACK" Bundle.steD A U U.heap ∧ vx_Zq Bundle.tN "SUPPRESSED_SENTINEL" Bundle.listD A U U.heap
theorem vq_cast {a b : String} {s U : State} (hW : s.WarmedH U.vm) (h : va_Nw (.castable a b) s) : va_Nw (.castable a b) U := va_tabs rfl (rfl : (s.setVm U.vm).vm = U.vm) ((Cond.castable_setVm (args := #[]) hW.alike a b).trans h)
theorem vq_decl {y : MethodName} {s U : State} (hW : s.WarmedH U.vm) (h : va_Nw (.declares y) s) : va_Nw (.declares y) U := va_tabs rfl (rfl : (s.setVm U.vm).vm = U.vm) ((Cond.declares_setVm (args := #[]) hW.alike y).trans h)
theorem vq_new {n q : Nat} (h : va_A [] n q) : n ≤ q := by
  rcases h with ⟨k, e, h⟩ | h
  · simp at h
  · exact h
theorem vq_wk {A : Nat → Prop} {H0 H : Heap} {locs : List Loc} (h : va_S (va_A [] H0.size) H0 H locs) (hA : ∀ q, H0.size ≤ q → A q) : va_S A H0 H locs :=
  ⟨h.1, fun q h1 _ => h.2.1 q h1 (fun z => absurd (vq_new z) (Nat.not_le.mpr h1)), fun q hq => hA _ (vq_new (h.2.2 q hq))⟩
theorem vq_Cx.go {D : va_G} {cs : Nat → ClassId} {A B : Nat → Prop} {s U : State} {H : Heap} {locs : List Loc} (h : vq_Cx D cs A s) (hS : va_S A s.heap H locs) (hU : U.heap = H) (hW : s.WarmedH U.vm) (hB : ∀ q, B q → A q) : vq_Cx D cs B U := by
  obtain ⟨h1, h2, h3, h4, h5, h8, h9, h10, h6, h7⟩ := h
  refine ⟨va_K.moved hW.alike h1, fun q hq => va_Nw.warmF hW (h2 q hq), fun q hq => va_Nw.warmM hW (h3 q hq), fun q hq => (h4 q hq).imp fun sa h => h.warm hW, fun C hC => va_AO.moved hW.alike (h5 C hC), fun E hE => vq_cast hW (h8 E hE), fun E hE F hF hn => va_Nc.moved hW.alike (h9 E hE F hF hn), fun y hy => vq_decl hW (h10 y hy), ?_, ?_⟩
  · rw [hU]; exact ((h6.kept hS.2.1).narrow hB).moved hW.alike
  · rw [hU]; exact ((h7.kept hS.2.1).narrow hB).moved hW.alike
theorem vq_Cx.blind {D : va_G} {cs : Nat → ClassId} {A : Nat → Prop} {U : State} {g : JFrame} {mk : MethodId} {a : Array Value} (h : vq_Cx D cs A U) : vq_Cx D cs A (U.calling g mk a) := by
  obtain ⟨h1, h2, h3, h4, h5, h8, h9, h10, h6, h7⟩ := h
  exact ⟨va_K.moved (u := U) (U := U.calling g mk a) (Vm.Alike.refl U.vm) h1, fun q hq => va_Nw.same rfl rfl (h2 q hq), fun q hq => va_Nw.same rfl rfl (h3 q hq), fun q hq => (h4 q hq).imp fun sa h => h.same rfl, fun C hC => va_AO.moved (u := U) (U := U.calling g mk a) (Vm.Alike.refl U.vm) (h5 C hC), fun E hE => va_Nw.same rfl rfl (h8 E hE), fun E hE F hF hn => va_Nc.moved (u := U) (U := U.calling g mk a) (Vm.Alike.refl U.vm) (h9 E hE F hF hn), fun y hy => va_Nw.same rfl rfl (h10 y hy),
    vx_Zq.moved (u := U) (U := U.calling g mk a) (Vm.Alike.refl U.vm) h6, vx_Zq.moved (u := U) (U := U.calling g mk a) (Vm.Alike.refl U.vm) h7⟩
/-- the start of a method that only reads; of one that writes -/
abbrev vq_PreR (D : va_G) (cs : Nat → ClassId) (ws : va_W) (sz : Nat) (av : List Value) : Array Value → State → Prop := va_Pc av (fun U => U.heap.size = sz ∧ va_P D vq_cl ws U.heap ∧ vq_Cx D cs (va_A [] sz) U)
abbrev vq_Pre (D : va_G) (cs : Nat → ClassId) (ws : va_W) (sz : Nat) (av : List Value) : Array Value → State → Prop := va_Pc av (fun U => U.heap.size = sz ∧ va_P D vq_cl ws U.heap ∧ va_D (fun _ => True) ws ∧ vq_Cx D cs (va_A ws sz) U)
abbrev vq_B {S : Type} (D : va_G) (_ : Nat → ClassId) (A : Nat → Prop) (w1 : S → va_W) : S → State → Prop := fun u t => va_P D vq_cl (w1 u) t.heap ∧ va_D A (w1 u)
def vq_X (px : String → Prop) (sz : Nat) : String → State → State → Prop := vx_X (S := Unit) (fun _ => True) (fun E _ _ => px E) (va_A [] sz)
theorem vq_Xof {px : String → Prop} {sz : Nat} {E : String} {s t : State} (h : px E) (hF : va_F (va_A [] sz) s t) : vq_X px sz E s t := ⟨(), trivial, h, hF⟩
section VQP
variable {s : State} {D : va_G} {cs : Nat → ClassId} {A : Nat → Prop} {H : Heap} {locs : List Loc} {ws wc : va_W} {As : List Value} {C : String} {b : Addr}
theorem vq_preSr (hC : vq_Cx D cs A s) (hP : va_P D vq_cl ws H) (hS : va_S A s.heap H locs) (hA : ∀ q, s.heap.size ≤ q → A q) (is : List Nat) (hs : is.filterMap (fun i => ws[i]?) = wc) : PreS s H (vq_PreR D cs wc H.size As) As :=
  ⟨fun a U g mk q => by obtain ⟨q0, q1, qP, qC⟩ := q; exact ⟨q0, q1, qP, qC.blind⟩,
   fun U hU hW => ⟨rfl, by rw [hU], by rw [hU]; exact hP.sub is hs, hC.go hS hU hW (fun q h => hA q (Nat.le_trans hS.1 (vq_new h)))⟩⟩
theorem vq_preVr (hrc : ∃ cellB : Cell, H[b]? = some cellB ∧ cellB.vm.isStatics = false ∧ s.vm.findClass C = some cellB.cls) (hC : vq_Cx D cs A s) (hP : va_P D vq_cl ws H) (hS : va_S A s.heap H locs) (hA : ∀ q, s.heap.size ≤ q → A q) (is : List Nat) (hs : is.filterMap (fun i => ws[i]?) = wc) : PreV s H C b (vq_PreR D cs wc H.size (.ref b :: As)) As :=
  ⟨fun a U g mk q => by obtain ⟨q0, q1, qP, qC⟩ := q; exact ⟨q0, q1, qP, qC.blind⟩, hrc,
   fun U hU hW => ⟨rfl, by rw [hU], by rw [hU]; exact hP.sub is hs, hC.go hS hU hW (fun q h => hA q (Nat.le_trans hS.1 (vq_new h)))⟩⟩
theorem vq_preSw (hC : vq_Cx D cs A s) (hP : va_P D vq_cl ws H) (hD : va_D A ws) (hS : va_S A s.heap H locs) (hA : ∀ q, s.heap.size ≤ q → A q) (is : List Nat) (hs : is.filterMap (fun i => ws[i]?) = wc) (h2 : is.map (fun i => ws[i]?) = wc.map some) (hn : va_nd is = true) : PreS s H (vq_Pre D cs wc H.size As) As :=
  ⟨fun a U g mk q => by obtain ⟨q0, q1, qP, qD, qC⟩ := q; exact ⟨q0, q1, qP, qD, qC.blind⟩,
   fun U hU hW => ⟨rfl, by rw [hU], by rw [hU]; exact hP.sub is hs, (hD.sub is hn h2).weaken (fun _ _ _ _ => trivial), hC.go hS hU hW (va_free hD hS hA is h2)⟩⟩
theorem vq_preVw (hrc : ∃ cellB : Cell, H[b]? = some cellB ∧ cellB.vm.isStatics = false ∧ s.vm.findClass C = some cellB.cls) (hC : vq_Cx D cs A s) (hP : va_P D vq_cl ws H) (hD : va_D A ws) (hS : va_S A s.heap H locs) (hA : ∀ q, s.heap.size ≤ q → A q) (is : List Nat) (hs : is.filterMap (fun i => ws[i]?) = wc) (h2 : is.map (fun i => ws[i]?) = wc.map some) (hn : va_nd is = true) : PreV s H C b (vq_Pre D cs wc H.size (.ref b :: As)) As :=
  ⟨fun a U g mk q => by obtain ⟨q0, q1, qP, qD, qC⟩ := q; exact ⟨q0, q1, qP, qD, qC.blind⟩, hrc,
   fun U hU hW => ⟨rfl, by rw [hU], by rw [hU]; exact hP.sub is hs, (hD.sub is hn h2).weaken (fun _ _ _ _ => trivial), hC.go hS hU hW (va_free hD hS hA is h2)⟩⟩
end VQP
section VQC
variable {p : Program} {l : Launch} {e : Env} {R : Room} {s : State} {m : MethodId} {args : Array Value} {below : List Frame} {meth : Method} {c : Code} {H : Heap} {locs : List Loc} {cells slots : Nat} {Q : State → Prop}
variable {pc : Nat} {ls : Array Slot} {rest st0 : List Value} {a : Array Value} {A0 : Nat → Prop} {H0 : Heap} {mc ms : Nat} {D : va_G} {cs : Nat → ClassId} {ws wc : va_W} {S : Type} {w1 : S → va_W} {px : String → Prop}
theorem mk_ri {post : Int32 → Unit → Prop} (hr : va_Run p l e R s m args below meth c H locs cells slots mc ms (F0 m pc ls st0) rest (va_Qi post (fun _ _ => True) (va_A [] H.size) a) (va_A [] H.size)) (hP : va_P D vq_cl ws H) (hS : va_S A0 H0 H locs) (hA : ∀ q, H0.size ≤ q → A0 q)
    (kk : ∀ (r : Int32) (H1 : Heap) (locs1 : List Loc), post r () → va_P D vq_cl ws H1 → va_S A0 H0 H1 locs1 → W p l e R s m args below meth c H1 locs1 (cells + mc) (slots + ms) Q (F0 m (pc + 3) ls (.int r :: rest))) : W p l e R s m args below meth c H locs cells slots Q (F0 m pc ls st0) :=
  va_calli hr hS (fun q h z => absurd (vq_new z) (Nat.not_le.mpr h)) (fun q h => hA q (Nat.le_trans hS.1 (vq_new h))) (fun r u t H1 locs1 ht hvm hw hB hz hk hS1 => kk r H1 locs1 hw (hP.kept (fun k q hq => hk q.1 ((hP k q hq).lt) (fun z => absurd (vq_new z) (Nat.not_le.mpr ((hP k q hq).lt))))) hS1)
theorem mx_ri {post : Int32 → Unit → Prop} (hr : vx_Run p l e R s m args below meth c H locs cells slots mc ms (F0 m pc ls st0) rest (va_Qi post (fun _ _ => True) (va_A [] H.size) a) (vq_X px H.size) (va_A [] H.size)) (hP : va_P D vq_cl ws H) (hS : va_S A0 H0 H locs) (hA : ∀ q, H0.size ≤ q → A0 q)
    (kx : ∀ (E : String) (ce : Cell) (q9 : Addr) (H1 : Heap) (locs1 : List Loc), px E → va_P D vq_cl ws H1 → va_S A0 H0 H1 locs1 → H1[q9]? = some ce → ce.vm = .none → s.vm.findClass E = some ce.cls → vx_W p l e R s m args below meth c H1 locs1 (cells + mc) (slots + ms) Q (F0 m pc ls rest) q9)
    (kk : ∀ (r : Int32) (H1 : Heap) (locs1 : List Loc), post r () → va_P D vq_cl ws H1 → va_S A0 H0 H1 locs1 → W p l e R s m args below meth c H1 locs1 (cells + mc) (slots + ms) Q (F0 m (pc + 3) ls (.int r :: rest))) : W p l e R s m args below meth c H locs cells slots Q (F0 m pc ls st0) :=
  vx_calli hr hS (fun q h z => absurd (vq_new z) (Nat.not_le.mpr h)) (fun q h => hA q (Nat.le_trans hS.1 (vq_new h))) (fun q h z => absurd (vq_new z) (Nat.not_le.mpr h)) (fun E ce q9 u t H1 locs1 ht hvm hpx hB hz hk hS1 h1 h2 h3 => kx E ce q9 H1 locs1 hB (hP.kept (fun k q hq => hk q.1 ((hP k q hq).lt) (fun z => absurd (vq_new z) (Nat.not_le.mpr ((hP k q hq).lt))))) hS1 h1 h2 h3) (fun r u t H1 locs1 ht hvm hw hB hz hk hS1 => kk r H1 locs1 hw (hP.kept (fun k q hq => hk q.1 ((hP k q hq).lt) (fun z => absurd (vq_new z) (Nat.not_le.mpr ((hP k q hq).lt))))) hS1)
theorem mk_wi {post : Int32 → S → Prop} (hr : va_Run p l e R s m args below meth c H locs cells slots mc ms (F0 m pc ls st0) rest (va_Qi post (vq_B D cs (va_A wc H.size) w1) (va_A wc H.size) a) (va_A wc H.size)) (hP : va_P D vq_cl ws H) (hD : va_D A0 ws) (hS : va_S A0 H0 H locs) (hA : ∀ q, H0.size ≤ q → A0 q) (isC isR : List Nat) (hC : isC.map (fun i => ws[i]?) = wc.map some) (hR : isR.map (fun i => ws[i]?) = (isR.filterMap (fun i => ws[i]?)).map some) (hn : va_nd isR = true) (hdis : ∀ i ∈ isR, i ∉ isC)
    (kk : ∀ (r : Int32) (u : S) (H1 : Heap) (locs1 : List Loc), post r u → va_P D vq_cl (isR.filterMap (fun i => ws[i]?) ++ w1 u) H1 → va_D A0 (isR.filterMap (fun i => ws[i]?) ++ w1 u) → va_S A0 H0 H1 locs1 → W p l e R s m args below meth c H1 locs1 (cells + mc) (slots + ms) Q (F0 m (pc + 3) ls (.int r :: rest))) : W p l e R s m args below meth c H locs cells slots Q (F0 m pc ls st0) :=
  va_calli hr hS (fun q _ h => va_free hD hS hA isC hC q h) (va_free hD hS hA isC hC) (fun r u t H1 locs1 ht hvm hw hB hz hk hS1 => by
    obtain ⟨hP1, hD1⟩ := hB
    rw [ht] at hP1
    obtain ⟨x1, x2⟩ := va_join hP hD isC isR hC hR hn hdis hk (va_free hD hS hA isC hC) hP1 hD1
    exact kk r u H1 locs1 hw x1 x2 hS1)
theorem mx_wi {post : Int32 → S → Prop} (hr : vx_Run p l e R s m args below meth c H locs cells slots mc ms (F0 m pc ls st0) rest (va_Qi post (vq_B D cs (va_A wc H.size) w1) (va_A wc H.size) a) (vq_X px H.size) (va_A wc H.size)) (hP : va_P D vq_cl ws H) (hD : va_D A0 ws) (hS : va_S A0 H0 H locs) (hA : ∀ q, H0.size ≤ q → A0 q) (isC isR : List Nat) (hC : isC.map (fun i => ws[i]?) = wc.map some) (hR : isR.map (fun i => ws[i]?) = (isR.filterMap (fun i => ws[i]?)).map some) (hn : va_nd isR = true) (hdis : ∀ i ∈ isR, i ∉ isC)
    (kx : ∀ (E : String) (ce : Cell) (q9 : Addr) (H1 : Heap) (locs1 : List Loc), px E → va_P D vq_cl ws H1 → va_S A0 H0 H1 locs1 → H1[q9]? = some ce → ce.vm = .none → s.vm.findClass E = some ce.cls → vx_W p l e R s m args below meth c H1 locs1 (cells + mc) (slots + ms) Q (F0 m pc ls rest) q9)
    (kk : ∀ (r : Int32) (u : S) (H1 : Heap) (locs1 : List Loc), post r u → va_P D vq_cl (isR.filterMap (fun i => ws[i]?) ++ w1 u) H1 → va_D A0 (isR.filterMap (fun i => ws[i]?) ++ w1 u) → va_S A0 H0 H1 locs1 → W p l e R s m args below meth c H1 locs1 (cells + mc) (slots + ms) Q (F0 m (pc + 3) ls (.int r :: rest))) : W p l e R s m args below meth c H locs cells slots Q (F0 m pc ls st0) :=
  vx_calli hr hS (fun q _ h => va_free hD hS hA isC hC q h) (va_free hD hS hA isC hC) (fun q h z => absurd (vq_new z) (Nat.not_le.mpr h)) (fun E ce q9 u t H1 locs1 ht hvm hpx hB hz hk hS1 h1 h2 h3 => kx E ce q9 H1 locs1 hB (hP.kept (fun k q hq => hk q.1 ((hP k q hq).lt) (fun z => absurd (vq_new z) (Nat.not_le.mpr ((hP k q hq).lt))))) hS1 h1 h2 h3) (fun r u t H1 locs1 ht hvm hw hB hz hk hS1 => by
    obtain ⟨hP1, hD1⟩ := hB
    rw [ht] at hP1
    obtain ⟨x1, x2⟩ := va_join hP hD isC isR hC hR hn hdis hk (va_free hD hS hA isC hC) hP1 hD1
    exact kk r u H1 locs1 hw x1 x2 hS1)
theorem mk_rl {post : Int64 → Unit → Prop} (hr : va_Run p l e R s m args below meth c H locs cells slots mc ms (F0 m pc ls st0) rest (va_Ql post (fun _ _ => True) (va_A [] H.size) a) (va_A [] H.size)) (hP : va_P D vq_cl ws H) (hS : va_S A0 H0 H locs) (hA : ∀ q, H0.size ≤ q → A0 q)
    (kk : ∀ (r : Int64) (H1 : Heap) (locs1 : List Loc), post r () → va_P D vq_cl ws H1 → va_S A0 H0 H1 locs1 → W p l e R s m args below meth c H1 locs1 (cells + mc) (slots + ms) Q (F0 m (pc + 3) ls (.long r :: rest))) : W p l e R s m args below meth c H locs cells slots Q (F0 m pc ls st0) :=
  va_calll hr hS (fun q h z => absurd (vq_new z) (Nat.not_le.mpr h)) (fun q h => hA q (Nat.le_trans hS.1 (vq_new h))) (fun r u t H1 locs1 ht hvm hw hB hz hk hS1 => kk r H1 locs1 hw (hP.kept (fun k q hq => hk q.1 ((hP k q hq).lt) (fun z => absurd (vq_new z) (Nat.not_le.mpr ((hP k q hq).lt))))) hS1)
theorem mx_rl {post : Int64 → Unit → Prop} (hr : vx_Run p l e R s m args below meth c H locs cells slots mc ms (F0 m pc ls st0) rest (va_Ql post (fun _ _ => True) (va_A [] H.size) a) (vq_X px H.size) (va_A [] H.size)) (hP : va_P D vq_cl ws H) (hS : va_S A0 H0 H locs) (hA : ∀ q, H0.size ≤ q → A0 q)
    (kx : ∀ (E : String) (ce : Cell) (q9 : Addr) (H1 : Heap) (locs1 : List Loc), px E → va_P D vq_cl ws H1 → va_S A0 H0 H1 locs1 → H1[q9]? = some ce → ce.vm = .none → s.vm.findClass E = some ce.cls → vx_W p l e R s m args below meth c H1 locs1 (cells + mc) (slots + ms) Q (F0 m pc ls rest) q9)
    (kk : ∀ (r : Int64) (H1 : Heap) (locs1 : List Loc), post r () → va_P D vq_cl ws H1 → va_S A0 H0 H1 locs1 → W p l e R s m args below meth c H1 locs1 (cells + mc) (slots + ms) Q (F0 m (pc + 3) ls (.long r :: rest))) : W p l e R s m args below meth c H locs cells slots Q (F0 m pc ls st0) :=
  vx_calll hr hS (fun q h z => absurd (vq_new z) (Nat.not_le.mpr h)) (fun q h => hA q (Nat.le_trans hS.1 (vq_new h))) (fun q h z => absurd (vq_new z) (Nat.not_le.mpr h)) (fun E ce q9 u t H1 locs1 ht hvm hpx hB hz hk hS1 h1 h2 h3 => kx E ce q9 H1 locs1 hB (hP.kept (fun k q hq => hk q.1 ((hP k q hq).lt) (fun z => absurd (vq_new z) (Nat.not_le.mpr ((hP k q hq).lt))))) hS1 h1 h2 h3) (fun r u t H1 locs1 ht hvm hw hB hz hk hS1 => kk r H1 locs1 hw (hP.kept (fun k q hq => hk q.1 ((hP k q hq).lt) (fun z => absurd (vq_new z) (Nat.not_le.mpr ((hP k q hq).lt))))) hS1)
theorem mk_wl {post : Int64 → S → Prop} (hr : va_Run p l e R s m args below meth c H locs cells slots mc ms (F0 m pc ls st0) rest (va_Ql post (vq_B D cs (va_A wc H.size) w1) (va_A wc H.size) a) (va_A wc H.size)) (hP : va_P D vq_cl ws H) (hD : va_D A0 ws) (hS : va_S A0 H0 H locs) (hA : ∀ q, H0.size ≤ q → A0 q) (isC isR : List Nat) (hC : isC.map (fun i => ws[i]?) = wc.map some) (hR : isR.map (fun i => ws[i]?) = (isR.filterMap (fun i => ws[i]?)).map some) (hn : va_nd isR = true) (hdis : ∀ i ∈ isR, i ∉ isC)
    (kk : ∀ (r : Int64) (u : S) (H1 : Heap) (locs1 : List Loc), post r u → va_P D vq_cl (isR.filterMap (fun i => ws[i]?) ++ w1 u) H1 → va_D A0 (isR.filterMap (fun i => ws[i]?) ++ w1 u) → va_S A0 H0 H1 locs1 → W p l e R s m args below meth c H1 locs1 (cells + mc) (slots + ms) Q (F0 m (pc + 3) ls (.long r :: rest))) : W p l e R s m args below meth c H locs cells slots Q (F0 m pc ls st0) :=
  va_calll hr hS (fun q _ h => va_free hD hS hA isC hC q h) (va_free hD hS hA isC hC) (fun r u t H1 locs1 ht hvm hw hB hz hk hS1 => by
    obtain ⟨hP1, hD1⟩ := hB
    rw [ht] at hP1
    obtain ⟨x1, x2⟩ := va_join hP hD isC isR hC hR hn hdis hk (va_free hD hS hA isC hC) hP1 hD1
    exact kk r u H1 locs1 hw x1 x2 hS1)
theorem mx_wl {post : Int64 → S → Prop} (hr : vx_Run p l e R s m args below meth c H locs cells slots mc ms (F0 m pc ls st0) rest (va_Ql post (vq_B D cs (va_A wc H.size) w1) (va_A wc H.size) a) (vq_X px H.size) (va_A wc H.size)) (hP : va_P D vq_cl ws H) (hD : va_D A0 ws) (hS : va_S A0 H0 H locs) (hA : ∀ q, H0.size ≤ q → A0 q) (isC isR : List Nat) (hC : isC.map (fun i => ws[i]?) = wc.map some) (hR : isR.map (fun i => ws[i]?) = (isR.filterMap (fun i => ws[i]?)).map some) (hn : va_nd isR = true) (hdis : ∀ i ∈ isR, i ∉ isC)
    (kx : ∀ (E : String) (ce : Cell) (q9 : Addr) (H1 : Heap) (locs1 : List Loc), px E → va_P D vq_cl ws H1 → va_S A0 H0 H1 locs1 → H1[q9]? = some ce → ce.vm = .none → s.vm.findClass E = some ce.cls → vx_W p l e R s m args below meth c H1 locs1 (cells + mc) (slots + ms) Q (F0 m pc ls rest) q9)
    (kk : ∀ (r : Int64) (u : S) (H1 : Heap) (locs1 : List Loc), post r u → va_P D vq_cl (isR.filterMap (fun i => ws[i]?) ++ w1 u) H1 → va_D A0 (isR.filterMap (fun i => ws[i]?) ++ w1 u) → va_S A0 H0 H1 locs1 → W p l e R s m args below meth c H1 locs1 (cells + mc) (slots + ms) Q (F0 m (pc + 3) ls (.long r :: rest))) : W p l e R s m args below meth c H locs cells slots Q (F0 m pc ls st0) :=
  vx_calll hr hS (fun q _ h => va_free hD hS hA isC hC q h) (va_free hD hS hA isC hC) (fun q h z => absurd (vq_new z) (Nat.not_le.mpr h)) (fun E ce q9 u t H1 locs1 ht hvm hpx hB hz hk hS1 h1 h2 h3 => kx E ce q9 H1 locs1 hB (hP.kept (fun k q hq => hk q.1 ((hP k q hq).lt) (fun z => absurd (vq_new z) (Nat.not_le.mpr ((hP k q hq).lt))))) hS1 h1 h2 h3) (fun r u t H1 locs1 ht hvm hw hB hz hk hS1 => by
    obtain ⟨hP1, hD1⟩ := hB
    rw [ht] at hP1
    obtain ⟨x1, x2⟩ := va_join hP hD isC isR hC hR hn hdis hk (va_free hD hS hA isC hC) hP1 hD1
    exact kk r u H1 locs1 hw x1 x2 hS1)
theorem mk_rv {post : Unit → Prop} (hr : va_Run p l e R s m args below meth c H locs cells slots mc ms (F0 m pc ls st0) rest (va_Qv post (fun _ _ => True) (va_A [] H.size) a) (va_A [] H.size)) (hP : va_P D vq_cl ws H) (hS : va_S A0 H0 H locs) (hA : ∀ q, H0.size ≤ q → A0 q)
    (kk : ∀ (H1 : Heap) (locs1 : List Loc), post () → va_P D vq_cl ws H1 → va_S A0 H0 H1 locs1 → W p l e R s m args below meth c H1 locs1 (cells + mc) (slots + ms) Q (F0 m (pc + 3) ls (rest))) : W p l e R s m args below meth c H locs cells slots Q (F0 m pc ls st0) :=
  va_callv hr hS (fun q h z => absurd (vq_new z) (Nat.not_le.mpr h)) (fun q h => hA q (Nat.le_trans hS.1 (vq_new h))) (fun u t H1 locs1 ht hvm hw hB hz hk hS1 => kk H1 locs1 hw (hP.kept (fun k q hq => hk q.1 ((hP k q hq).lt) (fun z => absurd (vq_new z) (Nat.not_le.mpr ((hP k q hq).lt))))) hS1)
theorem mx_rv {post : Unit → Prop} (hr : vx_Run p l e R s m args below meth c H locs cells slots mc ms (F0 m pc ls st0) rest (va_Qv post (fun _ _ => True) (va_A [] H.size) a) (vq_X px H.size) (va_A [] H.size)) (hP : va_P D vq_cl ws H) (hS : va_S A0 H0 H locs) (hA : ∀ q, H0.size ≤ q → A0 q)
    (kx : ∀ (E : String) (ce : Cell) (q9 : Addr) (H1 : Heap) (locs1 : List Loc), px E → va_P D vq_cl ws H1 → va_S A0 H0 H1 locs1 → H1[q9]? = some ce → ce.vm = .none → s.vm.findClass E = some ce.cls → vx_W p l e R s m args below meth c H1 locs1 (cells + mc) (slots + ms) Q (F0 m pc ls rest) q9)
    (kk : ∀ (H1 : Heap) (locs1 : List Loc), post () → va_P D vq_cl ws H1 → va_S A0 H0 H1 locs1 → W p l e R s m args below meth c H1 locs1 (cells + mc) (slots + ms) Q (F0 m (pc + 3) ls (rest))) : W p l e R s m args below meth c H locs cells slots Q (F0 m pc ls st0) :=
  vx_callv hr hS (fun q h z => absurd (vq_new z) (Nat.not_le.mpr h)) (fun q h => hA q (Nat.le_trans hS.1 (vq_new h))) (fun q h z => absurd (vq_new z) (Nat.not_le.mpr h)) (fun E ce q9 u t H1 locs1 ht hvm hpx hB hz hk hS1 h1 h2 h3 => kx E ce q9 H1 locs1 hB (hP.kept (fun k q hq => hk q.1 ((hP k q hq).lt) (fun z => absurd (vq_new z) (Nat.not_le.mpr ((hP k q hq).lt))))) hS1 h1 h2 h3) (fun u t H1 locs1 ht hvm hw hB hz hk hS1 => kk H1 locs1 hw (hP.kept (fun k q hq => hk q.1 ((hP k q hq).lt) (fun z => absurd (vq_new z) (Nat.not_le.mpr ((hP k q hq).lt))))) hS1)
theorem mk_wv {post : S → Prop} (hr : va_Run p l e R s m args below meth c H locs cells slots mc ms (F0 m pc ls st0) rest (va_Qv post (vq_B D cs (va_A wc H.size) w1) (va_A wc H.size) a) (va_A wc H.size)) (hP : va_P D vq_cl ws H) (hD : va_D A0 ws) (hS : va_S A0 H0 H locs) (hA : ∀ q, H0.size ≤ q → A0 q) (isC isR : List Nat) (hC : isC.map (fun i => ws[i]?) = wc.map some) (hR : isR.map (fun i => ws[i]?) = (isR.filterMap (fun i => ws[i]?)).map some) (hn : va_nd isR = true) (hdis : ∀ i ∈ isR, i ∉ isC)
    (kk : ∀ (u : S) (H1 : Heap) (locs1 : List Loc), post u → va_P D vq_cl (isR.filterMap (fun i => ws[i]?) ++ w1 u) H1 → va_D A0 (isR.filterMap (fun i => ws[i]?) ++ w1 u) → va_S A0 H0 H1 locs1 → W p l e R s m args below meth c H1 locs1 (cells + mc) (slots + ms) Q (F0 m (pc + 3) ls (rest))) : W p l e R s m args below meth c H locs cells slots Q (F0 m pc ls st0) :=
  va_callv hr hS (fun q _ h => va_free hD hS hA isC hC q h) (va_free hD hS hA isC hC) (fun u t H1 locs1 ht hvm hw hB hz hk hS1 => by
    obtain ⟨hP1, hD1⟩ := hB
    rw [ht] at hP1
    obtain ⟨x1, x2⟩ := va_join hP hD isC isR hC hR hn hdis hk (va_free hD hS hA isC hC) hP1 hD1
    exact kk u H1 locs1 hw x1 x2 hS1)
theorem mx_wv {post : S → Prop} (hr : vx_Run p l e R s m args below meth c H locs cells slots mc ms (F0 m pc ls st0) rest (va_Qv post (vq_B D cs (va_A wc H.size) w1) (va_A wc H.size) a) (vq_X px H.size) (va_A wc H.size)) (hP : va_P D vq_cl ws H) (hD : va_D A0 ws) (hS : va_S A0 H0 H locs) (hA : ∀ q, H0.size ≤ q → A0 q) (isC isR : List Nat) (hC : isC.map (fun i => ws[i]?) = wc.map some) (hR : isR.map (fun i => ws[i]?) = (isR.filterMap (fun i => ws[i]?)).map some) (hn : va_nd isR = true) (hdis : ∀ i ∈ isR, i ∉ isC)
    (kx : ∀ (E : String) (ce : Cell) (q9 : Addr) (H1 : Heap) (locs1 : List Loc), px E → va_P D vq_cl ws H1 → va_S A0 H0 H1 locs1 → H1[q9]? = some ce → ce.vm = .none → s.vm.findClass E = some ce.cls → vx_W p l e R s m args below meth c H1 locs1 (cells + mc) (slots + ms) Q (F0 m pc ls rest) q9)
    (kk : ∀ (u : S) (H1 : Heap) (locs1 : List Loc), post u → va_P D vq_cl (isR.filterMap (fun i => ws[i]?) ++ w1 u) H1 → va_D A0 (isR.filterMap (fun i => ws[i]?) ++ w1 u) → va_S A0 H0 H1 locs1 → W p l e R s m args below meth c H1 locs1 (cells + mc) (slots + ms) Q (F0 m (pc + 3) ls (rest))) : W p l e R s m args below meth c H locs cells slots Q (F0 m pc ls st0) :=
  vx_callv hr hS (fun q _ h => va_free hD hS hA isC hC q h) (va_free hD hS hA isC hC) (fun q h z => absurd (vq_new z) (Nat.not_le.mpr h)) (fun E ce q9 u t H1 locs1 ht hvm hpx hB hz hk hS1 h1 h2 h3 => kx E ce q9 H1 locs1 hB (hP.kept (fun k q hq => hk q.1 ((hP k q hq).lt) (fun z => absurd (vq_new z) (Nat.not_le.mpr ((hP k q hq).lt))))) hS1 h1 h2 h3) (fun u t H1 locs1 ht hvm hw hB hz hk hS1 => by
    obtain ⟨hP1, hD1⟩ := hB
    rw [ht] at hP1
    obtain ⟨x1, x2⟩ := va_join hP hD isC isR hC hR hn hdis hk (va_free hD hS hA isC hC) hP1 hD1
    exact kk u H1 locs1 hw x1 x2 hS1)
theorem mk_rr {v0 : Nat} (hr : va_Run p l e R s m args below meth c H locs cells slots mc ms (F0 m pc ls st0) rest (va_Qr (fun _ : Unit => True) (fun _ x _ => x = v0) (va_A [] H.size) a) (va_A [] H.size)) (hP : va_P D vq_cl ws H) (hS : va_S A0 H0 H locs) (hA : ∀ q, H0.size ≤ q → A0 q)
    (kk : ∀ (r : Nat) (H1 : Heap) (locs1 : List Loc), r = v0 → va_P D vq_cl ws H1 → va_S A0 H0 H1 locs1 → W p l e R s m args below meth c H1 locs1 (cells + mc) (slots + ms) Q (F0 m (pc + 3) ls (.ref r :: rest))) : W p l e R s m args below meth c H locs cells slots Q (F0 m pc ls st0) :=
  va_callr hr hS (fun q h z => absurd (vq_new z) (Nat.not_le.mpr h)) (fun q h => hA q (Nat.le_trans hS.1 (vq_new h))) (fun u r t H1 locs1 ht hvm hw hB hz hk hS1 => kk r H1 locs1 hB (hP.kept (fun k q hq => hk q.1 ((hP k q hq).lt) (fun z => absurd (vq_new z) (Nat.not_le.mpr ((hP k q hq).lt))))) hS1)
end VQC
section VQT
variable {p : Program} {l : Launch} {e : Env} {R : Room} {s : State} {m : MethodId} {args : Array Value} {below : List Frame} {meth : Method} {c : Code} {H : Heap} {locs : List Loc} {cells slots : Nat} {Q : State → Prop}
variable {cc : ByteArray} {pc : Nat} {ls : Array Slot} {rest : List Value} {A : Nat → Prop} {H0 : Heap} {mc ms : Nat} {D : va_G} {cs : Nat → ClassId} {ws : va_W} {px : String → Prop} {Qc : Array Value → State → Outcome → State → Prop}
theorem vq_thr {own cls text : String} {ik is ic : Nat} (hx : p.tables.exec = Jvm.exec) (hb : c.code = cc) (hlT : l.stackTraces = false) (hown : s.vm.findClass own = some m.cls) (hG : ∀ w ∈ vq_G, w.before args s = true) (hCx : vq_Cx D cs A s) (hA : ∀ q, s.heap.size ≤ q → A q) (hw : vq_TW own ik is ic cls text)
    (hS : va_S (va_A [] s.heap.size) s.heap H locs) (hsize : ls.size = c.maxLocals) (d0 : decode cc pc = .ok (.new ik, 3)) (d3 : decode cc (pc + 3) = .ok (.dup, 1)) (d4 : decode cc (pc + 4) = .ok (.ldc is, 2)) (d6 : decode cc (pc + 6) = .ok (.invokespecial ic, 3)) (d9 : decode cc (pc + 9) = .ok (.athrow, 1))
    (htb : ∀ x ∈ c.exceptionTable.toList, False) (hlocks : meth.locks = false) (hfr : 5 < R.frames) (hlo : (rest.map fun v => v.category).sum + 82 ≤ R.locals) (hc : cells + 1 ≤ R.cells) (hs : slots + 6 ≤ R.slots) (hpx : px cls) (hmc : cells + 1 ≤ mc) (hms : slots + 6 ≤ ms) :
    W p l e R s m args below meth c H locs cells slots (vx_MQ below Qc (vq_X px s.heap.size) args s mc ms A) (F0 m pc ls rest) := by
  obtain ⟨h1, h2, h3, h4, h4b, h5, h6, h7⟩ := hw
  obtain ⟨c1, c2, c3, c4, c5, c8, c9, c10, c6, c7⟩ := hCx
  obtain ⟨sa, hstr⟩ := c4 _ h3
  exact vx_throwS (names := vq_N) (A := va_A [] s.heap.size) hx hb hlT hown h6 (by decide +kernel) (hG _ h1) (hG _ h2) hstr (vx_hat (fun w h => hG w (h4 w h)) h4b (List.forall_mem_cons.mpr ⟨va_Nw.use rfl (c8 _ h7), fun w h => by obtain ⟨y, hy, rfl⟩ := List.mem_map.mp h; exact va_Nw.use rfl (c10 y hy)⟩)) h5 (c6.narrow (fun q h => hA q (vq_new h))) (c7.narrow (fun q h => hA q (vq_new h))) hS hsize d0 d3 d4 d6 d9 (fun x h => (htb x h).elim) hfr hlo hc hs hlocks
    (fun t hvm hz hk => vq_Xof hpx ⟨Nat.le_trans hS.1 hz, fun q q1 q2 => (hk q (Nat.lt_of_lt_of_le q1 hS.1)).trans (hS.2.1 q q1 q2)⟩) (fun z hz => hA _ (vq_new (hS.2.2 z hz))) hmc hms
theorem vq_thrW {own cls text : String} {ik is ic : Nat} (hx : p.tables.exec = Jvm.exec) (hb : c.code = cc) (hlT : l.stackTraces = false) (hown : s.vm.findClass own = some m.cls) (hG : ∀ w ∈ vq_G, w.before args s = true) (hCx : vq_Cx D cs A s) (hA : ∀ q, s.heap.size ≤ q → A q) (hw : vq_TW own ik is ic cls text)
    (hS : va_S (va_A [] s.heap.size) s.heap H locs) (hsize : ls.size = c.maxLocals) (d0 : decode cc pc = .ok (.new ik, 3)) (d3 : decode cc (pc + 3) = .ok (.dup, 1)) (d4 : decode cc (pc + 4) = .ok (.ldc_w is, 3)) (d6 : decode cc (pc + 7) = .ok (.invokespecial ic, 3)) (d9 : decode cc (pc + 10) = .ok (.athrow, 1))
    (htb : ∀ x ∈ c.exceptionTable.toList, False) (hlocks : meth.locks = false) (hfr : 5 < R.frames) (hlo : (rest.map fun v => v.category).sum + 82 ≤ R.locals) (hc : cells + 1 ≤ R.cells) (hs : slots + 6 ≤ R.slots) (hpx : px cls) (hmc : cells + 1 ≤ mc) (hms : slots + 6 ≤ ms) :
    W p l e R s m args below meth c H locs cells slots (vx_MQ below Qc (vq_X px s.heap.size) args s mc ms A) (F0 m pc ls rest) := by
  obtain ⟨h1, h2, h3, h4, h4b, h5, h6, h7⟩ := hw
  obtain ⟨c1, c2, c3, c4, c5, c8, c9, c10, c6, c7⟩ := hCx
  obtain ⟨sa, hstr⟩ := c4 _ h3
  exact vx_throwSW (names := vq_N) (A := va_A [] s.heap.size) hx hb hlT hown h6 (by decide +kernel) (hG _ h1) (hG _ h2) hstr (vx_hat (fun w h => hG w (h4 w h)) h4b (List.forall_mem_cons.mpr ⟨va_Nw.use rfl (c8 _ h7), fun w h => by obtain ⟨y, hy, rfl⟩ := List.mem_map.mp h; exact va_Nw.use rfl (c10 y hy)⟩)) h5 (c6.narrow (fun q h => hA q (vq_new h))) (c7.narrow (fun q h => hA q (vq_new h))) hS hsize d0 d3 d4 d6 d9 (fun x h => (htb x h).elim) hfr hlo hc hs hlocks
    (fun t hvm hz hk => vq_Xof hpx ⟨Nat.le_trans hS.1 hz, fun q q1 q2 => (hk q (Nat.lt_of_lt_of_le q1 hS.1)).trans (hS.2.1 q q1 q2)⟩) (fun z hz => hA _ (vq_new (hS.2.2 z hz))) hmc hms
/-- a new array, its class the one that the context names -/
theorem vq_newI {N : Nat} {n : Int32} (hx : p.tables.exec = Jvm.exec) (hb : c.code = cc) (hG : ∀ w ∈ vq_G, w.before args s = true) {A2 : Nat → Prop} (hCx : vq_Cx D cs A2 s) (hP : va_P D vq_cl ws H) (hD : va_D A ws) (hS : va_S A H0 H locs) (hA : ∀ q, H0.size ≤ q → A q)
    (hn : ¬ n < 0) (hN : n.toNatClampNeg = N) (hby : N * 4 ≤ 536870912) (hc : cells + 1 ≤ R.cells) (hs : slots + N ≤ R.slots) (hdg : decode cc pc = .ok (.newarray .int, 2))
    (kk : ∀ (q : Nat) (H1 : Heap), va_P D vq_cl (ws ++ [(q, .inl (cs 0, N, .inl (fun _ => 0)))]) H1 → va_D A (ws ++ [(q, .inl (cs 0, N, .inl (fun _ => 0)))]) → va_S A H0 H1 locs → W p l e R s m args below meth c H1 locs (cells + 1) (slots + N) Q (F0 m (pc + 2) ls (.ref q :: rest))) :
    W p l e R s m args below meth c H locs cells slots Q (F0 m pc ls (.int n :: rest)) :=
  va_newa (atype := .int) (a0 := (N, .inl (fun _ => 0))) hx hb (hG _ vq_arrI) rfl hCx.1 hP hD hS hA (fun cA => rfl) hn hN hby hc hs hdg (fun q cA H1 hK1 hP1 hD1 hS1 => by
    have e1 : cA = cs 0 := Option.some.inj ((hK1.2 (vq_tys cs).length (cA, .int) rfl).2.symm.trans (hCx.1.2 0 (cs 0, .int) rfl).2)
    subst e1
    exact kk q H1 hP1 hD1 hS1)
theorem vq_newJ {N : Nat} {n : Int32} (hx : p.tables.exec = Jvm.exec) (hb : c.code = cc) (hG : ∀ w ∈ vq_G, w.before args s = true) {A2 : Nat → Prop} (hCx : vq_Cx D cs A2 s) (hP : va_P D vq_cl ws H) (hD : va_D A ws) (hS : va_S A H0 H locs) (hA : ∀ q, H0.size ≤ q → A q)
    (hn : ¬ n < 0) (hN : n.toNatClampNeg = N) (hby : N * 8 ≤ 536870912) (hc : cells + 1 ≤ R.cells) (hs : slots + N ≤ R.slots) (hdg : decode cc pc = .ok (.newarray .long, 2))
    (kk : ∀ (q : Nat) (H1 : Heap), va_P D vq_cl (ws ++ [(q, .inl (cs 1, N, .inr (.inl (fun _ => 0))))]) H1 → va_D A (ws ++ [(q, .inl (cs 1, N, .inr (.inl (fun _ => 0))))]) → va_S A H0 H1 locs → W p l e R s m args below meth c H1 locs (cells + 1) (slots + N) Q (F0 m (pc + 2) ls (.ref q :: rest))) :
    W p l e R s m args below meth c H locs cells slots Q (F0 m pc ls (.int n :: rest)) :=
  va_newa (atype := .long) (a0 := (N, .inr (.inl (fun _ => 0)))) hx hb (hG _ vq_arrJ) rfl hCx.1 hP hD hS hA (fun cA => rfl) hn hN hby hc hs hdg (fun q cA H1 hK1 hP1 hD1 hS1 => by
    have e1 : cA = cs 1 := Option.some.inj ((hK1.2 (vq_tys cs).length (cA, .long) rfl).2.symm.trans (hCx.1.2 1 (cs 1, .long) rfl).2)
    subst e1
    exact kk q H1 hP1 hD1 hS1)
theorem vq_newR {C own : String} {index N : Nat} {n : Int32} (k : Nat) (hx : p.tables.exec = Jvm.exec) (hb : c.code = cc) (hown : s.vm.findClass own = some m.cls) (hcl : (Cond.classLink own index C).before args s = true) {A2 : Nat → Prop} (hCx : vq_Cx D cs A2 s) (hC : C ∈ vq_AO) (hk : (vq_tys cs)[k]? = some (cs k, .object C))
    (hP : va_P D vq_cl ws H) (hD : va_D A ws) (hS : va_S A H0 H locs) (hA : ∀ q, H0.size ≤ q → A q)
    (hn : ¬ n < 0) (hN : n.toNatClampNeg = N) (hby : N * 4 ≤ 536870912) (hc : cells + 1 ≤ R.cells) (hs : slots + N ≤ R.slots) (hdg : decode cc pc = .ok (.anewarray index, 3))
    (kk : ∀ (q : Nat) (H1 : Heap), va_P D vq_cl (ws ++ [(q, .inl (cs k, N, .inr (.inr (.inr (.inr (fun _ => none))))))]) H1 → va_D A (ws ++ [(q, .inl (cs k, N, .inr (.inr (.inr (.inr (fun _ => none))))))]) → va_S A H0 H1 locs → W p l e R s m args below meth c H1 locs (cells + 1) (slots + N) Q (F0 m (pc + 3) ls (.ref q :: rest))) :
    W p l e R s m args below meth c H locs cells slots Q (F0 m pc ls (.int n :: rest)) :=
  va_newq hx hb hown hcl (hCx.2.2.2.2.1 C hC) hCx.1 hP hD hS hA hn hN hby hc hs hdg (fun q cA H1 hK1 hP1 hD1 hS1 => by
    obtain ⟨_, _, _, _, _, x1⟩ := (hK1.2 (vq_tys cs).length (cA, .object C) (by simp)).2
    obtain ⟨_, _, _, _, _, x2⟩ := (hCx.1.2 k (cs k, .object C) hk).2
    have e1 : cA = cs k := Option.some.inj (x1.symm.trans x2)
    subst e1
    exact kk q H1 hP1 hD1 hS1)
end VQT
/-- an index below a bound -/
theorem vq_in {x : Int32} {n : Nat} (N : Int32) (hN : N.toInt = n) (h1 : ¬ x < 0) (h2 : x < N) : vp_in x n := by
  rw [vp_in_iff]
  rw [Int32.lt_iff_toInt_lt] at h1 h2
  rw [Int32.toInt_zero] at h1
  omega
theorem vq_in0 {x : Int32} {n : Nat} (N : Int32) (hN : N.toInt = n) (h1 : ¬ x < 0) (h2 : ¬ N ≤ x) : vp_in x n := by
  rw [vp_in_iff]
  rw [Int32.lt_iff_toInt_lt] at h1
  rw [Int32.le_iff_toInt_le] at h2
  rw [Int32.toInt_zero] at h1
  omega
