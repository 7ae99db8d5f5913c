section
-- ===== PART A: goes FIRST, ahead of the names: the tables' words, and 'selects' of the private methods out of them =====
/-- a private method of a class that the tables say can be made, by its rows of tables_1 -/
def lw_okq (q : MethodName × Nat) : Prop := (q.1.cls ≠ "java/lang/invoke/MethodHandle" ∧ q.1.cls ≠ "java/lang/invoke/VarHandle") ∧ Cond.instantiable q.1.cls q.2 ∈ tables_1 ∧ Cond.privateMethod q.1 ∈ tables_1 ∧ Cond.instanceMethod q.1 ∈ tables_1
theorem lw_p0 : lw_okq (⟨"java/lang/Throwable", "fillInStackTrace", "(I)Ljava/lang/Throwable;"⟩, 6) := ⟨⟨by decide +kernel, by decide +kernel⟩, List.mem_of_getElem? (i := 133) (by decide +kernel), List.mem_of_getElem? (i := 131) (by decide +kernel), List.mem_of_getElem? (i := 132) (by decide +kernel)⟩
theorem lw_p1 : lw_okq (⟨"BlendRows", "stockOf", "(I)I"⟩, 11) := ⟨⟨by decide +kernel, by decide +kernel⟩, List.mem_of_getElem? (i := 14) (by decide +kernel), List.mem_of_getElem? (i := 227) (by decide +kernel), List.mem_of_getElem? (i := 228) (by decide +kernel)⟩
theorem lw_p2 : lw_okq (⟨"BlendRows", "needPile", "(I)LBlendRows$Pile;"⟩, 11) := ⟨⟨by decide +kernel, by decide +kernel⟩, List.mem_of_getElem? (i := 14) (by decide +kernel), List.mem_of_getElem? (i := 301) (by decide +kernel), List.mem_of_getElem? (i := 302) (by decide +kernel)⟩
theorem lw_p3 : lw_okq (⟨"BlendRows$Pile", "clearLatest", "()V"⟩, 13) := ⟨⟨by decide +kernel, by decide +kernel⟩, List.mem_of_getElem? (i := 239) (by decide +kernel), List.mem_of_getElem? (i := 341) (by decide +kernel), List.mem_of_getElem? (i := 342) (by decide +kernel)⟩
theorem lw_p4 : lw_okq (⟨"BlendRows$Pile", "takeOfLayer", "(I)V"⟩, 13) := ⟨⟨by decide +kernel, by decide +kernel⟩, List.mem_of_getElem? (i := 239) (by decide +kernel), List.mem_of_getElem? (i := 345) (by decide +kernel), List.mem_of_getElem? (i := 346) (by decide +kernel)⟩
theorem lw_p5 : lw_okq (⟨"BlendRows$Pile", "gramsBefore", "(II)I"⟩, 13) := ⟨⟨by decide +kernel, by decide +kernel⟩, List.mem_of_getElem? (i := 239) (by decide +kernel), List.mem_of_getElem? (i := 349) (by decide +kernel), List.mem_of_getElem? (i := 350) (by decide +kernel)⟩
theorem lw_p6 : lw_okq (⟨"BlendRows$Pile", "noteGreatest", "(I)V"⟩, 13) := ⟨⟨by decide +kernel, by decide +kernel⟩, List.mem_of_getElem? (i := 239) (by decide +kernel), List.mem_of_getElem? (i := 353) (by decide +kernel), List.mem_of_getElem? (i := 354) (by decide +kernel)⟩
theorem lw_p7 : lw_okq (⟨"BlendRows$Pile", "noteLeast", "(I)V"⟩, 13) := ⟨⟨by decide +kernel, by decide +kernel⟩, List.mem_of_getElem? (i := 239) (by decide +kernel), List.mem_of_getElem? (i := 357) (by decide +kernel), List.mem_of_getElem? (i := 358) (by decide +kernel)⟩
theorem lw_p8 : lw_okq (⟨"BlendRowsModel", "throwing", "(ZZZZ)Z"⟩, 22) := ⟨⟨by decide +kernel, by decide +kernel⟩, List.mem_of_getElem? (i := 472) (by decide +kernel), List.mem_of_getElem? (i := 559) (by decide +kernel), List.mem_of_getElem? (i := 560) (by decide +kernel)⟩
theorem lw_p9 : lw_okq (⟨"BlendRowsModel", "stockOf", "(I)I"⟩, 22) := ⟨⟨by decide +kernel, by decide +kernel⟩, List.mem_of_getElem? (i := 472) (by decide +kernel), List.mem_of_getElem? (i := 578) (by decide +kernel), List.mem_of_getElem? (i := 579) (by decide +kernel)⟩
theorem lw_p10 : lw_okq (⟨"BlendRowsModel", "isPile", "(I)Z"⟩, 22) := ⟨⟨by decide +kernel, by decide +kernel⟩, List.mem_of_getElem? (i := 472) (by decide +kernel), List.mem_of_getElem? (i := 591) (by decide +kernel), List.mem_of_getElem? (i := 592) (by decide +kernel)⟩
theorem lw_p11 : lw_okq (⟨"BlendRowsModel", "gramsOf", "(I)I"⟩, 22) := ⟨⟨by decide +kernel, by decide +kernel⟩, List.mem_of_getElem? (i := 472) (by decide +kernel), List.mem_of_getElem? (i := 595) (by decide +kernel), List.mem_of_getElem? (i := 596) (by decide +kernel)⟩
theorem lw_p12 : lw_okq (⟨"BlendRowsModel", "gramsIn", "(II)J"⟩, 22) := ⟨⟨by decide +kernel, by decide +kernel⟩, List.mem_of_getElem? (i := 472) (by decide +kernel), List.mem_of_getElem? (i := 603) (by decide +kernel), List.mem_of_getElem? (i := 604) (by decide +kernel)⟩
theorem lw_p13 : lw_okq (⟨"BlendRowsModel", "takes", "(III)J"⟩, 22) := ⟨⟨by decide +kernel, by decide +kernel⟩, List.mem_of_getElem? (i := 472) (by decide +kernel), List.mem_of_getElem? (i := 607) (by decide +kernel), List.mem_of_getElem? (i := 608) (by decide +kernel)⟩
theorem lw_p14 : lw_okq (⟨"BlendRowsModel", "ahead", "(IJI)J"⟩, 22) := ⟨⟨by decide +kernel, by decide +kernel⟩, List.mem_of_getElem? (i := 472) (by decide +kernel), List.mem_of_getElem? (i := 611) (by decide +kernel), List.mem_of_getElem? (i := 612) (by decide +kernel)⟩
theorem lw_p15 : lw_okq (⟨"BlendRowsModel", "heldIn", "(III)J"⟩, 22) := ⟨⟨by decide +kernel, by decide +kernel⟩, List.mem_of_getElem? (i := 472) (by decide +kernel), List.mem_of_getElem? (i := 615) (by decide +kernel), List.mem_of_getElem? (i := 616) (by decide +kernel)⟩
def lw_privs_1 : List (MethodName × Nat) := [(⟨"java/lang/Throwable", "fillInStackTrace", "(I)Ljava/lang/Throwable;"⟩, 6), (⟨"BlendRows", "stockOf", "(I)I"⟩, 11), (⟨"BlendRows", "needPile", "(I)LBlendRows$Pile;"⟩, 11), (⟨"BlendRows$Pile", "clearLatest", "()V"⟩, 13), (⟨"BlendRows$Pile", "takeOfLayer", "(I)V"⟩, 13), (⟨"BlendRows$Pile", "gramsBefore", "(II)I"⟩, 13), (⟨"BlendRows$Pile", "noteGreatest", "(I)V"⟩, 13), (⟨"BlendRows$Pile", "noteLeast", "(I)V"⟩, 13), (⟨"BlendRowsModel", "throwing", "(ZZZZ)Z"⟩, 22), (⟨"BlendRowsModel", "stockOf", "(I)I"⟩, 22), (⟨"BlendRowsModel", "isPile", "(I)Z"⟩, 22), (⟨"BlendRowsModel", "gramsOf", "(I)I"⟩, 22), (⟨"BlendRowsModel", "gramsIn", "(II)J"⟩, 22), (⟨"BlendRowsModel", "takes", "(III)J"⟩, 22), (⟨"BlendRowsModel", "ahead", "(IJI)J"⟩, 22), (⟨"BlendRowsModel", "heldIn", "(III)J"⟩, 22)]
theorem lw_r1 : ∀ q ∈ lw_privs_1, lw_okq q := List.forall_mem_cons.mpr ⟨lw_p0, List.forall_mem_cons.mpr ⟨lw_p1, List.forall_mem_cons.mpr ⟨lw_p2, List.forall_mem_cons.mpr ⟨lw_p3, List.forall_mem_cons.mpr ⟨lw_p4, List.forall_mem_cons.mpr ⟨lw_p5, List.forall_mem_cons.mpr ⟨lw_p6, List.forall_mem_cons.mpr ⟨lw_p7, List.forall_mem_cons.mpr ⟨lw_p8, List.forall_mem_cons.mpr ⟨lw_p9, List.forall_mem_cons.mpr ⟨lw_p10, List.forall_mem_cons.mpr ⟨lw_p11, List.forall_mem_cons.mpr ⟨lw_p12, List.forall_mem_cons.mpr ⟨lw_p13, List.forall_mem_cons.mpr ⟨lw_p14, List.forall_mem_cons.mpr ⟨lw_p15, fun _ h => absurd h List.not_mem_nil⟩⟩⟩⟩⟩⟩⟩⟩⟩⟩⟩⟩⟩⟩⟩⟩
theorem lw_p16 : lw_okq (⟨"BlendRowsModel", "spreadBy", "(IIJJ)V"⟩, 22) := ⟨⟨by decide +kernel, by decide +kernel⟩, List.mem_of_getElem? (i := 472) (by decide +kernel), List.mem_of_getElem? (i := 619) (by decide +kernel), List.mem_of_getElem? (i := 620) (by decide +kernel)⟩
theorem lw_p17 : lw_okq (⟨"BlendRowsModel", "isUntaken", "(I)Z"⟩, 22) := ⟨⟨by decide +kernel, by decide +kernel⟩, List.mem_of_getElem? (i := 472) (by decide +kernel), List.mem_of_getElem? (i := 634) (by decide +kernel), List.mem_of_getElem? (i := 635) (by decide +kernel)⟩
def lw_privs_2 : List (MethodName × Nat) := [(⟨"BlendRowsModel", "spreadBy", "(IIJJ)V"⟩, 22), (⟨"BlendRowsModel", "isUntaken", "(I)Z"⟩, 22)]
theorem lw_r2 : ∀ q ∈ lw_privs_2, lw_okq q := List.forall_mem_cons.mpr ⟨lw_p16, List.forall_mem_cons.mpr ⟨lw_p17, fun _ h => absurd h List.not_mem_nil⟩⟩
def lw_privs : List (MethodName × Nat) := lw_privs_1 ++ (lw_privs_2)
def lw_tbl : List Cond := k2_sels lw_privs ++ tables_1
theorem lw_privs_ok : ∀ q ∈ lw_privs, lw_okq q := by
  show ∀ q ∈ lw_privs_1 ++ (lw_privs_2), lw_okq q
  exact List.forall_mem_append.mpr ⟨lw_r1, lw_r2⟩
/-! ===== BEGIN words of one list among another's, by their places ===== -/
theorem goodIn_r {big : List Cond} (ws : List Cond) (ps : List Nat) (hp : ws = ps.filterMap (fun i => big[i]?)) (h : ws.all goodWord = true) : GoodIn big ws := by
  intro w hw
  have h1 := List.all_eq_true.mp h w hw
  rw [hp] at hw
  obtain ⟨i, -, hi⟩ := List.mem_filterMap.mp hw
  have hm : w ∈ big := by first | exact List.mem_of_getElem? hi | exact List.getElem?_mem hi
  exact ⟨hm, good_of_word h1⟩
theorem goodIn_app {big a b : List Cond} (ha : GoodIn big a) (hb : GoodIn big b) : GoodIn big (a ++ b) := fun w h => (List.mem_append.mp h).elim (ha w) (hb w)
theorem goodIn_ca {big a b : List Cond} {c : Cond} (ha : GoodIn big (c :: a)) (hb : GoodIn big b) : GoodIn big (c :: (a ++ b)) := fun w h => (List.mem_cons.mp h).elim (fun e => ha w (List.mem_cons.mpr (Or.inl e))) (fun h => (List.mem_append.mp h).elim (fun h => ha w (List.mem_cons.mpr (Or.inr h))) (hb w))
theorem goodIn_sub {big ws : List Cond} (hm : ∀ w ∈ ws, w ∈ big) (h : ws.all goodWord = true) : GoodIn big ws := fun w hw => ⟨hm w hw, good_of_word (List.all_eq_true.mp h w hw)⟩
/-! ===== END ===== -/

/-! ===== BEGIN exceptions that leave a method, and their catching by the caller (launches without stack traces) ===== -/
section VXA
/-! The laws vx_back, vx_callV, vx_callS, vx_callSW, vx_throw0, vx_throwS follow proofs of the library, with one case more: JvmDerived/Free/Laws.lean (Back.of_free), Shelf42/LK1.lean (callV, callS), Shelf/KitTraced.lean (throwNew0V, throwNewS). -/
/-- where a method has thrown q: the class by its name, the cell, what was written, the world -/
def vx_T (XC : String → State → State → Prop) (st : State) (q : Addr) (t : State) (mc ms : Nat) (free : Addr → Prop) : Prop :=
  ∃ (E : String) (ce : Cell) (L : List Loc), XC E st t ∧ t.heap[q]? = some ce ∧ ce.vm = .none ∧ st.vm.findClass E = some ce.cls ∧ st.WarmedH t.vm ∧ st.sameButNew ({ t with vm := st.vm } : State) L mc ms ∧ ∀ z ∈ L, free z.base
def vx_Q (Qc : Array Value → State → Outcome → State → Prop) (XC : String → State → State → Prop) (mc ms : Nat) (free : Addr → Prop) : Array Value → State → Outcome → State → Prop := fun a st o t =>
  (Qc a st o t ∧ ∃ L, FrameEnd st o t L mc ms ∧ ∀ q ∈ L, free q.base) ∨ ∃ q, o = .threw q ∧ vx_T XC st q t mc ms free
/-- a callee that returns or throws -/
def vx_Met (l : Launch) (y : MethodName) (ws : List Cond) (rm : Room) (Pc : Array Value → State → Prop) (Qc : Array Value → State → Outcome → State → Prop) (XC : String → State → State → Prop) (mc ms : Nat) (free : Addr → Prop) : Prop :=
  MetFree l y (headSpec ws rm) Pc (fun _ _ _ _ _ => True) (vx_Q Qc XC mc ms free)
def vx_Post (XC : String → State → State → Prop) (mc ms : Nat) (free : Addr → Prop) : Pt → Array Value → Addr → Pt → Prop := fun A a q B =>
  ∃ (g : JFrame) (mk : MethodId) (t : State) (L : List Loc) (E : String) (ce : Cell), B.U.heap = t.heap ∧ B.U.vm = t.vm ∧ XC E (A.U.calling g mk a) t ∧ t.heap[q]? = some ce ∧ ce.vm = .none ∧ A.U.vm.findClass E = some ce.cls ∧ B.locs = A.locs ++ L ∧ (∀ z ∈ L, free z.base) ∧ B.cells = A.cells + mc ∧ B.slots = A.slots + ms
def vx_Back (l : Launch) (R : Room) (p : Program) (e : Env) (below : List Frame) (s : State) (sargs : Array Value) (y : MethodName) (len W9 : Nat)
    (Pre : Pt → Array Value → Prop) (Post : Pt → Array Value → Option Value → Pt → Prop) (PostX : Pt → Array Value → Addr → Pt → Prop) : Prop :=
  ∀ (m : MethodId) (meth : Method) (c : Code) (A : Pt) (g : JFrame) (ig : Instr) (mk : MethodId) (a : Array Value),
    Stand p l e R s m sargs below meth c A.U A.locs A.cells A.slots → g.method = m → g.locals.size = c.maxLocals → decode c.code g.pc = .ok (ig, len) →
    2 * g.monitorRoom + (g.stack.map fun v => v.category).sum ≤ W9 → A.U.methodNamed? y = some mk → Pre A a →
    (∃ (v : Option Value) (B : Pt), Stand p l e R s m sargs below meth c B.U B.locs B.cells B.slots ∧ Post A a v B ∧
      Steps p.tables e below (doInvoke e (A.U.setTop g) [] mk a).1 (B.U.setTop { g with pc := g.pc + len, stack := v.toList ++ g.stack })) ∨
    (∃ (q : Addr) (B : Pt), Stand p l e R s m sargs below meth c B.U B.locs B.cells B.slots ∧ PostX A a q B ∧
      Steps p.tables e below (doInvoke e (A.U.setTop g) [] mk a).1 ((B.U.setTop g).pushFrame (.throwing q)))
section Payer
variable {l : Launch} {R : Room} {p : Program} {e : Env} {below : List Frame} {s : State} {sargs : Array Value} {y : MethodName} {len W9 : Nat}
theorem vx_back {ws : List Cond} {rm : Room} {Pc : Array Value → State → Prop} {Qc : Array Value → State → Outcome → State → Prop} {XC : String → State → State → Prop} {mc ms : Nat} {free : Addr → Prop} {bytes : ByteArray} {maxL : Nat} {ret : Option FieldType}
    (hM : vx_Met l y ws rm Pc Qc XC mc ms free) (hblind : FrameBlind Pc) (hrc : rm.cells = mc) (hrs : rm.slots = ms)
    (hframes : rm.frames + 1 ≤ R.frames) (hlocals : W9 + (maxL + 11) + rm.locals ≤ R.locals)
    (hws : ∀ w ∈ ws, ∀ a' U, s.WarmedH U.vm → w.before a' U = true) (hcode : Cond.code y bytes maxL ret ∈ ws) (hinit : ∀ a' U, s.WarmedH U.vm → (Cond.initialized y.cls).before a' U = true) :
    vx_Back l R p e below s sargs y len W9 (PreOf R mc ms Pc) (PostOf Qc mc ms free) (vx_Post XC mc ms free) := by
  intro m meth c A g ig mk a X hg hsize hdg hW hn hp
  have h1 : (headSpec ws rm).pre.before a A.U = true := atoms_intro fun w hw => hws w hw _ _ X.warmed
  have h2 : (Cond.code y bytes maxL ret).before a A.U = true := hws _ hcode _ _ X.warmed
  have h3 : (Cond.initialized y.cls).before a A.U = true := hinit _ _ X.warmed
  have h4 : A.cells + (headSpec ws rm).room.cells ≤ R.cells := by rw [show (headSpec ws rm).room.cells = mc from hrc]; exact hp.1
  have h5 : A.slots + (headSpec ws rm).room.slots ≤ R.slots := by rw [show (headSpec ws rm).room.slots = ms from hrs]; exact hp.2.1
  have hPc : Pc a (A.U.calling g mk a) := hblind _ _ _ _ hp.2.2
  obtain ⟨U, Ls, c0, s0⟩ := A
  dsimp only [Pt.U, Pt.locs, Pt.cells, Pt.slots] at h1 h2 h3 h4 h5 X hn hPc ⊢
  obtain ⟨methY, cY, hmY, hcY, -, hlY, -, -, -, -⟩ := Cond.code_spec hn h2
  obtain ⟨kY, hkY, -⟩ := className_of_methodNamed hn
  have hinitY : kY.init = .initialized := Cond.initialized_spec (findClass_of_methodNamed hn) hkY h3
  have h : At U g.method c below := by rw [hg]; exact X.here
  have hlocals9 : W9 + (maxL + 11) + (headSpec ws rm).room.locals ≤ R.locals := hlocals
  have happ : (headSpec ws rm).appliesLoose y e.platform (U.calling g mk a) = true :=
    Spec.appliesLoose_calling (g := g) h hdg hn hkY hinitY
      (X.room_calling (g := g) (R' := (headSpec ws rm).room) hsize hmY hcY hframes (by rw [hlY]; omega) h4 h5) h1
  obtain ⟨mid, hmid⟩ := h.above
  have hfr : (U.setTop g).frames = (.java g :: mid) ++ below := by rw [State.frames_setTop' g h.top, hmid]; rfl
  obtain ⟨o, s₂, hsteps, -, hend, hq⟩ := Steps.callFree hM p X.admits X.cas X.clock (acts := []) hfr happ hPc trivial
  have hq' : vx_Q Qc XC mc ms free a (U.calling g mk a) o s₂ := hq
  rw [State.frames_setTop' g h.top] at hend
  obtain ⟨g₀, hg0⟩ := Option.isSome_iff_exists.mp h.top
  obtain ⟨r, hr⟩ := State.topJava?_eq_some.mp hg0
  have hr' : (({ U with heap := s₂.heap, slotsUsed := s₂.slotsUsed } : State).setVm s₂.vm).frames = .java g₀ :: r := hr
  rcases hq' with ⟨hqc, L, hfe, hL⟩ | ⟨q, rfl, E, ce, L, hx, hce, hcv, hcl, hW₂, hsm, hL⟩
  · obtain ⟨⟨v, rfl⟩, hW₂, e2, q2, q3, q4, q5, q6⟩ := id hfe
    have e3 : s₂ = ({ (U.calling g mk a).setFrames s₂.frames with heap := s₂.heap, slotsUsed := s₂.slotsUsed } : State).setVm s₂.vm := by
      have : s₂ = ({ s₂ with vm := (U.calling g mk a).vm } : State).setVm s₂.vm := rfl
      rw [e2] at this
      exact this
    obtain ⟨c₂, i₂, len₂, hc₂, hd₂, hf₂⟩ := hend
    have hW' : U.WarmedH s₂.vm := hW₂
    have hcc : c₂ = c := by
      have h1 : s₂.code? g.method = U.code? g.method := by
        rw [State.code?_eq, State.code?_eq, hW'.alike.method?]
      exact Option.some.inj (hc₂.symm.trans (h1.trans h.code))
    subst hcc
    have hlen : len₂ = len := by rw [hdg] at hd₂; cases hd₂; rfl
    subst hlen
    have hs₂ : s₂ = (({ U with heap := s₂.heap, slotsUsed := s₂.slotsUsed } : State).setVm s₂.vm).setTop { g with pc := g.pc + len₂, stack := v.toList ++ g.stack } := by
      refine e3.trans ?_
      rw [hf₂, State.calling_eq h.top, State.setFrames_setFrames, State.setTop_of_frames _ hr', hr]
      rfl
    have hsame : U.sameButNew ({ U with heap := s₂.heap, slotsUsed := s₂.slotsUsed } : State) L mc ms := by
      refine ⟨?_, q2, q3, q4, q5, q6⟩
      obtain ⟨t, ht, -⟩ := State.frames_cons hr
      show ({ U with heap := s₂.heap, slotsUsed := s₂.slotsUsed } : State) = { U.setFrames U.frames with heap := s₂.heap, slotsUsed := s₂.slotsUsed }
      rw [State.setFrames_self ht]
    subst hg
    refine Or.inl ⟨v, ⟨(({ U with heap := s₂.heap, slotsUsed := s₂.slotsUsed } : State).setVm s₂.vm), Ls ++ L, c0 + mc, s0 + ms⟩,
      ⟨X.admits, X.cas, X.clock, X.frames, X.room, X.hears, X.method, X.code, (X.here.setHeapUsed s₂.heap s₂.slotsUsed).setVm hW'.alike, X.tail, State.WarmedH.trans X.warmed hW', X.limits, X.bytes, X.same.trans (hsame.setVm s.vm)⟩,
      ⟨g, mk, s₂, L, rfl, rfl, hqc, rfl, hL, rfl, rfl⟩, ?_⟩
    show Steps p.tables e below _ ((({ U with heap := s₂.heap, slotsUsed := s₂.slotsUsed } : State).setVm s₂.vm).setTop { g with pc := g.pc + len₂, stack := v.toList ++ g.stack })
    rw [← hs₂]
    exact hsteps
  · obtain ⟨e2, q2, q3, q4, q5, q6⟩ := id hsm
    have e3 : s₂ = ({ (U.calling g mk a).setFrames s₂.frames with heap := s₂.heap, slotsUsed := s₂.slotsUsed } : State).setVm s₂.vm := by
      have : s₂ = ({ s₂ with vm := (U.calling g mk a).vm } : State).setVm s₂.vm := rfl
      rw [e2] at this
      exact this
    have hf₂ : s₂.frames = .throwing q :: .java g :: U.frames.tail := hend
    have hW' : U.WarmedH s₂.vm := hW₂
    have hs₂ : s₂ = ((({ U with heap := s₂.heap, slotsUsed := s₂.slotsUsed } : State).setVm s₂.vm).setTop g).pushFrame (.throwing q) := by
      refine e3.trans ?_
      rw [hf₂, State.calling_eq h.top, State.setFrames_setFrames, State.pushFrame, State.frames_setTop _ hr', State.setTop_of_frames _ hr', State.setFrames_setFrames, hr]
      rfl
    have hsame : U.sameButNew ({ U with heap := s₂.heap, slotsUsed := s₂.slotsUsed } : State) L mc ms := by
      refine ⟨?_, q2, q3, q4, q5, q6⟩
      obtain ⟨t, ht, -⟩ := State.frames_cons hr
      show ({ U with heap := s₂.heap, slotsUsed := s₂.slotsUsed } : State) = { U.setFrames U.frames with heap := s₂.heap, slotsUsed := s₂.slotsUsed }
      rw [State.setFrames_self ht]
    subst hg
    refine Or.inr ⟨q, ⟨(({ U with heap := s₂.heap, slotsUsed := s₂.slotsUsed } : State).setVm s₂.vm), Ls ++ L, c0 + mc, s0 + ms⟩,
      ⟨X.admits, X.cas, X.clock, X.frames, X.room, X.hears, X.method, X.code, (X.here.setHeapUsed s₂.heap s₂.slotsUsed).setVm hW'.alike, X.tail, State.WarmedH.trans X.warmed hW', X.limits, X.bytes, X.same.trans (hsame.setVm s.vm)⟩,
      ⟨g, mk, s₂, L, E, ce, rfl, rfl, hx, hce, hcv, hcl, rfl, hL, rfl, rfl⟩, ?_⟩
    show Steps p.tables e below _ (((({ U with heap := s₂.heap, slotsUsed := s₂.slotsUsed } : State).setVm s₂.vm).setTop g).pushFrame (.throwing q))
    rw [← hs₂]
    exact hsteps
end Payer
section Calls
variable {p : Program} {l : Launch} {e : Env} {R : Room} {s : State} {m : MethodId} {args : Array Value} {below : List Frame} {meth : Method} {c : Code} {T : State} {locs : List Loc} {cells slots : Nat}
theorem vx_callV (X : Stand p l e R s m args below meth c T locs cells slots) (hexec : p.tables.exec = Jvm.exec) {own C : String} {index : Nat} {y : MethodName} {bytes : ByteArray} {maxL : Nat} {ret : Option FieldType}
    (hown : s.vm.findClass own = some m.cls) (hlink : (Cond.methodLink own index y).before args s = true) (hinst : (Cond.instanceMethod y).before args s = true) (hsel : (Cond.selects C y y).before args s = true)
    (hcode : (Cond.code y bytes maxL ret).before args s = true) (hy : y.cls ≠ "java/lang/invoke/MethodHandle" ∧ y.cls ≠ "java/lang/invoke/VarHandle")
    {W9 : Nat} {Pre : Pt → Array Value → Prop} {Post : Pt → Array Value → Option Value → Pt → Prop} {PostX : Pt → Array Value → Addr → Pt → Prop} (hK : vx_Back l R p e below s args y 3 W9 Pre Post PostX)
    {b : Addr} {cellB : Cell} (hcell : T.heap[b]? = some cellB) (hobj : cellB.vm.isStatics = false) (hcls : s.vm.findClass C = some cellB.cls)
    {g : JFrame} (hg : g.method = m) (hsize : g.locals.size = c.maxLocals) {argsL rest : List Value} (hlen : ∀ sig, parseMethodDescriptor y.desc = some sig → argsL.length = sig.parameters.length)
    (hstack : g.stack = argsL.reverse ++ .ref b :: rest) (hW : 2 * g.monitorRoom + (rest.map fun v => v.category).sum ≤ W9) (hdg : decode c.code g.pc = .ok (.invokevirtual index, 3))
    (hpre : ∀ vm₁, s.WarmedH vm₁ → Pre ⟨T.setVm vm₁, locs, cells, slots⟩ (Value.ref b :: argsL).toArray) :
    (∃ (v : Option Value) (vm₁ : Vm) (B : Pt), s.WarmedH vm₁ ∧ Stand p l e R s m args below meth c B.U B.locs B.cells B.slots ∧ Post ⟨T.setVm vm₁, locs, cells, slots⟩ (Value.ref b :: argsL).toArray v B ∧
      ∀ target, Steps p.tables e below (B.U.setTop { g with pc := g.pc + 3, stack := v.toList ++ rest }) target → Steps p.tables e below (T.setTop g) target) ∨
    (∃ (q : Addr) (vm₁ : Vm) (B : Pt), s.WarmedH vm₁ ∧ Stand p l e R s m args below meth c B.U B.locs B.cells B.slots ∧ PostX ⟨T.setVm vm₁, locs, cells, slots⟩ (Value.ref b :: argsL).toArray q B ∧
      Steps p.tables e below (T.setTop g) ((B.U.setTop { g with stack := rest }).pushFrame (.throwing q))) := by
  obtain ⟨mk, methM, hnamed, hmethM, hstM, habM⟩ := Cond.instanceMethod_spec hinst
  obtain ⟨methM', cM, hmethM', -, -, -, -, -, -, hsigM⟩ := Cond.code_spec hnamed hcode
  cases hmethM.symm.trans hmethM'
  obtain ⟨c2, r2, m2, q1, q2, q3, q4, kP, hkP, hkPi⟩ := Cond.selects_spec hsel
  cases hcls.symm.trans q1
  cases (State.methodFound?_of_named hnamed hy).symm.trans q2
  cases hnamed.symm.trans q3
  have hselP : selectMethod e.platform s.vm cellB.cls mk = .method mk := by rw [Launch.admits_selectMethod X.admits]; exact q4
  obtain ⟨vm₁, X₁, hstep₁⟩ := X.invokevirtual hexec hown hlink hnamed hmethM hstM hkP hkPi hy (a := b) (cell := cellB) hcell
    (fun z h => by rw [h] at hobj; cases hobj) hselP hmethM habM hkP hkPi (g := g) hg (argsL := argsL) (rest := rest) (hlen _ hsigM) hstack hdg
  rcases hK m meth c ⟨T.setVm vm₁, locs, cells, slots⟩ { g with stack := rest } (.invokevirtual index) mk (Value.ref b :: argsL).toArray X₁ hg hsize hdg hW (X₁.named hnamed) (hpre vm₁ X₁.warmed) with ⟨v, B, X', hpost, hsteps⟩ | ⟨q, B, X', hpost, hsteps⟩
  · exact Or.inl ⟨v, vm₁, B, X₁.warmed, X', hpost, fun target h => hstep₁ _ fun acts => by rw [doInvoke_state]; exact hsteps.trans h⟩
  · exact Or.inr ⟨q, vm₁, B, X₁.warmed, X', hpost, hstep₁ _ fun acts => by rw [doInvoke_state]; exact hsteps⟩
theorem vx_callS (X : Stand p l e R s m args below meth c T locs cells slots) (hexec : p.tables.exec = Jvm.exec) {own : String} {index : Nat} {y : MethodName} {bytes : ByteArray} {maxL : Nat} {ret : Option FieldType}
    (hown : s.vm.findClass own = some m.cls) (hlink : (Cond.methodLink own index y).before args s = true) (hstat : (Cond.static y).before args s = true) (hinit : (Cond.initialized y.cls).before args s = true)
    (hcode : (Cond.code y bytes maxL ret).before args s = true) (hy : y.cls ≠ "java/lang/invoke/MethodHandle" ∧ y.cls ≠ "java/lang/invoke/VarHandle")
    {W9 : Nat} {Pre : Pt → Array Value → Prop} {Post : Pt → Array Value → Option Value → Pt → Prop} {PostX : Pt → Array Value → Addr → Pt → Prop} (hK : vx_Back l R p e below s args y 3 W9 Pre Post PostX)
    {g : JFrame} (hg : g.method = m) (hsize : g.locals.size = c.maxLocals) {argsL rest : List Value} (hlen : ∀ sig, parseMethodDescriptor y.desc = some sig → argsL.length = sig.parameters.length)
    (hstack : g.stack = argsL.reverse ++ rest) (hW : 2 * g.monitorRoom + (rest.map fun v => v.category).sum ≤ W9) (hdg : decode c.code g.pc = .ok (.invokestatic index, 3))
    (hpre : ∀ vm₁, s.WarmedH vm₁ → Pre ⟨T.setVm vm₁, locs, cells, slots⟩ argsL.toArray) :
    (∃ (v : Option Value) (vm₁ : Vm) (B : Pt), s.WarmedH vm₁ ∧ Stand p l e R s m args below meth c B.U B.locs B.cells B.slots ∧ Post ⟨T.setVm vm₁, locs, cells, slots⟩ argsL.toArray v B ∧
      ∀ target, Steps p.tables e below (B.U.setTop { g with pc := g.pc + 3, stack := v.toList ++ rest }) target → Steps p.tables e below (T.setTop g) target) ∨
    (∃ (q : Addr) (vm₁ : Vm) (B : Pt), s.WarmedH vm₁ ∧ Stand p l e R s m args below meth c B.U B.locs B.cells B.slots ∧ PostX ⟨T.setVm vm₁, locs, cells, slots⟩ argsL.toArray q B ∧
      Steps p.tables e below (T.setTop g) ((B.U.setTop { g with stack := rest }).pushFrame (.throwing q))) := by
  obtain ⟨mk, hnamed⟩ := Cond.code_named hcode
  obtain ⟨methM, cM, hmethM, -, -, -, -, -, -, hsigM⟩ := Cond.code_spec hnamed hcode
  have hstatic : methM.isStatic = true := Cond.static_spec hnamed hmethM hstat
  obtain ⟨kP, hkP, -⟩ := className_of_methodNamed hnamed
  have hinitP : kP.init = .initialized := Cond.initialized_spec (findClass_of_methodNamed hnamed) hkP hinit
  obtain ⟨vm₁, X₁, hstep₁⟩ := X.invokestatic hexec hown hlink hnamed hmethM hstatic hkP hinitP hy (g := g) hg (argsL := argsL) (rest := rest) (hlen _ hsigM) hstack hdg
  rcases hK m meth c ⟨T.setVm vm₁, locs, cells, slots⟩ { g with stack := rest } (.invokestatic index) mk argsL.toArray X₁ hg hsize hdg hW (X₁.named hnamed) (hpre vm₁ X₁.warmed) with ⟨v, B, X', hpost, hsteps⟩ | ⟨q, B, X', hpost, hsteps⟩
  · exact Or.inl ⟨v, vm₁, B, X₁.warmed, X', hpost, fun target h => hstep₁ _ fun acts => by rw [doInvoke_state]; exact hsteps.trans h⟩
  · exact Or.inr ⟨q, vm₁, B, X₁.warmed, X', hpost, hstep₁ _ fun acts => by rw [doInvoke_state]; exact hsteps⟩
end Calls
theorem vx_cls {s : State} {T : State} {vm₁ : Vm} {E : String} {k : ClassId} (hW : s.WarmedH vm₁) (h : (T.setVm vm₁).vm.findClass E = some k) : s.vm.findClass E = some k := by
  have h1 : vm₁.findClass E = some k := h
  rw [hW.alike.findClass] at h1
  exact h1
/-- the method's frame g, with q thrown over it -/
def vx_W (p : Program) (l : Launch) (e : Env) (R : Room) (s : State) (m : MethodId) (args : Array Value) (below : List Frame) (meth : Method) (c : Code) (H : Heap) (locs : List Loc) (cells slots : Nat) (Q : State → Prop) (g : JFrame) (q : Addr) : Prop :=
  ∀ T : State, T.heap = H → Stand p l e R s m args below meth c T locs cells slots → ∃ t, Steps p.tables e below ((T.setTop g).pushFrame (.throwing q)) t ∧ Q t
def vx_Run (p : Program) (l : Launch) (e : Env) (R : Room) (s : State) (m : MethodId) (args : Array Value) (below : List Frame) (meth : Method) (c : Code) (H : Heap) (locs : List Loc) (cells slots mc ms : Nat) (g : JFrame) (rest : List Value) (Qa : State → Outcome → State → Prop) (XC : String → State → State → Prop) (free : Addr → Prop) : Prop :=
  ∀ T : State, T.heap = H → Stand p l e R s m args below meth c T locs cells slots →
    (∃ (v : Option Value) (st₀ t T' : State) (L : List Loc), st₀.heap = H ∧ Stand p l e R s m args below meth c T' (locs ++ L) (cells + mc) (slots + ms) ∧ (∀ q ∈ L, free q.base) ∧ T'.heap = t.heap ∧ T'.vm = t.vm ∧ Qa st₀ (.returned v) t ∧
      Goes p e below T g T' { g with pc := g.pc + 3, stack := v.toList ++ rest }) ∨
    (∃ (q : Addr) (st₀ t T' : State) (L : List Loc) (E : String) (ce : Cell), st₀.heap = H ∧ Stand p l e R s m args below meth c T' (locs ++ L) (cells + mc) (slots + ms) ∧ (∀ z ∈ L, free z.base) ∧ T'.heap = t.heap ∧ T'.vm = t.vm ∧ XC E st₀ t ∧ t.heap[q]? = some ce ∧ ce.vm = .none ∧ s.vm.findClass E = some ce.cls ∧
      Steps p.tables e below (T.setTop g) ((T'.setTop { g with stack := rest }).pushFrame (.throwing q)))
def vx_X {S : Type} (px : S → Prop) (B : String → S → State → Prop) (A : Nat → Prop) : String → State → State → Prop := fun E st t => ∃ u : S, px u ∧ B E u t ∧ va_F A st t
section Runs
variable {p : Program} {l : Launch} {e : Env} {R : Room} {s : State} {m : MethodId} {args : Array Value} {below : List Frame} {meth : Method} {c : Code} {H : Heap} {locs : List Loc} {cells slots : Nat}
variable {y : MethodName} {bytes cc : ByteArray} {maxL nL mc ms n index : Nat} {ret : Option FieldType} {ws : List Cond} {rm : Room} {Pc : Array Value → State → Prop} {Qc : Array Value → State → Outcome → State → Prop} {XC : String → State → State → Prop} {free : Addr → Prop} {Ts : List Cond} {own C : String} {b : Addr} {As rest : List Value} {g : JFrame}
theorem vx_callBack (cb : CallB R s args own index y bytes maxL ret ws rm mc ms n) (hM : vx_Met l y ws rm Pc Qc XC mc ms free) (hbl : FrameBlind Pc) : vx_Back l R p e below s args y 3 8 (PreOf R mc ms Pc) (PostOf Qc mc ms free) (vx_Post XC mc ms free) := by
  obtain ⟨hrc, hrs, hfr, hlo, hws, hcw, -, hini, -⟩ := cb
  exact vx_back (bytes := bytes) (maxL := maxL) (ret := ret) hM hbl hrc hrs hfr hlo hws hcw (fun a' U hW => word_at hW (Or.inl (by first | rfl | simp [Cond.onTables, Cond.keeps, Cond.steady])) hini)
theorem vx_runV (S : CallFix p m c cc nL s args Ts own) (hM : vx_Met l y ws rm Pc Qc XC mc ms free) (cw : CallW R s args own C index y bytes maxL ret ws rm mc ms n) (hp : PreV s H C b Pc As)
    (hg : g.method = m) (hn : As.length = n) (hsize : g.locals.size = nL) (hstack : g.stack = As.reverse ++ .ref b :: rest) (hW : 2 * g.monitorRoom + (rest.map fun v => v.category).sum ≤ 8) (hdg : decode cc g.pc = .ok (.invokevirtual index, 3)) (hf : cells + mc ≤ R.cells ∧ slots + ms ≤ R.slots) :
    vx_Run p l e R s m args below meth c H locs cells slots mc ms g rest (Qc (Value.ref b :: As).toArray) XC free := by
  have hK : vx_Back l R p e below s args y 3 8 (PreOf R mc ms Pc) (PostOf Qc mc ms free) (vx_Post XC mc ms free) := vx_callBack cw.1 hM hp.1
  obtain ⟨⟨-, -, -, -, -, -, hcode, -, hy, hlen, hl⟩, hin, hse⟩ := cw
  obtain ⟨hx, hb, hml, ho, -⟩ := S
  obtain ⟨-, ⟨cellB, hcB, hoB, hclB⟩, hPc⟩ := hp
  intro T hT X
  rcases vx_callV X hx (C := C) (bytes := bytes) (maxL := maxL) (ret := ret) ho hl hin hse hcode hy hK (by rw [hT]; exact hcB) hoB hclB hg (hsize.trans hml.symm) (argsL := As) (rest := rest) (fun sig h => hn.trans (hlen sig h)) hstack hW (by rw [hb]; exact hdg)
    (fun vm₁ hW₁ => ⟨hf.1, hf.2, hPc (T.setVm vm₁) hT hW₁⟩) with ⟨v, vm₁, ⟨U', l2, c2, s2⟩, hW₁, X', ⟨g', mk, t, L, e1, e2, hq, h1, hL, h2, h3⟩, st⟩ | ⟨q, vm₁, ⟨U', l2, c2, s2⟩, hW₁, X', ⟨g', mk, t, L, E, ce, e1, e2, hq, hce, hcv, hcl, h1, hL, h2, h3⟩, st⟩
  · dsimp only [Pt.U, Pt.locs, Pt.cells, Pt.slots] at X' e1 e2 h1 h2 h3 st
    subst h1; subst h2; subst h3
    exact Or.inl ⟨v, (T.setVm vm₁).calling g' mk (Value.ref b :: As).toArray, t, U', L, hT, X', hL, e1, e2, hq, st⟩
  · dsimp only [Pt.U, Pt.locs, Pt.cells, Pt.slots] at X' e1 e2 h1 h2 h3 st hcl
    subst h1; subst h2; subst h3
    exact Or.inr ⟨q, (T.setVm vm₁).calling g' mk (Value.ref b :: As).toArray, t, U', L, E, ce, hT, X', hL, e1, e2, hq, hce, hcv, vx_cls hW₁ hcl, st⟩
theorem vx_runS (S : CallFix p m c cc nL s args Ts own) (hM : vx_Met l y ws rm Pc Qc XC mc ms free) (cw : CallB R s args own index y bytes maxL ret ws rm mc ms n ∧ (Cond.static y).before args s = true) (hp : PreS s H Pc As)
    (hg : g.method = m) (hn : As.length = n) (hsize : g.locals.size = nL) (hstack : g.stack = As.reverse ++ rest) (hW : 2 * g.monitorRoom + (rest.map fun v => v.category).sum ≤ 8) (hdg : decode cc g.pc = .ok (.invokestatic index, 3)) (hf : cells + mc ≤ R.cells ∧ slots + ms ≤ R.slots) :
    vx_Run p l e R s m args below meth c H locs cells slots mc ms g rest (Qc As.toArray) XC free := by
  have hK : vx_Back l R p e below s args y 3 8 (PreOf R mc ms Pc) (PostOf Qc mc ms free) (vx_Post XC mc ms free) := vx_callBack cw.1 hM hp.1
  obtain ⟨⟨-, -, -, -, -, -, hcode, hini, hy, hlen, hl⟩, hstt⟩ := cw
  obtain ⟨hx, hb, hml, ho, -⟩ := S
  intro T hT X
  rcases vx_callS X hx (bytes := bytes) (maxL := maxL) (ret := ret) ho hl hstt hini hcode hy hK hg (hsize.trans hml.symm) (argsL := As) (rest := rest) (fun sig h => hn.trans (hlen sig h)) hstack hW (by rw [hb]; exact hdg)
    (fun vm₁ hW₁ => ⟨hf.1, hf.2, hp.2 (T.setVm vm₁) hT hW₁⟩) with ⟨v, vm₁, ⟨U', l2, c2, s2⟩, hW₁, X', ⟨g', mk, t, L, e1, e2, hq, h1, hL, h2, h3⟩, st⟩ | ⟨q, vm₁, ⟨U', l2, c2, s2⟩, hW₁, X', ⟨g', mk, t, L, E, ce, e1, e2, hq, hce, hcv, hcl, h1, hL, h2, h3⟩, st⟩
  · dsimp only [Pt.U, Pt.locs, Pt.cells, Pt.slots] at X' e1 e2 h1 h2 h3 st
    subst h1; subst h2; subst h3
    exact Or.inl ⟨v, (T.setVm vm₁).calling g' mk As.toArray, t, U', L, hT, X', hL, e1, e2, hq, st⟩
  · dsimp only [Pt.U, Pt.locs, Pt.cells, Pt.slots] at X' e1 e2 h1 h2 h3 st hcl
    subst h1; subst h2; subst h3
    exact Or.inr ⟨q, (T.setVm vm₁).calling g' mk As.toArray, t, U', L, E, ce, hT, X', hL, e1, e2, hq, hce, hcv, vx_cls hW₁ hcl, st⟩
end Runs
section Rows
variable {p : Program} {l : Launch} {e : Env} {R : Room} {s : State} {m : MethodId} {args : Array Value} {below : List Frame} {meth : Method} {c : Code} {H : Heap} {locs : List Loc} {cells slots : Nat} {Q : State → Prop}
variable {mc ms : Nat} {free : Addr → Prop} {A0 A1 : Nat → Prop} {H0 : Heap} {a : Array Value} {pc : Nat} {ls : Array Slot} {st0 rest : List Value}
theorem vx_keep {st₀ t T' : State} {L : List Loc} (h0 : st₀.heap = H) (e1 : T'.heap = t.heap) (hS : va_S A0 H0 H locs) (hA : ∀ q, q < H.size → A1 q → A0 q) (hf : ∀ q, free q → A0 q) (hL : ∀ q ∈ L, free q.base) (hF : va_F A1 st₀ t) :
    H.size ≤ T'.heap.size ∧ (∀ q : Nat, q < H.size → ¬ A1 q → T'.heap[q]? = H[q]?) ∧ va_S A0 H0 T'.heap (locs ++ L) := by
  obtain ⟨hz, hk⟩ := hF
  rw [h0] at hz hk
  exact ⟨by rw [e1]; exact hz, fun q h1 h2 => by rw [e1]; exact hk q h1 h2,
    ⟨Nat.le_trans hS.1 (by rw [e1]; exact hz), fun q h1 h2 => by rw [e1, hk q (Nat.lt_of_lt_of_le h1 hS.1) (fun z => h2 (hA q (Nat.lt_of_lt_of_le h1 hS.1) z))]; exact hS.2.1 q h1 h2, fun q hq => by
      rcases List.mem_append.mp hq with h | h
      · exact hS.2.2 q h
      · exact hf _ (hL q h)⟩⟩
theorem vx_calli {S SX : Type} {post : Int32 → S → Prop} {px : SX → Prop} {B : S → State → Prop} {BX : String → SX → State → Prop} {AX : Nat → Prop} (hr : vx_Run p l e R s m args below meth c H locs cells slots mc ms (F0 m pc ls st0) rest (va_Qi post B A1 a) (vx_X px BX AX) free) (hS : va_S A0 H0 H locs) (hA : ∀ q, q < H.size → A1 q → A0 q) (hf : ∀ q, free q → A0 q) (hAX : ∀ q, q < H.size → AX q → A0 q)
    (kx : ∀ (E : String) (ce : Cell) (q9 : Addr) (u : SX) (t : State) (H1 : Heap) (locs1 : List Loc), t.heap = H1 → s.vm.Alike t.vm → px u → BX E u t → H.size ≤ H1.size → (∀ q : Nat, q < H.size → ¬ AX q → H1[q]? = H[q]?) → va_S A0 H0 H1 locs1 → H1[q9]? = some ce → ce.vm = .none → s.vm.findClass E = some ce.cls → vx_W p l e R s m args below meth c H1 locs1 (cells + mc) (slots + ms) Q (F0 m pc ls rest) q9)
    (kk : ∀ (r : Int32) (u : S) (t : State) (H1 : Heap) (locs1 : List Loc), t.heap = H1 → s.vm.Alike t.vm → post r u → B u t → H.size ≤ H1.size → (∀ q : Nat, q < H.size → ¬ A1 q → H1[q]? = H[q]?) → va_S A0 H0 H1 locs1 → W p l e R s m args below meth c H1 locs1 (cells + mc) (slots + ms) Q (F0 m (pc + 3) ls (.int r :: rest))) : W p l e R s m args below meth c H locs cells slots Q (F0 m pc ls st0) := by
  intro T hT X
  rcases hr T hT X with ⟨v, st₀, t, T', L, h0, X', hL, e1, e2, ⟨⟨r, u, hv, hp, hb⟩, hF⟩, st⟩ | ⟨q, st₀, t, T', L, E, ce, h0, X', hL, e1, e2, ⟨u, hp, hb, hF⟩, hce, hcv, hcl, st⟩
  · cases hv
    obtain ⟨k1, k2, k3⟩ := vx_keep h0 e1 hS hA hf hL hF
    obtain ⟨t2, a1, b1⟩ := kk r u t T'.heap (locs ++ L) e1.symm (by rw [← e2]; exact X'.warmed.alike) hp hb k1 k2 k3 T' rfl X'
    exact ⟨t2, st t2 a1, b1⟩
  · obtain ⟨k1, k2, k3⟩ := vx_keep h0 e1 hS hAX hf hL hF
    obtain ⟨t2, a1, b1⟩ := kx E ce q u t T'.heap (locs ++ L) e1.symm (by rw [← e2]; exact X'.warmed.alike) hp hb k1 k2 k3 (by rw [e1]; exact hce) hcv hcl T' rfl X'
    exact ⟨t2, st.trans a1, b1⟩
theorem vx_calll {S SX : Type} {post : Int64 → S → Prop} {px : SX → Prop} {B : S → State → Prop} {BX : String → SX → State → Prop} {AX : Nat → Prop} (hr : vx_Run p l e R s m args below meth c H locs cells slots mc ms (F0 m pc ls st0) rest (va_Ql post B A1 a) (vx_X px BX AX) free) (hS : va_S A0 H0 H locs) (hA : ∀ q, q < H.size → A1 q → A0 q) (hf : ∀ q, free q → A0 q) (hAX : ∀ q, q < H.size → AX q → A0 q)
    (kx : ∀ (E : String) (ce : Cell) (q9 : Addr) (u : SX) (t : State) (H1 : Heap) (locs1 : List Loc), t.heap = H1 → s.vm.Alike t.vm → px u → BX E u t → H.size ≤ H1.size → (∀ q : Nat, q < H.size → ¬ AX q → H1[q]? = H[q]?) → va_S A0 H0 H1 locs1 → H1[q9]? = some ce → ce.vm = .none → s.vm.findClass E = some ce.cls → vx_W p l e R s m args below meth c H1 locs1 (cells + mc) (slots + ms) Q (F0 m pc ls rest) q9)
    (kk : ∀ (r : Int64) (u : S) (t : State) (H1 : Heap) (locs1 : List Loc), t.heap = H1 → s.vm.Alike t.vm → post r u → B u t → H.size ≤ H1.size → (∀ q : Nat, q < H.size → ¬ A1 q → H1[q]? = H[q]?) → va_S A0 H0 H1 locs1 → W p l e R s m args below meth c H1 locs1 (cells + mc) (slots + ms) Q (F0 m (pc + 3) ls (.long r :: rest))) : W p l e R s m args below meth c H locs cells slots Q (F0 m pc ls st0) := by
  intro T hT X
  rcases hr T hT X with ⟨v, st₀, t, T', L, h0, X', hL, e1, e2, ⟨⟨r, u, hv, hp, hb⟩, hF⟩, st⟩ | ⟨q, st₀, t, T', L, E, ce, h0, X', hL, e1, e2, ⟨u, hp, hb, hF⟩, hce, hcv, hcl, st⟩
  · cases hv
    obtain ⟨k1, k2, k3⟩ := vx_keep h0 e1 hS hA hf hL hF
    obtain ⟨t2, a1, b1⟩ := kk r u t T'.heap (locs ++ L) e1.symm (by rw [← e2]; exact X'.warmed.alike) hp hb k1 k2 k3 T' rfl X'
    exact ⟨t2, st t2 a1, b1⟩
  · obtain ⟨k1, k2, k3⟩ := vx_keep h0 e1 hS hAX hf hL hF
    obtain ⟨t2, a1, b1⟩ := kx E ce q u t T'.heap (locs ++ L) e1.symm (by rw [← e2]; exact X'.warmed.alike) hp hb k1 k2 k3 (by rw [e1]; exact hce) hcv hcl T' rfl X'
    exact ⟨t2, st.trans a1, b1⟩
theorem vx_callf {S SX : Type} {post : UInt32 → S → Prop} {px : SX → Prop} {B : S → State → Prop} {BX : String → SX → State → Prop} {AX : Nat → Prop} (hr : vx_Run p l e R s m args below meth c H locs cells slots mc ms (F0 m pc ls st0) rest (va_Qf post B A1 a) (vx_X px BX AX) free) (hS : va_S A0 H0 H locs) (hA : ∀ q, q < H.size → A1 q → A0 q) (hf : ∀ q, free q → A0 q) (hAX : ∀ q, q < H.size → AX q → A0 q)
    (kx : ∀ (E : String) (ce : Cell) (q9 : Addr) (u : SX) (t : State) (H1 : Heap) (locs1 : List Loc), t.heap = H1 → s.vm.Alike t.vm → px u → BX E u t → H.size ≤ H1.size → (∀ q : Nat, q < H.size → ¬ AX q → H1[q]? = H[q]?) → va_S A0 H0 H1 locs1 → H1[q9]? = some ce → ce.vm = .none → s.vm.findClass E = some ce.cls → vx_W p l e R s m args below meth c H1 locs1 (cells + mc) (slots + ms) Q (F0 m pc ls rest) q9)
    (kk : ∀ (r : UInt32) (u : S) (t : State) (H1 : Heap) (locs1 : List Loc), t.heap = H1 → s.vm.Alike t.vm → post r u → B u t → H.size ≤ H1.size → (∀ q : Nat, q < H.size → ¬ A1 q → H1[q]? = H[q]?) → va_S A0 H0 H1 locs1 → W p l e R s m args below meth c H1 locs1 (cells + mc) (slots + ms) Q (F0 m (pc + 3) ls (.float r :: rest))) : W p l e R s m args below meth c H locs cells slots Q (F0 m pc ls st0) := by
  intro T hT X
  rcases hr T hT X with ⟨v, st₀, t, T', L, h0, X', hL, e1, e2, ⟨⟨r, u, hv, hp, hb⟩, hF⟩, st⟩ | ⟨q, st₀, t, T', L, E, ce, h0, X', hL, e1, e2, ⟨u, hp, hb, hF⟩, hce, hcv, hcl, st⟩
  · cases hv
    obtain ⟨k1, k2, k3⟩ := vx_keep h0 e1 hS hA hf hL hF
    obtain ⟨t2, a1, b1⟩ := kk r u t T'.heap (locs ++ L) e1.symm (by rw [← e2]; exact X'.warmed.alike) hp hb k1 k2 k3 T' rfl X'
    exact ⟨t2, st t2 a1, b1⟩
  · obtain ⟨k1, k2, k3⟩ := vx_keep h0 e1 hS hAX hf hL hF
    obtain ⟨t2, a1, b1⟩ := kx E ce q u t T'.heap (locs ++ L) e1.symm (by rw [← e2]; exact X'.warmed.alike) hp hb k1 k2 k3 (by rw [e1]; exact hce) hcv hcl T' rfl X'
    exact ⟨t2, st.trans a1, b1⟩
theorem vx_calld {S SX : Type} {post : UInt64 → S → Prop} {px : SX → Prop} {B : S → State → Prop} {BX : String → SX → State → Prop} {AX : Nat → Prop} (hr : vx_Run p l e R s m args below meth c H locs cells slots mc ms (F0 m pc ls st0) rest (va_Qd post B A1 a) (vx_X px BX AX) free) (hS : va_S A0 H0 H locs) (hA : ∀ q, q < H.size → A1 q → A0 q) (hf : ∀ q, free q → A0 q) (hAX : ∀ q, q < H.size → AX q → A0 q)
    (kx : ∀ (E : String) (ce : Cell) (q9 : Addr) (u : SX) (t : State) (H1 : Heap) (locs1 : List Loc), t.heap = H1 → s.vm.Alike t.vm → px u → BX E u t → H.size ≤ H1.size → (∀ q : Nat, q < H.size → ¬ AX q → H1[q]? = H[q]?) → va_S A0 H0 H1 locs1 → H1[q9]? = some ce → ce.vm = .none → s.vm.findClass E = some ce.cls → vx_W p l e R s m args below meth c H1 locs1 (cells + mc) (slots + ms) Q (F0 m pc ls rest) q9)
    (kk : ∀ (r : UInt64) (u : S) (t : State) (H1 : Heap) (locs1 : List Loc), t.heap = H1 → s.vm.Alike t.vm → post r u → B u t → H.size ≤ H1.size → (∀ q : Nat, q < H.size → ¬ A1 q → H1[q]? = H[q]?) → va_S A0 H0 H1 locs1 → W p l e R s m args below meth c H1 locs1 (cells + mc) (slots + ms) Q (F0 m (pc + 3) ls (.double r :: rest))) : W p l e R s m args below meth c H locs cells slots Q (F0 m pc ls st0) := by
  intro T hT X
  rcases hr T hT X with ⟨v, st₀, t, T', L, h0, X', hL, e1, e2, ⟨⟨r, u, hv, hp, hb⟩, hF⟩, st⟩ | ⟨q, st₀, t, T', L, E, ce, h0, X', hL, e1, e2, ⟨u, hp, hb, hF⟩, hce, hcv, hcl, st⟩
  · cases hv
    obtain ⟨k1, k2, k3⟩ := vx_keep h0 e1 hS hA hf hL hF
    obtain ⟨t2, a1, b1⟩ := kk r u t T'.heap (locs ++ L) e1.symm (by rw [← e2]; exact X'.warmed.alike) hp hb k1 k2 k3 T' rfl X'
    exact ⟨t2, st t2 a1, b1⟩
  · obtain ⟨k1, k2, k3⟩ := vx_keep h0 e1 hS hAX hf hL hF
    obtain ⟨t2, a1, b1⟩ := kx E ce q u t T'.heap (locs ++ L) e1.symm (by rw [← e2]; exact X'.warmed.alike) hp hb k1 k2 k3 (by rw [e1]; exact hce) hcv hcl T' rfl X'
    exact ⟨t2, st.trans a1, b1⟩
theorem vx_callv {S SX : Type} {post : S → Prop} {px : SX → Prop} {B : S → State → Prop} {BX : String → SX → State → Prop} {AX : Nat → Prop} (hr : vx_Run p l e R s m args below meth c H locs cells slots mc ms (F0 m pc ls st0) rest (va_Qv post B A1 a) (vx_X px BX AX) free) (hS : va_S A0 H0 H locs) (hA : ∀ q, q < H.size → A1 q → A0 q) (hf : ∀ q, free q → A0 q) (hAX : ∀ q, q < H.size → AX q → A0 q)
    (kx : ∀ (E : String) (ce : Cell) (q9 : Addr) (u : SX) (t : State) (H1 : Heap) (locs1 : List Loc), t.heap = H1 → s.vm.Alike t.vm → px u → BX E u t → H.size ≤ H1.size → (∀ q : Nat, q < H.size → ¬ AX q → H1[q]? = H[q]?) → va_S A0 H0 H1 locs1 → H1[q9]? = some ce → ce.vm = .none → s.vm.findClass E = some ce.cls → vx_W p l e R s m args below meth c H1 locs1 (cells + mc) (slots + ms) Q (F0 m pc ls rest) q9)
    (kk : ∀ (u : S) (t : State) (H1 : Heap) (locs1 : List Loc), t.heap = H1 → s.vm.Alike t.vm → post u → B u t → H.size ≤ H1.size → (∀ q : Nat, q < H.size → ¬ A1 q → H1[q]? = H[q]?) → va_S A0 H0 H1 locs1 → W p l e R s m args below meth c H1 locs1 (cells + mc) (slots + ms) Q (F0 m (pc + 3) ls (rest))) : W p l e R s m args below meth c H locs cells slots Q (F0 m pc ls st0) := by
  intro T hT X
  rcases hr T hT X with ⟨v, st₀, t, T', L, h0, X', hL, e1, e2, ⟨⟨u, hv, hp, hb⟩, hF⟩, st⟩ | ⟨q, st₀, t, T', L, E, ce, h0, X', hL, e1, e2, ⟨u, hp, hb, hF⟩, hce, hcv, hcl, st⟩
  · cases hv
    obtain ⟨k1, k2, k3⟩ := vx_keep h0 e1 hS hA hf hL hF
    obtain ⟨t2, a1, b1⟩ := kk u t T'.heap (locs ++ L) e1.symm (by rw [← e2]; exact X'.warmed.alike) hp hb k1 k2 k3 T' rfl X'
    exact ⟨t2, st t2 a1, b1⟩
  · obtain ⟨k1, k2, k3⟩ := vx_keep h0 e1 hS hAX hf hL hF
    obtain ⟨t2, a1, b1⟩ := kx E ce q u t T'.heap (locs ++ L) e1.symm (by rw [← e2]; exact X'.warmed.alike) hp hb k1 k2 k3 (by rw [e1]; exact hce) hcv hcl T' rfl X'
    exact ⟨t2, st.trans a1, b1⟩
/-- caught by the row x of this method's table; the rows ahead don't take it -/
theorem vx_catch {own name : String} {E : String} {ce : Cell} {q : Addr} (hown : s.vm.findClass own = some m.cls) (pre : List ExceptionTableEntry) (x : ExceptionTableEntry) (suf : List ExceptionTableEntry) (hsplit : c.exceptionTable.toList = pre ++ x :: suf)
    (hpass : ∀ z ∈ pre, covers z pc = false ∨ (z.catchType ≠ 0 ∧ ∃ nm : String, (Cond.classLink own z.catchType nm).before args s = true ∧ va_Nc E nm s)) (hx : covers x pc = true) (h0 : x.catchType ≠ 0)
    (hlink : (Cond.classLink own x.catchType name).before args s = true) (hcast : (Cond.castable E name).before args s = true) (hcell : H[q]? = some ce) (hv : ce.vm = .none) (hcl : s.vm.findClass E = some ce.cls)
    (kk : W p l e R s m args below meth c H locs cells slots Q (F0 m x.handlerPc ls [.ref q])) : vx_W p l e R s m args below meth c H locs cells slots Q (F0 m pc ls rest) q := by
  intro T hT X
  have hpl : e.platform.magicAccessors = ({} : Platform).magicAccessors := by rw [X.admits.platform]
  obtain ⟨c3, c4, hc3, hc4, hasg⟩ := Cond.castable_spec hcast
  cases Option.some.inj (hc3.symm.trans hcl)
  obtain ⟨c5, hc5, hcl5⟩ := Cond.classLink_spec hown hlink e.platform hpl
  cases Option.some.inj (hc4.symm.trans hc5)
  obtain ⟨vm', X', st⟩ := X.thenCaughtThrough q (g := F0 m pc ls rest) rfl (Steps.refl _) (by rw [hT]; exact hcell) (by rw [hv]; rfl) (by obtain ⟨k9, h9, -⟩ := Vm.findClass_spec hcl; exact ⟨k9, h9⟩) pre x suf hsplit
    (fun z hz => by
      rcases hpass z hz with h | ⟨hz0, nm, hl1, hn1⟩
      · exact Or.inl h
      · obtain ⟨c6, hc6, hcl6⟩ := Cond.classLink_spec hown hl1 e.platform hpl
        obtain ⟨a8, b8, h1, h2, h3⟩ := hn1
        cases Option.some.inj (h1.symm.trans hcl)
        cases Option.some.inj (h2.symm.trans hc6)
        exact Or.inr ⟨hz0, _, hcl6, h3⟩) hx (Or.inr ⟨h0, c4, hcl5, hasg⟩)
  obtain ⟨t, a1, b1⟩ := kk (T.setVm vm') hT X'
  exact ⟨t, st.trans a1, b1⟩
end Rows
section Ends
variable {p : Program} {l : Launch} {e : Env} {R : Room} {s : State} {m : MethodId} {args : Array Value} {below : List Frame} {meth : Method} {c : Code} {H : Heap} {locs : List Loc} {cells slots : Nat} {Q : State → Prop}
variable {mc ms : Nat} {free : Addr → Prop} {A0 A1 : Nat → Prop} {H0 : Heap} {a : Array Value} {ls : Array Slot} {st0 rest : List Value}
variable {Qc : Array Value → State → Outcome → State → Prop} {XC : String → State → State → Prop}
/-- what a body that may throw owes at its end -/
def vx_MQ (below : List Frame) (Qc : Array Value → State → Outcome → State → Prop) (XC : String → State → State → Prop) (a : Array Value) (s : State) (mc ms : Nat) (free : Addr → Prop) : State → Prop := fun t =>
  ∃ o, t.status = .running ∧ Ended t below o ∧ vx_Q Qc XC mc ms free a s o t
theorem vx_ret {g : JFrame} {mc ms : Nat} (k : W p l e R s m args below meth c H locs cells slots (MQ below Qc args s mc ms free) g) : W p l e R s m args below meth c H locs cells slots (vx_MQ below Qc XC args s mc ms free) g := by
  intro T hT X
  obtain ⟨t, a1, o, b1, b2, b3, b4⟩ := k T hT X
  exact ⟨t, a1, o, b1, b2, Or.inl ⟨b3, b4⟩⟩
/-- not caught here: it goes on to the caller -/
theorem vx_widen {g : JFrame} {q : Addr} {k n : Nat} (h1 : cells ≤ k) (h2 : slots ≤ n) (kk : vx_W p l e R s m args below meth c H locs k n Q g q) : vx_W p l e R s m args below meth c H locs cells slots Q g q := fun T hT X => kk T hT (stand_widen X h1 h2)
theorem vx_out {pc : Nat} {E : String} {ce : Cell} {q : Addr} {mc ms : Nat} (hout : ∀ x ∈ c.exceptionTable.toList, covers x pc = false) (hlocks : meth.locks = false) (hcell : H[q]? = some ce) (hv : ce.vm = .none) (hcl : s.vm.findClass E = some ce.cls)
    (hx : ∀ t : State, t.heap = H → s.vm.Alike t.vm → XC E s t) (hf : ∀ z ∈ locs, free z.base) (hc : cells ≤ mc) (hs : slots ≤ ms) :
    vx_W p l e R s m args below meth c H locs cells slots (vx_MQ below Qc XC args s mc ms free) (F0 m pc ls rest) q := by
  intro T hT X
  obtain ⟨st1, hrun, hend, hW, hsm⟩ := X.leaveThrown q (g := F0 m pc ls rest) rfl rfl rfl hout hlocks
  have hcell9 : (T.setFrames (.throwing q :: below)).heap[q]? = some ce := by
    show T.heap[q]? = some ce
    rw [hT]; exact hcell
  exact ⟨_, st1, .threw q, hrun, hend, Or.inr ⟨q, rfl, E, ce, locs, hx _ hT hW.alike, hcell9, hv, hcl, hW, hsm.mono hc hs, hf⟩⟩
theorem vx_frame {U : State} {k n : Nat} (h : s.sameButNew ({ U with vm := s.vm } : State) locs k n) : s.heap.size ≤ U.heap.size ∧ ∀ q : Nat, q < s.heap.size → (∀ z ∈ locs, z.base ≠ q) → U.heap[q]? = s.heap[q]? := by
  obtain ⟨-, h2, -, -, -, h6⟩ := h
  refine ⟨h2, fun q hq hz => ?_⟩
  obtain ⟨c9, e1, e2, e3, e4⟩ := h6 q _ (Array.getElem?_eq_getElem hq)
  have hs : c9.slots = (s.heap[q]).slots := Array.ext_getElem? fun i => e4 i fun hm => hz _ hm rfl
  have h9 : c9 = s.heap[q] := by
    rw [hs] at e2
    exact e2
  have e5 : U.heap[q]? = some c9 := e1
  rw [e5, h9, Array.getElem?_eq_getElem hq]
/-- the words of a throw but the four that speak of the heap -/
def vx_no (w : Cond) : Bool := decide (w ≠ .isRef (.static Bundle.tN "UNASSIGNED_STACK" Bundle.steD)) && decide (w ≠ .isRef (.static Bundle.tN "SUPPRESSED_SENTINEL" Bundle.listD)) && decide (w ≠ .laysStatic Bundle.tN "UNASSIGNED_STACK" Bundle.steD) && decide (w ≠ .laysStatic Bundle.tN "SUPPRESSED_SENTINEL" Bundle.listD)
def vx_at0 (own : String) (ic : Nat) (X : String) (names : List String) : List Cond := (Bundle.ownAtoms0 own ic X names).filter vx_no
def vx_atS (own : String) (ic : Nat) (X : String) (names : List String) : List Cond := (Bundle.ownAtoms own ic X names).filter vx_no
/-- a word that the tables alone decide, or a good one -/
def vx_ot (w : Cond) : Bool := w.onTables || goodWord w
theorem vx_ot_at {args a' : Array Value} {s U : State} {w : Cond} (hW : s.WarmedH U.vm) (hvm : s.vm = U.vm) (hg : vx_ot w = true) (h : w.before args s = true) : w.before a' U = true := by
  simp only [vx_ot, Bool.or_eq_true] at hg
  rcases hg with hg | hg
  · exact va_tabs hg hvm h
  · exact word_at hW (good_of_word hg) h
/-- a list's words: the good ones out of the method's own list, the others by premises of their own -/
theorem vx_hat {args : Array Value} {s : State} {L B : List Cond} (h1 : ∀ w ∈ L.filter goodWord, w.before args s = true) (h2 : ∀ w ∈ L.filter (fun w => !goodWord w), w ∈ B) (h3 : ∀ w ∈ B, w.before args s = true) : ∀ w ∈ L, w.before args s = true := by
  intro w hw
  by_cases g : goodWord w = true
  · exact h1 w (List.mem_filter.mpr ⟨hw, g⟩)
  · refine h3 w (h2 w (List.mem_filter.mpr ⟨hw, ?_⟩))
    show (!goodWord w) = true
    cases hgw : goodWord w
    · rfl
    · exact absurd hgw g
theorem vx_c {args : Array Value} {s : State} {w : Cond} {B : List Cond} (h : w.before args s = true) (t : ∀ w ∈ B, w.before args s = true) : ∀ w' ∈ w :: B, w'.before args s = true := fun w' h' => (List.mem_cons.mp h').elim (fun e => by rw [e]; exact h) (t w')
theorem vx_n {args : Array Value} {s : State} : ∀ w ∈ ([] : List Cond), w.before args s = true := fun _ h => nomatch h
theorem vx_own {args : Array Value} {s : State} {L : List Cond} (h1 : ∀ w ∈ L.filter vx_no, w.before args s = true)
    (hU : (Cond.isRef (.static Bundle.tN "UNASSIGNED_STACK" Bundle.steD)).before args s = true) (hN : (Cond.isRef (.static Bundle.tN "SUPPRESSED_SENTINEL" Bundle.listD)).before args s = true)
    (lU : (Cond.laysStatic Bundle.tN "UNASSIGNED_STACK" Bundle.steD).before args s = true) (lN : (Cond.laysStatic Bundle.tN "SUPPRESSED_SENTINEL" Bundle.listD).before args s = true) : ∀ w ∈ L, w.before args s = true := by
  intro w hw
  by_cases e1 : w = .isRef (.static Bundle.tN "UNASSIGNED_STACK" Bundle.steD)
  · rw [e1]; exact hU
  · by_cases e2 : w = .isRef (.static Bundle.tN "SUPPRESSED_SENTINEL" Bundle.listD)
    · rw [e2]; exact hN
    · by_cases e3 : w = .laysStatic Bundle.tN "UNASSIGNED_STACK" Bundle.steD
      · rw [e3]; exact lU
      · by_cases e4 : w = .laysStatic Bundle.tN "SUPPRESSED_SENTINEL" Bundle.listD
        · rw [e4]; exact lN
        · exact h1 w (List.mem_filter.mpr ⟨hw, by unfold vx_no; rw [decide_eq_true e1, decide_eq_true e2, decide_eq_true e3, decide_eq_true e4]; rfl⟩)
/-- where a static field lies, its class's statics cell in H -/
def vx_L (C n d : String) (A : Nat → Prop) (U : State) (H : Heap) : Prop := ∃ (c : ClassId) (k : Class) (i : Nat) (f : Field) (a : Nat) (cell : Cell), U.vm.findClass C = some c ∧ U.fieldFound? C n d = some (c, k, i, f) ∧ f.isStatic = true ∧ k.statics = some a ∧ H[a]? = some cell ∧ cell.vm.isStatics = true ∧ cell.cls = c ∧ f.slot < cell.slots.size ∧ k.staticTypes[f.slot]? = some f.type ∧ ¬ A a
theorem vx_L.moved {C n d : String} {A : Nat → Prop} {u U : State} {H : Heap} (hvm : u.vm.Alike U.vm) (h : vx_L C n d A u H) : vx_L C n d A U H := by
  obtain ⟨c, k, i, f, a, cell, h1, h2, h3, h4, h5, h6, h7, h8, h9, h10⟩ := h
  obtain ⟨k', hi', he⟩ := State.fieldFound?_setVm hvm h2
  exact ⟨c, k', i, f, a, cell, by rw [hvm.findClass]; exact h1, hi', h3, by rw [he]; exact h4, h5, h6, h7, h8, by rw [he]; exact h9, h10⟩
theorem vx_L.kept {C n d : String} {A : Nat → Prop} {U : State} {H H1 : Heap} (h : vx_L C n d A U H) (hq : ∀ a : Nat, a < H.size → ¬ A a → H1[a]? = H[a]?) : vx_L C n d A U H1 := by
  obtain ⟨c, k, i, f, a, cell, h1, h2, h3, h4, h5, h6, h7, h8, h9, h10⟩ := h
  exact ⟨c, k, i, f, a, cell, h1, h2, h3, h4, by rw [hq a (Array.getElem?_eq_some_iff.mp h5).1 h10]; exact h5, h6, h7, h8, h9, h10⟩
theorem vx_L.narrow {C n d : String} {A B : Nat → Prop} {U : State} {H : Heap} (h : vx_L C n d A U H) (hAB : ∀ q, B q → A q) : vx_L C n d B U H := by
  obtain ⟨c, k, i, f, a, cell, h1, h2, h3, h4, h5, h6, h7, h8, h9, h10⟩ := h
  exact ⟨c, k, i, f, a, cell, h1, h2, h3, h4, h5, h6, h7, h8, h9, fun z => h10 (hAB _ z)⟩
theorem vx_L.word {C n d : String} {A : Nat → Prop} {s : State} {args : Array Value} (h : vx_L C n d A s s.heap) : (Cond.laysStatic C n d).before args s = true := by
  obtain ⟨c, k, i, f, a, cell, h1, h2, h3, h4, h5, h6, h7, h8, h9, -⟩ := h
  show (Cond.laysStatic C n d).holds args s none s [] = true
  exact Cond.laysStatic_of h1 h2 h3 h4 h5 h6 h7 h8 h9
/-- .. and what it holds: null or some reference -/
def vx_Zq (C n d : String) (A : Nat → Prop) (U : State) (H : Heap) : Prop := va_Zq C n d A U H ∧ vx_L C n d A U H
theorem vx_Zq.moved {C n d : String} {A : Nat → Prop} {u U : State} {H : Heap} (hvm : u.vm.Alike U.vm) (h : vx_Zq C n d A u H) : vx_Zq C n d A U H := ⟨va_Zq.moved hvm h.1, vx_L.moved hvm h.2⟩
theorem vx_Zq.kept {C n d : String} {A : Nat → Prop} {U : State} {H H1 : Heap} (h : vx_Zq C n d A U H) (hq : ∀ a : Nat, a < H.size → ¬ A a → H1[a]? = H[a]?) : vx_Zq C n d A U H1 := ⟨va_Zq.kept h.1 hq, vx_L.kept h.2 hq⟩
theorem vx_Zq.narrow {C n d : String} {A B : Nat → Prop} {U : State} {H : Heap} (h : vx_Zq C n d A U H) (hAB : ∀ q, B q → A q) : vx_Zq C n d B U H := ⟨va_Zq.narrow h.1 hAB, vx_L.narrow h.2 hAB⟩
theorem vx_Zqof {args : Array Value} {s : State} {C n d : String} {A : Nat → Prop} (hl : (Cond.laysStatic C n d).before args s = true) (hini : (Cond.initialized C).before args s = true) (h : (Cond.isRef (.static C n d)).before args s = true) (hA : ∀ a : Nat, a < s.heap.size → ¬ A a) : vx_Zq C n d A s s.heap := by
  refine ⟨va_Zqof hl hini h hA, ?_⟩
  obtain ⟨c, k, i, f, a, cell, h1, h2, h3, h4, h5, h6, h7, h8, h9⟩ := Cond.laysStatic_spec hl
  exact ⟨c, k, i, f, a, cell, h1, h2, h3, h4, h5, h6, h7, h8, h9, hA a (Array.getElem?_eq_some_iff.mp h5).1⟩
theorem vx_isRef {C n d : String} {v : Value} {A : Nat → Prop} {s : State} {args : Array Value} (h : va_Z C n d v A s s.heap) (hv : v.isRef = true) : (Cond.isRef (.static C n d)).before args s = true := by
  obtain ⟨cf, kf, fi, f, a, cell, h1, h2, h3, h4, h5, h6, h7, -⟩ := h
  have he : (Term.static C n d).eval args s none [] s = some v := by
    simp [Term.eval, State.fieldNamed?, h1, h2, h4, h5, h6, h7]
  simp only [Cond.before, Cond.holds, Cond.value, he]
  cases v <;> simp_all [Value.isRef]
theorem vx_isRefq {C n d : String} {A : Nat → Prop} {s : State} {args : Array Value} (h : va_Zq C n d A s s.heap) : (Cond.isRef (.static C n d)).before args s = true := by
  rcases h with h | ⟨t, h⟩
  · exact vx_isRef h rfl
  · exact vx_isRef h rfl
/-- the same frame, seen from here: as if the method were called anew in this heap -/
theorem vx_rebase {T : State} (X : Stand p l e R s m args below meth c T locs cells slots) {R' : Room} (hf : R'.frames ≤ R.frames) (hl : R'.locals ≤ R.locals) (hc : cells + R'.cells ≤ R.cells) (hs : slots + R'.slots ≤ R.slots) :
    Stand p l e R' ((T.setVm s.vm).setFrames (.invoking m args :: below)) m args below meth c T [] 0 0 := by
  have htop : (T.setVm s.vm).topJava?.isSome := X.here.top
  have hF : ((T.setVm s.vm).setFrames (.invoking m args :: below)).frames = .invoking m args :: below := State.frames_setFrames _ (State.cur_lt_of_top htop)
  obtain ⟨g₀, hg0⟩ := Option.isSome_iff_exists.mp htop
  obtain ⟨r, hr⟩ := State.topJava?_eq_some.mp hg0
  have hl9 : e.platform.stackLimits (T.setVm s.vm).me = e.platform.stackLimits s.me := X.limits
  have hb9 : (T.setVm s.vm).me.stackBytes = s.me.stackBytes := X.bytes
  refine ⟨X.admits, X.cas, X.clock, hF, ?_, X.hears, X.method, X.code, X.here, X.tail, X.warmed, ?_, ?_, ?_⟩
  · have h := X.room
    have hU : ((T.setVm s.vm).setFrames (.invoking m args :: below)).localsInUse = s.localsInUse := by
      rw [State.localsInUse_invoking hF (meth := meth) (c := c) X.method X.code, State.localsInUse_invoking X.frames X.method X.code]
    simp only [State.hasRoom, Bool.and_eq_true, decide_eq_true_eq] at h ⊢
    obtain ⟨⟨⟨⟨h1, h2, h3, h4, h5, h6⟩, h7⟩, h8⟩, h9⟩ := h
    rw [X.frames, List.length_cons] at h2 h3
    have q1 := X.heapSize
    have q2 := X.used
    simp only [hF, hU, List.length_cons, State.stackLimits_setFrames, State.stackBytes_setFrames, hl9, hb9]
    refine ⟨⟨⟨⟨by omega, by omega, by omega, by omega, by omega, h6⟩, ?_⟩, ?_⟩, X.book⟩
    · show T.heap.size + R'.cells ≤ e.platform.maxCells
      omega
    · show T.slotsUsed + R'.slots ≤ e.platform.maxSlots
      omega
  · rw [State.stackLimits_setFrames]; rfl
  · rw [State.stackBytes_setFrames]; rfl
  · refine ⟨?_, Nat.le_refl _, Nat.le_refl _, ?_, ?_, fun a c9 h9 => ⟨c9, h9, rfl, rfl, fun _ _ => rfl⟩⟩
    · obtain ⟨t, ht, -⟩ := State.frames_cons hr
      show T.setVm s.vm = { ((T.setVm s.vm).setFrames (.invoking m args :: below)).setFrames (T.setVm s.vm).frames with heap := T.heap, slotsUsed := T.slotsUsed }
      rw [State.setFrames_setFrames, State.setFrames_self ht]
      rfl
    · show T.slotsUsed = T.slotsUsed + ((T.heap.toList.drop T.heap.size).map (·.slots.size)).sum
      rw [List.drop_eq_nil_of_le (Nat.le_of_eq Array.length_toList)]
      rfl
    · show ((T.heap.toList.drop T.heap.size).map (·.slots.size)).sum ≤ 0
      rw [List.drop_eq_nil_of_le (Nat.le_of_eq Array.length_toList)]
      exact Nat.le_refl _
/-- 'throw new E()': new; dup; invokespecial; athrow -/
theorem vx_throw0 {cc : ByteArray} {pc : Nat} (hexec : p.tables.exec = Jvm.exec) (hb : c.code = cc) (hl : l.stackTraces = false) {own cls : String} {names : List String} {ik ic mc ms : Nat} {A : Nat → Prop}
    (hown : s.vm.findClass own = some m.cls) (hcls : Bundle.fit cls = true) (hnames : ∀ n ∈ names, Bundle.fit n = true)
    (hk : (Cond.classLink own ik cls).before args s = true) (hini : (Cond.initialized cls).before args s = true) (hat : ∀ w ∈ vx_at0 own ic cls names, w.before args s = true)
    (hgood : ∀ w ∈ Cond.classLink own ik cls :: Cond.initialized cls :: vx_at0 own ic cls names, vx_ot w = true)
    (hU : vx_Zq Bundle.tN "UNASSIGNED_STACK" Bundle.steD A s s.heap) (hN : vx_Zq Bundle.tN "SUPPRESSED_SENTINEL" Bundle.listD A s s.heap) (hS : va_S A s.heap H locs) (hsize : ls.size = c.maxLocals)
    (d0 : decode cc pc = .ok (.new ik, 3)) (d3 : decode cc (pc + 3) = .ok (.dup, 1)) (d4 : decode cc (pc + 4) = .ok (.invokespecial ic, 3)) (d7 : decode cc (pc + 7) = .ok (.athrow, 1))
    (hout : ∀ x ∈ c.exceptionTable.toList, covers x (pc + 7) = false)
    (hRframes : names.length + 3 < R.frames) (hRlocals : (rest.map fun v => v.category).sum + (13 * (names.length + 1) + 42) ≤ R.locals) (hRcells : cells + 1 ≤ R.cells) (hRslots : slots + 6 ≤ R.slots) (hlocks : meth.locks = false)
    (hx : ∀ t : State, s.vm.Alike t.vm → H.size ≤ t.heap.size → (∀ q : Nat, q < H.size → t.heap[q]? = H[q]?) → XC cls s t)
    (hf : ∀ z ∈ locs, free z.base) (hc : cells + 1 ≤ mc) (hs : slots + 6 ≤ ms) :
    W p l e R s m args below meth c H locs cells slots (vx_MQ below Qc XC args s mc ms free) (F0 m pc ls rest) := by
  intro T hT X
  have htr : e.platform.stackTraces = false := (show e.platform.stackTraces = l.stackTraces by rw [X.admits.platform]).trans hl
  have Y := vx_rebase X (R' := { frames := R.frames, locals := R.locals, cells := 1, slots := 6 }) (Nat.le_refl _) (Nat.le_refl _) hRcells hRslots
  obtain ⟨s', hA⟩ : ∃ z, z = (T.setVm s.vm).setFrames (.invoking m args :: below) := ⟨_, rfl⟩
  rw [← hA] at Y
  have hvm : s'.vm = s.vm := by rw [hA]; rfl
  have hhp : s'.heap = H := by rw [hA]; exact hT
  have hW0 : s.WarmedH s'.vm := by rw [hvm]; exact State.WarmedH.refl s
  have hat' : ∀ w ∈ vx_at0 own ic cls names, w.before args s' = true := fun w hw => vx_ot_at hW0 hvm.symm (hgood w (List.mem_cons_of_mem _ (List.mem_cons_of_mem _ hw))) (hat w hw)
  have hk' : (Cond.classLink own ik cls).before args s' = true := vx_ot_at hW0 hvm.symm (hgood _ List.mem_cons_self) hk
  have hini' : (Cond.initialized cls).before args s' = true := vx_ot_at hW0 hvm.symm (hgood _ (List.mem_cons_of_mem _ List.mem_cons_self)) hini
  have hU' : vx_Zq Bundle.tN "UNASSIGNED_STACK" Bundle.steD A s' s'.heap := by rw [hhp]; exact vx_Zq.moved hW0.alike (hU.kept hS.2.1)
  have hN' : vx_Zq Bundle.tN "SUPPRESSED_SENTINEL" Bundle.listD A s' s'.heap := by rw [hhp]; exact vx_Zq.moved hW0.alike (hN.kept hS.2.1)
  have h : ∀ w ∈ Bundle.ownAtoms0 own ic cls names, w.before args s' = true := vx_own hat' (vx_isRefq hU'.1) (vx_isRefq hN'.1) hU'.2.word hN'.2.word
  have hown' : s'.vm.findClass own = some m.cls := by rw [hvm]; exact hown
  have hins : (Cond.instantiable cls 6).before args s' = true := h _ (by simp [Bundle.ownAtoms0])
  obtain ⟨vm₁, cX, kX, hfX, hkX, -, -, X₁, st1⟩ := Y.newCold hexec (own := own) (C := cls) (index := ik) (n := 6) hown' hk' hins hini'
    (g := F0 m pc ls rest) rfl (by rw [hb]; exact d0) (Nat.le_refl _) (Nat.le_refl _)
  generalize hT1 : (T.setVm vm₁).pushCell { cls := cX, slots := kX.instanceTypes.map defaultValue, vm := .none } = T1 at X₁ st1
  have hcat : (Value.ref T.heap.size).category = 1 := rfl
  have hcellA : T1.heap[T.heap.size]? = some (freshCell cX kX) := by rw [← hT1]; exact State.heap_pushCell_size _ _
  have d3' : decode c.code (pc + 3) = .ok (.dup, 1) := by rw [hb]; exact d3
  obtain ⟨U, hsteps, hrun, hend, hW, hsame, ce, hce, hO⟩ := X₁.ctorThrow0 hexec htr (own := own) (cls := cls) (names := names) (ic := ic) hown' hcls hnames h (fun x hx => nomatch hx) hfX hkX hcellA (by rw [hhp, hT]; exact Nat.le_refl _)
    (g := { method := m, pc := pc + 4, locals := ls, stack := .ref T.heap.size :: .ref T.heap.size :: rest, locked := none }) rfl hsize rfl rfl (rest := rest) rfl
    (by rw [hb]; exact d4) (by rw [hb]; exact d7) hout hRframes (by simp only [List.map_cons, List.sum_cons, hcat]; omega) hlocks
  obtain ⟨f1, f2⟩ := vx_frame hsame
  rw [hhp] at f1 f2
  have hWs : s.WarmedH U.vm := State.WarmedH.trans hW0 hW
  have hcl : s.vm.findClass cls = some ce.cls := by
    have h9 := hO.cls
    rw [hvm] at h9
    exact h9
  have hall : s.sameButNew ({ U with vm := s.vm } : State) locs mc ms := by
    subst hA
    obtain ⟨e1, e2⟩ := hsame
    rw [State.setFrames_setFrames] at e1
    have h2 : (T.setVm s.vm).sameButNew ({ U with vm := s.vm } : State) [] (0 + 1) (0 + 6) := ⟨e1, e2⟩
    have h3 := X.same.trans h2
    rw [List.append_nil] at h3
    exact h3.mono hc hs
  refine ⟨U, ?_, .threw T.heap.size, hrun, hend, Or.inr ⟨T.heap.size, rfl, cls, ce, locs, hx U hWs.alike f1 (fun q hq => f2 q hq (fun z hz => nomatch hz)), hce, hO.vm, hcl, hWs, hall, hf⟩⟩
  refine st1 _ ?_
  show Steps p.tables e below (T1.setTop { method := m, pc := pc + 3, locals := ls, stack := .ref T.heap.size :: rest, locked := none }) _
  jvm_step X₁.here [X₁.here.top, hexec, d3', Value.category]
  exact hsteps
/-- 'throw new E("text")': new; dup; ldc; invokespecial; athrow -/
theorem vx_throwS {cc : ByteArray} {pc : Nat} (hexec : p.tables.exec = Jvm.exec) (hb : c.code = cc) (hl : l.stackTraces = false) {own cls text : String} {names : List String} {ik is ic mc ms sa : Nat} {A : Nat → Prop}
    (hown : s.vm.findClass own = some m.cls) (hcls : Bundle.fit cls = true) (hnames : ∀ n ∈ names, Bundle.fit n = true)
    (hk : (Cond.classLink own ik cls).before args s = true) (hini : (Cond.initialized cls).before args s = true) (hstr : vk_R own is text sa s) (hat : ∀ w ∈ vx_atS own ic cls names, w.before args s = true)
    (hgood : ∀ w ∈ Cond.classLink own ik cls :: Cond.initialized cls :: vx_atS own ic cls names, vx_ot w = true)
    (hU : vx_Zq Bundle.tN "UNASSIGNED_STACK" Bundle.steD A s s.heap) (hN : vx_Zq Bundle.tN "SUPPRESSED_SENTINEL" Bundle.listD A s s.heap) (hS : va_S A s.heap H locs) (hsize : ls.size = c.maxLocals)
    (d0 : decode cc pc = .ok (.new ik, 3)) (d3 : decode cc (pc + 3) = .ok (.dup, 1)) (d4 : decode cc (pc + 4) = .ok (.ldc is, 2)) (d6 : decode cc (pc + 6) = .ok (.invokespecial ic, 3)) (d9 : decode cc (pc + 9) = .ok (.athrow, 1))
    (hout : ∀ x ∈ c.exceptionTable.toList, covers x (pc + 9) = false)
    (hRframes : names.length + 3 < R.frames) (hRlocals : (rest.map fun v => v.category).sum + (13 * (names.length + 1) + 43) ≤ R.locals) (hRcells : cells + 1 ≤ R.cells) (hRslots : slots + 6 ≤ R.slots) (hlocks : meth.locks = false)
    (hx : ∀ t : State, s.vm.Alike t.vm → H.size ≤ t.heap.size → (∀ q : Nat, q < H.size → t.heap[q]? = H[q]?) → XC cls s t)
    (hf : ∀ z ∈ locs, free z.base) (hc : cells + 1 ≤ mc) (hs : slots + 6 ≤ ms) :
    W p l e R s m args below meth c H locs cells slots (vx_MQ below Qc XC args s mc ms free) (F0 m pc ls rest) := by
  intro T hT X
  have htr : e.platform.stackTraces = false := (show e.platform.stackTraces = l.stackTraces by rw [X.admits.platform]).trans hl
  have Y := vx_rebase X (R' := { frames := R.frames, locals := R.locals, cells := 1, slots := 6 }) (Nat.le_refl _) (Nat.le_refl _) hRcells hRslots
  obtain ⟨s', hA⟩ : ∃ z, z = (T.setVm s.vm).setFrames (.invoking m args :: below) := ⟨_, rfl⟩
  rw [← hA] at Y
  have hvm : s'.vm = s.vm := by rw [hA]; rfl
  have hhp : s'.heap = H := by rw [hA]; exact hT
  have hW0 : s.WarmedH s'.vm := by rw [hvm]; exact State.WarmedH.refl s
  have hat' : ∀ w ∈ vx_atS own ic cls names, w.before args s' = true := fun w hw => vx_ot_at hW0 hvm.symm (hgood w (List.mem_cons_of_mem _ (List.mem_cons_of_mem _ hw))) (hat w hw)
  have hk' : (Cond.classLink own ik cls).before args s' = true := vx_ot_at hW0 hvm.symm (hgood _ List.mem_cons_self) hk
  have hini' : (Cond.initialized cls).before args s' = true := vx_ot_at hW0 hvm.symm (hgood _ (List.mem_cons_of_mem _ List.mem_cons_self)) hini
  have hU' : vx_Zq Bundle.tN "UNASSIGNED_STACK" Bundle.steD A s' s'.heap := by rw [hhp]; exact vx_Zq.moved hW0.alike (hU.kept hS.2.1)
  have hN' : vx_Zq Bundle.tN "SUPPRESSED_SENTINEL" Bundle.listD A s' s'.heap := by rw [hhp]; exact vx_Zq.moved hW0.alike (hN.kept hS.2.1)
  have h : ∀ w ∈ Bundle.ownAtoms own ic cls names, w.before args s' = true := vx_own hat' (vx_isRefq hU'.1) (vx_isRefq hN'.1) hU'.2.word hN'.2.word
  have hown' : s'.vm.findClass own = some m.cls := by rw [hvm]; exact hown
  have hins : (Cond.instantiable cls 6).before args s' = true := h _ (by simp [Bundle.ownAtoms])
  obtain ⟨vm₁, cX, kX, hfX, hkX, -, -, X₁, st1⟩ := Y.newCold hexec (own := own) (C := cls) (index := ik) (n := 6) hown' hk' hins hini'
    (g := F0 m pc ls rest) rfl (by rw [hb]; exact d0) (Nat.le_refl _) (Nat.le_refl _)
  generalize hT1 : (T.setVm vm₁).pushCell { cls := cX, slots := kX.instanceTypes.map defaultValue, vm := .none } = T1 at X₁ st1
  have hcat : (Value.ref T.heap.size).category = 1 := rfl
  have hcellA : T1.heap[T.heap.size]? = some (freshCell cX kX) := by rw [← hT1]; exact State.heap_pushCell_size _ _
  have d3' : decode c.code (pc + 3) = .ok (.dup, 1) := by rw [hb]; exact d3
  have d4' : decode c.code (pc + 4) = .ok (.ldc is, 2) := by rw [hb]; exact d4
  have hstr' : vk_R own is text sa s' := vk_R.warm hW0 hstr
  obtain ⟨U, hsteps, hrun, hend, hW, hsame, ce, hce, hO⟩ := X₁.ctorThrowS hexec htr (own := own) (cls := cls) (names := names) (ic := ic) hown' hcls hnames h (fun x hx => nomatch hx) hfX hkX hcellA (by rw [hhp, hT]; exact Nat.le_refl _) (msg := .ref sa) rfl
    (g := { method := m, pc := pc + 6, locals := ls, stack := .ref sa :: .ref T.heap.size :: .ref T.heap.size :: rest, locked := none }) rfl hsize rfl rfl (rest := rest) rfl
    (by rw [hb]; exact d6) (by rw [hb]; exact d9) hout hRframes (by simp only [List.map_cons, List.sum_cons, hcat]; omega) hlocks
  obtain ⟨f1, f2⟩ := vx_frame hsame
  rw [hhp] at f1 f2
  have hWs : s.WarmedH U.vm := State.WarmedH.trans hW0 hW
  have hcl : s.vm.findClass cls = some ce.cls := by
    have h9 := hO.cls
    rw [hvm] at h9
    exact h9
  have hall : s.sameButNew ({ U with vm := s.vm } : State) locs mc ms := by
    subst hA
    obtain ⟨e1, e2⟩ := hsame
    rw [State.setFrames_setFrames] at e1
    have h2 : (T.setVm s.vm).sameButNew ({ U with vm := s.vm } : State) [] (0 + 1) (0 + 6) := ⟨e1, e2⟩
    have h3 := X.same.trans h2
    rw [List.append_nil] at h3
    exact h3.mono hc hs
  refine ⟨U, ?_, .threw T.heap.size, hrun, hend, Or.inr ⟨T.heap.size, rfl, cls, ce, locs, hx U hWs.alike f1 (fun q hq => f2 q hq (fun z hz => nomatch hz)), hce, hO.vm, hcl, hWs, hall, hf⟩⟩
  refine st1 _ ?_
  show Steps p.tables e below (T1.setTop { method := m, pc := pc + 3, locals := ls, stack := .ref T.heap.size :: rest, locked := none }) _
  jvm_step X₁.here [X₁.here.top, hexec, d3', Value.category]
  exact X₁.ldcString hexec (own := own) (text := text) (index := is) (a := sa) hown' hstr'.1 hstr'.2
    (g := { method := m, pc := pc + 4, locals := ls, stack := .ref T.heap.size :: .ref T.heap.size :: rest, locked := none }) rfl d4' _ hsteps
/-- 'throw new E("text")', the text by a wide index -/
theorem vx_throwSW {cc : ByteArray} {pc : Nat} (hexec : p.tables.exec = Jvm.exec) (hb : c.code = cc) (hl : l.stackTraces = false) {own cls text : String} {names : List String} {ik is ic mc ms sa : Nat} {A : Nat → Prop}
    (hown : s.vm.findClass own = some m.cls) (hcls : Bundle.fit cls = true) (hnames : ∀ n ∈ names, Bundle.fit n = true)
    (hk : (Cond.classLink own ik cls).before args s = true) (hini : (Cond.initialized cls).before args s = true) (hstr : vk_R own is text sa s) (hat : ∀ w ∈ vx_atS own ic cls names, w.before args s = true)
    (hgood : ∀ w ∈ Cond.classLink own ik cls :: Cond.initialized cls :: vx_atS own ic cls names, vx_ot w = true)
    (hU : vx_Zq Bundle.tN "UNASSIGNED_STACK" Bundle.steD A s s.heap) (hN : vx_Zq Bundle.tN "SUPPRESSED_SENTINEL" Bundle.listD A s s.heap) (hS : va_S A s.heap H locs) (hsize : ls.size = c.maxLocals)
    (d0 : decode cc pc = .ok (.new ik, 3)) (d3 : decode cc (pc + 3) = .ok (.dup, 1)) (d4 : decode cc (pc + 4) = .ok (.ldc_w is, 3)) (d7 : decode cc (pc + 7) = .ok (.invokespecial ic, 3)) (d10 : decode cc (pc + 10) = .ok (.athrow, 1))
    (hout : ∀ x ∈ c.exceptionTable.toList, covers x (pc + 10) = false)
    (hRframes : names.length + 3 < R.frames) (hRlocals : (rest.map fun v => v.category).sum + (13 * (names.length + 1) + 43) ≤ R.locals) (hRcells : cells + 1 ≤ R.cells) (hRslots : slots + 6 ≤ R.slots) (hlocks : meth.locks = false)
    (hx : ∀ t : State, s.vm.Alike t.vm → H.size ≤ t.heap.size → (∀ q : Nat, q < H.size → t.heap[q]? = H[q]?) → XC cls s t)
    (hf : ∀ z ∈ locs, free z.base) (hc : cells + 1 ≤ mc) (hs : slots + 6 ≤ ms) :
    W p l e R s m args below meth c H locs cells slots (vx_MQ below Qc XC args s mc ms free) (F0 m pc ls rest) := by
  intro T hT X
  have htr : e.platform.stackTraces = false := (show e.platform.stackTraces = l.stackTraces by rw [X.admits.platform]).trans hl
  have Y := vx_rebase X (R' := { frames := R.frames, locals := R.locals, cells := 1, slots := 6 }) (Nat.le_refl _) (Nat.le_refl _) hRcells hRslots
  obtain ⟨s', hA⟩ : ∃ z, z = (T.setVm s.vm).setFrames (.invoking m args :: below) := ⟨_, rfl⟩
  rw [← hA] at Y
  have hvm : s'.vm = s.vm := by rw [hA]; rfl
  have hhp : s'.heap = H := by rw [hA]; exact hT
  have hW0 : s.WarmedH s'.vm := by rw [hvm]; exact State.WarmedH.refl s
  have hat' : ∀ w ∈ vx_atS own ic cls names, w.before args s' = true := fun w hw => vx_ot_at hW0 hvm.symm (hgood w (List.mem_cons_of_mem _ (List.mem_cons_of_mem _ hw))) (hat w hw)
  have hk' : (Cond.classLink own ik cls).before args s' = true := vx_ot_at hW0 hvm.symm (hgood _ List.mem_cons_self) hk
  have hini' : (Cond.initialized cls).before args s' = true := vx_ot_at hW0 hvm.symm (hgood _ (List.mem_cons_of_mem _ List.mem_cons_self)) hini
  have hU' : vx_Zq Bundle.tN "UNASSIGNED_STACK" Bundle.steD A s' s'.heap := by rw [hhp]; exact vx_Zq.moved hW0.alike (hU.kept hS.2.1)
  have hN' : vx_Zq Bundle.tN "SUPPRESSED_SENTINEL" Bundle.listD A s' s'.heap := by rw [hhp]; exact vx_Zq.moved hW0.alike (hN.kept hS.2.1)
  have h : ∀ w ∈ Bundle.ownAtoms own ic cls names, w.before args s' = true := vx_own hat' (vx_isRefq hU'.1) (vx_isRefq hN'.1) hU'.2.word hN'.2.word
  have hown' : s'.vm.findClass own = some m.cls := by rw [hvm]; exact hown
  have hins : (Cond.instantiable cls 6).before args s' = true := h _ (by simp [Bundle.ownAtoms])
  obtain ⟨vm₁, cX, kX, hfX, hkX, -, -, X₁, st1⟩ := Y.newCold hexec (own := own) (C := cls) (index := ik) (n := 6) hown' hk' hins hini'
    (g := F0 m pc ls rest) rfl (by rw [hb]; exact d0) (Nat.le_refl _) (Nat.le_refl _)
  generalize hT1 : (T.setVm vm₁).pushCell { cls := cX, slots := kX.instanceTypes.map defaultValue, vm := .none } = T1 at X₁ st1
  have hcat : (Value.ref T.heap.size).category = 1 := rfl
  have hcellA : T1.heap[T.heap.size]? = some (freshCell cX kX) := by rw [← hT1]; exact State.heap_pushCell_size _ _
  have d3' : decode c.code (pc + 3) = .ok (.dup, 1) := by rw [hb]; exact d3
  have d4' : decode c.code (pc + 4) = .ok (.ldc_w is, 3) := by rw [hb]; exact d4
  have hstr' : vk_R own is text sa s' := vk_R.warm hW0 hstr
  obtain ⟨U, hsteps, hrun, hend, hW, hsame, ce, hce, hO⟩ := X₁.ctorThrowS hexec htr (own := own) (cls := cls) (names := names) (ic := ic) hown' hcls hnames h (fun x hx => nomatch hx) hfX hkX hcellA (by rw [hhp, hT]; exact Nat.le_refl _) (msg := .ref sa) rfl
    (g := { method := m, pc := pc + 7, locals := ls, stack := .ref sa :: .ref T.heap.size :: .ref T.heap.size :: rest, locked := none }) rfl hsize rfl rfl (rest := rest) rfl
    (by rw [hb]; exact d7) (by rw [hb]; exact d10) hout hRframes (by simp only [List.map_cons, List.sum_cons, hcat]; omega) hlocks
  obtain ⟨f1, f2⟩ := vx_frame hsame
  rw [hhp] at f1 f2
  have hWs : s.WarmedH U.vm := State.WarmedH.trans hW0 hW
  have hcl : s.vm.findClass cls = some ce.cls := by
    have h9 := hO.cls
    rw [hvm] at h9
    exact h9
  have hall : s.sameButNew ({ U with vm := s.vm } : State) locs mc ms := by
    subst hA
    obtain ⟨e1, e2⟩ := hsame
    rw [State.setFrames_setFrames] at e1
    have h2 : (T.setVm s.vm).sameButNew ({ U with vm := s.vm } : State) [] (0 + 1) (0 + 6) := ⟨e1, e2⟩
    have h3 := X.same.trans h2
    rw [List.append_nil] at h3
    exact h3.mono hc hs
  refine ⟨U, ?_, .threw T.heap.size, hrun, hend, Or.inr ⟨T.heap.size, rfl, cls, ce, locs, hx U hWs.alike f1 (fun q hq => f2 q hq (fun z hz => nomatch hz)), hce, hO.vm, hcl, hWs, hall, hf⟩⟩
  refine st1 _ ?_
  show Steps p.tables e below (T1.setTop { method := m, pc := pc + 3, locals := ls, stack := .ref T.heap.size :: rest, locked := none }) _
  jvm_step X₁.here [X₁.here.top, hexec, d3', Value.category]
  exact X₁.ldcStringW hexec (own := own) (text := text) (index := is) (a := sa) hown' hstr'.1 hstr'.2
    (g := { method := m, pc := pc + 4, locals := ls, stack := .ref T.heap.size :: .ref T.heap.size :: rest, locked := none }) rfl d4' _ hsteps
end Ends
section Bodies
variable {l : Launch}
theorem vx_ofW {y : MethodName} {ws ws' : List Cond} {rm : Room} {Pc : Array Value → State → Prop} {Qc : Array Value → State → Outcome → State → Prop} {XC : String → State → State → Prop} {mc ms : Nat} {free : Addr → Prop} {cc : ByteArray} {maxL : Nat} {ret : Option FieldType}
    (hy : plainName y.cls = true) (hw : ws = Cond.code y cc maxL ret :: ws')
    (body : ∀ p e s m args below meth c s₁, BodyLoose p l y (headSpec ws rm) cc maxL ret e s m args below meth c s₁ → c.maxLocals = maxL → (∀ x ∈ c.exceptionTable.toList, False) → Pc args s →
      W p l e (headSpec ws rm).room s m args below meth c s.heap [] 0 0 (vx_MQ below Qc XC args s mc ms free) (entryFrame m args maxL)) : vx_Met l y ws rm Pc Qc XC mc ms free := by
  refine MetFree.of_bodyS (code := cc) (maxLocals := maxL) (ret := ret) hy ?_ ?_
  · intro args s m h hn
    obtain ⟨meth, c, h1, h2, h3, h4, h5, h6, -, -⟩ := Cond.code_spec hn (atoms_spec (ws := ws) h _ (by rw [hw]; exact List.mem_cons_self))
    exact ⟨meth, c, h1, h2, h3, h4, h5, h6⟩
  · intro p e s m args below meth c s₁ B hml hP _
    have hh0 : s₁.heap = s.heap := by rw [B.state]; rfl
    have ht : ∀ x ∈ c.exceptionTable.toList, False := by
      obtain ⟨meth9, c9, h1, h2, -, -, -, -, h7, -⟩ := Cond.code_spec B.named (atoms_spec (ws := ws) B.pre _ (by rw [hw]; exact List.mem_cons_self))
      cases Option.some.inj (h1.symm.trans B.method)
      cases Option.some.inj (h2.symm.trans (Stand.of_body B).code)
      intro x hx
      rw [Array.isEmpty_iff.mp h7] at hx
      cases hx
    obtain ⟨t, a1, o, b1, b2, b3⟩ := body p e s m args below meth c s₁ B hml ht hP s₁ hh0 (Stand.of_body B)
    exact ⟨t, o, a1, b1, b2, b3⟩
/-- the table of a body with handlers -/
theorem vx_table {p : Program} {x y : MethodName} {S : Spec} {cc bytes : ByteArray} {maxL maxL' : Nat} {ret ret' : Option FieldType} {e : Env} {s s₁ : State} {m : MethodId} {args : Array Value} {below : List Frame} {meth : Method} {c : Code} {hh : List (Nat × Nat × Nat × Nat)}
    (B : BodyLoose p l y S cc maxL ret e s m args below meth c s₁) (h : (Cond.codeWith y bytes maxL' ret' hh).before args s = true) : c.exceptionTable.toList = tableOf hh := by
  obtain ⟨m9, meth9, c9, hn9, h1, h2, -, -, h6, -⟩ := Cond.codeWith_spec h
  cases Option.some.inj (hn9.symm.trans B.named)
  cases Option.some.inj (h1.symm.trans B.method)
  cases Option.some.inj (h2.symm.trans (Stand.of_body B).code)
  rw [← h6, table_eq]
end Bodies
end VXA
/-! ===== END ===== -/
/-! ===== BEGIN a static call of a method with an exception table ===== -/
section VXS
variable {p : Program} {l : Launch} {e : Env} {R : Room} {s : State} {m : MethodId} {args : Array Value} {below : List Frame} {meth : Method} {c : Code} {T : State} {H : Heap} {locs : List Loc} {cells slots : Nat}
abbrev vx_CSW (R : Room) (s : State) (args : Array Value) (own : String) (index : Nat) (y : MethodName) (bytes : ByteArray) (maxL : Nat) (ret : Option FieldType) (hh : List (Nat × Nat × Nat × Nat)) (ws : List Cond) (rm : Room) (mc ms n : Nat) : Prop :=
  (rm.cells = mc ∧ rm.slots = ms ∧ rm.frames + 1 ≤ R.frames ∧ 8 + (maxL + 11) + rm.locals ≤ R.locals ∧ (∀ w ∈ ws, ∀ (a' : Array Value) (U : State), s.WarmedH U.vm → w.before a' U = true) ∧ Cond.codeWith y bytes maxL ret hh ∈ ws) ∧
  (Cond.codeWith y bytes maxL ret hh).before args s = true ∧ (Cond.initialized y.cls).before args s = true ∧ (y.cls ≠ "java/lang/invoke/MethodHandle" ∧ y.cls ≠ "java/lang/invoke/VarHandle") ∧
  (∀ sig, parseMethodDescriptor y.desc = some sig → n = sig.parameters.length) ∧ (Cond.methodLink own index y).before args s = true ∧ (Cond.static y).before args s = true
theorem vx_cwSW {own : String} {index maxL mc ms : Nat} {y : MethodName} {bytes : ByteArray} {ret : Option FieldType} {hh : List (Nat × Nat × Nat × Nat)} {Ts ws ws' : List Cond} {rm : Room} (n : Nat) (ht : ∀ w ∈ Ts, w.before args s = true) (hT : GoodIn Ts (va_wsS own index y ws)) (hw : ws = Cond.codeWith y bytes maxL ret hh :: ws') (hrc : rm.cells = mc) (hrs : rm.slots = ms)
    (hd : y.cls ≠ "java/lang/invoke/MethodHandle" ∧ y.cls ≠ "java/lang/invoke/VarHandle" ∧ (parseMethodDescriptor y.desc).map (fun d => d.parameters.length) = some n) (hR : rm.frames + 1 ≤ R.frames ∧ 8 + (maxL + 11) + rm.locals ≤ R.locals) :
    vx_CSW R s args own index y bytes maxL ret hh ws rm mc ms n := by
  have ok : ∀ w ∈ va_wsS own index y ws, w.before args s = true := fun w h => ht w (hT w h).1
  have hG : GoodIn Ts ws := fun w h => hT w (by unfold va_wsS; exact List.mem_append_right _ h)
  have hc : Cond.codeWith y bytes maxL ret hh ∈ ws := by rw [hw]; exact List.mem_cons_self
  refine ⟨⟨hrc, hrs, hR.1, hR.2, pay_in ht hG, hc⟩, ht _ (hG _ hc).1, ok _ (by simp [va_wsS]), ⟨hd.1, hd.2.1⟩, fun sig h => ?_, ok _ (by simp [va_wsS]), ok _ (by simp [va_wsS])⟩
  have h2 := hd.2.2
  rw [h] at h2
  exact (Option.some.inj h2).symm
theorem vx_callSW (X : Stand p l e R s m args below meth c T locs cells slots) (hexec : p.tables.exec = Jvm.exec) {own : String} {index : Nat} {y : MethodName} {bytes : ByteArray} {maxL : Nat} {ret : Option FieldType} {hh : List (Nat × Nat × Nat × Nat)}
    (hown : s.vm.findClass own = some m.cls) (hlink : (Cond.methodLink own index y).before args s = true) (hstat : (Cond.static y).before args s = true) (hinit : (Cond.initialized y.cls).before args s = true)
    (hcode : (Cond.codeWith y bytes maxL ret hh).before args s = true) (hy : y.cls ≠ "java/lang/invoke/MethodHandle" ∧ y.cls ≠ "java/lang/invoke/VarHandle")
    {W9 : Nat} {Pre : Pt → Array Value → Prop} {Post : Pt → Array Value → Option Value → Pt → Prop} (hK : Back l R p e below s args y 3 W9 Pre Post)
    {g : JFrame} (hg : g.method = m) (hsize : g.locals.size = c.maxLocals) {argsL rest : List Value} (hlen : ∀ sig, parseMethodDescriptor y.desc = some sig → argsL.length = sig.parameters.length)
    (hstack : g.stack = argsL.reverse ++ rest) (hW : 2 * g.monitorRoom + (rest.map fun v => v.category).sum ≤ W9) (hdg : decode c.code g.pc = .ok (.invokestatic index, 3))
    (hpre : ∀ vm₁, s.WarmedH vm₁ → Pre ⟨T.setVm vm₁, locs, cells, slots⟩ argsL.toArray) :
    ∃ (v : Option Value) (vm₁ : Vm) (B : Pt), s.WarmedH vm₁ ∧ Stand p l e R s m args below meth c B.U B.locs B.cells B.slots ∧ Post ⟨T.setVm vm₁, locs, cells, slots⟩ argsL.toArray v B ∧
      ∀ target, Steps p.tables e below (B.U.setTop { g with pc := g.pc + 3, stack := v.toList ++ rest }) target → Steps p.tables e below (T.setTop g) target := by
  obtain ⟨mk, methM, cM, hnamed, hmethM, -, -, -, -, -, -, hsigM⟩ := Cond.codeWith_spec hcode
  have hstatic : methM.isStatic = true := Cond.static_spec hnamed hmethM hstat
  obtain ⟨kP, hkP, -⟩ := className_of_methodNamed hnamed
  have hinitP : kP.init = .initialized := Cond.initialized_spec (findClass_of_methodNamed hnamed) hkP hinit
  obtain ⟨vm₁, X₁, hstep₁⟩ := X.invokestatic hexec hown hlink hnamed hmethM hstatic hkP hinitP hy (g := g) hg (argsL := argsL) (rest := rest) (hlen _ hsigM) hstack hdg
  obtain ⟨v, B, X', hpost, hsteps⟩ := hK m meth c ⟨T.setVm vm₁, locs, cells, slots⟩ { g with stack := rest } (.invokestatic index) mk argsL.toArray X₁ hg hsize hdg hW (X₁.named hnamed) (hpre vm₁ X₁.warmed)
  exact ⟨v, vm₁, B, X₁.warmed, X', hpost, fun target h => hstep₁ _ fun acts => by rw [doInvoke_state]; exact hsteps.trans h⟩
theorem vx_runSW {y : MethodName} {bytes cc : ByteArray} {maxL nL mc ms n index : Nat} {ret : Option FieldType} {hh : List (Nat × Nat × Nat × Nat)} {ws : List Cond} {rm : Room} {Pc : Array Value → State → Prop} {Qc : Array Value → State → Outcome → State → Prop} {free : Addr → Prop} {Ts : List Cond} {own : String} {As rest : List Value} {g : JFrame}
    (S : CallFix p m c cc nL s args Ts own) (hM : Met l y ws rm Pc Qc mc ms free) (cw : vx_CSW R s args own index y bytes maxL ret hh ws rm mc ms n) (hp : PreS s H Pc As)
    (hg : g.method = m) (hn : As.length = n) (hsize : g.locals.size = nL) (hstack : g.stack = As.reverse ++ rest) (hW : 2 * g.monitorRoom + (rest.map fun v => v.category).sum ≤ 8) (hdg : decode cc g.pc = .ok (.invokestatic index, 3)) (hf : cells + mc ≤ R.cells ∧ slots + ms ≤ R.slots) :
    va_Run p l e R s m args below meth c H locs cells slots mc ms g rest (Qc As.toArray) (free) := by
  obtain ⟨⟨hrc, hrs, hfr, hlo, hws, hcw⟩, hcode, hini, hy, hlen, hl, hstt⟩ := cw
  have hK : Back l R p e below s args y 3 8 (PreOf R mc ms Pc) (PostOf Qc mc ms free) := va_backW (hh := hh) (bytes := bytes) (maxL := maxL) (ret := ret) hM hp.1 hrc hrs hfr hlo hws hcw (fun a' U hW => word_at hW (Or.inl (by first | rfl | simp [Cond.onTables, Cond.keeps, Cond.steady])) hini)
  obtain ⟨hx, hb, hml, ho, -⟩ := S
  intro T hT X
  obtain ⟨v, vm₁, ⟨U', l2, c2, s2⟩, hW₁, X', ⟨g', mk, t, L, e1, e2, hq, h1, hL, h2, h3⟩, st⟩ := vx_callSW X hx (hh := hh) (bytes := bytes) (maxL := maxL) (ret := ret) ho hl hstt hini hcode hy hK hg (hsize.trans hml.symm) (argsL := As) (rest := rest) (fun sig h => hn.trans (hlen sig h)) hstack hW (by rw [hb]; exact hdg)
    (fun vm₁ hW₁ => ⟨hf.1, hf.2, hp.2 (T.setVm vm₁) hT hW₁⟩)
  dsimp only [Pt.U, Pt.locs, Pt.cells, Pt.slots] at X' e1 e2 h1 h2 h3 st
  subst h1; subst h2; subst h3
  exact ⟨v, (T.setVm vm₁).calling g' mk As.toArray, t, U', L, hT, X', hL, e1, e2, hq, st⟩
/-- not caught here, past rows that name other classes: it goes on to the caller -/
theorem vx_outP {p : Program} {l : Launch} {e : Env} {R : Room} {s : State} {m : MethodId} {args : Array Value} {below : List Frame} {meth : Method} {c : Code} {H : Heap} {locs : List Loc} {cells slots : Nat} {free : Addr → Prop} {ls : Array Slot} {rest : List Value} {Qc : Array Value → State → Outcome → State → Prop} {XC : String → State → State → Prop}
    {pc : Nat} {own E : String} {ce : Cell} {q : Addr} {mc ms : Nat} (hown : s.vm.findClass own = some m.cls) (hlocks : meth.locks = false)
    (hpass : ∀ z ∈ c.exceptionTable.toList, covers z pc = false ∨ (z.catchType ≠ 0 ∧ ∃ nm : String, (Cond.classLink own z.catchType nm).before args s = true ∧ va_Nc E nm s)) (hcell : H[q]? = some ce) (hv : ce.vm = .none) (hcl : s.vm.findClass E = some ce.cls)
    (hx : ∀ t : State, t.heap = H → s.vm.Alike t.vm → XC E s t) (hf : ∀ z ∈ locs, free z.base) (hc : cells ≤ mc) (hs : slots ≤ ms) :
    vx_W p l e R s m args below meth c H locs cells slots (vx_MQ below Qc XC args s mc ms free) (F0 m pc ls rest) q := by
  intro T hT X
  have hpl : e.platform.magicAccessors = ({} : Platform).magicAccessors := by rw [X.admits.platform]
  obtain ⟨vm', hW', X', st⟩ := X.outThrough hlocks q (g := F0 m pc ls rest) rfl rfl rfl (cell := ce) (by rw [hT]; exact hcell) (by rw [hv]; rfl)
    (by obtain ⟨k9, h9, -⟩ := Vm.findClass_spec hcl; exact ⟨k9, h9⟩) (fun z hz => by
      rcases hpass z hz with h | ⟨hz0, nm, hl1, hn1⟩
      · exact Or.inl h
      · obtain ⟨c6, hc6, hcl6⟩ := Cond.classLink_spec hown hl1 e.platform hpl
        obtain ⟨a8, b8, h1, h2, h3⟩ := hn1
        cases Option.some.inj (h1.symm.trans hcl)
        cases Option.some.inj (h2.symm.trans hc6)
        exact Or.inr ⟨hz0, _, hcl6, h3⟩)
  obtain ⟨g₀, hfr⟩ := X'.frames_eq
  have hcell9 : ((T.setVm vm').setFrames (.throwing q :: below)).heap[q]? = some ce := by
    show T.heap[q]? = some ce
    rw [hT]; exact hcell
  have hend : Ended ((T.setVm vm').setFrames (.throwing q :: below)) below (.threw q) := State.frames_setFrames _ (State.cur_lt_of_frames hfr)
  refine ⟨(T.setVm vm').setFrames (.throwing q :: below), ?_, .threw q, X'.here.running, hend, Or.inr ⟨q, rfl, E, ce, locs, hx _ hT (X'.ends _).1.alike, hcell9, hv, hcl, (X'.ends _).1, (X'.ends _).2.mono hc hs, hf⟩⟩
  rw [X.pushThrowing_eq]
  exact st
/-- a thing of a world lies in the heap -/
theorem vx_lt {D : va_G} {cl : List vw_C} {ws : va_W} {H1 : Heap} (h : va_P D cl ws H1) {k : Nat} {q : Nat × va_E} (hk : ws[k]? = some q) : q.1 < H1.size := (h k q hk).lt
end VXS
/-! ===== END ===== -/
/-! ===== BEGIN methods with a table of their own: called by a name, returning or throwing ===== -/
section VXH
/-! vx_backW, vx_callVX, vx_callSX, vx_callVW, vx_runVW, vx_runVX, vx_runSX, vx_ofWH follow the same proofs as their sisters above (Free/Laws.lean, Shelf42/LK1.lean); vx_outP calls Shelf42/NT130.lean (outThrough). -/
section
variable {l : Launch} {R : Room} {p : Program} {e : Env} {below : List Frame} {s : State} {sargs : Array Value} {y : MethodName} {len W9 : Nat}
theorem vx_backW {ws : List Cond} {rm : Room} {Pc : Array Value → State → Prop} {Qc : Array Value → State → Outcome → State → Prop} {XC : String → State → State → Prop} {mc ms : Nat} {free : Addr → Prop} {bytes : ByteArray} {maxL : Nat} {ret : Option FieldType} {hh : List (Nat × Nat × Nat × Nat)}
    (hM : vx_Met l y ws rm Pc Qc XC mc ms free) (hblind : FrameBlind Pc) (hrc : rm.cells = mc) (hrs : rm.slots = ms)
    (hframes : rm.frames + 1 ≤ R.frames) (hlocals : W9 + (maxL + 11) + rm.locals ≤ R.locals)
    (hws : ∀ w ∈ ws, ∀ a' U, s.WarmedH U.vm → w.before a' U = true) (hcode : Cond.codeWith y bytes maxL ret hh ∈ ws) (hinit : ∀ a' U, s.WarmedH U.vm → (Cond.initialized y.cls).before a' U = true) :
    vx_Back l R p e below s sargs y len W9 (PreOf R mc ms Pc) (PostOf Qc mc ms free) (vx_Post XC mc ms free) := by
  intro m meth c A g ig mk a X hg hsize hdg hW hn hp
  have h1 : (headSpec ws rm).pre.before a A.U = true := atoms_intro fun w hw => hws w hw _ _ X.warmed
  have h2 : (Cond.codeWith y bytes maxL ret hh).before a A.U = true := hws _ hcode _ _ X.warmed
  have h3 : (Cond.initialized y.cls).before a A.U = true := hinit _ _ X.warmed
  have h4 : A.cells + (headSpec ws rm).room.cells ≤ R.cells := by rw [show (headSpec ws rm).room.cells = mc from hrc]; exact hp.1
  have h5 : A.slots + (headSpec ws rm).room.slots ≤ R.slots := by rw [show (headSpec ws rm).room.slots = ms from hrs]; exact hp.2.1
  have hPc : Pc a (A.U.calling g mk a) := hblind _ _ _ _ hp.2.2
  obtain ⟨U, Ls, c0, s0⟩ := A
  dsimp only [Pt.U, Pt.locs, Pt.cells, Pt.slots] at h1 h2 h3 h4 h5 X hn hPc ⊢
  obtain ⟨m9, methY, cY, hn9, hmY, hcY, -, hlY, -⟩ := Cond.codeWith_spec h2
  cases Option.some.inj (hn9.symm.trans hn)
  obtain ⟨kY, hkY, -⟩ := className_of_methodNamed hn
  have hinitY : kY.init = .initialized := Cond.initialized_spec (findClass_of_methodNamed hn) hkY h3
  have h : At U g.method c below := by rw [hg]; exact X.here
  have hlocals9 : W9 + (maxL + 11) + (headSpec ws rm).room.locals ≤ R.locals := hlocals
  have happ : (headSpec ws rm).appliesLoose y e.platform (U.calling g mk a) = true :=
    Spec.appliesLoose_calling (g := g) h hdg hn hkY hinitY
      (X.room_calling (g := g) (R' := (headSpec ws rm).room) hsize hmY hcY hframes (by rw [hlY]; omega) h4 h5) h1
  obtain ⟨mid, hmid⟩ := h.above
  have hfr : (U.setTop g).frames = (.java g :: mid) ++ below := by rw [State.frames_setTop' g h.top, hmid]; rfl
  obtain ⟨o, s₂, hsteps, -, hend, hq⟩ := Steps.callFree hM p X.admits X.cas X.clock (acts := []) hfr happ hPc trivial
  have hq' : vx_Q Qc XC mc ms free a (U.calling g mk a) o s₂ := hq
  rw [State.frames_setTop' g h.top] at hend
  obtain ⟨g₀, hg0⟩ := Option.isSome_iff_exists.mp h.top
  obtain ⟨r, hr⟩ := State.topJava?_eq_some.mp hg0
  have hr' : (({ U with heap := s₂.heap, slotsUsed := s₂.slotsUsed } : State).setVm s₂.vm).frames = .java g₀ :: r := hr
  rcases hq' with ⟨hqc, L, hfe, hL⟩ | ⟨q, rfl, E, ce, L, hx, hce, hcv, hcl, hW₂, hsm, hL⟩
  · obtain ⟨⟨v, rfl⟩, hW₂, e2, q2, q3, q4, q5, q6⟩ := id hfe
    have e3 : s₂ = ({ (U.calling g mk a).setFrames s₂.frames with heap := s₂.heap, slotsUsed := s₂.slotsUsed } : State).setVm s₂.vm := by
      have : s₂ = ({ s₂ with vm := (U.calling g mk a).vm } : State).setVm s₂.vm := rfl
      rw [e2] at this
      exact this
    obtain ⟨c₂, i₂, len₂, hc₂, hd₂, hf₂⟩ := hend
    have hW' : U.WarmedH s₂.vm := hW₂
    have hcc : c₂ = c := by
      have h1 : s₂.code? g.method = U.code? g.method := by
        rw [State.code?_eq, State.code?_eq, hW'.alike.method?]
      exact Option.some.inj (hc₂.symm.trans (h1.trans h.code))
    subst hcc
    have hlen : len₂ = len := by rw [hdg] at hd₂; cases hd₂; rfl
    subst hlen
    have hs₂ : s₂ = (({ U with heap := s₂.heap, slotsUsed := s₂.slotsUsed } : State).setVm s₂.vm).setTop { g with pc := g.pc + len₂, stack := v.toList ++ g.stack } := by
      refine e3.trans ?_
      rw [hf₂, State.calling_eq h.top, State.setFrames_setFrames, State.setTop_of_frames _ hr', hr]
      rfl
    have hsame : U.sameButNew ({ U with heap := s₂.heap, slotsUsed := s₂.slotsUsed } : State) L mc ms := by
      refine ⟨?_, q2, q3, q4, q5, q6⟩
      obtain ⟨t, ht, -⟩ := State.frames_cons hr
      show ({ U with heap := s₂.heap, slotsUsed := s₂.slotsUsed } : State) = { U.setFrames U.frames with heap := s₂.heap, slotsUsed := s₂.slotsUsed }
      rw [State.setFrames_self ht]
    subst hg
    refine Or.inl ⟨v, ⟨(({ U with heap := s₂.heap, slotsUsed := s₂.slotsUsed } : State).setVm s₂.vm), Ls ++ L, c0 + mc, s0 + ms⟩,
      ⟨X.admits, X.cas, X.clock, X.frames, X.room, X.hears, X.method, X.code, (X.here.setHeapUsed s₂.heap s₂.slotsUsed).setVm hW'.alike, X.tail, State.WarmedH.trans X.warmed hW', X.limits, X.bytes, X.same.trans (hsame.setVm s.vm)⟩,
      ⟨g, mk, s₂, L, rfl, rfl, hqc, rfl, hL, rfl, rfl⟩, ?_⟩
    show Steps p.tables e below _ ((({ U with heap := s₂.heap, slotsUsed := s₂.slotsUsed } : State).setVm s₂.vm).setTop { g with pc := g.pc + len₂, stack := v.toList ++ g.stack })
    rw [← hs₂]
    exact hsteps
  · obtain ⟨e2, q2, q3, q4, q5, q6⟩ := id hsm
    have e3 : s₂ = ({ (U.calling g mk a).setFrames s₂.frames with heap := s₂.heap, slotsUsed := s₂.slotsUsed } : State).setVm s₂.vm := by
      have : s₂ = ({ s₂ with vm := (U.calling g mk a).vm } : State).setVm s₂.vm := rfl
      rw [e2] at this
      exact this
    have hf₂ : s₂.frames = .throwing q :: .java g :: U.frames.tail := hend
    have hW' : U.WarmedH s₂.vm := hW₂
    have hs₂ : s₂ = ((({ U with heap := s₂.heap, slotsUsed := s₂.slotsUsed } : State).setVm s₂.vm).setTop g).pushFrame (.throwing q) := by
      refine e3.trans ?_
      rw [hf₂, State.calling_eq h.top, State.setFrames_setFrames, State.pushFrame, State.frames_setTop _ hr', State.setTop_of_frames _ hr', State.setFrames_setFrames, hr]
      rfl
    have hsame : U.sameButNew ({ U with heap := s₂.heap, slotsUsed := s₂.slotsUsed } : State) L mc ms := by
      refine ⟨?_, q2, q3, q4, q5, q6⟩
      obtain ⟨t, ht, -⟩ := State.frames_cons hr
      show ({ U with heap := s₂.heap, slotsUsed := s₂.slotsUsed } : State) = { U.setFrames U.frames with heap := s₂.heap, slotsUsed := s₂.slotsUsed }
      rw [State.setFrames_self ht]
    subst hg
    refine Or.inr ⟨q, ⟨(({ U with heap := s₂.heap, slotsUsed := s₂.slotsUsed } : State).setVm s₂.vm), Ls ++ L, c0 + mc, s0 + ms⟩,
      ⟨X.admits, X.cas, X.clock, X.frames, X.room, X.hears, X.method, X.code, (X.here.setHeapUsed s₂.heap s₂.slotsUsed).setVm hW'.alike, X.tail, State.WarmedH.trans X.warmed hW', X.limits, X.bytes, X.same.trans (hsame.setVm s.vm)⟩,
      ⟨g, mk, s₂, L, E, ce, rfl, rfl, hx, hce, hcv, hcl, rfl, hL, rfl, rfl⟩, ?_⟩
    show Steps p.tables e below _ (((({ U with heap := s₂.heap, slotsUsed := s₂.slotsUsed } : State).setVm s₂.vm).setTop g).pushFrame (.throwing q))
    rw [← hs₂]
    exact hsteps
end
variable {p : Program} {l : Launch} {e : Env} {R : Room} {s : State} {m : MethodId} {args : Array Value} {below : List Frame} {meth : Method} {c : Code} {T : State} {H : Heap} {locs : List Loc} {cells slots : Nat}
theorem vx_callVX (X : Stand p l e R s m args below meth c T locs cells slots) (hexec : p.tables.exec = Jvm.exec) {own C : String} {index : Nat} {y : MethodName} {bytes : ByteArray} {maxL : Nat} {ret : Option FieldType} {hh : List (Nat × Nat × Nat × Nat)}
    (hown : s.vm.findClass own = some m.cls) (hlink : (Cond.methodLink own index y).before args s = true) (hinst : (Cond.instanceMethod y).before args s = true) (hsel : (Cond.selects C y y).before args s = true)
    (hcode : (Cond.codeWith y bytes maxL ret hh).before args s = true) (hy : y.cls ≠ "java/lang/invoke/MethodHandle" ∧ y.cls ≠ "java/lang/invoke/VarHandle")
    {W9 : Nat} {Pre : Pt → Array Value → Prop} {Post : Pt → Array Value → Option Value → Pt → Prop} {PostX : Pt → Array Value → Addr → Pt → Prop} (hK : vx_Back l R p e below s args y 3 W9 Pre Post PostX)
    {b : Addr} {cellB : Cell} (hcell : T.heap[b]? = some cellB) (hobj : cellB.vm.isStatics = false) (hcls : s.vm.findClass C = some cellB.cls)
    {g : JFrame} (hg : g.method = m) (hsize : g.locals.size = c.maxLocals) {argsL rest : List Value} (hlen : ∀ sig, parseMethodDescriptor y.desc = some sig → argsL.length = sig.parameters.length)
    (hstack : g.stack = argsL.reverse ++ .ref b :: rest) (hW : 2 * g.monitorRoom + (rest.map fun v => v.category).sum ≤ W9) (hdg : decode c.code g.pc = .ok (.invokevirtual index, 3))
    (hpre : ∀ vm₁, s.WarmedH vm₁ → Pre ⟨T.setVm vm₁, locs, cells, slots⟩ (Value.ref b :: argsL).toArray) :
    (∃ (v : Option Value) (vm₁ : Vm) (B : Pt), s.WarmedH vm₁ ∧ Stand p l e R s m args below meth c B.U B.locs B.cells B.slots ∧ Post ⟨T.setVm vm₁, locs, cells, slots⟩ (Value.ref b :: argsL).toArray v B ∧
      ∀ target, Steps p.tables e below (B.U.setTop { g with pc := g.pc + 3, stack := v.toList ++ rest }) target → Steps p.tables e below (T.setTop g) target) ∨
    (∃ (q : Addr) (vm₁ : Vm) (B : Pt), s.WarmedH vm₁ ∧ Stand p l e R s m args below meth c B.U B.locs B.cells B.slots ∧ PostX ⟨T.setVm vm₁, locs, cells, slots⟩ (Value.ref b :: argsL).toArray q B ∧
      Steps p.tables e below (T.setTop g) ((B.U.setTop { g with stack := rest }).pushFrame (.throwing q))) := by
  obtain ⟨mk, methM, hnamed, hmethM, hstM, habM⟩ := Cond.instanceMethod_spec hinst
  obtain ⟨m8, methM', cM, hn8, hmethM', -, -, -, -, -, -, hsigM⟩ := Cond.codeWith_spec hcode
  cases Option.some.inj (hn8.symm.trans hnamed)
  cases hmethM.symm.trans hmethM'
  obtain ⟨c2, r2, m2, q1, q2, q3, q4, kP, hkP, hkPi⟩ := Cond.selects_spec hsel
  cases hcls.symm.trans q1
  cases (State.methodFound?_of_named hnamed hy).symm.trans q2
  cases hnamed.symm.trans q3
  have hselP : selectMethod e.platform s.vm cellB.cls mk = .method mk := by rw [Launch.admits_selectMethod X.admits]; exact q4
  obtain ⟨vm₁, X₁, hstep₁⟩ := X.invokevirtual hexec hown hlink hnamed hmethM hstM hkP hkPi hy (a := b) (cell := cellB) hcell
    (fun z h => by rw [h] at hobj; cases hobj) hselP hmethM habM hkP hkPi (g := g) hg (argsL := argsL) (rest := rest) (hlen _ hsigM) hstack hdg
  rcases hK m meth c ⟨T.setVm vm₁, locs, cells, slots⟩ { g with stack := rest } (.invokevirtual index) mk (Value.ref b :: argsL).toArray X₁ hg hsize hdg hW (X₁.named hnamed) (hpre vm₁ X₁.warmed) with ⟨v, B, X', hpost, hsteps⟩ | ⟨q, B, X', hpost, hsteps⟩
  · exact Or.inl ⟨v, vm₁, B, X₁.warmed, X', hpost, fun target h => hstep₁ _ fun acts => by rw [doInvoke_state]; exact hsteps.trans h⟩
  · exact Or.inr ⟨q, vm₁, B, X₁.warmed, X', hpost, hstep₁ _ fun acts => by rw [doInvoke_state]; exact hsteps⟩
theorem vx_callSX (X : Stand p l e R s m args below meth c T locs cells slots) (hexec : p.tables.exec = Jvm.exec) {own : String} {index : Nat} {y : MethodName} {bytes : ByteArray} {maxL : Nat} {ret : Option FieldType} {hh : List (Nat × Nat × Nat × Nat)}
    (hown : s.vm.findClass own = some m.cls) (hlink : (Cond.methodLink own index y).before args s = true) (hstat : (Cond.static y).before args s = true) (hinit : (Cond.initialized y.cls).before args s = true)
    (hcode : (Cond.codeWith y bytes maxL ret hh).before args s = true) (hy : y.cls ≠ "java/lang/invoke/MethodHandle" ∧ y.cls ≠ "java/lang/invoke/VarHandle")
    {W9 : Nat} {Pre : Pt → Array Value → Prop} {Post : Pt → Array Value → Option Value → Pt → Prop} {PostX : Pt → Array Value → Addr → Pt → Prop} (hK : vx_Back l R p e below s args y 3 W9 Pre Post PostX)
    {g : JFrame} (hg : g.method = m) (hsize : g.locals.size = c.maxLocals) {argsL rest : List Value} (hlen : ∀ sig, parseMethodDescriptor y.desc = some sig → argsL.length = sig.parameters.length)
    (hstack : g.stack = argsL.reverse ++ rest) (hW : 2 * g.monitorRoom + (rest.map fun v => v.category).sum ≤ W9) (hdg : decode c.code g.pc = .ok (.invokestatic index, 3))
    (hpre : ∀ vm₁, s.WarmedH vm₁ → Pre ⟨T.setVm vm₁, locs, cells, slots⟩ argsL.toArray) :
    (∃ (v : Option Value) (vm₁ : Vm) (B : Pt), s.WarmedH vm₁ ∧ Stand p l e R s m args below meth c B.U B.locs B.cells B.slots ∧ Post ⟨T.setVm vm₁, locs, cells, slots⟩ argsL.toArray v B ∧
      ∀ target, Steps p.tables e below (B.U.setTop { g with pc := g.pc + 3, stack := v.toList ++ rest }) target → Steps p.tables e below (T.setTop g) target) ∨
    (∃ (q : Addr) (vm₁ : Vm) (B : Pt), s.WarmedH vm₁ ∧ Stand p l e R s m args below meth c B.U B.locs B.cells B.slots ∧ PostX ⟨T.setVm vm₁, locs, cells, slots⟩ argsL.toArray q B ∧
      Steps p.tables e below (T.setTop g) ((B.U.setTop { g with stack := rest }).pushFrame (.throwing q))) := by
  obtain ⟨mk, methM, cM, hnamed, hmethM, -, -, -, -, -, -, hsigM⟩ := Cond.codeWith_spec hcode
  have hstatic : methM.isStatic = true := Cond.static_spec hnamed hmethM hstat
  obtain ⟨kP, hkP, -⟩ := className_of_methodNamed hnamed
  have hinitP : kP.init = .initialized := Cond.initialized_spec (findClass_of_methodNamed hnamed) hkP hinit
  obtain ⟨vm₁, X₁, hstep₁⟩ := X.invokestatic hexec hown hlink hnamed hmethM hstatic hkP hinitP hy (g := g) hg (argsL := argsL) (rest := rest) (hlen _ hsigM) hstack hdg
  rcases hK m meth c ⟨T.setVm vm₁, locs, cells, slots⟩ { g with stack := rest } (.invokestatic index) mk argsL.toArray X₁ hg hsize hdg hW (X₁.named hnamed) (hpre vm₁ X₁.warmed) with ⟨v, B, X', hpost, hsteps⟩ | ⟨q, B, X', hpost, hsteps⟩
  · exact Or.inl ⟨v, vm₁, B, X₁.warmed, X', hpost, fun target h => hstep₁ _ fun acts => by rw [doInvoke_state]; exact hsteps.trans h⟩
  · exact Or.inr ⟨q, vm₁, B, X₁.warmed, X', hpost, hstep₁ _ fun acts => by rw [doInvoke_state]; exact hsteps⟩
theorem vx_callVW (X : Stand p l e R s m args below meth c T locs cells slots) (hexec : p.tables.exec = Jvm.exec) {own C : String} {index : Nat} {y : MethodName} {bytes : ByteArray} {maxL : Nat} {ret : Option FieldType} {hh : List (Nat × Nat × Nat × Nat)}
    (hown : s.vm.findClass own = some m.cls) (hlink : (Cond.methodLink own index y).before args s = true) (hinst : (Cond.instanceMethod y).before args s = true) (hsel : (Cond.selects C y y).before args s = true)
    (hcode : (Cond.codeWith y bytes maxL ret hh).before args s = true) (hy : y.cls ≠ "java/lang/invoke/MethodHandle" ∧ y.cls ≠ "java/lang/invoke/VarHandle")
    {W9 : Nat} {Pre : Pt → Array Value → Prop} {Post : Pt → Array Value → Option Value → Pt → Prop} (hK : Back l R p e below s args y 3 W9 Pre Post)
    {b : Addr} {cellB : Cell} (hcell : T.heap[b]? = some cellB) (hobj : cellB.vm.isStatics = false) (hcls : s.vm.findClass C = some cellB.cls)
    {g : JFrame} (hg : g.method = m) (hsize : g.locals.size = c.maxLocals) {argsL rest : List Value} (hlen : ∀ sig, parseMethodDescriptor y.desc = some sig → argsL.length = sig.parameters.length)
    (hstack : g.stack = argsL.reverse ++ .ref b :: rest) (hW : 2 * g.monitorRoom + (rest.map fun v => v.category).sum ≤ W9) (hdg : decode c.code g.pc = .ok (.invokevirtual index, 3))
    (hpre : ∀ vm₁, s.WarmedH vm₁ → Pre ⟨T.setVm vm₁, locs, cells, slots⟩ (Value.ref b :: argsL).toArray) :
    ∃ (v : Option Value) (vm₁ : Vm) (B : Pt), s.WarmedH vm₁ ∧ Stand p l e R s m args below meth c B.U B.locs B.cells B.slots ∧ Post ⟨T.setVm vm₁, locs, cells, slots⟩ (Value.ref b :: argsL).toArray v B ∧
      ∀ target, Steps p.tables e below (B.U.setTop { g with pc := g.pc + 3, stack := v.toList ++ rest }) target → Steps p.tables e below (T.setTop g) target := by
  obtain ⟨mk, methM, hnamed, hmethM, hstM, habM⟩ := Cond.instanceMethod_spec hinst
  obtain ⟨m8, methM', cM, hn8, hmethM', -, -, -, -, -, -, hsigM⟩ := Cond.codeWith_spec hcode
  cases Option.some.inj (hn8.symm.trans hnamed)
  cases hmethM.symm.trans hmethM'
  obtain ⟨c2, r2, m2, q1, q2, q3, q4, kP, hkP, hkPi⟩ := Cond.selects_spec hsel
  cases hcls.symm.trans q1
  cases (State.methodFound?_of_named hnamed hy).symm.trans q2
  cases hnamed.symm.trans q3
  have hselP : selectMethod e.platform s.vm cellB.cls mk = .method mk := by rw [Launch.admits_selectMethod X.admits]; exact q4
  obtain ⟨vm₁, X₁, hstep₁⟩ := X.invokevirtual hexec hown hlink hnamed hmethM hstM hkP hkPi hy (a := b) (cell := cellB) hcell
    (fun z h => by rw [h] at hobj; cases hobj) hselP hmethM habM hkP hkPi (g := g) hg (argsL := argsL) (rest := rest) (hlen _ hsigM) hstack hdg
  obtain ⟨v, B, X', hpost, hsteps⟩ := hK m meth c ⟨T.setVm vm₁, locs, cells, slots⟩ { g with stack := rest } (.invokevirtual index) mk (Value.ref b :: argsL).toArray X₁ hg hsize hdg hW (X₁.named hnamed) (hpre vm₁ X₁.warmed)
  exact ⟨v, vm₁, B, X₁.warmed, X', hpost, fun target h => hstep₁ _ fun acts => by rw [doInvoke_state]; exact hsteps.trans h⟩
abbrev vx_CVW (R : Room) (s : State) (args : Array Value) (own C : String) (index : Nat) (y : MethodName) (bytes : ByteArray) (maxL : Nat) (ret : Option FieldType) (hh : List (Nat × Nat × Nat × Nat)) (ws : List Cond) (rm : Room) (mc ms n : Nat) : Prop :=
  (rm.cells = mc ∧ rm.slots = ms ∧ rm.frames + 1 ≤ R.frames ∧ 8 + (maxL + 11) + rm.locals ≤ R.locals ∧ (∀ w ∈ ws, ∀ (a' : Array Value) (U : State), s.WarmedH U.vm → w.before a' U = true) ∧ Cond.codeWith y bytes maxL ret hh ∈ ws) ∧
  (Cond.codeWith y bytes maxL ret hh).before args s = true ∧ (Cond.initialized y.cls).before args s = true ∧ (y.cls ≠ "java/lang/invoke/MethodHandle" ∧ y.cls ≠ "java/lang/invoke/VarHandle") ∧
  (∀ sig, parseMethodDescriptor y.desc = some sig → n = sig.parameters.length) ∧ (Cond.methodLink own index y).before args s = true ∧ (Cond.instanceMethod y).before args s = true ∧ (Cond.selects C y y).before args s = true
theorem vx_cwVW {own C : String} {index maxL mc ms : Nat} {y : MethodName} {bytes : ByteArray} {ret : Option FieldType} {hh : List (Nat × Nat × Nat × Nat)} {Ts ws ws' : List Cond} {rm : Room} (n : Nat) (ht : ∀ w ∈ Ts, w.before args s = true) (hT : GoodIn Ts (wsV own index C y ws)) (hw : ws = Cond.codeWith y bytes maxL ret hh :: ws') (hrc : rm.cells = mc) (hrs : rm.slots = ms)
    (hd : y.cls = C ∧ y.cls ≠ "java/lang/invoke/MethodHandle" ∧ y.cls ≠ "java/lang/invoke/VarHandle" ∧ (parseMethodDescriptor y.desc).map (fun d => d.parameters.length) = some n) (hR : rm.frames + 1 ≤ R.frames ∧ 8 + (maxL + 11) + rm.locals ≤ R.locals) :
    vx_CVW R s args own C index y bytes maxL ret hh ws rm mc ms n := by
  obtain ⟨hC, hd⟩ := hd
  subst hC
  have ok : ∀ w ∈ wsV own index y.cls y ws, w.before args s = true := fun w h => ht w (hT w h).1
  have hG : GoodIn Ts ws := fun w h => hT w (by unfold wsV; exact List.mem_append_right _ h)
  have hc : Cond.codeWith y bytes maxL ret hh ∈ ws := by rw [hw]; exact List.mem_cons_self
  refine ⟨⟨hrc, hrs, hR.1, hR.2, pay_in ht hG, hc⟩, ht _ (hG _ hc).1, ok _ (by simp [wsV]), ⟨hd.1, hd.2.1⟩, fun sig h => ?_, ok _ (by simp [wsV]), ok _ (by simp [wsV]), ok _ (by simp [wsV])⟩
  have h2 := hd.2.2
  rw [h] at h2
  exact (Option.some.inj h2).symm
theorem vx_runVW {y : MethodName} {bytes cc : ByteArray} {maxL nL mc ms n index : Nat} {ret : Option FieldType} {hh : List (Nat × Nat × Nat × Nat)} {ws : List Cond} {rm : Room} {Pc : Array Value → State → Prop} {Qc : Array Value → State → Outcome → State → Prop} {free : Addr → Prop} {Ts : List Cond} {own C : String} {b : Addr} {As rest : List Value} {g : JFrame}
    (S : CallFix p m c cc nL s args Ts own) (hM : Met l y ws rm Pc Qc mc ms free) (cw : vx_CVW R s args own C index y bytes maxL ret hh ws rm mc ms n) (hp : PreV s H C b Pc As)
    (hg : g.method = m) (hn : As.length = n) (hsize : g.locals.size = nL) (hstack : g.stack = As.reverse ++ .ref b :: rest) (hW : 2 * g.monitorRoom + (rest.map fun v => v.category).sum ≤ 8) (hdg : decode cc g.pc = .ok (.invokevirtual index, 3)) (hf : cells + mc ≤ R.cells ∧ slots + ms ≤ R.slots) :
    va_Run p l e R s m args below meth c H locs cells slots mc ms g rest (Qc (Value.ref b :: As).toArray) free := by
  obtain ⟨⟨hrc, hrs, hfr, hlo, hws, hcw⟩, hcode, hini, hy, hlen, hl, hin, hse⟩ := cw
  have hK : Back l R p e below s args y 3 8 (PreOf R mc ms Pc) (PostOf Qc mc ms free) := va_backW (hh := hh) (bytes := bytes) (maxL := maxL) (ret := ret) hM hp.1 hrc hrs hfr hlo hws hcw (fun a' U hW => word_at hW (Or.inl (by first | rfl | simp [Cond.onTables, Cond.keeps, Cond.steady])) hini)
  obtain ⟨hx, hb, hml, ho, -⟩ := S
  obtain ⟨-, ⟨cellB, hcB, hoB, hclB⟩, hPc⟩ := hp
  intro T hT X
  obtain ⟨v, vm₁, ⟨U', l2, c2, s2⟩, hW₁, X', ⟨g', mk, t, L, e1, e2, hq, h1, hL, h2, h3⟩, st⟩ := vx_callVW X hx (C := C) (hh := hh) (bytes := bytes) (maxL := maxL) (ret := ret) ho hl hin hse hcode hy hK (by rw [hT]; exact hcB) hoB hclB hg (hsize.trans hml.symm) (argsL := As) (rest := rest) (fun sig h => hn.trans (hlen sig h)) hstack hW (by rw [hb]; exact hdg)
    (fun vm₁ hW₁ => ⟨hf.1, hf.2, hPc (T.setVm vm₁) hT hW₁⟩)
  dsimp only [Pt.U, Pt.locs, Pt.cells, Pt.slots] at X' e1 e2 h1 h2 h3 st
  subst h1; subst h2; subst h3
  exact ⟨v, (T.setVm vm₁).calling g' mk (Value.ref b :: As).toArray, t, U', L, hT, X', hL, e1, e2, hq, st⟩
section
variable {y : MethodName} {bytes cc : ByteArray} {maxL nL mc ms n index : Nat} {ret : Option FieldType} {ws : List Cond} {rm : Room} {Pc : Array Value → State → Prop} {Qc : Array Value → State → Outcome → State → Prop} {XC : String → State → State → Prop} {free : Addr → Prop} {Ts : List Cond} {own C : String} {b : Addr} {As rest : List Value} {g : JFrame}
theorem vx_runVX {hh : List (Nat × Nat × Nat × Nat)} (S : CallFix p m c cc nL s args Ts own) (hM : vx_Met l y ws rm Pc Qc XC mc ms free) (cw : vx_CVW R s args own C index y bytes maxL ret hh ws rm mc ms n) (hp : PreV s H C b Pc As)
    (hg : g.method = m) (hn : As.length = n) (hsize : g.locals.size = nL) (hstack : g.stack = As.reverse ++ .ref b :: rest) (hW : 2 * g.monitorRoom + (rest.map fun v => v.category).sum ≤ 8) (hdg : decode cc g.pc = .ok (.invokevirtual index, 3)) (hf : cells + mc ≤ R.cells ∧ slots + ms ≤ R.slots) :
    vx_Run p l e R s m args below meth c H locs cells slots mc ms g rest (Qc (Value.ref b :: As).toArray) XC free := by
  obtain ⟨⟨hrc, hrs, hfr, hlo, hws, hcw⟩, hcode, hini, hy, hlen, hl, hin, hse⟩ := cw
  have hK : vx_Back l R p e below s args y 3 8 (PreOf R mc ms Pc) (PostOf Qc mc ms free) (vx_Post XC mc ms free) := vx_backW (hh := hh) (bytes := bytes) (maxL := maxL) (ret := ret) hM hp.1 hrc hrs hfr hlo hws hcw (fun a' U hW => word_at hW (Or.inl (by first | rfl | simp [Cond.onTables, Cond.keeps, Cond.steady])) hini)
  obtain ⟨hx, hb, hml, ho, -⟩ := S
  obtain ⟨-, ⟨cellB, hcB, hoB, hclB⟩, hPc⟩ := hp
  intro T hT X
  rcases vx_callVX X hx (C := C) (hh := hh) (bytes := bytes) (maxL := maxL) (ret := ret) ho hl hin hse hcode hy hK (by rw [hT]; exact hcB) hoB hclB hg (hsize.trans hml.symm) (argsL := As) (rest := rest) (fun sig h => hn.trans (hlen sig h)) hstack hW (by rw [hb]; exact hdg)
    (fun vm₁ hW₁ => ⟨hf.1, hf.2, hPc (T.setVm vm₁) hT hW₁⟩) with ⟨v, vm₁, ⟨U', l2, c2, s2⟩, hW₁, X', ⟨g', mk, t, L, e1, e2, hq, h1, hL, h2, h3⟩, st⟩ | ⟨q, vm₁, ⟨U', l2, c2, s2⟩, hW₁, X', ⟨g', mk, t, L, E, ce, e1, e2, hq, hce, hcv, hcl, h1, hL, h2, h3⟩, st⟩
  · dsimp only [Pt.U, Pt.locs, Pt.cells, Pt.slots] at X' e1 e2 h1 h2 h3 st
    subst h1; subst h2; subst h3
    exact Or.inl ⟨v, (T.setVm vm₁).calling g' mk (Value.ref b :: As).toArray, t, U', L, hT, X', hL, e1, e2, hq, st⟩
  · dsimp only [Pt.U, Pt.locs, Pt.cells, Pt.slots] at X' e1 e2 h1 h2 h3 st hcl
    subst h1; subst h2; subst h3
    exact Or.inr ⟨q, (T.setVm vm₁).calling g' mk (Value.ref b :: As).toArray, t, U', L, E, ce, hT, X', hL, e1, e2, hq, hce, hcv, vx_cls hW₁ hcl, st⟩
theorem vx_runSX {hh : List (Nat × Nat × Nat × Nat)} (S : CallFix p m c cc nL s args Ts own) (hM : vx_Met l y ws rm Pc Qc XC mc ms free) (cw : vx_CSW R s args own index y bytes maxL ret hh ws rm mc ms n) (hp : PreS s H Pc As)
    (hg : g.method = m) (hn : As.length = n) (hsize : g.locals.size = nL) (hstack : g.stack = As.reverse ++ rest) (hW : 2 * g.monitorRoom + (rest.map fun v => v.category).sum ≤ 8) (hdg : decode cc g.pc = .ok (.invokestatic index, 3)) (hf : cells + mc ≤ R.cells ∧ slots + ms ≤ R.slots) :
    vx_Run p l e R s m args below meth c H locs cells slots mc ms g rest (Qc As.toArray) XC free := by
  obtain ⟨⟨hrc, hrs, hfr, hlo, hws, hcw⟩, hcode, hini, hy, hlen, hl, hstt⟩ := cw
  have hK : vx_Back l R p e below s args y 3 8 (PreOf R mc ms Pc) (PostOf Qc mc ms free) (vx_Post XC mc ms free) := vx_backW (hh := hh) (bytes := bytes) (maxL := maxL) (ret := ret) hM hp.1 hrc hrs hfr hlo hws hcw (fun a' U hW => word_at hW (Or.inl (by first | rfl | simp [Cond.onTables, Cond.keeps, Cond.steady])) hini)
  obtain ⟨hx, hb, hml, ho, -⟩ := S
  intro T hT X
  rcases vx_callSX X hx (hh := hh) (bytes := bytes) (maxL := maxL) (ret := ret) ho hl hstt hini hcode hy hK hg (hsize.trans hml.symm) (argsL := As) (rest := rest) (fun sig h => hn.trans (hlen sig h)) hstack hW (by rw [hb]; exact hdg)
    (fun vm₁ hW₁ => ⟨hf.1, hf.2, hp.2 (T.setVm vm₁) hT hW₁⟩) with ⟨v, vm₁, ⟨U', l2, c2, s2⟩, hW₁, X', ⟨g', mk, t, L, e1, e2, hq, h1, hL, h2, h3⟩, st⟩ | ⟨q, vm₁, ⟨U', l2, c2, s2⟩, hW₁, X', ⟨g', mk, t, L, E, ce, e1, e2, hq, hce, hcv, hcl, h1, hL, h2, h3⟩, st⟩
  · dsimp only [Pt.U, Pt.locs, Pt.cells, Pt.slots] at X' e1 e2 h1 h2 h3 st
    subst h1; subst h2; subst h3
    exact Or.inl ⟨v, (T.setVm vm₁).calling g' mk As.toArray, t, U', L, hT, X', hL, e1, e2, hq, st⟩
  · dsimp only [Pt.U, Pt.locs, Pt.cells, Pt.slots] at X' e1 e2 h1 h2 h3 st hcl
    subst h1; subst h2; subst h3
    exact Or.inr ⟨q, (T.setVm vm₁).calling g' mk As.toArray, t, U', L, E, ce, hT, X', hL, e1, e2, hq, hce, hcv, vx_cls hW₁ hcl, st⟩
end
end VXH
theorem vx_ofWH {l : Launch} {y : MethodName} {ws ws' : List Cond} {rm : Room} {Pc : Array Value → State → Prop} {Qc : Array Value → State → Outcome → State → Prop} {XC : String → State → State → Prop} {mc ms : Nat} {free : Addr → Prop} {cc : ByteArray} {maxL : Nat} {ret : Option FieldType} {hh : List (Nat × Nat × Nat × Nat)}
    (hy : plainName y.cls = true) (hw : ws = Cond.codeWith y cc maxL ret hh :: ws')
    (body : ∀ p e s m args below meth c s₁, BodyLoose p l y (headSpec ws rm) cc maxL ret e s m args below meth c s₁ → c.maxLocals = maxL → Pc args s →
      W p l e (headSpec ws rm).room s m args below meth c s.heap [] 0 0 (vx_MQ below Qc XC args s mc ms free) (entryFrame m args maxL)) : vx_Met l y ws rm Pc Qc XC mc ms free := by
  refine MetFree.of_bodyS (code := cc) (maxLocals := maxL) (ret := ret) hy ?_ ?_
  · intro args s m h hn
    obtain ⟨m9, meth, c, hn9, h1, h2, h3, h4, -, h5, h6, -⟩ := Cond.codeWith_spec (atoms_spec (ws := ws) h _ (by rw [hw]; exact List.mem_cons_self))
    cases hn.symm.trans hn9
    exact ⟨meth, c, h1, h2, h3, h4, h5, h6⟩
  · intro p e s m args below meth c s₁ B hml hP _
    have hh0 : s₁.heap = s.heap := by rw [B.state]; rfl
    obtain ⟨t, a1, o, b1, b2, b3⟩ := body p e s m args below meth c s₁ B hml hP s₁ hh0 (Stand.of_body B)
    exact ⟨t, o, a1, b1, b2, b3⟩
/-! ===== END ===== -/
end
section
-- NAMES, laid by program (wip/gen): classes, fields, methods, words by their places in the tables
def R_BR : String := "BlendRows"
def F_BR : u_T := fun k => match k with
  | 0 => ("BlendRows", "moistures", "[I", true)
  | 1 => ("BlendRows", "shares", "[I", true)
  | 2 => ("BlendRows", "laidKilos", "[I", true)
  | 3 => ("BlendRows", "shipDays", "[I", true)
  | 4 => ("BlendRows", "shipMaterials", "[I", true)
  | 5 => ("BlendRows", "shipKilos", "[I", true)
  | 6 => ("BlendRows", "shipCount", "I", false)
  | 7 => ("BlendRows", "piles", "[LBlendRows$Pile;", true)
  | 8 => ("BlendRows", "pileCount", "I", false)
  | 9 => ("BlendRows", "line", "LBlendRows$Line;", true)
  | _ => ("BlendRows", "today", "I", false)
def t_BR : Nat → FieldType := fun k => match k with
  | 0 => (.array .int)
  | 1 => (.array .int)
  | 2 => (.array .int)
  | 3 => (.array .int)
  | 4 => (.array .int)
  | 5 => (.array .int)
  | 6 => .int
  | 7 => (.array (.object "BlendRows$Pile"))
  | 8 => .int
  | 9 => (.object "BlendRows$Line")
  | _ => .int
theorem n_BR : ∀ a, a < 11 → ∀ b, b < 11 → a ≠ b → (F_BR a).2.1 ≠ (F_BR b).2.1 := by decide +kernel
theorem t_BR_ok : ∀ k, k < 11 → parseFieldDescriptor (F_BR k).2.2.1 = some (t_BR k) := by decide +kernel
def R_PI : String := "BlendRows$Pile"
def F_PI : u_T := fun k => match k with
  | 0 => ("BlendRows$Pile", "slices", "I", true)
  | 1 => ("BlendRows$Pile", "layerGrams", "[I", true)
  | 2 => ("BlendRows$Pile", "layerShares", "[I", true)
  | 3 => ("BlendRows$Pile", "layers", "I", false)
  | 4 => ("BlendRows$Pile", "grams", "I", false)
  | 5 => ("BlendRows$Pile", "taken", "I", false)
  | 6 => ("BlendRows$Pile", "gramsTaken", "I", false)
  | 7 => ("BlendRows$Pile", "latestGrams", "I", false)
  | 8 => ("BlendRows$Pile", "latestSums", "[J", true)
  | 9 => ("BlendRows$Pile", "greatestSums", "[J", true)
  | 10 => ("BlendRows$Pile", "greatestGrams", "[I", true)
  | 11 => ("BlendRows$Pile", "leastSums", "[J", true)
  | _ => ("BlendRows$Pile", "leastGrams", "[I", true)
def t_PI : Nat → FieldType := fun k => match k with
  | 0 => .int
  | 1 => (.array .int)
  | 2 => (.array .int)
  | 3 => .int
  | 4 => .int
  | 5 => .int
  | 6 => .int
  | 7 => .int
  | 8 => (.array .long)
  | 9 => (.array .long)
  | 10 => (.array .int)
  | 11 => (.array .long)
  | _ => (.array .int)
theorem n_PI : ∀ a, a < 13 → ∀ b, b < 13 → a ≠ b → (F_PI a).2.1 ≠ (F_PI b).2.1 := by decide +kernel
theorem t_PI_ok : ∀ k, k < 13 → parseFieldDescriptor (F_PI k).2.2.1 = some (t_PI k) := by decide +kernel
def R_LI : String := "BlendRows$Line"
def F_LI : u_T := fun k => match k with
  | 0 => ("BlendRows$Line", "count", "I", false)
  | 1 => ("BlendRows$Line", "sumX", "J", false)
  | 2 => ("BlendRows$Line", "sumY", "J", false)
  | 3 => ("BlendRows$Line", "sumXX", "J", false)
  | _ => ("BlendRows$Line", "sumXY", "J", false)
def t_LI : Nat → FieldType := fun k => match k with
  | 0 => .int
  | 1 => .long
  | 2 => .long
  | 3 => .long
  | _ => .long
theorem n_LI : ∀ a, a < 5 → ∀ b, b < 5 → a ≠ b → (F_LI a).2.1 ≠ (F_LI b).2.1 := by decide +kernel
theorem t_LI_ok : ∀ k, k < 5 → parseFieldDescriptor (F_LI k).2.2.1 = some (t_LI k) := by decide +kernel
def R_MO : String := "BlendRowsModel"
def F_MO : u_T := fun k => match k with
  | 0 => ("BlendRowsModel", "thrown", "I", false)
  | 1 => ("BlendRowsModel", "today", "I", false)
  | 2 => ("BlendRowsModel", "moisture", "[I", true)
  | 3 => ("BlendRowsModel", "shares", "[I", true)
  | 4 => ("BlendRowsModel", "ships", "I", false)
  | 5 => ("BlendRowsModel", "shipDay", "[I", true)
  | 6 => ("BlendRowsModel", "shipMaterial", "[I", true)
  | 7 => ("BlendRowsModel", "shipKilos", "[I", true)
  | 8 => ("BlendRowsModel", "laid", "[I", true)
  | 9 => ("BlendRowsModel", "piles", "I", false)
  | 10 => ("BlendRowsModel", "slices", "[I", true)
  | 11 => ("BlendRowsModel", "taken", "[I", true)
  | 12 => ("BlendRowsModel", "layers", "[I", true)
  | 13 => ("BlendRowsModel", "grams", "[I", true)
  | 14 => ("BlendRowsModel", "layerShare", "[I", true)
  | 15 => ("BlendRowsModel", "mostUp", "[J", true)
  | 16 => ("BlendRowsModel", "mostLow", "[J", true)
  | 17 => ("BlendRowsModel", "leastUp", "[J", true)
  | 18 => ("BlendRowsModel", "leastLow", "[J", true)
  | 19 => ("BlendRowsModel", "points", "I", false)
  | 20 => ("BlendRowsModel", "px", "[I", true)
  | _ => ("BlendRowsModel", "py", "[I", true)
def t_MO : Nat → FieldType := fun k => match k with
  | 0 => .int
  | 1 => .int
  | 2 => (.array .int)
  | 3 => (.array .int)
  | 4 => .int
  | 5 => (.array .int)
  | 6 => (.array .int)
  | 7 => (.array .int)
  | 8 => (.array .int)
  | 9 => .int
  | 10 => (.array .int)
  | 11 => (.array .int)
  | 12 => (.array .int)
  | 13 => (.array .int)
  | 14 => (.array .int)
  | 15 => (.array .long)
  | 16 => (.array .long)
  | 17 => (.array .long)
  | 18 => (.array .long)
  | 19 => .int
  | 20 => (.array .int)
  | _ => (.array .int)
theorem n_MO : ∀ a, a < 22 → ∀ b, b < 22 → a ≠ b → (F_MO a).2.1 ≠ (F_MO b).2.1 := by decide +kernel
theorem t_MO_ok : ∀ k, k < 22 → parseFieldDescriptor (F_MO k).2.2.1 = some (t_MO k) := by decide +kernel
def R_LW : String := "BlendRowsLaw"
abbrev b_BR_init : ByteArray := prog_1_method_1_code
def y_BR_init : MethodName := ⟨R_BR, "<init>", "()V"⟩
abbrev b_BR_moisture : ByteArray := prog_1_method_2_code
def y_BR_moisture : MethodName := ⟨R_BR, "moisture", "(II)V"⟩
abbrev b_BR_element : ByteArray := prog_1_method_3_code
def y_BR_element : MethodName := ⟨R_BR, "element", "(III)V"⟩
abbrev b_BR_ship : ByteArray := prog_1_method_4_code
def y_BR_ship : MethodName := ⟨R_BR, "ship", "(IIII)I"⟩
abbrev b_BR_stock : ByteArray := prog_1_method_5_code
def y_BR_stock : MethodName := ⟨R_BR, "stock", "(I)I"⟩
abbrev b_BR_pile : ByteArray := prog_1_method_6_code
def y_BR_pile : MethodName := ⟨R_BR, "pile", "(I)I"⟩
abbrev b_BR_lay : ByteArray := prog_1_method_7_code
def y_BR_lay : MethodName := ⟨R_BR, "lay", "(III)I"⟩
abbrev b_BR_slice : ByteArray := prog_1_method_8_code
def y_BR_slice : MethodName := ⟨R_BR, "slice", "(I)I"⟩
abbrev b_BR_share : ByteArray := prog_1_method_9_code
def y_BR_share : MethodName := ⟨R_BR, "share", "(III)J"⟩
abbrev b_BR_basicity : ByteArray := prog_1_method_10_code
def y_BR_basicity : MethodName := ⟨R_BR, "basicity", "(II)J"⟩
abbrev b_BR_spread : ByteArray := prog_1_method_11_code
def y_BR_spread : MethodName := ⟨R_BR, "spread", "(III)J"⟩
abbrev b_BR_pileAt : ByteArray := prog_1_method_12_code
def y_BR_pileAt : MethodName := ⟨R_BR, "pileAt", "(II)I"⟩
abbrev b_BR_mix : ByteArray := prog_1_method_13_code
def y_BR_mix : MethodName := ⟨R_BR, "mix", "(IIIII)J"⟩
abbrev b_BR_point : ByteArray := prog_1_method_14_code
def y_BR_point : MethodName := ⟨R_BR, "point", "(II)I"⟩
abbrev b_BR_fit : ByteArray := prog_1_method_15_code
def y_BR_fit : MethodName := ⟨R_BR, "fit", "(II)J"⟩
abbrev b_BR_tick : ByteArray := prog_1_method_16_code
def y_BR_tick : MethodName := ⟨R_BR, "tick", "(I)I"⟩
abbrev b_BR_needMaterial : ByteArray := prog_1_method_17_code
def y_BR_needMaterial : MethodName := ⟨R_BR, "needMaterial", "(I)V"⟩
abbrev b_BR_needElement : ByteArray := prog_1_method_18_code
def y_BR_needElement : MethodName := ⟨R_BR, "needElement", "(I)V"⟩
abbrev b_BR_needPart : ByteArray := prog_1_method_19_code
def y_BR_needPart : MethodName := ⟨R_BR, "needPart", "(I)V"⟩
abbrev b_BR_needRange : ByteArray := prog_1_method_20_code
def y_BR_needRange : MethodName := ⟨R_BR, "needRange", "(III)V"⟩
abbrev b_BR_needTaken : ByteArray := prog_1_method_21_code
def y_BR_needTaken : MethodName := ⟨R_BR, "needTaken", "(LBlendRows$Pile;)V"⟩
abbrev b_BR_needPile : ByteArray := prog_1_method_22_code
def y_BR_needPile : MethodName := ⟨R_BR, "needPile", "(I)LBlendRows$Pile;"⟩
abbrev b_BR_lostKilos : ByteArray := prog_1_method_23_code
def y_BR_lostKilos : MethodName := ⟨R_BR, "lostKilos", "(II)I"⟩
abbrev b_BR_stockOf : ByteArray := prog_1_method_24_code
def y_BR_stockOf : MethodName := ⟨R_BR, "stockOf", "(I)I"⟩
abbrev b_BR_lowestTerms : ByteArray := prog_1_method_25_code
def y_BR_lowestTerms : MethodName := ⟨R_BR, "lowestTerms", "(JJI)J"⟩
abbrev b_BR_commonDivisor : ByteArray := prog_1_method_26_code
def y_BR_commonDivisor : MethodName := ⟨R_BR, "commonDivisor", "(JJ)J"⟩
abbrev b_PI_init : ByteArray := prog_3_method_1_code
def y_PI_init : MethodName := ⟨R_PI, "<init>", "(I)V"⟩
abbrev b_PI_addLayer : ByteArray := prog_3_method_2_code
def y_PI_addLayer : MethodName := ⟨R_PI, "addLayer", "(I[II)V"⟩
abbrev b_PI_takeNext : ByteArray := prog_3_method_3_code
def y_PI_takeNext : MethodName := ⟨R_PI, "takeNext", "()V"⟩
abbrev b_PI_clearLatest : ByteArray := prog_3_method_4_code
def y_PI_clearLatest : MethodName := ⟨R_PI, "clearLatest", "()V"⟩
abbrev b_PI_takeOfLayer : ByteArray := prog_3_method_5_code
def y_PI_takeOfLayer : MethodName := ⟨R_PI, "takeOfLayer", "(I)V"⟩
abbrev b_PI_gramsBefore : ByteArray := prog_3_method_6_code
def y_PI_gramsBefore : MethodName := ⟨R_PI, "gramsBefore", "(II)I"⟩
abbrev b_PI_noteGreatest : ByteArray := prog_3_method_7_code
def y_PI_noteGreatest : MethodName := ⟨R_PI, "noteGreatest", "(I)V"⟩
abbrev b_PI_noteLeast : ByteArray := prog_3_method_8_code
def y_PI_noteLeast : MethodName := ⟨R_PI, "noteLeast", "(I)V"⟩
abbrev b_PI_spreadUpper : ByteArray := prog_3_method_9_code
def y_PI_spreadUpper : MethodName := ⟨R_PI, "spreadUpper", "(I)J"⟩
abbrev b_PI_spreadLower : ByteArray := prog_3_method_10_code
def y_PI_spreadLower : MethodName := ⟨R_PI, "spreadLower", "(I)J"⟩
abbrev b_LI_init : ByteArray := prog_2_method_1_code
def y_LI_init : MethodName := ⟨R_LI, "<init>", "()V"⟩
abbrev b_LI_addPoint : ByteArray := prog_2_method_2_code
def y_LI_addPoint : MethodName := ⟨R_LI, "addPoint", "(II)V"⟩
abbrev b_LI_slopeUpper : ByteArray := prog_2_method_3_code
def y_LI_slopeUpper : MethodName := ⟨R_LI, "slopeUpper", "()J"⟩
abbrev b_LI_heightUpper : ByteArray := prog_2_method_4_code
def y_LI_heightUpper : MethodName := ⟨R_LI, "heightUpper", "()J"⟩
abbrev b_LI_lower : ByteArray := prog_2_method_5_code
def y_LI_lower : MethodName := ⟨R_LI, "lower", "()J"⟩
abbrev b_MO_init : ByteArray := prog_5_method_1_code
def y_MO_init : MethodName := ⟨R_MO, "<init>", "()V"⟩
abbrev b_MO_thrown : ByteArray := prog_5_method_2_code
def y_MO_thrown : MethodName := ⟨R_MO, "thrown", "()I"⟩
abbrev b_MO_throwing : ByteArray := prog_5_method_3_code
def y_MO_throwing : MethodName := ⟨R_MO, "throwing", "(ZZZZ)Z"⟩
abbrev b_MO_in : ByteArray := prog_5_method_4_code
def y_MO_in : MethodName := ⟨R_MO, "in", "(III)Z"⟩
abbrev b_MO_isMaterial : ByteArray := prog_5_method_5_code
def y_MO_isMaterial : MethodName := ⟨R_MO, "isMaterial", "(I)Z"⟩
abbrev b_MO_isElement : ByteArray := prog_5_method_6_code
def y_MO_isElement : MethodName := ⟨R_MO, "isElement", "(I)Z"⟩
abbrev b_MO_isPart : ByteArray := prog_5_method_7_code
def y_MO_isPart : MethodName := ⟨R_MO, "isPart", "(I)Z"⟩
abbrev b_MO_isPile : ByteArray := prog_5_method_8_code
def y_MO_isPile : MethodName := ⟨R_MO, "isPile", "(I)Z"⟩
abbrev b_MO_partOf : ByteArray := prog_5_method_9_code
def y_MO_partOf : MethodName := ⟨R_MO, "partOf", "(JJI)J"⟩
abbrev b_MO_moisture : ByteArray := prog_5_method_10_code
def y_MO_moisture : MethodName := ⟨R_MO, "moisture", "(II)V"⟩
abbrev b_MO_element : ByteArray := prog_5_method_11_code
def y_MO_element : MethodName := ⟨R_MO, "element", "(III)V"⟩
abbrev b_MO_ship : ByteArray := prog_5_method_12_code
def y_MO_ship : MethodName := ⟨R_MO, "ship", "(IIII)I"⟩
abbrev b_MO_stockOf : ByteArray := prog_5_method_13_code
def y_MO_stockOf : MethodName := ⟨R_MO, "stockOf", "(I)I"⟩
abbrev b_MO_stock : ByteArray := prog_5_method_14_code
def y_MO_stock : MethodName := ⟨R_MO, "stock", "(I)I"⟩
abbrev b_MO_pile : ByteArray := prog_5_method_15_code
def y_MO_pile : MethodName := ⟨R_MO, "pile", "(I)I"⟩
abbrev b_MO_gramsOf : ByteArray := prog_5_method_16_code
def y_MO_gramsOf : MethodName := ⟨R_MO, "gramsOf", "(I)I"⟩
abbrev b_MO_lay : ByteArray := prog_5_method_17_code
def y_MO_lay : MethodName := ⟨R_MO, "lay", "(III)I"⟩
abbrev b_MO_ahead : ByteArray := prog_5_method_18_code
def y_MO_ahead : MethodName := ⟨R_MO, "ahead", "(IJI)J"⟩
abbrev b_MO_takes : ByteArray := prog_5_method_19_code
def y_MO_takes : MethodName := ⟨R_MO, "takes", "(III)J"⟩
abbrev b_MO_gramsIn : ByteArray := prog_5_method_20_code
def y_MO_gramsIn : MethodName := ⟨R_MO, "gramsIn", "(II)J"⟩
abbrev b_MO_heldIn : ByteArray := prog_5_method_21_code
def y_MO_heldIn : MethodName := ⟨R_MO, "heldIn", "(III)J"⟩
abbrev b_MO_spreadBy : ByteArray := prog_5_method_22_code
def y_MO_spreadBy : MethodName := ⟨R_MO, "spreadBy", "(IIJJ)V"⟩
abbrev b_MO_slice : ByteArray := prog_5_method_23_code
def y_MO_slice : MethodName := ⟨R_MO, "slice", "(I)I"⟩
abbrev b_MO_isUntaken : ByteArray := prog_5_method_24_code
def y_MO_isUntaken : MethodName := ⟨R_MO, "isUntaken", "(I)Z"⟩
abbrev b_MO_share : ByteArray := prog_5_method_25_code
def y_MO_share : MethodName := ⟨R_MO, "share", "(III)J"⟩
abbrev b_MO_basicity : ByteArray := prog_5_method_26_code
def y_MO_basicity : MethodName := ⟨R_MO, "basicity", "(II)J"⟩
abbrev b_MO_spread : ByteArray := prog_5_method_27_code
def y_MO_spread : MethodName := ⟨R_MO, "spread", "(III)J"⟩
abbrev b_MO_pileAt : ByteArray := prog_5_method_28_code
def y_MO_pileAt : MethodName := ⟨R_MO, "pileAt", "(II)I"⟩
abbrev b_MO_mix : ByteArray := prog_5_method_29_code
def y_MO_mix : MethodName := ⟨R_MO, "mix", "(IIIII)J"⟩
abbrev b_MO_point : ByteArray := prog_5_method_30_code
def y_MO_point : MethodName := ⟨R_MO, "point", "(II)I"⟩
abbrev b_MO_fit : ByteArray := prog_5_method_31_code
def y_MO_fit : MethodName := ⟨R_MO, "fit", "(II)J"⟩
abbrev b_MO_tick : ByteArray := prog_5_method_32_code
def y_MO_tick : MethodName := ⟨R_MO, "tick", "(I)I"⟩
abbrev b_LW_moisture : ByteArray := method_3_code
def y_LW_moisture : MethodName := ⟨R_LW, "moisture", "(LBlendRows;II)I"⟩
abbrev b_LW_element : ByteArray := method_4_code
def y_LW_element : MethodName := ⟨R_LW, "element", "(LBlendRows;III)I"⟩
abbrev b_LW_ship : ByteArray := method_5_code
def y_LW_ship : MethodName := ⟨R_LW, "ship", "(LBlendRows;IIII[J)I"⟩
abbrev b_LW_stock : ByteArray := method_6_code
def y_LW_stock : MethodName := ⟨R_LW, "stock", "(LBlendRows;I[J)I"⟩
abbrev b_LW_pile : ByteArray := method_7_code
def y_LW_pile : MethodName := ⟨R_LW, "pile", "(LBlendRows;I[J)I"⟩
abbrev b_LW_lay : ByteArray := method_8_code
def y_LW_lay : MethodName := ⟨R_LW, "lay", "(LBlendRows;III[J)I"⟩
abbrev b_LW_slice : ByteArray := method_9_code
def y_LW_slice : MethodName := ⟨R_LW, "slice", "(LBlendRows;I[J)I"⟩
abbrev b_LW_share : ByteArray := method_10_code
def y_LW_share : MethodName := ⟨R_LW, "share", "(LBlendRows;III[J)I"⟩
abbrev b_LW_basicity : ByteArray := method_11_code
def y_LW_basicity : MethodName := ⟨R_LW, "basicity", "(LBlendRows;II[J)I"⟩
abbrev b_LW_spread : ByteArray := method_12_code
def y_LW_spread : MethodName := ⟨R_LW, "spread", "(LBlendRows;III[J)I"⟩
abbrev b_LW_pileAt : ByteArray := method_13_code
def y_LW_pileAt : MethodName := ⟨R_LW, "pileAt", "(LBlendRows;II[J)I"⟩
abbrev b_LW_mix : ByteArray := method_14_code
def y_LW_mix : MethodName := ⟨R_LW, "mix", "(LBlendRows;IIIII[J)I"⟩
abbrev b_LW_point : ByteArray := method_15_code
def y_LW_point : MethodName := ⟨R_LW, "point", "(LBlendRows;II[J)I"⟩
abbrev b_LW_fit : ByteArray := method_16_code
def y_LW_fit : MethodName := ⟨R_LW, "fit", "(LBlendRows;II[J)I"⟩
abbrev b_LW_tick : ByteArray := method_17_code
def y_LW_tick : MethodName := ⟨R_LW, "tick", "(LBlendRows;I[J)I"⟩
abbrev b_LW_law : ByteArray := code
def y_LW_law : MethodName := ⟨R_LW, "law", "([I)Z"⟩
abbrev vq_cl : List vw_C := [(R_BR, F_BR, 11), (R_PI, F_PI, 13), (R_LI, F_LI, 5), (R_MO, F_MO, 22)]
abbrev vq_tys (cs : Nat → ClassId) : List (ClassId × FieldType) := [(cs 0, .int), (cs 1, .long), (cs 2, .object "BlendRows$Pile")]
/-- the words that every method of ours is given: the tables' good ones -/
def vq_G : List Cond := lw_tbl.filter goodWord
theorem vq_at1 {w : Cond} {i : Nat} (h : tables_1_1[i]? = some w) (g : goodWord w = true) : w ∈ vq_G := List.mem_filter.mpr ⟨List.mem_append_right _ (List.mem_append_left _ (List.mem_of_getElem? h)), g⟩
theorem vq_at2 {w : Cond} {i : Nat} (h : tables_1_2[i]? = some w) (g : goodWord w = true) : w ∈ vq_G := List.mem_filter.mpr ⟨List.mem_append_right _ (List.mem_append_right _ (List.mem_append_left _ (List.mem_of_getElem? h))), g⟩
theorem vq_at3 {w : Cond} {i : Nat} (h : tables_1_3[i]? = some w) (g : goodWord w = true) : w ∈ vq_G := List.mem_filter.mpr ⟨List.mem_append_right _ (List.mem_append_right _ (List.mem_append_right _ (List.mem_of_getElem? h))), g⟩
theorem vq_as {w : Cond} {i : Nat} (h : (k2_sels lw_privs)[i]? = some w) (g : goodWord w = true) : w ∈ vq_G := List.mem_filter.mpr ⟨List.mem_append_left _ (List.mem_of_getElem? h), g⟩
-- WORDS, by their places
theorem vq_s1 : (.selects R_BR y_BR_stockOf y_BR_stockOf : Cond) ∈ vq_G := vq_as (i := 1) rfl rfl
theorem vq_s2 : (.selects R_BR y_BR_needPile y_BR_needPile : Cond) ∈ vq_G := vq_as (i := 2) rfl rfl
theorem vq_s3 : (.selects R_PI y_PI_clearLatest y_PI_clearLatest : Cond) ∈ vq_G := vq_as (i := 3) rfl rfl
theorem vq_s4 : (.selects R_PI y_PI_takeOfLayer y_PI_takeOfLayer : Cond) ∈ vq_G := vq_as (i := 4) rfl rfl
theorem vq_s5 : (.selects R_PI y_PI_gramsBefore y_PI_gramsBefore : Cond) ∈ vq_G := vq_as (i := 5) rfl rfl
theorem vq_s6 : (.selects R_PI y_PI_noteGreatest y_PI_noteGreatest : Cond) ∈ vq_G := vq_as (i := 6) rfl rfl
theorem vq_s7 : (.selects R_PI y_PI_noteLeast y_PI_noteLeast : Cond) ∈ vq_G := vq_as (i := 7) rfl rfl
theorem vq_t1 : (.initialized R_BR : Cond) ∈ vq_G := vq_at1 (i := 1) rfl rfl
theorem vq_t2 : (.initialized R_LI : Cond) ∈ vq_G := vq_at1 (i := 2) rfl rfl
theorem vq_t3 : (.initialized R_MO : Cond) ∈ vq_G := vq_at1 (i := 3) rfl rfl
theorem vq_t7 : (.initialized "java/lang/IndexOutOfBoundsException" : Cond) ∈ vq_G := vq_at1 (i := 7) rfl rfl
theorem vq_t8 : (.initialized "java/lang/IllegalArgumentException" : Cond) ∈ vq_G := vq_at1 (i := 8) rfl rfl
theorem vq_t9 : (.initialized "java/lang/IllegalStateException" : Cond) ∈ vq_G := vq_at1 (i := 9) rfl rfl
theorem vq_t10 : (.initialized R_PI : Cond) ∈ vq_G := vq_at1 (i := 10) rfl rfl
theorem vq_t11 : (.initialized "java/lang/UnsupportedOperationException" : Cond) ∈ vq_G := vq_at1 (i := 11) rfl rfl
theorem vq_t12 : (.initialized "java/lang/Math" : Cond) ∈ vq_G := vq_at1 (i := 12) rfl rfl
theorem vq_t14 : (.instantiable R_BR 11 : Cond) ∈ vq_G := vq_at1 (i := 14) rfl rfl
theorem vq_t17 : (.code y_BR_init b_BR_init 1 none : Cond) ∈ vq_G := vq_at1 (i := 17) rfl rfl
theorem vq_t18 : (.methodLink R_BR 1 objectInit : Cond) ∈ vq_G := vq_at1 (i := 18) rfl rfl
theorem vq_t19 : (.instanceMethod objectInit : Cond) ∈ vq_G := vq_at1 (i := 19) rfl rfl
theorem vq_t20 : (.code objectInit ⟨#[0xb1]⟩ 1 none : Cond) ∈ vq_G := vq_at1 (i := 20) rfl rfl
theorem vq_t21 : (.classLink R_BR 28 R_PI : Cond) ∈ vq_G := vq_at1 (i := 21) rfl rfl
theorem vq_t23 : (.classLink R_BR 34 R_LI : Cond) ∈ vq_G := vq_at1 (i := 23) rfl rfl
theorem vq_t24 : (.instantiable R_LI 5 : Cond) ∈ vq_G := vq_at1 (i := 24) rfl rfl
theorem vq_t26 : (.instanceMethod y_LI_init : Cond) ∈ vq_G := vq_at1 (i := 26) rfl rfl
theorem vq_t27 : (.code y_LI_init b_LI_init 1 none : Cond) ∈ vq_G := vq_at1 (i := 27) rfl rfl
theorem vq_t28 : (.methodLink R_LI 1 objectInit : Cond) ∈ vq_G := vq_at1 (i := 28) rfl rfl
theorem vq_t29 : (.fieldLink R_LI 7 "BlendRows$Line" "count" "I" : Cond) ∈ vq_G := vq_at1 (i := 29) rfl rfl
theorem vq_t31 : (.fieldLink R_LI 13 "BlendRows$Line" "sumX" "J" : Cond) ∈ vq_G := vq_at1 (i := 31) rfl rfl
theorem vq_t32 : (.fieldLink R_LI 17 "BlendRows$Line" "sumY" "J" : Cond) ∈ vq_G := vq_at1 (i := 32) rfl rfl
theorem vq_t33 : (.fieldLink R_LI 20 "BlendRows$Line" "sumXX" "J" : Cond) ∈ vq_G := vq_at1 (i := 33) rfl rfl
theorem vq_t34 : (.fieldLink R_LI 23 "BlendRows$Line" "sumXY" "J" : Cond) ∈ vq_G := vq_at1 (i := 34) rfl rfl
theorem vq_t46 : (.arrayClass .int : Cond) ∈ vq_G := vq_at1 (i := 46) rfl rfl
theorem vq_t47 : (.fieldLink R_BR 9 "BlendRows" "moistures" "[I" : Cond) ∈ vq_G := vq_at1 (i := 47) rfl rfl
theorem vq_t48 : (.fieldLink R_BR 13 "BlendRows" "shares" "[I" : Cond) ∈ vq_G := vq_at1 (i := 48) rfl rfl
theorem vq_t49 : (.fieldLink R_BR 16 "BlendRows" "laidKilos" "[I" : Cond) ∈ vq_G := vq_at1 (i := 49) rfl rfl
theorem vq_t50 : (.fieldLink R_BR 19 "BlendRows" "shipDays" "[I" : Cond) ∈ vq_G := vq_at1 (i := 50) rfl rfl
theorem vq_t51 : (.fieldLink R_BR 22 "BlendRows" "shipMaterials" "[I" : Cond) ∈ vq_G := vq_at1 (i := 51) rfl rfl
theorem vq_t52 : (.fieldLink R_BR 25 "BlendRows" "shipKilos" "[I" : Cond) ∈ vq_G := vq_at1 (i := 52) rfl rfl
theorem vq_t53 : (.fieldLink R_BR 52 "BlendRows" "shipCount" "I" : Cond) ∈ vq_G := vq_at1 (i := 53) rfl rfl
theorem vq_t54 : (.fieldLink R_BR 30 "BlendRows" "piles" "[LBlendRows$Pile;" : Cond) ∈ vq_G := vq_at1 (i := 54) rfl rfl
theorem vq_t55 : (.fieldLink R_BR 74 "BlendRows" "pileCount" "I" : Cond) ∈ vq_G := vq_at1 (i := 55) rfl rfl
theorem vq_t56 : (.fieldLink R_BR 37 "BlendRows" "line" "LBlendRows$Line;" : Cond) ∈ vq_G := vq_at1 (i := 56) rfl rfl
theorem vq_t57 : (.fieldLink R_BR 63 "BlendRows" "today" "I" : Cond) ∈ vq_G := vq_at1 (i := 57) rfl rfl
theorem vq_t89 : (.code y_BR_moisture b_BR_moisture 3 none : Cond) ∈ vq_G := vq_at1 (i := 89) rfl rfl
theorem vq_t90 : (.methodLink R_BR 41 y_BR_needMaterial : Cond) ∈ vq_G := vq_at1 (i := 90) rfl rfl
theorem vq_t91 : (.static y_BR_needMaterial : Cond) ∈ vq_G := vq_at1 (i := 91) rfl rfl
theorem vq_t92 : (.code y_BR_needMaterial b_BR_needMaterial 1 none : Cond) ∈ vq_G := vq_at1 (i := 92) rfl rfl
theorem vq_t93 : (.classLink R_BR 152 "java/lang/IndexOutOfBoundsException" : Cond) ∈ vq_G := vq_at1 (i := 93) rfl rfl
theorem vq_t162 : (.methodLink R_BR 45 y_BR_needRange : Cond) ∈ vq_G := vq_at1 (i := 162) rfl rfl
theorem vq_t163 : (.static y_BR_needRange : Cond) ∈ vq_G := vq_at1 (i := 163) rfl rfl
theorem vq_t164 : (.code y_BR_needRange b_BR_needRange 3 none : Cond) ∈ vq_G := vq_at1 (i := 164) rfl rfl
theorem vq_t165 : (.classLink R_BR 196 "java/lang/IllegalArgumentException" : Cond) ∈ vq_G := vq_at1 (i := 165) rfl rfl
theorem vq_t187 : (.code y_BR_element b_BR_element 4 none : Cond) ∈ vq_G := vq_at1 (i := 187) rfl rfl
theorem vq_t188 : (.methodLink R_BR 49 y_BR_needElement : Cond) ∈ vq_G := vq_at1 (i := 188) rfl rfl
theorem vq_t189 : (.static y_BR_needElement : Cond) ∈ vq_G := vq_at1 (i := 189) rfl rfl
theorem vq_t190 : (.code y_BR_needElement b_BR_needElement 1 none : Cond) ∈ vq_G := vq_at1 (i := 190) rfl rfl
theorem vq_t199 : (.code y_BR_ship b_BR_ship 6 (some .int) : Cond) ∈ vq_G := vq_at1 (i := 199) rfl rfl
theorem vq_t200 : (.classLink R_BR 56 "java/lang/IllegalStateException" : Cond) ∈ vq_G := vq_at1 (i := 200) rfl rfl
theorem vq_t216 : (.methodLink R_BR 66 y_BR_lostKilos : Cond) ∈ vq_G := vq_at1 (i := 216) rfl rfl
theorem vq_t217 : (.static y_BR_lostKilos : Cond) ∈ vq_G := vq_at1 (i := 217) rfl rfl
theorem vq_t218 : (.code y_BR_lostKilos b_BR_lostKilos 2 (some .int) : Cond) ∈ vq_G := vq_at1 (i := 218) rfl rfl
theorem vq_t225 : (.code y_BR_stock b_BR_stock 2 (some .int) : Cond) ∈ vq_G := vq_at1 (i := 225) rfl rfl
theorem vq_t226 : (.methodLink R_BR 70 y_BR_stockOf : Cond) ∈ vq_G := vq_at1 (i := 226) rfl rfl
theorem vq_t228 : (.instanceMethod y_BR_stockOf : Cond) ∈ vq_G := vq_at1 (i := 228) rfl rfl
theorem vq_t229 : (.code y_BR_stockOf b_BR_stockOf 4 (some .int) : Cond) ∈ vq_G := vq_at1 (i := 229) rfl rfl
theorem vq_t236 : (.code y_BR_pile b_BR_pile 3 (some .int) : Cond) ∈ vq_G := vq_at1 (i := 236) rfl rfl
theorem vq_t238 : (.constant R_BR 79 65536 : Cond) ∈ vq_G := vq_at1 (i := 238) rfl rfl
theorem vq_t239 : (.instantiable R_PI 13 : Cond) ∈ vq_G := vq_at1 (i := 239) rfl rfl
theorem vq_t240 : (.methodLink R_BR 80 y_PI_init : Cond) ∈ vq_G := vq_at2 (i := 0) rfl rfl
theorem vq_t241 : (.instanceMethod y_PI_init : Cond) ∈ vq_G := vq_at2 (i := 1) rfl rfl
theorem vq_t242 : (.code y_PI_init b_PI_init 2 none : Cond) ∈ vq_G := vq_at2 (i := 2) rfl rfl
theorem vq_t243 : (.methodLink R_PI 3 objectInit : Cond) ∈ vq_G := vq_at2 (i := 3) rfl rfl
theorem vq_t244 : (.fieldLink R_PI 34 "BlendRows$Pile" "slices" "I" : Cond) ∈ vq_G := vq_at2 (i := 4) rfl rfl
theorem vq_t246 : (.fieldLink R_PI 9 "BlendRows$Pile" "layerGrams" "[I" : Cond) ∈ vq_G := vq_at2 (i := 6) rfl rfl
theorem vq_t247 : (.fieldLink R_PI 15 "BlendRows$Pile" "layerShares" "[I" : Cond) ∈ vq_G := vq_at2 (i := 7) rfl rfl
theorem vq_t248 : (.fieldLink R_PI 38 "BlendRows$Pile" "layers" "I" : Cond) ∈ vq_G := vq_at2 (i := 8) rfl rfl
theorem vq_t250 : (.fieldLink R_PI 41 "BlendRows$Pile" "grams" "I" : Cond) ∈ vq_G := vq_at2 (i := 10) rfl rfl
theorem vq_t252 : (.fieldLink R_PI 51 "BlendRows$Pile" "taken" "I" : Cond) ∈ vq_G := vq_at2 (i := 12) rfl rfl
theorem vq_t254 : (.fieldLink R_PI 54 "BlendRows$Pile" "gramsTaken" "I" : Cond) ∈ vq_G := vq_at2 (i := 14) rfl rfl
theorem vq_t256 : (.fieldLink R_PI 57 "BlendRows$Pile" "latestGrams" "I" : Cond) ∈ vq_G := vq_at2 (i := 16) rfl rfl
theorem vq_t258 : (.fieldLink R_PI 18 "BlendRows$Pile" "latestSums" "[J" : Cond) ∈ vq_G := vq_at2 (i := 18) rfl rfl
theorem vq_t260 : (.fieldLink R_PI 22 "BlendRows$Pile" "greatestSums" "[J" : Cond) ∈ vq_G := vq_at2 (i := 20) rfl rfl
theorem vq_t261 : (.fieldLink R_PI 25 "BlendRows$Pile" "greatestGrams" "[I" : Cond) ∈ vq_G := vq_at2 (i := 21) rfl rfl
theorem vq_t262 : (.fieldLink R_PI 28 "BlendRows$Pile" "leastSums" "[J" : Cond) ∈ vq_G := vq_at2 (i := 22) rfl rfl
theorem vq_t263 : (.fieldLink R_PI 31 "BlendRows$Pile" "leastGrams" "[I" : Cond) ∈ vq_G := vq_at2 (i := 23) rfl rfl
theorem vq_t291 : (.arrayClass .long : Cond) ∈ vq_G := vq_at2 (i := 51) rfl rfl
theorem vq_t299 : (.code y_BR_lay b_BR_lay 5 (some .int) : Cond) ∈ vq_G := vq_at2 (i := 59) rfl rfl
theorem vq_t300 : (.methodLink R_BR 82 y_BR_needPile : Cond) ∈ vq_G := vq_at2 (i := 60) rfl rfl
theorem vq_t302 : (.instanceMethod y_BR_needPile : Cond) ∈ vq_G := vq_at2 (i := 62) rfl rfl
theorem vq_t303 : (.code y_BR_needPile b_BR_needPile 2 (some (.object "BlendRows$Pile")) : Cond) ∈ vq_G := vq_at2 (i := 63) rfl rfl
theorem vq_t306 : (.classLink R_BR 94 "java/lang/UnsupportedOperationException" : Cond) ∈ vq_G := vq_at2 (i := 66) rfl rfl
theorem vq_t323 : (.methodLink R_BR 101 y_PI_addLayer : Cond) ∈ vq_G := vq_at2 (i := 83) rfl rfl
theorem vq_t324 : (.instanceMethod y_PI_addLayer : Cond) ∈ vq_G := vq_at2 (i := 84) rfl rfl
theorem vq_t325 : (.selects R_PI y_PI_addLayer y_PI_addLayer : Cond) ∈ vq_G := vq_at2 (i := 85) rfl rfl
theorem vq_t326 : (.code y_PI_addLayer b_PI_addLayer 5 none : Cond) ∈ vq_G := vq_at2 (i := 86) rfl rfl
theorem vq_t333 : (.code y_BR_slice b_BR_slice 3 (some .int) : Cond) ∈ vq_G := vq_at2 (i := 93) rfl rfl
theorem vq_t336 : (.methodLink R_BR 115 y_PI_takeNext : Cond) ∈ vq_G := vq_at2 (i := 96) rfl rfl
theorem vq_t337 : (.instanceMethod y_PI_takeNext : Cond) ∈ vq_G := vq_at2 (i := 97) rfl rfl
theorem vq_t338 : (.selects R_PI y_PI_takeNext y_PI_takeNext : Cond) ∈ vq_G := vq_at2 (i := 98) rfl rfl
theorem vq_t339 : (.code y_PI_takeNext b_PI_takeNext 2 none : Cond) ∈ vq_G := vq_at2 (i := 99) rfl rfl
theorem vq_t340 : (.methodLink R_PI 44 y_PI_clearLatest : Cond) ∈ vq_G := vq_at2 (i := 100) rfl rfl
theorem vq_t342 : (.instanceMethod y_PI_clearLatest : Cond) ∈ vq_G := vq_at2 (i := 102) rfl rfl
theorem vq_t343 : (.code y_PI_clearLatest b_PI_clearLatest 2 none : Cond) ∈ vq_G := vq_at2 (i := 103) rfl rfl
theorem vq_t344 : (.methodLink R_PI 47 y_PI_takeOfLayer : Cond) ∈ vq_G := vq_at2 (i := 104) rfl rfl
theorem vq_t346 : (.instanceMethod y_PI_takeOfLayer : Cond) ∈ vq_G := vq_at2 (i := 106) rfl rfl
theorem vq_t347 : (.code y_PI_takeOfLayer b_PI_takeOfLayer 4 none : Cond) ∈ vq_G := vq_at2 (i := 107) rfl rfl
theorem vq_t348 : (.methodLink R_PI 66 y_PI_gramsBefore : Cond) ∈ vq_G := vq_at2 (i := 108) rfl rfl
theorem vq_t350 : (.instanceMethod y_PI_gramsBefore : Cond) ∈ vq_G := vq_at2 (i := 110) rfl rfl
theorem vq_t351 : (.code y_PI_gramsBefore b_PI_gramsBefore 3 (some .int) : Cond) ∈ vq_G := vq_at2 (i := 111) rfl rfl
theorem vq_t352 : (.methodLink R_PI 60 y_PI_noteGreatest : Cond) ∈ vq_G := vq_at2 (i := 112) rfl rfl
theorem vq_t354 : (.instanceMethod y_PI_noteGreatest : Cond) ∈ vq_G := vq_at2 (i := 114) rfl rfl
theorem vq_t355 : (.code y_PI_noteGreatest b_PI_noteGreatest 2 none : Cond) ∈ vq_G := vq_at2 (i := 115) rfl rfl
theorem vq_t356 : (.methodLink R_PI 63 y_PI_noteLeast : Cond) ∈ vq_G := vq_at2 (i := 116) rfl rfl
theorem vq_t358 : (.instanceMethod y_PI_noteLeast : Cond) ∈ vq_G := vq_at2 (i := 118) rfl rfl
theorem vq_t359 : (.code y_PI_noteLeast b_PI_noteLeast 2 none : Cond) ∈ vq_G := vq_at2 (i := 119) rfl rfl
theorem vq_t366 : (.code y_BR_share b_BR_share 5 (some .long) : Cond) ∈ vq_G := vq_at2 (i := 126) rfl rfl
theorem vq_t367 : (.methodLink R_BR 121 y_BR_needPart : Cond) ∈ vq_G := vq_at2 (i := 127) rfl rfl
theorem vq_t368 : (.static y_BR_needPart : Cond) ∈ vq_G := vq_at2 (i := 128) rfl rfl
theorem vq_t369 : (.code y_BR_needPart b_BR_needPart 1 none : Cond) ∈ vq_G := vq_at2 (i := 129) rfl rfl
theorem vq_t371 : (.methodLink R_BR 124 y_BR_needTaken : Cond) ∈ vq_G := vq_at2 (i := 131) rfl rfl
theorem vq_t372 : (.static y_BR_needTaken : Cond) ∈ vq_G := vq_at2 (i := 132) rfl rfl
theorem vq_t373 : (.code y_BR_needTaken b_BR_needTaken 1 none : Cond) ∈ vq_G := vq_at2 (i := 133) rfl rfl
theorem vq_t376 : (.methodLink R_BR 134 y_BR_lowestTerms : Cond) ∈ vq_G := vq_at2 (i := 136) rfl rfl
theorem vq_t377 : (.static y_BR_lowestTerms : Cond) ∈ vq_G := vq_at2 (i := 137) rfl rfl
theorem vq_t378 : (.code y_BR_lowestTerms b_BR_lowestTerms 9 (some .long) : Cond) ∈ vq_G := vq_at2 (i := 138) rfl rfl
theorem vq_t379 : (.methodLink R_BR 205 y_BR_commonDivisor : Cond) ∈ vq_G := vq_at2 (i := 139) rfl rfl
theorem vq_t380 : (.static y_BR_commonDivisor : Cond) ∈ vq_G := vq_at2 (i := 140) rfl rfl
theorem vq_t381 : (.code y_BR_commonDivisor b_BR_commonDivisor 11 (some .long) : Cond) ∈ vq_G := vq_at2 (i := 141) rfl rfl
theorem vq_t382 : (.methodLink R_BR 209 Lib.MathLoose.abs_long.x : Cond) ∈ vq_G := vq_at2 (i := 142) rfl rfl
theorem vq_t383 : (.static Lib.MathLoose.abs_long.x : Cond) ∈ vq_G := vq_at2 (i := 143) rfl rfl
theorem vq_t384 : (.code Lib.MathLoose.abs_long.x Lib.MathLoose.abs_long.code 2 (some .long) : Cond) ∈ vq_G := vq_at2 (i := 144) rfl rfl
theorem vq_t391 : (.code y_BR_basicity b_BR_basicity 4 (some .long) : Cond) ∈ vq_G := vq_at2 (i := 151) rfl rfl
theorem vq_t399 : (.code y_BR_spread b_BR_spread 5 (some .long) : Cond) ∈ vq_G := vq_at2 (i := 159) rfl rfl
theorem vq_t401 : (.methodLink R_BR 145 y_PI_spreadUpper : Cond) ∈ vq_G := vq_at2 (i := 161) rfl rfl
theorem vq_t402 : (.instanceMethod y_PI_spreadUpper : Cond) ∈ vq_G := vq_at2 (i := 162) rfl rfl
theorem vq_t403 : (.selects R_PI y_PI_spreadUpper y_PI_spreadUpper : Cond) ∈ vq_G := vq_at2 (i := 163) rfl rfl
theorem vq_t404 : (.code y_PI_spreadUpper b_PI_spreadUpper 2 (some .long) : Cond) ∈ vq_G := vq_at2 (i := 164) rfl rfl
theorem vq_t405 : (.methodLink R_BR 149 y_PI_spreadLower : Cond) ∈ vq_G := vq_at2 (i := 165) rfl rfl
theorem vq_t406 : (.instanceMethod y_PI_spreadLower : Cond) ∈ vq_G := vq_at2 (i := 166) rfl rfl
theorem vq_t407 : (.selects R_PI y_PI_spreadLower y_PI_spreadLower : Cond) ∈ vq_G := vq_at2 (i := 167) rfl rfl
theorem vq_t408 : (.code y_PI_spreadLower b_PI_spreadLower 2 (some .long) : Cond) ∈ vq_G := vq_at2 (i := 168) rfl rfl
theorem vq_t415 : (.code y_BR_pileAt b_BR_pileAt 4 (some .int) : Cond) ∈ vq_G := vq_at2 (i := 175) rfl rfl
theorem vq_t423 : (.code y_BR_mix b_BR_mix 8 (some .long) : Cond) ∈ vq_G := vq_at2 (i := 183) rfl rfl
theorem vq_t425 : (.methodLink R_BR 159 Lib.Math.min.name : Cond) ∈ vq_G := vq_at2 (i := 185) rfl rfl
theorem vq_t426 : (.static Lib.Math.min.name : Cond) ∈ vq_G := vq_at2 (i := 186) rfl rfl
theorem vq_t427 : (.code Lib.Math.min.name Lib.Math.min.code 2 (some .int) : Cond) ∈ vq_G := vq_at2 (i := 187) rfl rfl
theorem vq_t428 : (.methodLink R_BR 164 Lib.Math.max.name : Cond) ∈ vq_G := vq_at2 (i := 188) rfl rfl
theorem vq_t429 : (.static Lib.Math.max.name : Cond) ∈ vq_G := vq_at2 (i := 189) rfl rfl
theorem vq_t430 : (.code Lib.Math.max.name Lib.Math.max.code 2 (some .int) : Cond) ∈ vq_G := vq_at2 (i := 190) rfl rfl
theorem vq_t438 : (.code y_BR_point b_BR_point 3 (some .int) : Cond) ∈ vq_G := vq_at2 (i := 198) rfl rfl
theorem vq_t440 : (.methodLink R_BR 174 y_LI_addPoint : Cond) ∈ vq_G := vq_at2 (i := 200) rfl rfl
theorem vq_t441 : (.instanceMethod y_LI_addPoint : Cond) ∈ vq_G := vq_at2 (i := 201) rfl rfl
theorem vq_t442 : (.selects R_LI y_LI_addPoint y_LI_addPoint : Cond) ∈ vq_G := vq_at2 (i := 202) rfl rfl
theorem vq_t443 : (.code y_LI_addPoint b_LI_addPoint 3 none : Cond) ∈ vq_G := vq_at2 (i := 203) rfl rfl
theorem vq_t450 : (.code y_BR_fit b_BR_fit 5 (some .long) : Cond) ∈ vq_G := vq_at2 (i := 210) rfl rfl
theorem vq_t451 : (.methodLink R_BR 178 y_LI_lower : Cond) ∈ vq_G := vq_at2 (i := 211) rfl rfl
theorem vq_t452 : (.instanceMethod y_LI_lower : Cond) ∈ vq_G := vq_at2 (i := 212) rfl rfl
theorem vq_t453 : (.selects R_LI y_LI_lower y_LI_lower : Cond) ∈ vq_G := vq_at2 (i := 213) rfl rfl
theorem vq_t454 : (.code y_LI_lower b_LI_lower 1 (some .long) : Cond) ∈ vq_G := vq_at2 (i := 214) rfl rfl
theorem vq_t456 : (.methodLink R_BR 184 y_LI_slopeUpper : Cond) ∈ vq_G := vq_at2 (i := 216) rfl rfl
theorem vq_t457 : (.instanceMethod y_LI_slopeUpper : Cond) ∈ vq_G := vq_at2 (i := 217) rfl rfl
theorem vq_t458 : (.selects R_LI y_LI_slopeUpper y_LI_slopeUpper : Cond) ∈ vq_G := vq_at2 (i := 218) rfl rfl
theorem vq_t459 : (.code y_LI_slopeUpper b_LI_slopeUpper 1 (some .long) : Cond) ∈ vq_G := vq_at2 (i := 219) rfl rfl
theorem vq_t460 : (.methodLink R_BR 187 y_LI_heightUpper : Cond) ∈ vq_G := vq_at2 (i := 220) rfl rfl
theorem vq_t461 : (.instanceMethod y_LI_heightUpper : Cond) ∈ vq_G := vq_at2 (i := 221) rfl rfl
theorem vq_t462 : (.selects R_LI y_LI_heightUpper y_LI_heightUpper : Cond) ∈ vq_G := vq_at2 (i := 222) rfl rfl
theorem vq_t463 : (.code y_LI_heightUpper b_LI_heightUpper 1 (some .long) : Cond) ∈ vq_G := vq_at2 (i := 223) rfl rfl
theorem vq_t470 : (.code y_BR_tick b_BR_tick 2 (some .int) : Cond) ∈ vq_G := vq_at2 (i := 230) rfl rfl
theorem vq_t472 : (.instantiable R_MO 22 : Cond) ∈ vq_G := vq_at2 (i := 232) rfl rfl
theorem vq_t475 : (.code y_MO_init b_MO_init 1 none : Cond) ∈ vq_G := vq_at2 (i := 235) rfl rfl
theorem vq_t547 : (.code y_MO_thrown b_MO_thrown 1 (some .int) : Cond) ∈ vq_G := vq_at3 (i := 67) rfl rfl
theorem vq_t551 : (.code y_MO_moisture b_MO_moisture 3 none : Cond) ∈ vq_G := vq_at3 (i := 71) rfl rfl
theorem vq_t554 : (.code y_MO_isMaterial b_MO_isMaterial 1 (some .boolean) : Cond) ∈ vq_G := vq_at3 (i := 74) rfl rfl
theorem vq_t557 : (.code y_MO_in b_MO_in 3 (some .boolean) : Cond) ∈ vq_G := vq_at3 (i := 77) rfl rfl
theorem vq_t561 : (.code y_MO_throwing b_MO_throwing 5 (some .boolean) : Cond) ∈ vq_G := vq_at3 (i := 81) rfl rfl
theorem vq_t565 : (.code y_MO_element b_MO_element 4 none : Cond) ∈ vq_G := vq_at3 (i := 85) rfl rfl
theorem vq_t568 : (.code y_MO_isElement b_MO_isElement 1 (some .boolean) : Cond) ∈ vq_G := vq_at3 (i := 88) rfl rfl
theorem vq_t572 : (.code y_MO_ship b_MO_ship 6 (some .int) : Cond) ∈ vq_G := vq_at3 (i := 92) rfl rfl
theorem vq_t576 : (.code y_MO_stock b_MO_stock 2 (some .int) : Cond) ∈ vq_G := vq_at3 (i := 96) rfl rfl
theorem vq_t580 : (.code y_MO_stockOf b_MO_stockOf 4 (some .int) : Cond) ∈ vq_G := vq_at3 (i := 100) rfl rfl
theorem vq_t584 : (.code y_MO_pile b_MO_pile 2 (some .int) : Cond) ∈ vq_G := vq_at3 (i := 104) rfl rfl
theorem vq_t589 : (.code y_MO_lay b_MO_lay 9 (some .int) : Cond) ∈ vq_G := vq_at3 (i := 109) rfl rfl
theorem vq_t593 : (.code y_MO_isPile b_MO_isPile 2 (some .boolean) : Cond) ∈ vq_G := vq_at3 (i := 113) rfl rfl
theorem vq_t597 : (.code y_MO_gramsOf b_MO_gramsOf 4 (some .int) : Cond) ∈ vq_G := vq_at3 (i := 117) rfl rfl
theorem vq_t601 : (.code y_MO_slice b_MO_slice 7 (some .int) : Cond) ∈ vq_G := vq_at3 (i := 121) rfl rfl
theorem vq_t605 : (.code y_MO_gramsIn b_MO_gramsIn 6 (some .long) : Cond) ∈ vq_G := vq_at3 (i := 125) rfl rfl
theorem vq_t609 : (.code y_MO_takes b_MO_takes 4 (some .long) : Cond) ∈ vq_G := vq_at3 (i := 129) rfl rfl
theorem vq_t613 : (.code y_MO_ahead b_MO_ahead 5 (some .long) : Cond) ∈ vq_G := vq_at3 (i := 133) rfl rfl
theorem vq_t617 : (.code y_MO_heldIn b_MO_heldIn 7 (some .long) : Cond) ∈ vq_G := vq_at3 (i := 137) rfl rfl
theorem vq_t621 : (.code y_MO_spreadBy b_MO_spreadBy 12 none : Cond) ∈ vq_G := vq_at3 (i := 141) rfl rfl
theorem vq_t624 : (.code y_MO_partOf b_MO_partOf 13 (some .long) : Cond) ∈ vq_G := vq_at3 (i := 144) rfl rfl
theorem vq_t629 : (.code y_MO_share b_MO_share 8 (some .long) : Cond) ∈ vq_G := vq_at3 (i := 149) rfl rfl
theorem vq_t632 : (.code y_MO_isPart b_MO_isPart 1 (some .boolean) : Cond) ∈ vq_G := vq_at3 (i := 152) rfl rfl
theorem vq_t636 : (.code y_MO_isUntaken b_MO_isUntaken 2 (some .boolean) : Cond) ∈ vq_G := vq_at3 (i := 156) rfl rfl
theorem vq_t640 : (.code y_MO_basicity b_MO_basicity 7 (some .long) : Cond) ∈ vq_G := vq_at3 (i := 160) rfl rfl
theorem vq_t644 : (.code y_MO_spread b_MO_spread 6 (some .long) : Cond) ∈ vq_G := vq_at3 (i := 164) rfl rfl
theorem vq_t648 : (.code y_MO_pileAt b_MO_pileAt 6 (some .int) : Cond) ∈ vq_G := vq_at3 (i := 168) rfl rfl
theorem vq_t652 : (.code y_MO_mix b_MO_mix 10 (some .long) : Cond) ∈ vq_G := vq_at3 (i := 172) rfl rfl
theorem vq_t656 : (.code y_MO_point b_MO_point 3 (some .int) : Cond) ∈ vq_G := vq_at3 (i := 176) rfl rfl
theorem vq_t660 : (.code y_MO_fit b_MO_fit 13 (some .long) : Cond) ∈ vq_G := vq_at3 (i := 180) rfl rfl
theorem vq_t664 : (.code y_MO_tick b_MO_tick 2 (some .int) : Cond) ∈ vq_G := vq_at3 (i := 184) rfl rfl
theorem vq_arrI : (.arrayClass .int : Cond) ∈ vq_G := vq_t46
theorem vq_arrJ : (.arrayClass .long : Cond) ∈ vq_G := vq_t291
theorem wOI_inst : (.instanceMethod objectInit : Cond) ∈ vq_G := vq_t19
theorem wOI_code : (.code objectInit ⟨#[0xb1]⟩ 1 none : Cond) ∈ vq_G := vq_t20
theorem vq_sub {ws : List Cond} (h1 : ∀ w ∈ ws, w ∈ lw_tbl) (h2 : ∀ w ∈ ws, goodWord w = true) : ∀ w ∈ ws, w ∈ vq_G := fun w h => List.mem_filter.mpr ⟨h1 w h, h2 w h⟩
theorem i_BR : ∀ w ∈ u_ws R_BR F_BR 11, w ∈ vq_G := vq_sub (by decide +kernel) (by decide +kernel)
theorem i_PI : ∀ w ∈ u_ws R_PI F_PI 13, w ∈ vq_G := vq_sub (by decide +kernel) (by decide +kernel)
theorem i_LI : ∀ w ∈ u_ws R_LI F_LI 5, w ∈ vq_G := vq_sub (by decide +kernel) (by decide +kernel)
theorem i_MO : ∀ w ∈ u_ws R_MO F_MO 22, w ∈ vq_G := vq_sub (by decide +kernel) (by decide +kernel)
abbrev w_BR_init : List Cond := .code y_BR_init b_BR_init 1 none :: vq_G
abbrev w_BR_moisture : List Cond := .code y_BR_moisture b_BR_moisture 3 none :: vq_G
abbrev w_BR_element : List Cond := .code y_BR_element b_BR_element 4 none :: vq_G
abbrev w_BR_ship : List Cond := .code y_BR_ship b_BR_ship 6 (some .int) :: vq_G
abbrev w_BR_stock : List Cond := .code y_BR_stock b_BR_stock 2 (some .int) :: vq_G
abbrev w_BR_pile : List Cond := .code y_BR_pile b_BR_pile 3 (some .int) :: vq_G
abbrev w_BR_lay : List Cond := .code y_BR_lay b_BR_lay 5 (some .int) :: vq_G
abbrev w_BR_slice : List Cond := .code y_BR_slice b_BR_slice 3 (some .int) :: vq_G
abbrev w_BR_share : List Cond := .code y_BR_share b_BR_share 5 (some .long) :: vq_G
abbrev w_BR_basicity : List Cond := .code y_BR_basicity b_BR_basicity 4 (some .long) :: vq_G
abbrev w_BR_spread : List Cond := .code y_BR_spread b_BR_spread 5 (some .long) :: vq_G
abbrev w_BR_pileAt : List Cond := .code y_BR_pileAt b_BR_pileAt 4 (some .int) :: vq_G
abbrev w_BR_mix : List Cond := .code y_BR_mix b_BR_mix 8 (some .long) :: vq_G
abbrev w_BR_point : List Cond := .code y_BR_point b_BR_point 3 (some .int) :: vq_G
abbrev w_BR_fit : List Cond := .code y_BR_fit b_BR_fit 5 (some .long) :: vq_G
abbrev w_BR_tick : List Cond := .code y_BR_tick b_BR_tick 2 (some .int) :: vq_G
abbrev w_BR_needMaterial : List Cond := .code y_BR_needMaterial b_BR_needMaterial 1 none :: vq_G
abbrev w_BR_needElement : List Cond := .code y_BR_needElement b_BR_needElement 1 none :: vq_G
abbrev w_BR_needPart : List Cond := .code y_BR_needPart b_BR_needPart 1 none :: vq_G
abbrev w_BR_needRange : List Cond := .code y_BR_needRange b_BR_needRange 3 none :: vq_G
abbrev w_BR_needTaken : List Cond := .code y_BR_needTaken b_BR_needTaken 1 none :: vq_G
abbrev w_BR_needPile : List Cond := .code y_BR_needPile b_BR_needPile 2 (some (.object "BlendRows$Pile")) :: vq_G
abbrev w_BR_lostKilos : List Cond := .code y_BR_lostKilos b_BR_lostKilos 2 (some .int) :: vq_G
abbrev w_BR_stockOf : List Cond := .code y_BR_stockOf b_BR_stockOf 4 (some .int) :: vq_G
abbrev w_BR_lowestTerms : List Cond := .code y_BR_lowestTerms b_BR_lowestTerms 9 (some .long) :: vq_G
abbrev w_BR_commonDivisor : List Cond := .code y_BR_commonDivisor b_BR_commonDivisor 11 (some .long) :: vq_G
abbrev w_PI_init : List Cond := .code y_PI_init b_PI_init 2 none :: vq_G
abbrev w_PI_addLayer : List Cond := .code y_PI_addLayer b_PI_addLayer 5 none :: vq_G
abbrev w_PI_takeNext : List Cond := .code y_PI_takeNext b_PI_takeNext 2 none :: vq_G
abbrev w_PI_clearLatest : List Cond := .code y_PI_clearLatest b_PI_clearLatest 2 none :: vq_G
abbrev w_PI_takeOfLayer : List Cond := .code y_PI_takeOfLayer b_PI_takeOfLayer 4 none :: vq_G
abbrev w_PI_gramsBefore : List Cond := .code y_PI_gramsBefore b_PI_gramsBefore 3 (some .int) :: vq_G
abbrev w_PI_noteGreatest : List Cond := .code y_PI_noteGreatest b_PI_noteGreatest 2 none :: vq_G
abbrev w_PI_noteLeast : List Cond := .code y_PI_noteLeast b_PI_noteLeast 2 none :: vq_G
abbrev w_PI_spreadUpper : List Cond := .code y_PI_spreadUpper b_PI_spreadUpper 2 (some .long) :: vq_G
abbrev w_PI_spreadLower : List Cond := .code y_PI_spreadLower b_PI_spreadLower 2 (some .long) :: vq_G
abbrev w_LI_init : List Cond := .code y_LI_init b_LI_init 1 none :: vq_G
abbrev w_LI_addPoint : List Cond := .code y_LI_addPoint b_LI_addPoint 3 none :: vq_G
abbrev w_LI_slopeUpper : List Cond := .code y_LI_slopeUpper b_LI_slopeUpper 1 (some .long) :: vq_G
abbrev w_LI_heightUpper : List Cond := .code y_LI_heightUpper b_LI_heightUpper 1 (some .long) :: vq_G
abbrev w_LI_lower : List Cond := .code y_LI_lower b_LI_lower 1 (some .long) :: vq_G
abbrev w_MO_init : List Cond := .code y_MO_init b_MO_init 1 none :: vq_G
abbrev w_MO_thrown : List Cond := .code y_MO_thrown b_MO_thrown 1 (some .int) :: vq_G
abbrev w_MO_throwing : List Cond := .code y_MO_throwing b_MO_throwing 5 (some .boolean) :: vq_G
abbrev w_MO_in : List Cond := .code y_MO_in b_MO_in 3 (some .boolean) :: vq_G
abbrev w_MO_isMaterial : List Cond := .code y_MO_isMaterial b_MO_isMaterial 1 (some .boolean) :: vq_G
abbrev w_MO_isElement : List Cond := .code y_MO_isElement b_MO_isElement 1 (some .boolean) :: vq_G
abbrev w_MO_isPart : List Cond := .code y_MO_isPart b_MO_isPart 1 (some .boolean) :: vq_G
abbrev w_MO_isPile : List Cond := .code y_MO_isPile b_MO_isPile 2 (some .boolean) :: vq_G
abbrev w_MO_partOf : List Cond := .code y_MO_partOf b_MO_partOf 13 (some .long) :: vq_G
abbrev w_MO_moisture : List Cond := .code y_MO_moisture b_MO_moisture 3 none :: vq_G
abbrev w_MO_element : List Cond := .code y_MO_element b_MO_element 4 none :: vq_G
abbrev w_MO_ship : List Cond := .code y_MO_ship b_MO_ship 6 (some .int) :: vq_G
abbrev w_MO_stockOf : List Cond := .code y_MO_stockOf b_MO_stockOf 4 (some .int) :: vq_G
abbrev w_MO_stock : List Cond := .code y_MO_stock b_MO_stock 2 (some .int) :: vq_G
abbrev w_MO_pile : List Cond := .code y_MO_pile b_MO_pile 2 (some .int) :: vq_G
abbrev w_MO_gramsOf : List Cond := .code y_MO_gramsOf b_MO_gramsOf 4 (some .int) :: vq_G
abbrev w_MO_lay : List Cond := .code y_MO_lay b_MO_lay 9 (some .int) :: vq_G
abbrev w_MO_ahead : List Cond := .code y_MO_ahead b_MO_ahead 5 (some .long) :: vq_G
abbrev w_MO_takes : List Cond := .code y_MO_takes b_MO_takes 4 (some .long) :: vq_G
abbrev w_MO_gramsIn : List Cond := .code y_MO_gramsIn b_MO_gramsIn 6 (some .long) :: vq_G
abbrev w_MO_heldIn : List Cond := .code y_MO_heldIn b_MO_heldIn 7 (some .long) :: vq_G
abbrev w_MO_spreadBy : List Cond := .code y_MO_spreadBy b_MO_spreadBy 12 none :: vq_G
abbrev w_MO_slice : List Cond := .code y_MO_slice b_MO_slice 7 (some .int) :: vq_G
abbrev w_MO_isUntaken : List Cond := .code y_MO_isUntaken b_MO_isUntaken 2 (some .boolean) :: vq_G
abbrev w_MO_share : List Cond := .code y_MO_share b_MO_share 8 (some .long) :: vq_G
abbrev w_MO_basicity : List Cond := .code y_MO_basicity b_MO_basicity 7 (some .long) :: vq_G
abbrev w_MO_spread : List Cond := .code y_MO_spread b_MO_spread 6 (some .long) :: vq_G
abbrev w_MO_pileAt : List Cond := .code y_MO_pileAt b_MO_pileAt 6 (some .int) :: vq_G
abbrev w_MO_mix : List Cond := .code y_MO_mix b_MO_mix 10 (some .long) :: vq_G
abbrev w_MO_point : List Cond := .code y_MO_point b_MO_point 3 (some .int) :: vq_G
abbrev w_MO_fit : List Cond := .code y_MO_fit b_MO_fit 13 (some .long) :: vq_G
abbrev w_MO_tick : List Cond := .code y_MO_tick b_MO_tick 2 (some .int) :: vq_G
abbrev vq_NF : List (String × Nat × String × String × String × String) := [(R_BR, 86, "BlendRows$Pile", "taken", "I", "BlendRows"), (R_BR, 91, "BlendRows$Pile", "layers", "I", "BlendRows"), (R_BR, 105, "BlendRows$Pile", "grams", "I", "BlendRows"), (R_BR, 110, "BlendRows$Pile", "slices", "I", "BlendRows"), (R_BR, 118, "BlendRows$Pile", "latestGrams", "I", "BlendRows"), (R_BR, 130, "BlendRows$Pile", "latestSums", "[J", "BlendRows"), (R_BR, 140, "BlendRows$Pile", "gramsTaken", "I", "BlendRows"), (R_BR, 169, "BlendRows$Line", "count", "I", "BlendRows")]
theorem vq_nf0 : (R_BR, 86, "BlendRows$Pile", "taken", "I", "BlendRows") ∈ vq_NF := List.mem_of_getElem? (i := 0) rfl
theorem vq_nf1 : (R_BR, 91, "BlendRows$Pile", "layers", "I", "BlendRows") ∈ vq_NF := List.mem_of_getElem? (i := 1) rfl
theorem vq_nf2 : (R_BR, 105, "BlendRows$Pile", "grams", "I", "BlendRows") ∈ vq_NF := List.mem_of_getElem? (i := 2) rfl
theorem vq_nf3 : (R_BR, 110, "BlendRows$Pile", "slices", "I", "BlendRows") ∈ vq_NF := List.mem_of_getElem? (i := 3) rfl
theorem vq_nf4 : (R_BR, 118, "BlendRows$Pile", "latestGrams", "I", "BlendRows") ∈ vq_NF := List.mem_of_getElem? (i := 4) rfl
theorem vq_nf5 : (R_BR, 130, "BlendRows$Pile", "latestSums", "[J", "BlendRows") ∈ vq_NF := List.mem_of_getElem? (i := 5) rfl
theorem vq_nf6 : (R_BR, 140, "BlendRows$Pile", "gramsTaken", "I", "BlendRows") ∈ vq_NF := List.mem_of_getElem? (i := 6) rfl
theorem vq_nf7 : (R_BR, 169, "BlendRows$Line", "count", "I", "BlendRows") ∈ vq_NF := List.mem_of_getElem? (i := 7) rfl
abbrev vq_NM : List (String × Nat × MethodName × String) := [(R_BR, 36, y_LI_init, "BlendRows")]
theorem vq_nm0 : (R_BR, 36, y_LI_init, "BlendRows") ∈ vq_NM := List.mem_of_getElem? (i := 0) rfl
abbrev vq_SW : List (String × Nat × String) := [(R_BR, 190, "no such material"), (R_BR, 192, "no such element"), (R_BR, 194, "no such part"), (R_BR, 198, "out of range"), (R_BR, 201, "no slice was taken"), (R_BR, 203, "no such pile"), (R_BR, 58, "no more ships"), (R_BR, 77, "no more piles"), (R_BR, 99, "the stock is less"), (R_BR, 96, "no more layers"), (R_BR, 89, "a slice was taken"), (R_BR, 113, "all slices were taken"), (R_BR, 108, "no layers"), (R_BR, 128, "the slice had no grams"), (R_BR, 138, "nothing of element 1"), (R_BR, 143, "no slice with grams was taken"), (R_BR, 154, "no such what"), (R_BR, 167, "no such mix"), (R_BR, 157, "the materials are one"), (R_BR, 172, "no more points"), (R_BR, 182, "no such line")]
theorem vq_sw0 : (R_BR, 190, "no such material") ∈ vq_SW := List.mem_of_getElem? (i := 0) rfl
theorem vq_sw1 : (R_BR, 192, "no such element") ∈ vq_SW := List.mem_of_getElem? (i := 1) rfl
theorem vq_sw2 : (R_BR, 194, "no such part") ∈ vq_SW := List.mem_of_getElem? (i := 2) rfl
theorem vq_sw3 : (R_BR, 198, "out of range") ∈ vq_SW := List.mem_of_getElem? (i := 3) rfl
theorem vq_sw4 : (R_BR, 201, "no slice was taken") ∈ vq_SW := List.mem_of_getElem? (i := 4) rfl
theorem vq_sw5 : (R_BR, 203, "no such pile") ∈ vq_SW := List.mem_of_getElem? (i := 5) rfl
theorem vq_sw6 : (R_BR, 58, "no more ships") ∈ vq_SW := List.mem_of_getElem? (i := 6) rfl
theorem vq_sw7 : (R_BR, 77, "no more piles") ∈ vq_SW := List.mem_of_getElem? (i := 7) rfl
theorem vq_sw8 : (R_BR, 99, "the stock is less") ∈ vq_SW := List.mem_of_getElem? (i := 8) rfl
theorem vq_sw9 : (R_BR, 96, "no more layers") ∈ vq_SW := List.mem_of_getElem? (i := 9) rfl
theorem vq_sw10 : (R_BR, 89, "a slice was taken") ∈ vq_SW := List.mem_of_getElem? (i := 10) rfl
theorem vq_sw11 : (R_BR, 113, "all slices were taken") ∈ vq_SW := List.mem_of_getElem? (i := 11) rfl
theorem vq_sw12 : (R_BR, 108, "no layers") ∈ vq_SW := List.mem_of_getElem? (i := 12) rfl
theorem vq_sw13 : (R_BR, 128, "the slice had no grams") ∈ vq_SW := List.mem_of_getElem? (i := 13) rfl
theorem vq_sw14 : (R_BR, 138, "nothing of element 1") ∈ vq_SW := List.mem_of_getElem? (i := 14) rfl
theorem vq_sw15 : (R_BR, 143, "no slice with grams was taken") ∈ vq_SW := List.mem_of_getElem? (i := 15) rfl
theorem vq_sw16 : (R_BR, 154, "no such what") ∈ vq_SW := List.mem_of_getElem? (i := 16) rfl
theorem vq_sw17 : (R_BR, 167, "no such mix") ∈ vq_SW := List.mem_of_getElem? (i := 17) rfl
theorem vq_sw18 : (R_BR, 157, "the materials are one") ∈ vq_SW := List.mem_of_getElem? (i := 18) rfl
theorem vq_sw19 : (R_BR, 172, "no more points") ∈ vq_SW := List.mem_of_getElem? (i := 19) rfl
theorem vq_sw20 : (R_BR, 182, "no such line") ∈ vq_SW := List.mem_of_getElem? (i := 20) rfl
abbrev vq_AO : List String := ["BlendRows$Pile"]
theorem vq_gL {ws : List Cond} (h : ∀ w ∈ ws, w ∈ vq_G) : GoodIn vq_G ws := fun w hw => ⟨h w hw, good_of_word (List.mem_filter.mp (h w hw)).2⟩
theorem vq_gI {c : Cond} (h : c ∈ vq_G) : GoodIn vq_G (c :: vq_G) := vq_gL (List.forall_mem_cons.mpr ⟨h, fun _ h => h⟩)
theorem vq_gS {own : String} {i : Nat} {y : MethodName} {b : ByteArray} {n : Nat} {r : Option FieldType} (h1 : Cond.methodLink own i y ∈ vq_G) (h2 : Cond.static y ∈ vq_G) (h3 : Cond.initialized own ∈ vq_G) (h4 : Cond.code y b n r ∈ vq_G) : GoodIn vq_G (wsS own i y (.code y b n r :: vq_G)) :=
  vq_gL (List.forall_mem_append.mpr ⟨List.forall_mem_cons.mpr ⟨h1, List.forall_mem_cons.mpr ⟨h2, List.forall_mem_cons.mpr ⟨h3, fun _ h => absurd h List.not_mem_nil⟩⟩⟩, List.forall_mem_cons.mpr ⟨h4, fun _ h => h⟩⟩)
theorem vq_gV {own C : String} {i : Nat} {y : MethodName} {b : ByteArray} {n : Nat} {r : Option FieldType} (h1 : Cond.methodLink own i y ∈ vq_G) (h2 : Cond.instanceMethod y ∈ vq_G) (h3 : Cond.selects C y y ∈ vq_G) (h5 : Cond.initialized C ∈ vq_G) (h4 : Cond.code y b n r ∈ vq_G) : GoodIn vq_G (wsV own i C y (.code y b n r :: vq_G)) :=
  vq_gL (List.forall_mem_append.mpr ⟨List.forall_mem_cons.mpr ⟨h1, List.forall_mem_cons.mpr ⟨h2, List.forall_mem_cons.mpr ⟨h3, List.forall_mem_cons.mpr ⟨h5, fun _ h => absurd h List.not_mem_nil⟩⟩⟩⟩, List.forall_mem_cons.mpr ⟨h4, fun _ h => h⟩⟩)
theorem vq_hG {c : Cond} {args : Array Value} {s : State} (h : ∀ w ∈ (c :: vq_G), w.before args s = true) : ∀ w ∈ vq_G, w.before args s = true := fun w hw => h w (List.mem_cons_of_mem _ hw)
abbrev vq_E : List String := ["java/lang/IndexOutOfBoundsException", "java/lang/IllegalStateException", "java/lang/IllegalArgumentException", "java/lang/UnsupportedOperationException"]
abbrev vq_DE : List MethodName := [⟨"java/lang/RuntimeException", "<init>", "(Ljava/lang/String;)V"⟩, ⟨"java/lang/Exception", "<init>", "(Ljava/lang/String;)V"⟩, ⟨"java/lang/Throwable", "<init>", "(Ljava/lang/String;)V"⟩]
abbrev vq_N : List String := ["java/lang/RuntimeException", "java/lang/Exception"]
theorem vq_ax0 : ∀ w ∈ (vx_atS R_BR 156 "java/lang/IndexOutOfBoundsException" vq_N).filter goodWord, w ∈ vq_G := vq_sub (by decide +kernel) (by decide +kernel)
theorem vq_ay0 : ∀ w ∈ (vx_atS R_BR 156 "java/lang/IndexOutOfBoundsException" vq_N).filter (fun w => !goodWord w), w ∈ (Cond.castable "java/lang/IndexOutOfBoundsException" "java/lang/IndexOutOfBoundsException" :: vq_DE.map Cond.declares) := by decide +kernel
theorem vq_ao0 : ∀ w ∈ vx_atS R_BR 156 "java/lang/IndexOutOfBoundsException" vq_N, vx_ot w = true := by decide +kernel
theorem vq_ax1 : ∀ w ∈ (vx_atS R_BR 200 "java/lang/IllegalArgumentException" vq_N).filter goodWord, w ∈ vq_G := vq_sub (by decide +kernel) (by decide +kernel)
theorem vq_ay1 : ∀ w ∈ (vx_atS R_BR 200 "java/lang/IllegalArgumentException" vq_N).filter (fun w => !goodWord w), w ∈ (Cond.castable "java/lang/IllegalArgumentException" "java/lang/IllegalArgumentException" :: vq_DE.map Cond.declares) := by decide +kernel
theorem vq_ao1 : ∀ w ∈ vx_atS R_BR 200 "java/lang/IllegalArgumentException" vq_N, vx_ot w = true := by decide +kernel
theorem vq_ax2 : ∀ w ∈ (vx_atS R_BR 60 "java/lang/IllegalStateException" vq_N).filter goodWord, w ∈ vq_G := vq_sub (by decide +kernel) (by decide +kernel)
theorem vq_ay2 : ∀ w ∈ (vx_atS R_BR 60 "java/lang/IllegalStateException" vq_N).filter (fun w => !goodWord w), w ∈ (Cond.castable "java/lang/IllegalStateException" "java/lang/IllegalStateException" :: vq_DE.map Cond.declares) := by decide +kernel
theorem vq_ao2 : ∀ w ∈ vx_atS R_BR 60 "java/lang/IllegalStateException" vq_N, vx_ot w = true := by decide +kernel
theorem vq_ax3 : ∀ w ∈ (vx_atS R_BR 98 "java/lang/UnsupportedOperationException" vq_N).filter goodWord, w ∈ vq_G := vq_sub (by decide +kernel) (by decide +kernel)
theorem vq_ay3 : ∀ w ∈ (vx_atS R_BR 98 "java/lang/UnsupportedOperationException" vq_N).filter (fun w => !goodWord w), w ∈ (Cond.castable "java/lang/UnsupportedOperationException" "java/lang/UnsupportedOperationException" :: vq_DE.map Cond.declares) := by decide +kernel
theorem vq_ao3 : ∀ w ∈ vx_atS R_BR 98 "java/lang/UnsupportedOperationException" vq_N, vx_ot w = true := by decide +kernel
/-- the words of a place that throws -/
def vq_TW (own : String) (ik is ic : Nat) (cls text : String) : Prop :=
  Cond.classLink own ik cls ∈ vq_G ∧ Cond.initialized cls ∈ vq_G ∧ (own, is, text) ∈ vq_SW ∧ (∀ w ∈ (vx_atS own ic cls vq_N).filter goodWord, w ∈ vq_G) ∧ (∀ w ∈ (vx_atS own ic cls vq_N).filter (fun w => !goodWord w), w ∈ (Cond.castable cls cls :: vq_DE.map Cond.declares)) ∧ (∀ w ∈ Cond.classLink own ik cls :: Cond.initialized cls :: vx_atS own ic cls vq_N, vx_ot w = true) ∧ Bundle.fit cls = true ∧ cls ∈ vq_E
theorem vq_tw0 : vq_TW R_BR 152 190 156 "java/lang/IndexOutOfBoundsException" "no such material" := ⟨vq_t93, vq_t7, vq_sw0, vq_ax0, vq_ay0, List.forall_mem_cons.mpr ⟨rfl, List.forall_mem_cons.mpr ⟨rfl, vq_ao0⟩⟩, by decide +kernel, by decide +kernel⟩
theorem vq_tw1 : vq_TW R_BR 152 192 156 "java/lang/IndexOutOfBoundsException" "no such element" := ⟨vq_t93, vq_t7, vq_sw1, vq_ax0, vq_ay0, List.forall_mem_cons.mpr ⟨rfl, List.forall_mem_cons.mpr ⟨rfl, vq_ao0⟩⟩, by decide +kernel, by decide +kernel⟩
theorem vq_tw2 : vq_TW R_BR 152 194 156 "java/lang/IndexOutOfBoundsException" "no such part" := ⟨vq_t93, vq_t7, vq_sw2, vq_ax0, vq_ay0, List.forall_mem_cons.mpr ⟨rfl, List.forall_mem_cons.mpr ⟨rfl, vq_ao0⟩⟩, by decide +kernel, by decide +kernel⟩
theorem vq_tw3 : vq_TW R_BR 196 198 200 "java/lang/IllegalArgumentException" "out of range" := ⟨vq_t165, vq_t8, vq_sw3, vq_ax1, vq_ay1, List.forall_mem_cons.mpr ⟨rfl, List.forall_mem_cons.mpr ⟨rfl, vq_ao1⟩⟩, by decide +kernel, by decide +kernel⟩
theorem vq_tw4 : vq_TW R_BR 56 201 60 "java/lang/IllegalStateException" "no slice was taken" := ⟨vq_t200, vq_t9, vq_sw4, vq_ax2, vq_ay2, List.forall_mem_cons.mpr ⟨rfl, List.forall_mem_cons.mpr ⟨rfl, vq_ao2⟩⟩, by decide +kernel, by decide +kernel⟩
theorem vq_tw5 : vq_TW R_BR 152 203 156 "java/lang/IndexOutOfBoundsException" "no such pile" := ⟨vq_t93, vq_t7, vq_sw5, vq_ax0, vq_ay0, List.forall_mem_cons.mpr ⟨rfl, List.forall_mem_cons.mpr ⟨rfl, vq_ao0⟩⟩, by decide +kernel, by decide +kernel⟩
theorem vq_tw6 : vq_TW R_BR 56 58 60 "java/lang/IllegalStateException" "no more ships" := ⟨vq_t200, vq_t9, vq_sw6, vq_ax2, vq_ay2, List.forall_mem_cons.mpr ⟨rfl, List.forall_mem_cons.mpr ⟨rfl, vq_ao2⟩⟩, by decide +kernel, by decide +kernel⟩
theorem vq_tw7 : vq_TW R_BR 56 77 60 "java/lang/IllegalStateException" "no more piles" := ⟨vq_t200, vq_t9, vq_sw7, vq_ax2, vq_ay2, List.forall_mem_cons.mpr ⟨rfl, List.forall_mem_cons.mpr ⟨rfl, vq_ao2⟩⟩, by decide +kernel, by decide +kernel⟩
theorem vq_tw8 : vq_TW R_BR 94 99 98 "java/lang/UnsupportedOperationException" "the stock is less" := ⟨vq_t306, vq_t11, vq_sw8, vq_ax3, vq_ay3, List.forall_mem_cons.mpr ⟨rfl, List.forall_mem_cons.mpr ⟨rfl, vq_ao3⟩⟩, by decide +kernel, by decide +kernel⟩
theorem vq_tw9 : vq_TW R_BR 94 96 98 "java/lang/UnsupportedOperationException" "no more layers" := ⟨vq_t306, vq_t11, vq_sw9, vq_ax3, vq_ay3, List.forall_mem_cons.mpr ⟨rfl, List.forall_mem_cons.mpr ⟨rfl, vq_ao3⟩⟩, by decide +kernel, by decide +kernel⟩
theorem vq_tw10 : vq_TW R_BR 56 89 60 "java/lang/IllegalStateException" "a slice was taken" := ⟨vq_t200, vq_t9, vq_sw10, vq_ax2, vq_ay2, List.forall_mem_cons.mpr ⟨rfl, List.forall_mem_cons.mpr ⟨rfl, vq_ao2⟩⟩, by decide +kernel, by decide +kernel⟩
theorem vq_tw11 : vq_TW R_BR 56 113 60 "java/lang/IllegalStateException" "all slices were taken" := ⟨vq_t200, vq_t9, vq_sw11, vq_ax2, vq_ay2, List.forall_mem_cons.mpr ⟨rfl, List.forall_mem_cons.mpr ⟨rfl, vq_ao2⟩⟩, by decide +kernel, by decide +kernel⟩
theorem vq_tw12 : vq_TW R_BR 56 108 60 "java/lang/IllegalStateException" "no layers" := ⟨vq_t200, vq_t9, vq_sw12, vq_ax2, vq_ay2, List.forall_mem_cons.mpr ⟨rfl, List.forall_mem_cons.mpr ⟨rfl, vq_ao2⟩⟩, by decide +kernel, by decide +kernel⟩
theorem vq_tw13 : vq_TW R_BR 94 128 98 "java/lang/UnsupportedOperationException" "the slice had no grams" := ⟨vq_t306, vq_t11, vq_sw13, vq_ax3, vq_ay3, List.forall_mem_cons.mpr ⟨rfl, List.forall_mem_cons.mpr ⟨rfl, vq_ao3⟩⟩, by decide +kernel, by decide +kernel⟩
theorem vq_tw14 : vq_TW R_BR 94 138 98 "java/lang/UnsupportedOperationException" "nothing of element 1" := ⟨vq_t306, vq_t11, vq_sw14, vq_ax3, vq_ay3, List.forall_mem_cons.mpr ⟨rfl, List.forall_mem_cons.mpr ⟨rfl, vq_ao3⟩⟩, by decide +kernel, by decide +kernel⟩
theorem vq_tw15 : vq_TW R_BR 56 143 60 "java/lang/IllegalStateException" "no slice with grams was taken" := ⟨vq_t200, vq_t9, vq_sw15, vq_ax2, vq_ay2, List.forall_mem_cons.mpr ⟨rfl, List.forall_mem_cons.mpr ⟨rfl, vq_ao2⟩⟩, by decide +kernel, by decide +kernel⟩
theorem vq_tw16 : vq_TW R_BR 152 154 156 "java/lang/IndexOutOfBoundsException" "no such what" := ⟨vq_t93, vq_t7, vq_sw16, vq_ax0, vq_ay0, List.forall_mem_cons.mpr ⟨rfl, List.forall_mem_cons.mpr ⟨rfl, vq_ao0⟩⟩, by decide +kernel, by decide +kernel⟩
theorem vq_tw17 : vq_TW R_BR 94 167 98 "java/lang/UnsupportedOperationException" "no such mix" := ⟨vq_t306, vq_t11, vq_sw17, vq_ax3, vq_ay3, List.forall_mem_cons.mpr ⟨rfl, List.forall_mem_cons.mpr ⟨rfl, vq_ao3⟩⟩, by decide +kernel, by decide +kernel⟩
theorem vq_tw18 : vq_TW R_BR 152 157 156 "java/lang/IndexOutOfBoundsException" "the materials are one" := ⟨vq_t93, vq_t7, vq_sw18, vq_ax0, vq_ay0, List.forall_mem_cons.mpr ⟨rfl, List.forall_mem_cons.mpr ⟨rfl, vq_ao0⟩⟩, by decide +kernel, by decide +kernel⟩
theorem vq_tw19 : vq_TW R_BR 56 172 60 "java/lang/IllegalStateException" "no more points" := ⟨vq_t200, vq_t9, vq_sw19, vq_ax2, vq_ay2, List.forall_mem_cons.mpr ⟨rfl, List.forall_mem_cons.mpr ⟨rfl, vq_ao2⟩⟩, by decide +kernel, by decide +kernel⟩
theorem vq_tw20 : vq_TW R_BR 94 182 98 "java/lang/UnsupportedOperationException" "no such line" := ⟨vq_t306, vq_t11, vq_sw20, vq_ax3, vq_ay3, List.forall_mem_cons.mpr ⟨rfl, List.forall_mem_cons.mpr ⟨rfl, vq_ao3⟩⟩, by decide +kernel, by decide +kernel⟩
end
section
theorem d_BR_init_0 : decode b_BR_init 0 = .ok (.aload_n 0, 1) := by decide +kernel
theorem d_BR_init_1 : decode b_BR_init 1 = .ok (.invokespecial 1, 3) := by decide +kernel
theorem d_BR_init_4 : decode b_BR_init 4 = .ok (.aload_n 0, 1) := by decide +kernel
theorem d_BR_init_5 : decode b_BR_init 5 = .ok (.bipush 8, 2) := by decide +kernel
theorem d_BR_init_7 : decode b_BR_init 7 = .ok (.newarray .int, 2) := by decide +kernel
theorem d_BR_init_9 : decode b_BR_init 9 = .ok (.putfield 9, 3) := by decide +kernel
theorem d_BR_init_12 : decode b_BR_init 12 = .ok (.aload_n 0, 1) := by decide +kernel
theorem d_BR_init_13 : decode b_BR_init 13 = .ok (.bipush 32, 2) := by decide +kernel
theorem d_BR_init_15 : decode b_BR_init 15 = .ok (.newarray .int, 2) := by decide +kernel
theorem d_BR_init_17 : decode b_BR_init 17 = .ok (.putfield 13, 3) := by decide +kernel
theorem d_BR_init_20 : decode b_BR_init 20 = .ok (.aload_n 0, 1) := by decide +kernel
theorem d_BR_init_21 : decode b_BR_init 21 = .ok (.bipush 8, 2) := by decide +kernel
theorem d_BR_init_23 : decode b_BR_init 23 = .ok (.newarray .int, 2) := by decide +kernel
theorem d_BR_init_25 : decode b_BR_init 25 = .ok (.putfield 16, 3) := by decide +kernel
theorem d_BR_init_28 : decode b_BR_init 28 = .ok (.aload_n 0, 1) := by decide +kernel
theorem d_BR_init_29 : decode b_BR_init 29 = .ok (.bipush 40, 2) := by decide +kernel
theorem d_BR_init_31 : decode b_BR_init 31 = .ok (.newarray .int, 2) := by decide +kernel
theorem d_BR_init_33 : decode b_BR_init 33 = .ok (.putfield 19, 3) := by decide +kernel
theorem d_BR_init_36 : decode b_BR_init 36 = .ok (.aload_n 0, 1) := by decide +kernel
theorem d_BR_init_37 : decode b_BR_init 37 = .ok (.bipush 40, 2) := by decide +kernel
theorem d_BR_init_39 : decode b_BR_init 39 = .ok (.newarray .int, 2) := by decide +kernel
theorem d_BR_init_41 : decode b_BR_init 41 = .ok (.putfield 22, 3) := by decide +kernel
theorem d_BR_init_44 : decode b_BR_init 44 = .ok (.aload_n 0, 1) := by decide +kernel
theorem d_BR_init_45 : decode b_BR_init 45 = .ok (.bipush 40, 2) := by decide +kernel
theorem d_BR_init_47 : decode b_BR_init 47 = .ok (.newarray .int, 2) := by decide +kernel
theorem d_BR_init_49 : decode b_BR_init 49 = .ok (.putfield 25, 3) := by decide +kernel
theorem d_BR_init_52 : decode b_BR_init 52 = .ok (.aload_n 0, 1) := by decide +kernel
theorem d_BR_init_53 : decode b_BR_init 53 = .ok (.iconst 4, 1) := by decide +kernel
theorem d_BR_init_54 : decode b_BR_init 54 = .ok (.anewarray 28, 3) := by decide +kernel
theorem d_BR_init_57 : decode b_BR_init 57 = .ok (.putfield 30, 3) := by decide +kernel
theorem d_BR_init_60 : decode b_BR_init 60 = .ok (.aload_n 0, 1) := by decide +kernel
theorem d_BR_init_61 : decode b_BR_init 61 = .ok (.new 34, 3) := by decide +kernel
theorem d_BR_init_64 : decode b_BR_init 64 = .ok (.dup, 1) := by decide +kernel
theorem d_BR_init_65 : decode b_BR_init 65 = .ok (.invokespecial 36, 3) := by decide +kernel
theorem d_BR_init_68 : decode b_BR_init 68 = .ok (.putfield 37, 3) := by decide +kernel
theorem d_BR_init_71 : decode b_BR_init 71 = .ok (.return_, 1) := by decide +kernel
theorem d_BR_moisture_0 : decode b_BR_moisture 0 = .ok (.iload_n 1, 1) := by decide +kernel
theorem d_BR_moisture_1 : decode b_BR_moisture 1 = .ok (.invokestatic 41, 3) := by decide +kernel
theorem d_BR_moisture_4 : decode b_BR_moisture 4 = .ok (.iload_n 2, 1) := by decide +kernel
theorem d_BR_moisture_5 : decode b_BR_moisture 5 = .ok (.iconst 0, 1) := by decide +kernel
theorem d_BR_moisture_6 : decode b_BR_moisture 6 = .ok (.sipush 900, 3) := by decide +kernel
theorem d_BR_moisture_9 : decode b_BR_moisture 9 = .ok (.invokestatic 45, 3) := by decide +kernel
theorem d_BR_moisture_12 : decode b_BR_moisture 12 = .ok (.aload_n 0, 1) := by decide +kernel
theorem d_BR_moisture_13 : decode b_BR_moisture 13 = .ok (.getfield 9, 3) := by decide +kernel
theorem d_BR_moisture_16 : decode b_BR_moisture 16 = .ok (.iload_n 1, 1) := by decide +kernel
theorem d_BR_moisture_17 : decode b_BR_moisture 17 = .ok (.iload_n 2, 1) := by decide +kernel
theorem d_BR_moisture_18 : decode b_BR_moisture 18 = .ok (.iastore, 1) := by decide +kernel
theorem d_BR_moisture_19 : decode b_BR_moisture 19 = .ok (.return_, 1) := by decide +kernel
theorem d_BR_element_0 : decode b_BR_element 0 = .ok (.iload_n 1, 1) := by decide +kernel
theorem d_BR_element_1 : decode b_BR_element 1 = .ok (.invokestatic 41, 3) := by decide +kernel
theorem d_BR_element_4 : decode b_BR_element 4 = .ok (.iload_n 2, 1) := by decide +kernel
theorem d_BR_element_5 : decode b_BR_element 5 = .ok (.invokestatic 49, 3) := by decide +kernel
theorem d_BR_element_8 : decode b_BR_element 8 = .ok (.iload_n 3, 1) := by decide +kernel
theorem d_BR_element_9 : decode b_BR_element 9 = .ok (.iconst 0, 1) := by decide +kernel
theorem d_BR_element_10 : decode b_BR_element 10 = .ok (.sipush 10000, 3) := by decide +kernel
theorem d_BR_element_13 : decode b_BR_element 13 = .ok (.invokestatic 45, 3) := by decide +kernel
theorem d_BR_element_16 : decode b_BR_element 16 = .ok (.aload_n 0, 1) := by decide +kernel
theorem d_BR_element_17 : decode b_BR_element 17 = .ok (.getfield 13, 3) := by decide +kernel
theorem d_BR_element_20 : decode b_BR_element 20 = .ok (.iload_n 1, 1) := by decide +kernel
theorem d_BR_element_21 : decode b_BR_element 21 = .ok (.iconst 4, 1) := by decide +kernel
theorem d_BR_element_22 : decode b_BR_element 22 = .ok (.imul, 1) := by decide +kernel
theorem d_BR_element_23 : decode b_BR_element 23 = .ok (.iload_n 2, 1) := by decide +kernel
theorem d_BR_element_24 : decode b_BR_element 24 = .ok (.iadd, 1) := by decide +kernel
theorem d_BR_element_25 : decode b_BR_element 25 = .ok (.iload_n 3, 1) := by decide +kernel
theorem d_BR_element_26 : decode b_BR_element 26 = .ok (.iastore, 1) := by decide +kernel
theorem d_BR_element_27 : decode b_BR_element 27 = .ok (.return_, 1) := by decide +kernel
theorem d_BR_ship_0 : decode b_BR_ship 0 = .ok (.iload_n 2, 1) := by decide +kernel
theorem d_BR_ship_1 : decode b_BR_ship 1 = .ok (.invokestatic 41, 3) := by decide +kernel
theorem d_BR_ship_4 : decode b_BR_ship 4 = .ok (.aload_n 0, 1) := by decide +kernel
theorem d_BR_ship_5 : decode b_BR_ship 5 = .ok (.getfield 52, 3) := by decide +kernel
theorem d_BR_ship_8 : decode b_BR_ship 8 = .ok (.bipush 40, 2) := by decide +kernel
theorem d_BR_ship_10 : decode b_BR_ship 10 = .ok (.if_icmp .lt 13, 3) := by decide +kernel
theorem d_BR_ship_13 : decode b_BR_ship 13 = .ok (.new 56, 3) := by decide +kernel
theorem d_BR_ship_16 : decode b_BR_ship 16 = .ok (.dup, 1) := by decide +kernel
theorem d_BR_ship_17 : decode b_BR_ship 17 = .ok (.ldc 58, 2) := by decide +kernel
theorem d_BR_ship_19 : decode b_BR_ship 19 = .ok (.invokespecial 60, 3) := by decide +kernel
theorem d_BR_ship_22 : decode b_BR_ship 22 = .ok (.athrow, 1) := by decide +kernel
theorem d_BR_ship_23 : decode b_BR_ship 23 = .ok (.iload_n 1, 1) := by decide +kernel
theorem d_BR_ship_24 : decode b_BR_ship 24 = .ok (.aload_n 0, 1) := by decide +kernel
theorem d_BR_ship_25 : decode b_BR_ship 25 = .ok (.getfield 63, 3) := by decide +kernel
theorem d_BR_ship_28 : decode b_BR_ship 28 = .ok (.sipush 9999, 3) := by decide +kernel
theorem d_BR_ship_31 : decode b_BR_ship 31 = .ok (.invokestatic 45, 3) := by decide +kernel
theorem d_BR_ship_34 : decode b_BR_ship 34 = .ok (.iload_n 3, 1) := by decide +kernel
theorem d_BR_ship_35 : decode b_BR_ship 35 = .ok (.iconst 1, 1) := by decide +kernel
theorem d_BR_ship_36 : decode b_BR_ship 36 = .ok (.sipush 1000, 3) := by decide +kernel
theorem d_BR_ship_39 : decode b_BR_ship 39 = .ok (.invokestatic 45, 3) := by decide +kernel
theorem d_BR_ship_42 : decode b_BR_ship 42 = .ok (.iload 4, 2) := by decide +kernel
theorem d_BR_ship_44 : decode b_BR_ship 44 = .ok (.iconst 0, 1) := by decide +kernel
theorem d_BR_ship_45 : decode b_BR_ship 45 = .ok (.sipush 999, 3) := by decide +kernel
theorem d_BR_ship_48 : decode b_BR_ship 48 = .ok (.invokestatic 45, 3) := by decide +kernel
theorem d_BR_ship_51 : decode b_BR_ship 51 = .ok (.aload_n 0, 1) := by decide +kernel
theorem d_BR_ship_52 : decode b_BR_ship 52 = .ok (.getfield 52, 3) := by decide +kernel
theorem d_BR_ship_55 : decode b_BR_ship 55 = .ok (.istore 5, 2) := by decide +kernel
theorem d_BR_ship_57 : decode b_BR_ship 57 = .ok (.aload_n 0, 1) := by decide +kernel
theorem d_BR_ship_58 : decode b_BR_ship 58 = .ok (.getfield 19, 3) := by decide +kernel
theorem d_BR_ship_61 : decode b_BR_ship 61 = .ok (.iload 5, 2) := by decide +kernel
theorem d_BR_ship_63 : decode b_BR_ship 63 = .ok (.iload_n 1, 1) := by decide +kernel
theorem d_BR_ship_64 : decode b_BR_ship 64 = .ok (.iastore, 1) := by decide +kernel
theorem d_BR_ship_65 : decode b_BR_ship 65 = .ok (.aload_n 0, 1) := by decide +kernel
theorem d_BR_ship_66 : decode b_BR_ship 66 = .ok (.getfield 22, 3) := by decide +kernel
theorem d_BR_ship_69 : decode b_BR_ship 69 = .ok (.iload 5, 2) := by decide +kernel
theorem d_BR_ship_71 : decode b_BR_ship 71 = .ok (.iload_n 2, 1) := by decide +kernel
theorem d_BR_ship_72 : decode b_BR_ship 72 = .ok (.iastore, 1) := by decide +kernel
theorem d_BR_ship_73 : decode b_BR_ship 73 = .ok (.aload_n 0, 1) := by decide +kernel
theorem d_BR_ship_74 : decode b_BR_ship 74 = .ok (.getfield 25, 3) := by decide +kernel
theorem d_BR_ship_77 : decode b_BR_ship 77 = .ok (.iload 5, 2) := by decide +kernel
theorem d_BR_ship_79 : decode b_BR_ship 79 = .ok (.iload_n 3, 1) := by decide +kernel
theorem d_BR_ship_80 : decode b_BR_ship 80 = .ok (.iload_n 3, 1) := by decide +kernel
theorem d_BR_ship_81 : decode b_BR_ship 81 = .ok (.iload 4, 2) := by decide +kernel
theorem d_BR_ship_83 : decode b_BR_ship 83 = .ok (.invokestatic 66, 3) := by decide +kernel
theorem d_BR_ship_86 : decode b_BR_ship 86 = .ok (.isub, 1) := by decide +kernel
theorem d_BR_ship_87 : decode b_BR_ship 87 = .ok (.iastore, 1) := by decide +kernel
theorem d_BR_ship_88 : decode b_BR_ship 88 = .ok (.aload_n 0, 1) := by decide +kernel
theorem d_BR_ship_89 : decode b_BR_ship 89 = .ok (.iload 5, 2) := by decide +kernel
theorem d_BR_ship_91 : decode b_BR_ship 91 = .ok (.iconst 1, 1) := by decide +kernel
theorem d_BR_ship_92 : decode b_BR_ship 92 = .ok (.iadd, 1) := by decide +kernel
theorem d_BR_ship_93 : decode b_BR_ship 93 = .ok (.putfield 52, 3) := by decide +kernel
theorem d_BR_ship_96 : decode b_BR_ship 96 = .ok (.iload 5, 2) := by decide +kernel
theorem d_BR_ship_98 : decode b_BR_ship 98 = .ok (.ireturn, 1) := by decide +kernel
theorem d_BR_stock_0 : decode b_BR_stock 0 = .ok (.iload_n 1, 1) := by decide +kernel
theorem d_BR_stock_1 : decode b_BR_stock 1 = .ok (.invokestatic 41, 3) := by decide +kernel
theorem d_BR_stock_4 : decode b_BR_stock 4 = .ok (.aload_n 0, 1) := by decide +kernel
theorem d_BR_stock_5 : decode b_BR_stock 5 = .ok (.iload_n 1, 1) := by decide +kernel
theorem d_BR_stock_6 : decode b_BR_stock 6 = .ok (.invokevirtual 70, 3) := by decide +kernel
theorem d_BR_stock_9 : decode b_BR_stock 9 = .ok (.ireturn, 1) := by decide +kernel
theorem d_BR_pile_0 : decode b_BR_pile 0 = .ok (.aload_n 0, 1) := by decide +kernel
theorem d_BR_pile_1 : decode b_BR_pile 1 = .ok (.getfield 74, 3) := by decide +kernel
theorem d_BR_pile_4 : decode b_BR_pile 4 = .ok (.iconst 4, 1) := by decide +kernel
theorem d_BR_pile_5 : decode b_BR_pile 5 = .ok (.if_icmp .lt 13, 3) := by decide +kernel
theorem d_BR_pile_8 : decode b_BR_pile 8 = .ok (.new 56, 3) := by decide +kernel
theorem d_BR_pile_11 : decode b_BR_pile 11 = .ok (.dup, 1) := by decide +kernel
theorem d_BR_pile_12 : decode b_BR_pile 12 = .ok (.ldc 77, 2) := by decide +kernel
theorem d_BR_pile_14 : decode b_BR_pile 14 = .ok (.invokespecial 60, 3) := by decide +kernel
theorem d_BR_pile_17 : decode b_BR_pile 17 = .ok (.athrow, 1) := by decide +kernel
theorem d_BR_pile_18 : decode b_BR_pile 18 = .ok (.iload_n 1, 1) := by decide +kernel
theorem d_BR_pile_19 : decode b_BR_pile 19 = .ok (.iconst 1, 1) := by decide +kernel
theorem d_BR_pile_20 : decode b_BR_pile 20 = .ok (.ldc 79, 2) := by decide +kernel
theorem d_BR_pile_22 : decode b_BR_pile 22 = .ok (.invokestatic 45, 3) := by decide +kernel
theorem d_BR_pile_25 : decode b_BR_pile 25 = .ok (.aload_n 0, 1) := by decide +kernel
theorem d_BR_pile_26 : decode b_BR_pile 26 = .ok (.getfield 74, 3) := by decide +kernel
theorem d_BR_pile_29 : decode b_BR_pile 29 = .ok (.istore_n 2, 1) := by decide +kernel
theorem d_BR_pile_30 : decode b_BR_pile 30 = .ok (.aload_n 0, 1) := by decide +kernel
theorem d_BR_pile_31 : decode b_BR_pile 31 = .ok (.getfield 30, 3) := by decide +kernel
theorem d_BR_pile_34 : decode b_BR_pile 34 = .ok (.iload_n 2, 1) := by decide +kernel
theorem d_BR_pile_35 : decode b_BR_pile 35 = .ok (.new 28, 3) := by decide +kernel
theorem d_BR_pile_38 : decode b_BR_pile 38 = .ok (.dup, 1) := by decide +kernel
theorem d_BR_pile_39 : decode b_BR_pile 39 = .ok (.iload_n 1, 1) := by decide +kernel
theorem d_BR_pile_40 : decode b_BR_pile 40 = .ok (.invokespecial 80, 3) := by decide +kernel
theorem d_BR_pile_43 : decode b_BR_pile 43 = .ok (.aastore, 1) := by decide +kernel
theorem d_BR_pile_44 : decode b_BR_pile 44 = .ok (.aload_n 0, 1) := by decide +kernel
theorem d_BR_pile_45 : decode b_BR_pile 45 = .ok (.iload_n 2, 1) := by decide +kernel
theorem d_BR_pile_46 : decode b_BR_pile 46 = .ok (.iconst 1, 1) := by decide +kernel
theorem d_BR_pile_47 : decode b_BR_pile 47 = .ok (.iadd, 1) := by decide +kernel
theorem d_BR_pile_48 : decode b_BR_pile 48 = .ok (.putfield 74, 3) := by decide +kernel
theorem d_BR_pile_51 : decode b_BR_pile 51 = .ok (.iload_n 2, 1) := by decide +kernel
theorem d_BR_pile_52 : decode b_BR_pile 52 = .ok (.ireturn, 1) := by decide +kernel
theorem d_BR_lay_0 : decode b_BR_lay 0 = .ok (.aload_n 0, 1) := by decide +kernel
theorem d_BR_lay_1 : decode b_BR_lay 1 = .ok (.iload_n 1, 1) := by decide +kernel
theorem d_BR_lay_2 : decode b_BR_lay 2 = .ok (.invokevirtual 82, 3) := by decide +kernel
theorem d_BR_lay_5 : decode b_BR_lay 5 = .ok (.astore 4, 2) := by decide +kernel
theorem d_BR_lay_7 : decode b_BR_lay 7 = .ok (.iload_n 2, 1) := by decide +kernel
theorem d_BR_lay_8 : decode b_BR_lay 8 = .ok (.invokestatic 41, 3) := by decide +kernel
theorem d_BR_lay_11 : decode b_BR_lay 11 = .ok (.aload 4, 2) := by decide +kernel
theorem d_BR_lay_13 : decode b_BR_lay 13 = .ok (.getfield 86, 3) := by decide +kernel
theorem d_BR_lay_16 : decode b_BR_lay 16 = .ok (.ifCond .le 13, 3) := by decide +kernel
theorem d_BR_lay_19 : decode b_BR_lay 19 = .ok (.new 56, 3) := by decide +kernel
theorem d_BR_lay_22 : decode b_BR_lay 22 = .ok (.dup, 1) := by decide +kernel
theorem d_BR_lay_23 : decode b_BR_lay 23 = .ok (.ldc 89, 2) := by decide +kernel
theorem d_BR_lay_25 : decode b_BR_lay 25 = .ok (.invokespecial 60, 3) := by decide +kernel
theorem d_BR_lay_28 : decode b_BR_lay 28 = .ok (.athrow, 1) := by decide +kernel
theorem d_BR_lay_29 : decode b_BR_lay 29 = .ok (.iload_n 3, 1) := by decide +kernel
theorem d_BR_lay_30 : decode b_BR_lay 30 = .ok (.iconst 1, 1) := by decide +kernel
theorem d_BR_lay_31 : decode b_BR_lay 31 = .ok (.sipush 1000, 3) := by decide +kernel
theorem d_BR_lay_34 : decode b_BR_lay 34 = .ok (.invokestatic 45, 3) := by decide +kernel
theorem d_BR_lay_37 : decode b_BR_lay 37 = .ok (.aload 4, 2) := by decide +kernel
theorem d_BR_lay_39 : decode b_BR_lay 39 = .ok (.getfield 91, 3) := by decide +kernel
theorem d_BR_lay_42 : decode b_BR_lay 42 = .ok (.bipush 20, 2) := by decide +kernel
theorem d_BR_lay_44 : decode b_BR_lay 44 = .ok (.if_icmp .lt 13, 3) := by decide +kernel
theorem d_BR_lay_47 : decode b_BR_lay 47 = .ok (.new 94, 3) := by decide +kernel
theorem d_BR_lay_50 : decode b_BR_lay 50 = .ok (.dup, 1) := by decide +kernel
theorem d_BR_lay_51 : decode b_BR_lay 51 = .ok (.ldc 96, 2) := by decide +kernel
theorem d_BR_lay_53 : decode b_BR_lay 53 = .ok (.invokespecial 98, 3) := by decide +kernel
theorem d_BR_lay_56 : decode b_BR_lay 56 = .ok (.athrow, 1) := by decide +kernel
theorem d_BR_lay_57 : decode b_BR_lay 57 = .ok (.aload_n 0, 1) := by decide +kernel
theorem d_BR_lay_58 : decode b_BR_lay 58 = .ok (.iload_n 2, 1) := by decide +kernel
theorem d_BR_lay_59 : decode b_BR_lay 59 = .ok (.invokevirtual 70, 3) := by decide +kernel
theorem d_BR_lay_62 : decode b_BR_lay 62 = .ok (.iload_n 3, 1) := by decide +kernel
theorem d_BR_lay_63 : decode b_BR_lay 63 = .ok (.if_icmp .ge 13, 3) := by decide +kernel
theorem d_BR_lay_66 : decode b_BR_lay 66 = .ok (.new 94, 3) := by decide +kernel
theorem d_BR_lay_69 : decode b_BR_lay 69 = .ok (.dup, 1) := by decide +kernel
theorem d_BR_lay_70 : decode b_BR_lay 70 = .ok (.ldc 99, 2) := by decide +kernel
theorem d_BR_lay_72 : decode b_BR_lay 72 = .ok (.invokespecial 98, 3) := by decide +kernel
theorem d_BR_lay_75 : decode b_BR_lay 75 = .ok (.athrow, 1) := by decide +kernel
theorem d_BR_lay_76 : decode b_BR_lay 76 = .ok (.aload 4, 2) := by decide +kernel
theorem d_BR_lay_78 : decode b_BR_lay 78 = .ok (.iload_n 3, 1) := by decide +kernel
theorem d_BR_lay_79 : decode b_BR_lay 79 = .ok (.sipush 1000, 3) := by decide +kernel
theorem d_BR_lay_82 : decode b_BR_lay 82 = .ok (.aload_n 0, 1) := by decide +kernel
theorem d_BR_lay_83 : decode b_BR_lay 83 = .ok (.getfield 9, 3) := by decide +kernel
theorem d_BR_lay_86 : decode b_BR_lay 86 = .ok (.iload_n 2, 1) := by decide +kernel
theorem d_BR_lay_87 : decode b_BR_lay 87 = .ok (.iaload, 1) := by decide +kernel
theorem d_BR_lay_88 : decode b_BR_lay 88 = .ok (.isub, 1) := by decide +kernel
theorem d_BR_lay_89 : decode b_BR_lay 89 = .ok (.imul, 1) := by decide +kernel
theorem d_BR_lay_90 : decode b_BR_lay 90 = .ok (.aload_n 0, 1) := by decide +kernel
theorem d_BR_lay_91 : decode b_BR_lay 91 = .ok (.getfield 13, 3) := by decide +kernel
theorem d_BR_lay_94 : decode b_BR_lay 94 = .ok (.iload_n 2, 1) := by decide +kernel
theorem d_BR_lay_95 : decode b_BR_lay 95 = .ok (.invokevirtual 101, 3) := by decide +kernel
theorem d_BR_lay_98 : decode b_BR_lay 98 = .ok (.aload_n 0, 1) := by decide +kernel
theorem d_BR_lay_99 : decode b_BR_lay 99 = .ok (.getfield 16, 3) := by decide +kernel
theorem d_BR_lay_102 : decode b_BR_lay 102 = .ok (.iload_n 2, 1) := by decide +kernel
theorem d_BR_lay_103 : decode b_BR_lay 103 = .ok (.dup2, 1) := by decide +kernel
theorem d_BR_lay_104 : decode b_BR_lay 104 = .ok (.iaload, 1) := by decide +kernel
theorem d_BR_lay_105 : decode b_BR_lay 105 = .ok (.iload_n 3, 1) := by decide +kernel
theorem d_BR_lay_106 : decode b_BR_lay 106 = .ok (.iadd, 1) := by decide +kernel
theorem d_BR_lay_107 : decode b_BR_lay 107 = .ok (.iastore, 1) := by decide +kernel
theorem d_BR_lay_108 : decode b_BR_lay 108 = .ok (.aload 4, 2) := by decide +kernel
theorem d_BR_lay_110 : decode b_BR_lay 110 = .ok (.getfield 105, 3) := by decide +kernel
theorem d_BR_lay_113 : decode b_BR_lay 113 = .ok (.ireturn, 1) := by decide +kernel
theorem d_BR_slice_0 : decode b_BR_slice 0 = .ok (.aload_n 0, 1) := by decide +kernel
theorem d_BR_slice_1 : decode b_BR_slice 1 = .ok (.iload_n 1, 1) := by decide +kernel
theorem d_BR_slice_2 : decode b_BR_slice 2 = .ok (.invokevirtual 82, 3) := by decide +kernel
theorem d_BR_slice_5 : decode b_BR_slice 5 = .ok (.astore_n 2, 1) := by decide +kernel
theorem d_BR_slice_6 : decode b_BR_slice 6 = .ok (.aload_n 2, 1) := by decide +kernel
theorem d_BR_slice_7 : decode b_BR_slice 7 = .ok (.getfield 91, 3) := by decide +kernel
theorem d_BR_slice_10 : decode b_BR_slice 10 = .ok (.ifCond .ne 13, 3) := by decide +kernel
theorem d_BR_slice_13 : decode b_BR_slice 13 = .ok (.new 56, 3) := by decide +kernel
theorem d_BR_slice_16 : decode b_BR_slice 16 = .ok (.dup, 1) := by decide +kernel
theorem d_BR_slice_17 : decode b_BR_slice 17 = .ok (.ldc 108, 2) := by decide +kernel
theorem d_BR_slice_19 : decode b_BR_slice 19 = .ok (.invokespecial 60, 3) := by decide +kernel
theorem d_BR_slice_22 : decode b_BR_slice 22 = .ok (.athrow, 1) := by decide +kernel
theorem d_BR_slice_23 : decode b_BR_slice 23 = .ok (.aload_n 2, 1) := by decide +kernel
theorem d_BR_slice_24 : decode b_BR_slice 24 = .ok (.getfield 86, 3) := by decide +kernel
theorem d_BR_slice_27 : decode b_BR_slice 27 = .ok (.aload_n 2, 1) := by decide +kernel
theorem d_BR_slice_28 : decode b_BR_slice 28 = .ok (.getfield 110, 3) := by decide +kernel
theorem d_BR_slice_31 : decode b_BR_slice 31 = .ok (.if_icmp .lt 13, 3) := by decide +kernel
theorem d_BR_slice_34 : decode b_BR_slice 34 = .ok (.new 56, 3) := by decide +kernel
theorem d_BR_slice_37 : decode b_BR_slice 37 = .ok (.dup, 1) := by decide +kernel
theorem d_BR_slice_38 : decode b_BR_slice 38 = .ok (.ldc 113, 2) := by decide +kernel
theorem d_BR_slice_40 : decode b_BR_slice 40 = .ok (.invokespecial 60, 3) := by decide +kernel
theorem d_BR_slice_43 : decode b_BR_slice 43 = .ok (.athrow, 1) := by decide +kernel
theorem d_BR_slice_44 : decode b_BR_slice 44 = .ok (.aload_n 2, 1) := by decide +kernel
theorem d_BR_slice_45 : decode b_BR_slice 45 = .ok (.invokevirtual 115, 3) := by decide +kernel
theorem d_BR_slice_48 : decode b_BR_slice 48 = .ok (.aload_n 2, 1) := by decide +kernel
theorem d_BR_slice_49 : decode b_BR_slice 49 = .ok (.getfield 118, 3) := by decide +kernel
theorem d_BR_slice_52 : decode b_BR_slice 52 = .ok (.ireturn, 1) := by decide +kernel
theorem d_BR_share_0 : decode b_BR_share 0 = .ok (.aload_n 0, 1) := by decide +kernel
theorem d_BR_share_1 : decode b_BR_share 1 = .ok (.iload_n 1, 1) := by decide +kernel
theorem d_BR_share_2 : decode b_BR_share 2 = .ok (.invokevirtual 82, 3) := by decide +kernel
theorem d_BR_share_5 : decode b_BR_share 5 = .ok (.astore 4, 2) := by decide +kernel
theorem d_BR_share_7 : decode b_BR_share 7 = .ok (.iload_n 2, 1) := by decide +kernel
theorem d_BR_share_8 : decode b_BR_share 8 = .ok (.invokestatic 49, 3) := by decide +kernel
theorem d_BR_share_11 : decode b_BR_share 11 = .ok (.iload_n 3, 1) := by decide +kernel
theorem d_BR_share_12 : decode b_BR_share 12 = .ok (.invokestatic 121, 3) := by decide +kernel
theorem d_BR_share_15 : decode b_BR_share 15 = .ok (.aload 4, 2) := by decide +kernel
theorem d_BR_share_17 : decode b_BR_share 17 = .ok (.invokestatic 124, 3) := by decide +kernel
theorem d_BR_share_20 : decode b_BR_share 20 = .ok (.aload 4, 2) := by decide +kernel
theorem d_BR_share_22 : decode b_BR_share 22 = .ok (.getfield 118, 3) := by decide +kernel
theorem d_BR_share_25 : decode b_BR_share 25 = .ok (.ifCond .ne 13, 3) := by decide +kernel
theorem d_BR_share_28 : decode b_BR_share 28 = .ok (.new 94, 3) := by decide +kernel
theorem d_BR_share_31 : decode b_BR_share 31 = .ok (.dup, 1) := by decide +kernel
theorem d_BR_share_32 : decode b_BR_share 32 = .ok (.ldc 128, 2) := by decide +kernel
theorem d_BR_share_34 : decode b_BR_share 34 = .ok (.invokespecial 98, 3) := by decide +kernel
theorem d_BR_share_37 : decode b_BR_share 37 = .ok (.athrow, 1) := by decide +kernel
theorem d_BR_share_38 : decode b_BR_share 38 = .ok (.aload 4, 2) := by decide +kernel
theorem d_BR_share_40 : decode b_BR_share 40 = .ok (.getfield 130, 3) := by decide +kernel
theorem d_BR_share_43 : decode b_BR_share 43 = .ok (.iload_n 2, 1) := by decide +kernel
theorem d_BR_share_44 : decode b_BR_share 44 = .ok (.laload, 1) := by decide +kernel
theorem d_BR_share_45 : decode b_BR_share 45 = .ok (.aload 4, 2) := by decide +kernel
theorem d_BR_share_47 : decode b_BR_share 47 = .ok (.getfield 118, 3) := by decide +kernel
theorem d_BR_share_50 : decode b_BR_share 50 = .ok (.i2l, 1) := by decide +kernel
theorem d_BR_share_51 : decode b_BR_share 51 = .ok (.iload_n 3, 1) := by decide +kernel
theorem d_BR_share_52 : decode b_BR_share 52 = .ok (.invokestatic 134, 3) := by decide +kernel
theorem d_BR_share_55 : decode b_BR_share 55 = .ok (.lreturn, 1) := by decide +kernel
theorem d_BR_basicity_0 : decode b_BR_basicity 0 = .ok (.aload_n 0, 1) := by decide +kernel
theorem d_BR_basicity_1 : decode b_BR_basicity 1 = .ok (.iload_n 1, 1) := by decide +kernel
theorem d_BR_basicity_2 : decode b_BR_basicity 2 = .ok (.invokevirtual 82, 3) := by decide +kernel
theorem d_BR_basicity_5 : decode b_BR_basicity 5 = .ok (.astore_n 3, 1) := by decide +kernel
theorem d_BR_basicity_6 : decode b_BR_basicity 6 = .ok (.iload_n 2, 1) := by decide +kernel
theorem d_BR_basicity_7 : decode b_BR_basicity 7 = .ok (.invokestatic 121, 3) := by decide +kernel
theorem d_BR_basicity_10 : decode b_BR_basicity 10 = .ok (.aload_n 3, 1) := by decide +kernel
theorem d_BR_basicity_11 : decode b_BR_basicity 11 = .ok (.invokestatic 124, 3) := by decide +kernel
theorem d_BR_basicity_14 : decode b_BR_basicity 14 = .ok (.aload_n 3, 1) := by decide +kernel
theorem d_BR_basicity_15 : decode b_BR_basicity 15 = .ok (.getfield 130, 3) := by decide +kernel
theorem d_BR_basicity_18 : decode b_BR_basicity 18 = .ok (.iconst 1, 1) := by decide +kernel
theorem d_BR_basicity_19 : decode b_BR_basicity 19 = .ok (.laload, 1) := by decide +kernel
theorem d_BR_basicity_20 : decode b_BR_basicity 20 = .ok (.lconst 0, 1) := by decide +kernel
theorem d_BR_basicity_21 : decode b_BR_basicity 21 = .ok (.lcmp, 1) := by decide +kernel
theorem d_BR_basicity_22 : decode b_BR_basicity 22 = .ok (.ifCond .ne 13, 3) := by decide +kernel
theorem d_BR_basicity_25 : decode b_BR_basicity 25 = .ok (.new 94, 3) := by decide +kernel
theorem d_BR_basicity_28 : decode b_BR_basicity 28 = .ok (.dup, 1) := by decide +kernel
theorem d_BR_basicity_29 : decode b_BR_basicity 29 = .ok (.ldc 138, 2) := by decide +kernel
theorem d_BR_basicity_31 : decode b_BR_basicity 31 = .ok (.invokespecial 98, 3) := by decide +kernel
theorem d_BR_basicity_34 : decode b_BR_basicity 34 = .ok (.athrow, 1) := by decide +kernel
theorem d_BR_basicity_35 : decode b_BR_basicity 35 = .ok (.aload_n 3, 1) := by decide +kernel
theorem d_BR_basicity_36 : decode b_BR_basicity 36 = .ok (.getfield 130, 3) := by decide +kernel
theorem d_BR_basicity_39 : decode b_BR_basicity 39 = .ok (.iconst 0, 1) := by decide +kernel
theorem d_BR_basicity_40 : decode b_BR_basicity 40 = .ok (.laload, 1) := by decide +kernel
theorem d_BR_basicity_41 : decode b_BR_basicity 41 = .ok (.aload_n 3, 1) := by decide +kernel
theorem d_BR_basicity_42 : decode b_BR_basicity 42 = .ok (.getfield 130, 3) := by decide +kernel
theorem d_BR_basicity_45 : decode b_BR_basicity 45 = .ok (.iconst 1, 1) := by decide +kernel
theorem d_BR_basicity_46 : decode b_BR_basicity 46 = .ok (.laload, 1) := by decide +kernel
theorem d_BR_basicity_47 : decode b_BR_basicity 47 = .ok (.iload_n 2, 1) := by decide +kernel
theorem d_BR_basicity_48 : decode b_BR_basicity 48 = .ok (.invokestatic 134, 3) := by decide +kernel
theorem d_BR_basicity_51 : decode b_BR_basicity 51 = .ok (.lreturn, 1) := by decide +kernel
theorem d_BR_spread_0 : decode b_BR_spread 0 = .ok (.aload_n 0, 1) := by decide +kernel
theorem d_BR_spread_1 : decode b_BR_spread 1 = .ok (.iload_n 1, 1) := by decide +kernel
theorem d_BR_spread_2 : decode b_BR_spread 2 = .ok (.invokevirtual 82, 3) := by decide +kernel
theorem d_BR_spread_5 : decode b_BR_spread 5 = .ok (.astore 4, 2) := by decide +kernel
theorem d_BR_spread_7 : decode b_BR_spread 7 = .ok (.iload_n 2, 1) := by decide +kernel
theorem d_BR_spread_8 : decode b_BR_spread 8 = .ok (.invokestatic 49, 3) := by decide +kernel
theorem d_BR_spread_11 : decode b_BR_spread 11 = .ok (.iload_n 3, 1) := by decide +kernel
theorem d_BR_spread_12 : decode b_BR_spread 12 = .ok (.invokestatic 121, 3) := by decide +kernel
theorem d_BR_spread_15 : decode b_BR_spread 15 = .ok (.aload 4, 2) := by decide +kernel
theorem d_BR_spread_17 : decode b_BR_spread 17 = .ok (.getfield 140, 3) := by decide +kernel
theorem d_BR_spread_20 : decode b_BR_spread 20 = .ok (.ifCond .ne 13, 3) := by decide +kernel
theorem d_BR_spread_23 : decode b_BR_spread 23 = .ok (.new 56, 3) := by decide +kernel
theorem d_BR_spread_26 : decode b_BR_spread 26 = .ok (.dup, 1) := by decide +kernel
theorem d_BR_spread_27 : decode b_BR_spread 27 = .ok (.ldc 143, 2) := by decide +kernel
theorem d_BR_spread_29 : decode b_BR_spread 29 = .ok (.invokespecial 60, 3) := by decide +kernel
theorem d_BR_spread_32 : decode b_BR_spread 32 = .ok (.athrow, 1) := by decide +kernel
theorem d_BR_spread_33 : decode b_BR_spread 33 = .ok (.aload 4, 2) := by decide +kernel
theorem d_BR_spread_35 : decode b_BR_spread 35 = .ok (.iload_n 2, 1) := by decide +kernel
theorem d_BR_spread_36 : decode b_BR_spread 36 = .ok (.invokevirtual 145, 3) := by decide +kernel
theorem d_BR_spread_39 : decode b_BR_spread 39 = .ok (.aload 4, 2) := by decide +kernel
theorem d_BR_spread_41 : decode b_BR_spread 41 = .ok (.iload_n 2, 1) := by decide +kernel
theorem d_BR_spread_42 : decode b_BR_spread 42 = .ok (.invokevirtual 149, 3) := by decide +kernel
theorem d_BR_spread_45 : decode b_BR_spread 45 = .ok (.iload_n 3, 1) := by decide +kernel
theorem d_BR_spread_46 : decode b_BR_spread 46 = .ok (.invokestatic 134, 3) := by decide +kernel
theorem d_BR_spread_49 : decode b_BR_spread 49 = .ok (.lreturn, 1) := by decide +kernel
theorem d_BR_pileAt_0 : decode b_BR_pileAt 0 = .ok (.aload_n 0, 1) := by decide +kernel
theorem d_BR_pileAt_1 : decode b_BR_pileAt 1 = .ok (.iload_n 1, 1) := by decide +kernel
theorem d_BR_pileAt_2 : decode b_BR_pileAt 2 = .ok (.invokevirtual 82, 3) := by decide +kernel
theorem d_BR_pileAt_5 : decode b_BR_pileAt 5 = .ok (.astore_n 3, 1) := by decide +kernel
theorem d_BR_pileAt_6 : decode b_BR_pileAt 6 = .ok (.iload_n 2, 1) := by decide +kernel
theorem d_BR_pileAt_7 : decode b_BR_pileAt 7 = .ok (.tableswitch 58 0 4 #[33, 38, 43, 48, 53], 33) := by decide +kernel
theorem d_BR_pileAt_40 : decode b_BR_pileAt 40 = .ok (.aload_n 3, 1) := by decide +kernel
theorem d_BR_pileAt_41 : decode b_BR_pileAt 41 = .ok (.getfield 110, 3) := by decide +kernel
theorem d_BR_pileAt_44 : decode b_BR_pileAt 44 = .ok (.ireturn, 1) := by decide +kernel
theorem d_BR_pileAt_45 : decode b_BR_pileAt 45 = .ok (.aload_n 3, 1) := by decide +kernel
theorem d_BR_pileAt_46 : decode b_BR_pileAt 46 = .ok (.getfield 86, 3) := by decide +kernel
theorem d_BR_pileAt_49 : decode b_BR_pileAt 49 = .ok (.ireturn, 1) := by decide +kernel
theorem d_BR_pileAt_50 : decode b_BR_pileAt 50 = .ok (.aload_n 3, 1) := by decide +kernel
theorem d_BR_pileAt_51 : decode b_BR_pileAt 51 = .ok (.getfield 91, 3) := by decide +kernel
theorem d_BR_pileAt_54 : decode b_BR_pileAt 54 = .ok (.ireturn, 1) := by decide +kernel
theorem d_BR_pileAt_55 : decode b_BR_pileAt 55 = .ok (.aload_n 3, 1) := by decide +kernel
theorem d_BR_pileAt_56 : decode b_BR_pileAt 56 = .ok (.getfield 105, 3) := by decide +kernel
theorem d_BR_pileAt_59 : decode b_BR_pileAt 59 = .ok (.ireturn, 1) := by decide +kernel
theorem d_BR_pileAt_60 : decode b_BR_pileAt 60 = .ok (.aload_n 3, 1) := by decide +kernel
theorem d_BR_pileAt_61 : decode b_BR_pileAt 61 = .ok (.getfield 140, 3) := by decide +kernel
theorem d_BR_pileAt_64 : decode b_BR_pileAt 64 = .ok (.ireturn, 1) := by decide +kernel
theorem d_BR_pileAt_65 : decode b_BR_pileAt 65 = .ok (.new 152, 3) := by decide +kernel
theorem d_BR_pileAt_68 : decode b_BR_pileAt 68 = .ok (.dup, 1) := by decide +kernel
theorem d_BR_pileAt_69 : decode b_BR_pileAt 69 = .ok (.ldc 154, 2) := by decide +kernel
theorem d_BR_pileAt_71 : decode b_BR_pileAt 71 = .ok (.invokespecial 156, 3) := by decide +kernel
theorem d_BR_pileAt_74 : decode b_BR_pileAt 74 = .ok (.athrow, 1) := by decide +kernel
theorem d_BR_mix_0 : decode b_BR_mix 0 = .ok (.iload_n 1, 1) := by decide +kernel
theorem d_BR_mix_1 : decode b_BR_mix 1 = .ok (.invokestatic 41, 3) := by decide +kernel
theorem d_BR_mix_4 : decode b_BR_mix 4 = .ok (.iload_n 2, 1) := by decide +kernel
theorem d_BR_mix_5 : decode b_BR_mix 5 = .ok (.invokestatic 41, 3) := by decide +kernel
theorem d_BR_mix_8 : decode b_BR_mix 8 = .ok (.iload_n 1, 1) := by decide +kernel
theorem d_BR_mix_9 : decode b_BR_mix 9 = .ok (.iload_n 2, 1) := by decide +kernel
theorem d_BR_mix_10 : decode b_BR_mix 10 = .ok (.if_icmp .ne 13, 3) := by decide +kernel
theorem d_BR_mix_13 : decode b_BR_mix 13 = .ok (.new 152, 3) := by decide +kernel
theorem d_BR_mix_16 : decode b_BR_mix 16 = .ok (.dup, 1) := by decide +kernel
theorem d_BR_mix_17 : decode b_BR_mix 17 = .ok (.ldc 157, 2) := by decide +kernel
theorem d_BR_mix_19 : decode b_BR_mix 19 = .ok (.invokespecial 156, 3) := by decide +kernel
theorem d_BR_mix_22 : decode b_BR_mix 22 = .ok (.athrow, 1) := by decide +kernel
theorem d_BR_mix_23 : decode b_BR_mix 23 = .ok (.iload_n 3, 1) := by decide +kernel
theorem d_BR_mix_24 : decode b_BR_mix 24 = .ok (.invokestatic 49, 3) := by decide +kernel
theorem d_BR_mix_27 : decode b_BR_mix 27 = .ok (.iload 5, 2) := by decide +kernel
theorem d_BR_mix_29 : decode b_BR_mix 29 = .ok (.invokestatic 121, 3) := by decide +kernel
theorem d_BR_mix_32 : decode b_BR_mix 32 = .ok (.iload 4, 2) := by decide +kernel
theorem d_BR_mix_34 : decode b_BR_mix 34 = .ok (.iconst 0, 1) := by decide +kernel
theorem d_BR_mix_35 : decode b_BR_mix 35 = .ok (.sipush 10000, 3) := by decide +kernel
theorem d_BR_mix_38 : decode b_BR_mix 38 = .ok (.invokestatic 45, 3) := by decide +kernel
theorem d_BR_mix_41 : decode b_BR_mix 41 = .ok (.aload_n 0, 1) := by decide +kernel
theorem d_BR_mix_42 : decode b_BR_mix 42 = .ok (.getfield 13, 3) := by decide +kernel
theorem d_BR_mix_45 : decode b_BR_mix 45 = .ok (.iload_n 1, 1) := by decide +kernel
theorem d_BR_mix_46 : decode b_BR_mix 46 = .ok (.iconst 4, 1) := by decide +kernel
theorem d_BR_mix_47 : decode b_BR_mix 47 = .ok (.imul, 1) := by decide +kernel
theorem d_BR_mix_48 : decode b_BR_mix 48 = .ok (.iload_n 3, 1) := by decide +kernel
theorem d_BR_mix_49 : decode b_BR_mix 49 = .ok (.iadd, 1) := by decide +kernel
theorem d_BR_mix_50 : decode b_BR_mix 50 = .ok (.iaload, 1) := by decide +kernel
theorem d_BR_mix_51 : decode b_BR_mix 51 = .ok (.istore 6, 2) := by decide +kernel
theorem d_BR_mix_53 : decode b_BR_mix 53 = .ok (.aload_n 0, 1) := by decide +kernel
theorem d_BR_mix_54 : decode b_BR_mix 54 = .ok (.getfield 13, 3) := by decide +kernel
theorem d_BR_mix_57 : decode b_BR_mix 57 = .ok (.iload_n 2, 1) := by decide +kernel
theorem d_BR_mix_58 : decode b_BR_mix 58 = .ok (.iconst 4, 1) := by decide +kernel
theorem d_BR_mix_59 : decode b_BR_mix 59 = .ok (.imul, 1) := by decide +kernel
theorem d_BR_mix_60 : decode b_BR_mix 60 = .ok (.iload_n 3, 1) := by decide +kernel
theorem d_BR_mix_61 : decode b_BR_mix 61 = .ok (.iadd, 1) := by decide +kernel
theorem d_BR_mix_62 : decode b_BR_mix 62 = .ok (.iaload, 1) := by decide +kernel
theorem d_BR_mix_63 : decode b_BR_mix 63 = .ok (.istore 7, 2) := by decide +kernel
theorem d_BR_mix_65 : decode b_BR_mix 65 = .ok (.iload 6, 2) := by decide +kernel
theorem d_BR_mix_67 : decode b_BR_mix 67 = .ok (.iload 7, 2) := by decide +kernel
theorem d_BR_mix_69 : decode b_BR_mix 69 = .ok (.if_icmp .eq 27, 3) := by decide +kernel
theorem d_BR_mix_72 : decode b_BR_mix 72 = .ok (.iload 4, 2) := by decide +kernel
theorem d_BR_mix_74 : decode b_BR_mix 74 = .ok (.iload 6, 2) := by decide +kernel
theorem d_BR_mix_76 : decode b_BR_mix 76 = .ok (.iload 7, 2) := by decide +kernel
theorem d_BR_mix_78 : decode b_BR_mix 78 = .ok (.invokestatic 159, 3) := by decide +kernel
theorem d_BR_mix_81 : decode b_BR_mix 81 = .ok (.if_icmp .lt 15, 3) := by decide +kernel
theorem d_BR_mix_84 : decode b_BR_mix 84 = .ok (.iload 4, 2) := by decide +kernel
theorem d_BR_mix_86 : decode b_BR_mix 86 = .ok (.iload 6, 2) := by decide +kernel
theorem d_BR_mix_88 : decode b_BR_mix 88 = .ok (.iload 7, 2) := by decide +kernel
theorem d_BR_mix_90 : decode b_BR_mix 90 = .ok (.invokestatic 164, 3) := by decide +kernel
theorem d_BR_mix_93 : decode b_BR_mix 93 = .ok (.if_icmp .le 13, 3) := by decide +kernel
theorem d_BR_mix_96 : decode b_BR_mix 96 = .ok (.new 94, 3) := by decide +kernel
theorem d_BR_mix_99 : decode b_BR_mix 99 = .ok (.dup, 1) := by decide +kernel
theorem d_BR_mix_100 : decode b_BR_mix 100 = .ok (.ldc 167, 2) := by decide +kernel
theorem d_BR_mix_102 : decode b_BR_mix 102 = .ok (.invokespecial 98, 3) := by decide +kernel
theorem d_BR_mix_105 : decode b_BR_mix 105 = .ok (.athrow, 1) := by decide +kernel
theorem d_BR_mix_106 : decode b_BR_mix 106 = .ok (.iload 4, 2) := by decide +kernel
theorem d_BR_mix_108 : decode b_BR_mix 108 = .ok (.iload 7, 2) := by decide +kernel
theorem d_BR_mix_110 : decode b_BR_mix 110 = .ok (.isub, 1) := by decide +kernel
theorem d_BR_mix_111 : decode b_BR_mix 111 = .ok (.i2l, 1) := by decide +kernel
theorem d_BR_mix_112 : decode b_BR_mix 112 = .ok (.iload 6, 2) := by decide +kernel
theorem d_BR_mix_114 : decode b_BR_mix 114 = .ok (.iload 7, 2) := by decide +kernel
theorem d_BR_mix_116 : decode b_BR_mix 116 = .ok (.isub, 1) := by decide +kernel
theorem d_BR_mix_117 : decode b_BR_mix 117 = .ok (.i2l, 1) := by decide +kernel
theorem d_BR_mix_118 : decode b_BR_mix 118 = .ok (.iload 5, 2) := by decide +kernel
theorem d_BR_mix_120 : decode b_BR_mix 120 = .ok (.invokestatic 134, 3) := by decide +kernel
theorem d_BR_mix_123 : decode b_BR_mix 123 = .ok (.lreturn, 1) := by decide +kernel
theorem d_BR_point_0 : decode b_BR_point 0 = .ok (.aload_n 0, 1) := by decide +kernel
theorem d_BR_point_1 : decode b_BR_point 1 = .ok (.getfield 37, 3) := by decide +kernel
theorem d_BR_point_4 : decode b_BR_point 4 = .ok (.getfield 169, 3) := by decide +kernel
theorem d_BR_point_7 : decode b_BR_point 7 = .ok (.bipush 20, 2) := by decide +kernel
theorem d_BR_point_9 : decode b_BR_point 9 = .ok (.if_icmp .lt 13, 3) := by decide +kernel
theorem d_BR_point_12 : decode b_BR_point 12 = .ok (.new 56, 3) := by decide +kernel
theorem d_BR_point_15 : decode b_BR_point 15 = .ok (.dup, 1) := by decide +kernel
theorem d_BR_point_16 : decode b_BR_point 16 = .ok (.ldc 172, 2) := by decide +kernel
theorem d_BR_point_18 : decode b_BR_point 18 = .ok (.invokespecial 60, 3) := by decide +kernel
theorem d_BR_point_21 : decode b_BR_point 21 = .ok (.athrow, 1) := by decide +kernel
theorem d_BR_point_22 : decode b_BR_point 22 = .ok (.iload_n 1, 1) := by decide +kernel
theorem d_BR_point_23 : decode b_BR_point 23 = .ok (.iconst 0, 1) := by decide +kernel
theorem d_BR_point_24 : decode b_BR_point 24 = .ok (.sipush 10000, 3) := by decide +kernel
theorem d_BR_point_27 : decode b_BR_point 27 = .ok (.invokestatic 45, 3) := by decide +kernel
theorem d_BR_point_30 : decode b_BR_point 30 = .ok (.iload_n 2, 1) := by decide +kernel
theorem d_BR_point_31 : decode b_BR_point 31 = .ok (.iconst 0, 1) := by decide +kernel
theorem d_BR_point_32 : decode b_BR_point 32 = .ok (.sipush 10000, 3) := by decide +kernel
theorem d_BR_point_35 : decode b_BR_point 35 = .ok (.invokestatic 45, 3) := by decide +kernel
theorem d_BR_point_38 : decode b_BR_point 38 = .ok (.aload_n 0, 1) := by decide +kernel
theorem d_BR_point_39 : decode b_BR_point 39 = .ok (.getfield 37, 3) := by decide +kernel
theorem d_BR_point_42 : decode b_BR_point 42 = .ok (.iload_n 1, 1) := by decide +kernel
theorem d_BR_point_43 : decode b_BR_point 43 = .ok (.iload_n 2, 1) := by decide +kernel
theorem d_BR_point_44 : decode b_BR_point 44 = .ok (.invokevirtual 174, 3) := by decide +kernel
theorem d_BR_point_47 : decode b_BR_point 47 = .ok (.aload_n 0, 1) := by decide +kernel
theorem d_BR_point_48 : decode b_BR_point 48 = .ok (.getfield 37, 3) := by decide +kernel
theorem d_BR_point_51 : decode b_BR_point 51 = .ok (.getfield 169, 3) := by decide +kernel
theorem d_BR_point_54 : decode b_BR_point 54 = .ok (.ireturn, 1) := by decide +kernel
theorem d_BR_fit_0 : decode b_BR_fit 0 = .ok (.iload_n 1, 1) := by decide +kernel
theorem d_BR_fit_1 : decode b_BR_fit 1 = .ok (.ifCond .lt 8, 3) := by decide +kernel
theorem d_BR_fit_4 : decode b_BR_fit 4 = .ok (.iload_n 1, 1) := by decide +kernel
theorem d_BR_fit_5 : decode b_BR_fit 5 = .ok (.iconst 1, 1) := by decide +kernel
theorem d_BR_fit_6 : decode b_BR_fit 6 = .ok (.if_icmp .le 13, 3) := by decide +kernel
theorem d_BR_fit_9 : decode b_BR_fit 9 = .ok (.new 152, 3) := by decide +kernel
theorem d_BR_fit_12 : decode b_BR_fit 12 = .ok (.dup, 1) := by decide +kernel
theorem d_BR_fit_13 : decode b_BR_fit 13 = .ok (.ldc 154, 2) := by decide +kernel
theorem d_BR_fit_15 : decode b_BR_fit 15 = .ok (.invokespecial 156, 3) := by decide +kernel
theorem d_BR_fit_18 : decode b_BR_fit 18 = .ok (.athrow, 1) := by decide +kernel
theorem d_BR_fit_19 : decode b_BR_fit 19 = .ok (.iload_n 2, 1) := by decide +kernel
theorem d_BR_fit_20 : decode b_BR_fit 20 = .ok (.invokestatic 121, 3) := by decide +kernel
theorem d_BR_fit_23 : decode b_BR_fit 23 = .ok (.aload_n 0, 1) := by decide +kernel
theorem d_BR_fit_24 : decode b_BR_fit 24 = .ok (.getfield 37, 3) := by decide +kernel
theorem d_BR_fit_27 : decode b_BR_fit 27 = .ok (.invokevirtual 178, 3) := by decide +kernel
theorem d_BR_fit_30 : decode b_BR_fit 30 = .ok (.lstore_n 3, 1) := by decide +kernel
theorem d_BR_fit_31 : decode b_BR_fit 31 = .ok (.lload_n 3, 1) := by decide +kernel
theorem d_BR_fit_32 : decode b_BR_fit 32 = .ok (.lconst 0, 1) := by decide +kernel
theorem d_BR_fit_33 : decode b_BR_fit 33 = .ok (.lcmp, 1) := by decide +kernel
theorem d_BR_fit_34 : decode b_BR_fit 34 = .ok (.ifCond .ne 13, 3) := by decide +kernel
theorem d_BR_fit_37 : decode b_BR_fit 37 = .ok (.new 94, 3) := by decide +kernel
theorem d_BR_fit_40 : decode b_BR_fit 40 = .ok (.dup, 1) := by decide +kernel
theorem d_BR_fit_41 : decode b_BR_fit 41 = .ok (.ldc 182, 2) := by decide +kernel
theorem d_BR_fit_43 : decode b_BR_fit 43 = .ok (.invokespecial 98, 3) := by decide +kernel
theorem d_BR_fit_46 : decode b_BR_fit 46 = .ok (.athrow, 1) := by decide +kernel
theorem d_BR_fit_47 : decode b_BR_fit 47 = .ok (.iload_n 1, 1) := by decide +kernel
theorem d_BR_fit_48 : decode b_BR_fit 48 = .ok (.ifCond .ne 13, 3) := by decide +kernel
theorem d_BR_fit_51 : decode b_BR_fit 51 = .ok (.aload_n 0, 1) := by decide +kernel
theorem d_BR_fit_52 : decode b_BR_fit 52 = .ok (.getfield 37, 3) := by decide +kernel
theorem d_BR_fit_55 : decode b_BR_fit 55 = .ok (.invokevirtual 184, 3) := by decide +kernel
theorem d_BR_fit_58 : decode b_BR_fit 58 = .ok (.goto 10, 3) := by decide +kernel
theorem d_BR_fit_61 : decode b_BR_fit 61 = .ok (.aload_n 0, 1) := by decide +kernel
theorem d_BR_fit_62 : decode b_BR_fit 62 = .ok (.getfield 37, 3) := by decide +kernel
theorem d_BR_fit_65 : decode b_BR_fit 65 = .ok (.invokevirtual 187, 3) := by decide +kernel
theorem d_BR_fit_68 : decode b_BR_fit 68 = .ok (.lload_n 3, 1) := by decide +kernel
theorem d_BR_fit_69 : decode b_BR_fit 69 = .ok (.iload_n 2, 1) := by decide +kernel
theorem d_BR_fit_70 : decode b_BR_fit 70 = .ok (.invokestatic 134, 3) := by decide +kernel
theorem d_BR_fit_73 : decode b_BR_fit 73 = .ok (.lreturn, 1) := by decide +kernel
theorem d_BR_tick_0 : decode b_BR_tick 0 = .ok (.iload_n 1, 1) := by decide +kernel
theorem d_BR_tick_1 : decode b_BR_tick 1 = .ok (.iconst 1, 1) := by decide +kernel
theorem d_BR_tick_2 : decode b_BR_tick 2 = .ok (.sipush 1000, 3) := by decide +kernel
theorem d_BR_tick_5 : decode b_BR_tick 5 = .ok (.invokestatic 45, 3) := by decide +kernel
theorem d_BR_tick_8 : decode b_BR_tick 8 = .ok (.aload_n 0, 1) := by decide +kernel
theorem d_BR_tick_9 : decode b_BR_tick 9 = .ok (.getfield 63, 3) := by decide +kernel
theorem d_BR_tick_12 : decode b_BR_tick 12 = .ok (.iload_n 1, 1) := by decide +kernel
theorem d_BR_tick_13 : decode b_BR_tick 13 = .ok (.iadd, 1) := by decide +kernel
theorem d_BR_tick_14 : decode b_BR_tick 14 = .ok (.iconst 0, 1) := by decide +kernel
theorem d_BR_tick_15 : decode b_BR_tick 15 = .ok (.sipush 9999, 3) := by decide +kernel
theorem d_BR_tick_18 : decode b_BR_tick 18 = .ok (.invokestatic 45, 3) := by decide +kernel
theorem d_BR_tick_21 : decode b_BR_tick 21 = .ok (.aload_n 0, 1) := by decide +kernel
theorem d_BR_tick_22 : decode b_BR_tick 22 = .ok (.dup, 1) := by decide +kernel
theorem d_BR_tick_23 : decode b_BR_tick 23 = .ok (.getfield 63, 3) := by decide +kernel
theorem d_BR_tick_26 : decode b_BR_tick 26 = .ok (.iload_n 1, 1) := by decide +kernel
theorem d_BR_tick_27 : decode b_BR_tick 27 = .ok (.iadd, 1) := by decide +kernel
theorem d_BR_tick_28 : decode b_BR_tick 28 = .ok (.putfield 63, 3) := by decide +kernel
theorem d_BR_tick_31 : decode b_BR_tick 31 = .ok (.aload_n 0, 1) := by decide +kernel
theorem d_BR_tick_32 : decode b_BR_tick 32 = .ok (.getfield 63, 3) := by decide +kernel
theorem d_BR_tick_35 : decode b_BR_tick 35 = .ok (.ireturn, 1) := by decide +kernel
theorem d_BR_needMaterial_0 : decode b_BR_needMaterial 0 = .ok (.iload_n 0, 1) := by decide +kernel
theorem d_BR_needMaterial_1 : decode b_BR_needMaterial 1 = .ok (.ifCond .lt 9, 3) := by decide +kernel
theorem d_BR_needMaterial_4 : decode b_BR_needMaterial 4 = .ok (.iload_n 0, 1) := by decide +kernel
theorem d_BR_needMaterial_5 : decode b_BR_needMaterial 5 = .ok (.bipush 8, 2) := by decide +kernel
theorem d_BR_needMaterial_7 : decode b_BR_needMaterial 7 = .ok (.if_icmp .lt 13, 3) := by decide +kernel
theorem d_BR_needMaterial_10 : decode b_BR_needMaterial 10 = .ok (.new 152, 3) := by decide +kernel
theorem d_BR_needMaterial_13 : decode b_BR_needMaterial 13 = .ok (.dup, 1) := by decide +kernel
theorem d_BR_needMaterial_14 : decode b_BR_needMaterial 14 = .ok (.ldc 190, 2) := by decide +kernel
theorem d_BR_needMaterial_16 : decode b_BR_needMaterial 16 = .ok (.invokespecial 156, 3) := by decide +kernel
theorem d_BR_needMaterial_19 : decode b_BR_needMaterial 19 = .ok (.athrow, 1) := by decide +kernel
theorem d_BR_needMaterial_20 : decode b_BR_needMaterial 20 = .ok (.return_, 1) := by decide +kernel
theorem d_BR_needElement_0 : decode b_BR_needElement 0 = .ok (.iload_n 0, 1) := by decide +kernel
theorem d_BR_needElement_1 : decode b_BR_needElement 1 = .ok (.ifCond .lt 8, 3) := by decide +kernel
theorem d_BR_needElement_4 : decode b_BR_needElement 4 = .ok (.iload_n 0, 1) := by decide +kernel
theorem d_BR_needElement_5 : decode b_BR_needElement 5 = .ok (.iconst 4, 1) := by decide +kernel
theorem d_BR_needElement_6 : decode b_BR_needElement 6 = .ok (.if_icmp .lt 13, 3) := by decide +kernel
theorem d_BR_needElement_9 : decode b_BR_needElement 9 = .ok (.new 152, 3) := by decide +kernel
theorem d_BR_needElement_12 : decode b_BR_needElement 12 = .ok (.dup, 1) := by decide +kernel
theorem d_BR_needElement_13 : decode b_BR_needElement 13 = .ok (.ldc 192, 2) := by decide +kernel
theorem d_BR_needElement_15 : decode b_BR_needElement 15 = .ok (.invokespecial 156, 3) := by decide +kernel
theorem d_BR_needElement_18 : decode b_BR_needElement 18 = .ok (.athrow, 1) := by decide +kernel
theorem d_BR_needElement_19 : decode b_BR_needElement 19 = .ok (.return_, 1) := by decide +kernel
theorem d_BR_needPart_0 : decode b_BR_needPart 0 = .ok (.iload_n 0, 1) := by decide +kernel
theorem d_BR_needPart_1 : decode b_BR_needPart 1 = .ok (.ifCond .lt 8, 3) := by decide +kernel
theorem d_BR_needPart_4 : decode b_BR_needPart 4 = .ok (.iload_n 0, 1) := by decide +kernel
theorem d_BR_needPart_5 : decode b_BR_needPart 5 = .ok (.iconst 1, 1) := by decide +kernel
theorem d_BR_needPart_6 : decode b_BR_needPart 6 = .ok (.if_icmp .le 13, 3) := by decide +kernel
theorem d_BR_needPart_9 : decode b_BR_needPart 9 = .ok (.new 152, 3) := by decide +kernel
theorem d_BR_needPart_12 : decode b_BR_needPart 12 = .ok (.dup, 1) := by decide +kernel
theorem d_BR_needPart_13 : decode b_BR_needPart 13 = .ok (.ldc 194, 2) := by decide +kernel
theorem d_BR_needPart_15 : decode b_BR_needPart 15 = .ok (.invokespecial 156, 3) := by decide +kernel
theorem d_BR_needPart_18 : decode b_BR_needPart 18 = .ok (.athrow, 1) := by decide +kernel
theorem d_BR_needPart_19 : decode b_BR_needPart 19 = .ok (.return_, 1) := by decide +kernel
theorem d_BR_needRange_0 : decode b_BR_needRange 0 = .ok (.iload_n 0, 1) := by decide +kernel
theorem d_BR_needRange_1 : decode b_BR_needRange 1 = .ok (.iload_n 1, 1) := by decide +kernel
theorem d_BR_needRange_2 : decode b_BR_needRange 2 = .ok (.if_icmp .lt 8, 3) := by decide +kernel
theorem d_BR_needRange_5 : decode b_BR_needRange 5 = .ok (.iload_n 0, 1) := by decide +kernel
theorem d_BR_needRange_6 : decode b_BR_needRange 6 = .ok (.iload_n 2, 1) := by decide +kernel
theorem d_BR_needRange_7 : decode b_BR_needRange 7 = .ok (.if_icmp .le 13, 3) := by decide +kernel
theorem d_BR_needRange_10 : decode b_BR_needRange 10 = .ok (.new 196, 3) := by decide +kernel
theorem d_BR_needRange_13 : decode b_BR_needRange 13 = .ok (.dup, 1) := by decide +kernel
theorem d_BR_needRange_14 : decode b_BR_needRange 14 = .ok (.ldc 198, 2) := by decide +kernel
theorem d_BR_needRange_16 : decode b_BR_needRange 16 = .ok (.invokespecial 200, 3) := by decide +kernel
theorem d_BR_needRange_19 : decode b_BR_needRange 19 = .ok (.athrow, 1) := by decide +kernel
theorem d_BR_needRange_20 : decode b_BR_needRange 20 = .ok (.return_, 1) := by decide +kernel
theorem d_BR_needTaken_0 : decode b_BR_needTaken 0 = .ok (.aload_n 0, 1) := by decide +kernel
theorem d_BR_needTaken_1 : decode b_BR_needTaken 1 = .ok (.getfield 86, 3) := by decide +kernel
theorem d_BR_needTaken_4 : decode b_BR_needTaken 4 = .ok (.ifCond .ne 13, 3) := by decide +kernel
theorem d_BR_needTaken_7 : decode b_BR_needTaken 7 = .ok (.new 56, 3) := by decide +kernel
theorem d_BR_needTaken_10 : decode b_BR_needTaken 10 = .ok (.dup, 1) := by decide +kernel
theorem d_BR_needTaken_11 : decode b_BR_needTaken 11 = .ok (.ldc 201, 2) := by decide +kernel
theorem d_BR_needTaken_13 : decode b_BR_needTaken 13 = .ok (.invokespecial 60, 3) := by decide +kernel
theorem d_BR_needTaken_16 : decode b_BR_needTaken 16 = .ok (.athrow, 1) := by decide +kernel
theorem d_BR_needTaken_17 : decode b_BR_needTaken 17 = .ok (.return_, 1) := by decide +kernel
theorem d_BR_needPile_0 : decode b_BR_needPile 0 = .ok (.iload_n 1, 1) := by decide +kernel
theorem d_BR_needPile_1 : decode b_BR_needPile 1 = .ok (.ifCond .lt 17, 3) := by decide +kernel
theorem d_BR_needPile_4 : decode b_BR_needPile 4 = .ok (.iload_n 1, 1) := by decide +kernel
theorem d_BR_needPile_5 : decode b_BR_needPile 5 = .ok (.iconst 4, 1) := by decide +kernel
theorem d_BR_needPile_6 : decode b_BR_needPile 6 = .ok (.if_icmp .ge 12, 3) := by decide +kernel
theorem d_BR_needPile_9 : decode b_BR_needPile 9 = .ok (.aload_n 0, 1) := by decide +kernel
theorem d_BR_needPile_10 : decode b_BR_needPile 10 = .ok (.getfield 30, 3) := by decide +kernel
theorem d_BR_needPile_13 : decode b_BR_needPile 13 = .ok (.iload_n 1, 1) := by decide +kernel
theorem d_BR_needPile_14 : decode b_BR_needPile 14 = .ok (.aaload, 1) := by decide +kernel
theorem d_BR_needPile_15 : decode b_BR_needPile 15 = .ok (.ifnonnull 13, 3) := by decide +kernel
theorem d_BR_needPile_18 : decode b_BR_needPile 18 = .ok (.new 152, 3) := by decide +kernel
theorem d_BR_needPile_21 : decode b_BR_needPile 21 = .ok (.dup, 1) := by decide +kernel
theorem d_BR_needPile_22 : decode b_BR_needPile 22 = .ok (.ldc 203, 2) := by decide +kernel
theorem d_BR_needPile_24 : decode b_BR_needPile 24 = .ok (.invokespecial 156, 3) := by decide +kernel
theorem d_BR_needPile_27 : decode b_BR_needPile 27 = .ok (.athrow, 1) := by decide +kernel
theorem d_BR_needPile_28 : decode b_BR_needPile 28 = .ok (.aload_n 0, 1) := by decide +kernel
theorem d_BR_needPile_29 : decode b_BR_needPile 29 = .ok (.getfield 30, 3) := by decide +kernel
theorem d_BR_needPile_32 : decode b_BR_needPile 32 = .ok (.iload_n 1, 1) := by decide +kernel
theorem d_BR_needPile_33 : decode b_BR_needPile 33 = .ok (.aaload, 1) := by decide +kernel
theorem d_BR_needPile_34 : decode b_BR_needPile 34 = .ok (.areturn, 1) := by decide +kernel
theorem d_BR_lostKilos_0 : decode b_BR_lostKilos 0 = .ok (.iload_n 0, 1) := by decide +kernel
theorem d_BR_lostKilos_1 : decode b_BR_lostKilos 1 = .ok (.iload_n 1, 1) := by decide +kernel
theorem d_BR_lostKilos_2 : decode b_BR_lostKilos 2 = .ok (.imul, 1) := by decide +kernel
theorem d_BR_lostKilos_3 : decode b_BR_lostKilos 3 = .ok (.sipush 1000, 3) := by decide +kernel
theorem d_BR_lostKilos_6 : decode b_BR_lostKilos 6 = .ok (.iadd, 1) := by decide +kernel
theorem d_BR_lostKilos_7 : decode b_BR_lostKilos 7 = .ok (.iconst 1, 1) := by decide +kernel
theorem d_BR_lostKilos_8 : decode b_BR_lostKilos 8 = .ok (.isub, 1) := by decide +kernel
theorem d_BR_lostKilos_9 : decode b_BR_lostKilos 9 = .ok (.sipush 1000, 3) := by decide +kernel
theorem d_BR_lostKilos_12 : decode b_BR_lostKilos 12 = .ok (.idiv, 1) := by decide +kernel
theorem d_BR_lostKilos_13 : decode b_BR_lostKilos 13 = .ok (.ireturn, 1) := by decide +kernel
theorem d_BR_stockOf_0 : decode b_BR_stockOf 0 = .ok (.aload_n 0, 1) := by decide +kernel
theorem d_BR_stockOf_1 : decode b_BR_stockOf 1 = .ok (.getfield 16, 3) := by decide +kernel
theorem d_BR_stockOf_4 : decode b_BR_stockOf 4 = .ok (.iload_n 1, 1) := by decide +kernel
theorem d_BR_stockOf_5 : decode b_BR_stockOf 5 = .ok (.iaload, 1) := by decide +kernel
theorem d_BR_stockOf_6 : decode b_BR_stockOf 6 = .ok (.ineg, 1) := by decide +kernel
theorem d_BR_stockOf_7 : decode b_BR_stockOf 7 = .ok (.istore_n 2, 1) := by decide +kernel
theorem d_BR_stockOf_8 : decode b_BR_stockOf 8 = .ok (.iconst 0, 1) := by decide +kernel
theorem d_BR_stockOf_9 : decode b_BR_stockOf 9 = .ok (.istore_n 3, 1) := by decide +kernel
theorem d_BR_stockOf_10 : decode b_BR_stockOf 10 = .ok (.iload_n 3, 1) := by decide +kernel
theorem d_BR_stockOf_11 : decode b_BR_stockOf 11 = .ok (.bipush 40, 2) := by decide +kernel
theorem d_BR_stockOf_13 : decode b_BR_stockOf 13 = .ok (.if_icmp .ge 49, 3) := by decide +kernel
theorem d_BR_stockOf_16 : decode b_BR_stockOf 16 = .ok (.iload_n 3, 1) := by decide +kernel
theorem d_BR_stockOf_17 : decode b_BR_stockOf 17 = .ok (.aload_n 0, 1) := by decide +kernel
theorem d_BR_stockOf_18 : decode b_BR_stockOf 18 = .ok (.getfield 52, 3) := by decide +kernel
theorem d_BR_stockOf_21 : decode b_BR_stockOf 21 = .ok (.if_icmp .ge 41, 3) := by decide +kernel
theorem d_BR_stockOf_24 : decode b_BR_stockOf 24 = .ok (.aload_n 0, 1) := by decide +kernel
theorem d_BR_stockOf_25 : decode b_BR_stockOf 25 = .ok (.getfield 22, 3) := by decide +kernel
theorem d_BR_stockOf_28 : decode b_BR_stockOf 28 = .ok (.iload_n 3, 1) := by decide +kernel
theorem d_BR_stockOf_29 : decode b_BR_stockOf 29 = .ok (.iaload, 1) := by decide +kernel
theorem d_BR_stockOf_30 : decode b_BR_stockOf 30 = .ok (.iload_n 1, 1) := by decide +kernel
theorem d_BR_stockOf_31 : decode b_BR_stockOf 31 = .ok (.if_icmp .ne 25, 3) := by decide +kernel
theorem d_BR_stockOf_34 : decode b_BR_stockOf 34 = .ok (.aload_n 0, 1) := by decide +kernel
theorem d_BR_stockOf_35 : decode b_BR_stockOf 35 = .ok (.getfield 19, 3) := by decide +kernel
theorem d_BR_stockOf_38 : decode b_BR_stockOf 38 = .ok (.iload_n 3, 1) := by decide +kernel
theorem d_BR_stockOf_39 : decode b_BR_stockOf 39 = .ok (.iaload, 1) := by decide +kernel
theorem d_BR_stockOf_40 : decode b_BR_stockOf 40 = .ok (.aload_n 0, 1) := by decide +kernel
theorem d_BR_stockOf_41 : decode b_BR_stockOf 41 = .ok (.getfield 63, 3) := by decide +kernel
theorem d_BR_stockOf_44 : decode b_BR_stockOf 44 = .ok (.if_icmp .gt 12, 3) := by decide +kernel
theorem d_BR_stockOf_47 : decode b_BR_stockOf 47 = .ok (.iload_n 2, 1) := by decide +kernel
theorem d_BR_stockOf_48 : decode b_BR_stockOf 48 = .ok (.aload_n 0, 1) := by decide +kernel
theorem d_BR_stockOf_49 : decode b_BR_stockOf 49 = .ok (.getfield 25, 3) := by decide +kernel
theorem d_BR_stockOf_52 : decode b_BR_stockOf 52 = .ok (.iload_n 3, 1) := by decide +kernel
theorem d_BR_stockOf_53 : decode b_BR_stockOf 53 = .ok (.iaload, 1) := by decide +kernel
theorem d_BR_stockOf_54 : decode b_BR_stockOf 54 = .ok (.iadd, 1) := by decide +kernel
theorem d_BR_stockOf_55 : decode b_BR_stockOf 55 = .ok (.istore_n 2, 1) := by decide +kernel
theorem d_BR_stockOf_56 : decode b_BR_stockOf 56 = .ok (.iinc 3 1, 3) := by decide +kernel
theorem d_BR_stockOf_59 : decode b_BR_stockOf 59 = .ok (.goto (-49), 3) := by decide +kernel
theorem d_BR_stockOf_62 : decode b_BR_stockOf 62 = .ok (.iload_n 2, 1) := by decide +kernel
theorem d_BR_stockOf_63 : decode b_BR_stockOf 63 = .ok (.ireturn, 1) := by decide +kernel
theorem d_BR_lowestTerms_0 : decode b_BR_lowestTerms 0 = .ok (.lload_n 0, 1) := by decide +kernel
theorem d_BR_lowestTerms_1 : decode b_BR_lowestTerms 1 = .ok (.lload_n 2, 1) := by decide +kernel
theorem d_BR_lowestTerms_2 : decode b_BR_lowestTerms 2 = .ok (.invokestatic 205, 3) := by decide +kernel
theorem d_BR_lowestTerms_5 : decode b_BR_lowestTerms 5 = .ok (.lstore 5, 2) := by decide +kernel
theorem d_BR_lowestTerms_7 : decode b_BR_lowestTerms 7 = .ok (.lload 5, 2) := by decide +kernel
theorem d_BR_lowestTerms_9 : decode b_BR_lowestTerms 9 = .ok (.lconst 0, 1) := by decide +kernel
theorem d_BR_lowestTerms_10 : decode b_BR_lowestTerms 10 = .ok (.lcmp, 1) := by decide +kernel
theorem d_BR_lowestTerms_11 : decode b_BR_lowestTerms 11 = .ok (.ifCond .ne 5, 3) := by decide +kernel
theorem d_BR_lowestTerms_14 : decode b_BR_lowestTerms 14 = .ok (.lconst 0, 1) := by decide +kernel
theorem d_BR_lowestTerms_15 : decode b_BR_lowestTerms 15 = .ok (.lreturn, 1) := by decide +kernel
theorem d_BR_lowestTerms_16 : decode b_BR_lowestTerms 16 = .ok (.iload 4, 2) := by decide +kernel
theorem d_BR_lowestTerms_18 : decode b_BR_lowestTerms 18 = .ok (.ifCond .ne 7, 3) := by decide +kernel
theorem d_BR_lowestTerms_21 : decode b_BR_lowestTerms 21 = .ok (.lload_n 0, 1) := by decide +kernel
theorem d_BR_lowestTerms_22 : decode b_BR_lowestTerms 22 = .ok (.goto 4, 3) := by decide +kernel
theorem d_BR_lowestTerms_25 : decode b_BR_lowestTerms 25 = .ok (.lload_n 2, 1) := by decide +kernel
theorem d_BR_lowestTerms_26 : decode b_BR_lowestTerms 26 = .ok (.lload 5, 2) := by decide +kernel
theorem d_BR_lowestTerms_28 : decode b_BR_lowestTerms 28 = .ok (.ldiv, 1) := by decide +kernel
theorem d_BR_lowestTerms_29 : decode b_BR_lowestTerms 29 = .ok (.lstore 7, 2) := by decide +kernel
theorem d_BR_lowestTerms_31 : decode b_BR_lowestTerms 31 = .ok (.lload_n 2, 1) := by decide +kernel
theorem d_BR_lowestTerms_32 : decode b_BR_lowestTerms 32 = .ok (.lconst 0, 1) := by decide +kernel
theorem d_BR_lowestTerms_33 : decode b_BR_lowestTerms 33 = .ok (.lcmp, 1) := by decide +kernel
theorem d_BR_lowestTerms_34 : decode b_BR_lowestTerms 34 = .ok (.ifCond .ge 9, 3) := by decide +kernel
theorem d_BR_lowestTerms_37 : decode b_BR_lowestTerms 37 = .ok (.lload 7, 2) := by decide +kernel
theorem d_BR_lowestTerms_39 : decode b_BR_lowestTerms 39 = .ok (.lneg, 1) := by decide +kernel
theorem d_BR_lowestTerms_40 : decode b_BR_lowestTerms 40 = .ok (.goto 5, 3) := by decide +kernel
theorem d_BR_lowestTerms_43 : decode b_BR_lowestTerms 43 = .ok (.lload 7, 2) := by decide +kernel
theorem d_BR_lowestTerms_45 : decode b_BR_lowestTerms 45 = .ok (.lreturn, 1) := by decide +kernel
theorem d_BR_commonDivisor_0 : decode b_BR_commonDivisor 0 = .ok (.lload_n 0, 1) := by decide +kernel
theorem d_BR_commonDivisor_1 : decode b_BR_commonDivisor 1 = .ok (.invokestatic 209, 3) := by decide +kernel
theorem d_BR_commonDivisor_4 : decode b_BR_commonDivisor 4 = .ok (.lstore 4, 2) := by decide +kernel
theorem d_BR_commonDivisor_6 : decode b_BR_commonDivisor 6 = .ok (.lload_n 2, 1) := by decide +kernel
theorem d_BR_commonDivisor_7 : decode b_BR_commonDivisor 7 = .ok (.invokestatic 209, 3) := by decide +kernel
theorem d_BR_commonDivisor_10 : decode b_BR_commonDivisor 10 = .ok (.lstore 6, 2) := by decide +kernel
theorem d_BR_commonDivisor_12 : decode b_BR_commonDivisor 12 = .ok (.iconst 0, 1) := by decide +kernel
theorem d_BR_commonDivisor_13 : decode b_BR_commonDivisor 13 = .ok (.istore 8, 2) := by decide +kernel
theorem d_BR_commonDivisor_15 : decode b_BR_commonDivisor 15 = .ok (.iload 8, 2) := by decide +kernel
theorem d_BR_commonDivisor_17 : decode b_BR_commonDivisor 17 = .ok (.bipush 100, 2) := by decide +kernel
theorem d_BR_commonDivisor_19 : decode b_BR_commonDivisor 19 = .ok (.if_icmp .ge 31, 3) := by decide +kernel
theorem d_BR_commonDivisor_22 : decode b_BR_commonDivisor 22 = .ok (.lload 6, 2) := by decide +kernel
theorem d_BR_commonDivisor_24 : decode b_BR_commonDivisor 24 = .ok (.lconst 0, 1) := by decide +kernel
theorem d_BR_commonDivisor_25 : decode b_BR_commonDivisor 25 = .ok (.lcmp, 1) := by decide +kernel
theorem d_BR_commonDivisor_26 : decode b_BR_commonDivisor 26 = .ok (.ifCond .eq 24, 3) := by decide +kernel
theorem d_BR_commonDivisor_29 : decode b_BR_commonDivisor 29 = .ok (.lload 4, 2) := by decide +kernel
theorem d_BR_commonDivisor_31 : decode b_BR_commonDivisor 31 = .ok (.lload 6, 2) := by decide +kernel
theorem d_BR_commonDivisor_33 : decode b_BR_commonDivisor 33 = .ok (.lrem, 1) := by decide +kernel
theorem d_BR_commonDivisor_34 : decode b_BR_commonDivisor 34 = .ok (.lstore 9, 2) := by decide +kernel
theorem d_BR_commonDivisor_36 : decode b_BR_commonDivisor 36 = .ok (.lload 6, 2) := by decide +kernel
theorem d_BR_commonDivisor_38 : decode b_BR_commonDivisor 38 = .ok (.lstore 4, 2) := by decide +kernel
theorem d_BR_commonDivisor_40 : decode b_BR_commonDivisor 40 = .ok (.lload 9, 2) := by decide +kernel
theorem d_BR_commonDivisor_42 : decode b_BR_commonDivisor 42 = .ok (.lstore 6, 2) := by decide +kernel
theorem d_BR_commonDivisor_44 : decode b_BR_commonDivisor 44 = .ok (.iinc 8 1, 3) := by decide +kernel
theorem d_BR_commonDivisor_47 : decode b_BR_commonDivisor 47 = .ok (.goto (-32), 3) := by decide +kernel
theorem d_BR_commonDivisor_50 : decode b_BR_commonDivisor 50 = .ok (.lload 4, 2) := by decide +kernel
theorem d_BR_commonDivisor_52 : decode b_BR_commonDivisor 52 = .ok (.lreturn, 1) := by decide +kernel
theorem d_PI_init_0 : decode b_PI_init 0 = .ok (.aload_n 0, 1) := by decide +kernel
theorem d_PI_init_1 : decode b_PI_init 1 = .ok (.invokespecial 3, 3) := by decide +kernel
theorem d_PI_init_4 : decode b_PI_init 4 = .ok (.aload_n 0, 1) := by decide +kernel
theorem d_PI_init_5 : decode b_PI_init 5 = .ok (.bipush 20, 2) := by decide +kernel
theorem d_PI_init_7 : decode b_PI_init 7 = .ok (.newarray .int, 2) := by decide +kernel
theorem d_PI_init_9 : decode b_PI_init 9 = .ok (.putfield 9, 3) := by decide +kernel
theorem d_PI_init_12 : decode b_PI_init 12 = .ok (.aload_n 0, 1) := by decide +kernel
theorem d_PI_init_13 : decode b_PI_init 13 = .ok (.bipush 80, 2) := by decide +kernel
theorem d_PI_init_15 : decode b_PI_init 15 = .ok (.newarray .int, 2) := by decide +kernel
theorem d_PI_init_17 : decode b_PI_init 17 = .ok (.putfield 15, 3) := by decide +kernel
theorem d_PI_init_20 : decode b_PI_init 20 = .ok (.aload_n 0, 1) := by decide +kernel
theorem d_PI_init_21 : decode b_PI_init 21 = .ok (.iconst 4, 1) := by decide +kernel
theorem d_PI_init_22 : decode b_PI_init 22 = .ok (.newarray .long, 2) := by decide +kernel
theorem d_PI_init_24 : decode b_PI_init 24 = .ok (.putfield 18, 3) := by decide +kernel
theorem d_PI_init_27 : decode b_PI_init 27 = .ok (.aload_n 0, 1) := by decide +kernel
theorem d_PI_init_28 : decode b_PI_init 28 = .ok (.iconst 4, 1) := by decide +kernel
theorem d_PI_init_29 : decode b_PI_init 29 = .ok (.newarray .long, 2) := by decide +kernel
theorem d_PI_init_31 : decode b_PI_init 31 = .ok (.putfield 22, 3) := by decide +kernel
theorem d_PI_init_34 : decode b_PI_init 34 = .ok (.aload_n 0, 1) := by decide +kernel
theorem d_PI_init_35 : decode b_PI_init 35 = .ok (.iconst 4, 1) := by decide +kernel
theorem d_PI_init_36 : decode b_PI_init 36 = .ok (.newarray .int, 2) := by decide +kernel
theorem d_PI_init_38 : decode b_PI_init 38 = .ok (.putfield 25, 3) := by decide +kernel
theorem d_PI_init_41 : decode b_PI_init 41 = .ok (.aload_n 0, 1) := by decide +kernel
theorem d_PI_init_42 : decode b_PI_init 42 = .ok (.iconst 4, 1) := by decide +kernel
theorem d_PI_init_43 : decode b_PI_init 43 = .ok (.newarray .long, 2) := by decide +kernel
theorem d_PI_init_45 : decode b_PI_init 45 = .ok (.putfield 28, 3) := by decide +kernel
theorem d_PI_init_48 : decode b_PI_init 48 = .ok (.aload_n 0, 1) := by decide +kernel
theorem d_PI_init_49 : decode b_PI_init 49 = .ok (.iconst 4, 1) := by decide +kernel
theorem d_PI_init_50 : decode b_PI_init 50 = .ok (.newarray .int, 2) := by decide +kernel
theorem d_PI_init_52 : decode b_PI_init 52 = .ok (.putfield 31, 3) := by decide +kernel
theorem d_PI_init_55 : decode b_PI_init 55 = .ok (.aload_n 0, 1) := by decide +kernel
theorem d_PI_init_56 : decode b_PI_init 56 = .ok (.iload_n 1, 1) := by decide +kernel
theorem d_PI_init_57 : decode b_PI_init 57 = .ok (.putfield 34, 3) := by decide +kernel
theorem d_PI_init_60 : decode b_PI_init 60 = .ok (.return_, 1) := by decide +kernel
theorem d_PI_addLayer_0 : decode b_PI_addLayer 0 = .ok (.aload_n 0, 1) := by decide +kernel
theorem d_PI_addLayer_1 : decode b_PI_addLayer 1 = .ok (.getfield 9, 3) := by decide +kernel
theorem d_PI_addLayer_4 : decode b_PI_addLayer 4 = .ok (.aload_n 0, 1) := by decide +kernel
theorem d_PI_addLayer_5 : decode b_PI_addLayer 5 = .ok (.getfield 38, 3) := by decide +kernel
theorem d_PI_addLayer_8 : decode b_PI_addLayer 8 = .ok (.iload_n 1, 1) := by decide +kernel
theorem d_PI_addLayer_9 : decode b_PI_addLayer 9 = .ok (.iastore, 1) := by decide +kernel
theorem d_PI_addLayer_10 : decode b_PI_addLayer 10 = .ok (.iconst 0, 1) := by decide +kernel
theorem d_PI_addLayer_11 : decode b_PI_addLayer 11 = .ok (.istore 4, 2) := by decide +kernel
theorem d_PI_addLayer_13 : decode b_PI_addLayer 13 = .ok (.iload 4, 2) := by decide +kernel
theorem d_PI_addLayer_15 : decode b_PI_addLayer 15 = .ok (.iconst 4, 1) := by decide +kernel
theorem d_PI_addLayer_16 : decode b_PI_addLayer 16 = .ok (.if_icmp .ge 31, 3) := by decide +kernel
theorem d_PI_addLayer_19 : decode b_PI_addLayer 19 = .ok (.aload_n 0, 1) := by decide +kernel
theorem d_PI_addLayer_20 : decode b_PI_addLayer 20 = .ok (.getfield 15, 3) := by decide +kernel
theorem d_PI_addLayer_23 : decode b_PI_addLayer 23 = .ok (.aload_n 0, 1) := by decide +kernel
theorem d_PI_addLayer_24 : decode b_PI_addLayer 24 = .ok (.getfield 38, 3) := by decide +kernel
theorem d_PI_addLayer_27 : decode b_PI_addLayer 27 = .ok (.iconst 4, 1) := by decide +kernel
theorem d_PI_addLayer_28 : decode b_PI_addLayer 28 = .ok (.imul, 1) := by decide +kernel
theorem d_PI_addLayer_29 : decode b_PI_addLayer 29 = .ok (.iload 4, 2) := by decide +kernel
theorem d_PI_addLayer_31 : decode b_PI_addLayer 31 = .ok (.iadd, 1) := by decide +kernel
theorem d_PI_addLayer_32 : decode b_PI_addLayer 32 = .ok (.aload_n 2, 1) := by decide +kernel
theorem d_PI_addLayer_33 : decode b_PI_addLayer 33 = .ok (.iload_n 3, 1) := by decide +kernel
theorem d_PI_addLayer_34 : decode b_PI_addLayer 34 = .ok (.iconst 4, 1) := by decide +kernel
theorem d_PI_addLayer_35 : decode b_PI_addLayer 35 = .ok (.imul, 1) := by decide +kernel
theorem d_PI_addLayer_36 : decode b_PI_addLayer 36 = .ok (.iload 4, 2) := by decide +kernel
theorem d_PI_addLayer_38 : decode b_PI_addLayer 38 = .ok (.iadd, 1) := by decide +kernel
theorem d_PI_addLayer_39 : decode b_PI_addLayer 39 = .ok (.iaload, 1) := by decide +kernel
theorem d_PI_addLayer_40 : decode b_PI_addLayer 40 = .ok (.iastore, 1) := by decide +kernel
theorem d_PI_addLayer_41 : decode b_PI_addLayer 41 = .ok (.iinc 4 1, 3) := by decide +kernel
theorem d_PI_addLayer_44 : decode b_PI_addLayer 44 = .ok (.goto (-31), 3) := by decide +kernel
theorem d_PI_addLayer_47 : decode b_PI_addLayer 47 = .ok (.aload_n 0, 1) := by decide +kernel
theorem d_PI_addLayer_48 : decode b_PI_addLayer 48 = .ok (.dup, 1) := by decide +kernel
theorem d_PI_addLayer_49 : decode b_PI_addLayer 49 = .ok (.getfield 41, 3) := by decide +kernel
theorem d_PI_addLayer_52 : decode b_PI_addLayer 52 = .ok (.iload_n 1, 1) := by decide +kernel
theorem d_PI_addLayer_53 : decode b_PI_addLayer 53 = .ok (.iadd, 1) := by decide +kernel
theorem d_PI_addLayer_54 : decode b_PI_addLayer 54 = .ok (.putfield 41, 3) := by decide +kernel
theorem d_PI_addLayer_57 : decode b_PI_addLayer 57 = .ok (.aload_n 0, 1) := by decide +kernel
theorem d_PI_addLayer_58 : decode b_PI_addLayer 58 = .ok (.dup, 1) := by decide +kernel
theorem d_PI_addLayer_59 : decode b_PI_addLayer 59 = .ok (.getfield 38, 3) := by decide +kernel
theorem d_PI_addLayer_62 : decode b_PI_addLayer 62 = .ok (.iconst 1, 1) := by decide +kernel
theorem d_PI_addLayer_63 : decode b_PI_addLayer 63 = .ok (.iadd, 1) := by decide +kernel
theorem d_PI_addLayer_64 : decode b_PI_addLayer 64 = .ok (.putfield 38, 3) := by decide +kernel
theorem d_PI_addLayer_67 : decode b_PI_addLayer 67 = .ok (.return_, 1) := by decide +kernel
theorem d_PI_takeNext_0 : decode b_PI_takeNext 0 = .ok (.aload_n 0, 1) := by decide +kernel
theorem d_PI_takeNext_1 : decode b_PI_takeNext 1 = .ok (.invokevirtual 44, 3) := by decide +kernel
theorem d_PI_takeNext_4 : decode b_PI_takeNext 4 = .ok (.iconst 0, 1) := by decide +kernel
theorem d_PI_takeNext_5 : decode b_PI_takeNext 5 = .ok (.istore_n 1, 1) := by decide +kernel
theorem d_PI_takeNext_6 : decode b_PI_takeNext 6 = .ok (.iload_n 1, 1) := by decide +kernel
theorem d_PI_takeNext_7 : decode b_PI_takeNext 7 = .ok (.bipush 20, 2) := by decide +kernel
theorem d_PI_takeNext_9 : decode b_PI_takeNext 9 = .ok (.if_icmp .ge 22, 3) := by decide +kernel
theorem d_PI_takeNext_12 : decode b_PI_takeNext 12 = .ok (.iload_n 1, 1) := by decide +kernel
theorem d_PI_takeNext_13 : decode b_PI_takeNext 13 = .ok (.aload_n 0, 1) := by decide +kernel
theorem d_PI_takeNext_14 : decode b_PI_takeNext 14 = .ok (.getfield 38, 3) := by decide +kernel
theorem d_PI_takeNext_17 : decode b_PI_takeNext 17 = .ok (.if_icmp .ge 14, 3) := by decide +kernel
theorem d_PI_takeNext_20 : decode b_PI_takeNext 20 = .ok (.aload_n 0, 1) := by decide +kernel
theorem d_PI_takeNext_21 : decode b_PI_takeNext 21 = .ok (.iload_n 1, 1) := by decide +kernel
theorem d_PI_takeNext_22 : decode b_PI_takeNext 22 = .ok (.invokevirtual 47, 3) := by decide +kernel
theorem d_PI_takeNext_25 : decode b_PI_takeNext 25 = .ok (.iinc 1 1, 3) := by decide +kernel
theorem d_PI_takeNext_28 : decode b_PI_takeNext 28 = .ok (.goto (-22), 3) := by decide +kernel
theorem d_PI_takeNext_31 : decode b_PI_takeNext 31 = .ok (.aload_n 0, 1) := by decide +kernel
theorem d_PI_takeNext_32 : decode b_PI_takeNext 32 = .ok (.dup, 1) := by decide +kernel
theorem d_PI_takeNext_33 : decode b_PI_takeNext 33 = .ok (.getfield 51, 3) := by decide +kernel
theorem d_PI_takeNext_36 : decode b_PI_takeNext 36 = .ok (.iconst 1, 1) := by decide +kernel
theorem d_PI_takeNext_37 : decode b_PI_takeNext 37 = .ok (.iadd, 1) := by decide +kernel
theorem d_PI_takeNext_38 : decode b_PI_takeNext 38 = .ok (.putfield 51, 3) := by decide +kernel
theorem d_PI_takeNext_41 : decode b_PI_takeNext 41 = .ok (.aload_n 0, 1) := by decide +kernel
theorem d_PI_takeNext_42 : decode b_PI_takeNext 42 = .ok (.dup, 1) := by decide +kernel
theorem d_PI_takeNext_43 : decode b_PI_takeNext 43 = .ok (.getfield 54, 3) := by decide +kernel
theorem d_PI_takeNext_46 : decode b_PI_takeNext 46 = .ok (.aload_n 0, 1) := by decide +kernel
theorem d_PI_takeNext_47 : decode b_PI_takeNext 47 = .ok (.getfield 57, 3) := by decide +kernel
theorem d_PI_takeNext_50 : decode b_PI_takeNext 50 = .ok (.iadd, 1) := by decide +kernel
theorem d_PI_takeNext_51 : decode b_PI_takeNext 51 = .ok (.putfield 54, 3) := by decide +kernel
theorem d_PI_takeNext_54 : decode b_PI_takeNext 54 = .ok (.aload_n 0, 1) := by decide +kernel
theorem d_PI_takeNext_55 : decode b_PI_takeNext 55 = .ok (.getfield 57, 3) := by decide +kernel
theorem d_PI_takeNext_58 : decode b_PI_takeNext 58 = .ok (.ifCond .le 26, 3) := by decide +kernel
theorem d_PI_takeNext_61 : decode b_PI_takeNext 61 = .ok (.iconst 0, 1) := by decide +kernel
theorem d_PI_takeNext_62 : decode b_PI_takeNext 62 = .ok (.istore_n 1, 1) := by decide +kernel
theorem d_PI_takeNext_63 : decode b_PI_takeNext 63 = .ok (.iload_n 1, 1) := by decide +kernel
theorem d_PI_takeNext_64 : decode b_PI_takeNext 64 = .ok (.iconst 4, 1) := by decide +kernel
theorem d_PI_takeNext_65 : decode b_PI_takeNext 65 = .ok (.if_icmp .ge 19, 3) := by decide +kernel
theorem d_PI_takeNext_68 : decode b_PI_takeNext 68 = .ok (.aload_n 0, 1) := by decide +kernel
theorem d_PI_takeNext_69 : decode b_PI_takeNext 69 = .ok (.iload_n 1, 1) := by decide +kernel
theorem d_PI_takeNext_70 : decode b_PI_takeNext 70 = .ok (.invokevirtual 60, 3) := by decide +kernel
theorem d_PI_takeNext_73 : decode b_PI_takeNext 73 = .ok (.aload_n 0, 1) := by decide +kernel
theorem d_PI_takeNext_74 : decode b_PI_takeNext 74 = .ok (.iload_n 1, 1) := by decide +kernel
theorem d_PI_takeNext_75 : decode b_PI_takeNext 75 = .ok (.invokevirtual 63, 3) := by decide +kernel
theorem d_PI_takeNext_78 : decode b_PI_takeNext 78 = .ok (.iinc 1 1, 3) := by decide +kernel
theorem d_PI_takeNext_81 : decode b_PI_takeNext 81 = .ok (.goto (-18), 3) := by decide +kernel
theorem d_PI_takeNext_84 : decode b_PI_takeNext 84 = .ok (.return_, 1) := by decide +kernel
theorem d_PI_clearLatest_0 : decode b_PI_clearLatest 0 = .ok (.aload_n 0, 1) := by decide +kernel
theorem d_PI_clearLatest_1 : decode b_PI_clearLatest 1 = .ok (.iconst 0, 1) := by decide +kernel
theorem d_PI_clearLatest_2 : decode b_PI_clearLatest 2 = .ok (.putfield 57, 3) := by decide +kernel
theorem d_PI_clearLatest_5 : decode b_PI_clearLatest 5 = .ok (.iconst 0, 1) := by decide +kernel
theorem d_PI_clearLatest_6 : decode b_PI_clearLatest 6 = .ok (.istore_n 1, 1) := by decide +kernel
theorem d_PI_clearLatest_7 : decode b_PI_clearLatest 7 = .ok (.iload_n 1, 1) := by decide +kernel
theorem d_PI_clearLatest_8 : decode b_PI_clearLatest 8 = .ok (.iconst 4, 1) := by decide +kernel
theorem d_PI_clearLatest_9 : decode b_PI_clearLatest 9 = .ok (.if_icmp .ge 16, 3) := by decide +kernel
theorem d_PI_clearLatest_12 : decode b_PI_clearLatest 12 = .ok (.aload_n 0, 1) := by decide +kernel
theorem d_PI_clearLatest_13 : decode b_PI_clearLatest 13 = .ok (.getfield 18, 3) := by decide +kernel
theorem d_PI_clearLatest_16 : decode b_PI_clearLatest 16 = .ok (.iload_n 1, 1) := by decide +kernel
theorem d_PI_clearLatest_17 : decode b_PI_clearLatest 17 = .ok (.lconst 0, 1) := by decide +kernel
theorem d_PI_clearLatest_18 : decode b_PI_clearLatest 18 = .ok (.lastore, 1) := by decide +kernel
theorem d_PI_clearLatest_19 : decode b_PI_clearLatest 19 = .ok (.iinc 1 1, 3) := by decide +kernel
theorem d_PI_clearLatest_22 : decode b_PI_clearLatest 22 = .ok (.goto (-15), 3) := by decide +kernel
theorem d_PI_clearLatest_25 : decode b_PI_clearLatest 25 = .ok (.return_, 1) := by decide +kernel
theorem d_PI_takeOfLayer_0 : decode b_PI_takeOfLayer 0 = .ok (.aload_n 0, 1) := by decide +kernel
theorem d_PI_takeOfLayer_1 : decode b_PI_takeOfLayer 1 = .ok (.iload_n 1, 1) := by decide +kernel
theorem d_PI_takeOfLayer_2 : decode b_PI_takeOfLayer 2 = .ok (.aload_n 0, 1) := by decide +kernel
theorem d_PI_takeOfLayer_3 : decode b_PI_takeOfLayer 3 = .ok (.getfield 51, 3) := by decide +kernel
theorem d_PI_takeOfLayer_6 : decode b_PI_takeOfLayer 6 = .ok (.iconst 1, 1) := by decide +kernel
theorem d_PI_takeOfLayer_7 : decode b_PI_takeOfLayer 7 = .ok (.iadd, 1) := by decide +kernel
theorem d_PI_takeOfLayer_8 : decode b_PI_takeOfLayer 8 = .ok (.invokevirtual 66, 3) := by decide +kernel
theorem d_PI_takeOfLayer_11 : decode b_PI_takeOfLayer 11 = .ok (.aload_n 0, 1) := by decide +kernel
theorem d_PI_takeOfLayer_12 : decode b_PI_takeOfLayer 12 = .ok (.iload_n 1, 1) := by decide +kernel
theorem d_PI_takeOfLayer_13 : decode b_PI_takeOfLayer 13 = .ok (.aload_n 0, 1) := by decide +kernel
theorem d_PI_takeOfLayer_14 : decode b_PI_takeOfLayer 14 = .ok (.getfield 51, 3) := by decide +kernel
theorem d_PI_takeOfLayer_17 : decode b_PI_takeOfLayer 17 = .ok (.invokevirtual 66, 3) := by decide +kernel
theorem d_PI_takeOfLayer_20 : decode b_PI_takeOfLayer 20 = .ok (.isub, 1) := by decide +kernel
theorem d_PI_takeOfLayer_21 : decode b_PI_takeOfLayer 21 = .ok (.istore_n 2, 1) := by decide +kernel
theorem d_PI_takeOfLayer_22 : decode b_PI_takeOfLayer 22 = .ok (.aload_n 0, 1) := by decide +kernel
theorem d_PI_takeOfLayer_23 : decode b_PI_takeOfLayer 23 = .ok (.dup, 1) := by decide +kernel
theorem d_PI_takeOfLayer_24 : decode b_PI_takeOfLayer 24 = .ok (.getfield 57, 3) := by decide +kernel
theorem d_PI_takeOfLayer_27 : decode b_PI_takeOfLayer 27 = .ok (.iload_n 2, 1) := by decide +kernel
theorem d_PI_takeOfLayer_28 : decode b_PI_takeOfLayer 28 = .ok (.iadd, 1) := by decide +kernel
theorem d_PI_takeOfLayer_29 : decode b_PI_takeOfLayer 29 = .ok (.putfield 57, 3) := by decide +kernel
theorem d_PI_takeOfLayer_32 : decode b_PI_takeOfLayer 32 = .ok (.iconst 0, 1) := by decide +kernel
theorem d_PI_takeOfLayer_33 : decode b_PI_takeOfLayer 33 = .ok (.istore_n 3, 1) := by decide +kernel
theorem d_PI_takeOfLayer_34 : decode b_PI_takeOfLayer 34 = .ok (.iload_n 3, 1) := by decide +kernel
theorem d_PI_takeOfLayer_35 : decode b_PI_takeOfLayer 35 = .ok (.iconst 4, 1) := by decide +kernel
theorem d_PI_takeOfLayer_36 : decode b_PI_takeOfLayer 36 = .ok (.if_icmp .ge 32, 3) := by decide +kernel
theorem d_PI_takeOfLayer_39 : decode b_PI_takeOfLayer 39 = .ok (.aload_n 0, 1) := by decide +kernel
theorem d_PI_takeOfLayer_40 : decode b_PI_takeOfLayer 40 = .ok (.getfield 18, 3) := by decide +kernel
theorem d_PI_takeOfLayer_43 : decode b_PI_takeOfLayer 43 = .ok (.iload_n 3, 1) := by decide +kernel
theorem d_PI_takeOfLayer_44 : decode b_PI_takeOfLayer 44 = .ok (.dup2, 1) := by decide +kernel
theorem d_PI_takeOfLayer_45 : decode b_PI_takeOfLayer 45 = .ok (.laload, 1) := by decide +kernel
theorem d_PI_takeOfLayer_46 : decode b_PI_takeOfLayer 46 = .ok (.iload_n 2, 1) := by decide +kernel
theorem d_PI_takeOfLayer_47 : decode b_PI_takeOfLayer 47 = .ok (.i2l, 1) := by decide +kernel
theorem d_PI_takeOfLayer_48 : decode b_PI_takeOfLayer 48 = .ok (.aload_n 0, 1) := by decide +kernel
theorem d_PI_takeOfLayer_49 : decode b_PI_takeOfLayer 49 = .ok (.getfield 15, 3) := by decide +kernel
theorem d_PI_takeOfLayer_52 : decode b_PI_takeOfLayer 52 = .ok (.iload_n 1, 1) := by decide +kernel
theorem d_PI_takeOfLayer_53 : decode b_PI_takeOfLayer 53 = .ok (.iconst 4, 1) := by decide +kernel
theorem d_PI_takeOfLayer_54 : decode b_PI_takeOfLayer 54 = .ok (.imul, 1) := by decide +kernel
theorem d_PI_takeOfLayer_55 : decode b_PI_takeOfLayer 55 = .ok (.iload_n 3, 1) := by decide +kernel
theorem d_PI_takeOfLayer_56 : decode b_PI_takeOfLayer 56 = .ok (.iadd, 1) := by decide +kernel
theorem d_PI_takeOfLayer_57 : decode b_PI_takeOfLayer 57 = .ok (.iaload, 1) := by decide +kernel
theorem d_PI_takeOfLayer_58 : decode b_PI_takeOfLayer 58 = .ok (.i2l, 1) := by decide +kernel
theorem d_PI_takeOfLayer_59 : decode b_PI_takeOfLayer 59 = .ok (.lmul, 1) := by decide +kernel
theorem d_PI_takeOfLayer_60 : decode b_PI_takeOfLayer 60 = .ok (.ladd, 1) := by decide +kernel
theorem d_PI_takeOfLayer_61 : decode b_PI_takeOfLayer 61 = .ok (.lastore, 1) := by decide +kernel
theorem d_PI_takeOfLayer_62 : decode b_PI_takeOfLayer 62 = .ok (.iinc 3 1, 3) := by decide +kernel
theorem d_PI_takeOfLayer_65 : decode b_PI_takeOfLayer 65 = .ok (.goto (-31), 3) := by decide +kernel
theorem d_PI_takeOfLayer_68 : decode b_PI_takeOfLayer 68 = .ok (.return_, 1) := by decide +kernel
theorem d_PI_gramsBefore_0 : decode b_PI_gramsBefore 0 = .ok (.aload_n 0, 1) := by decide +kernel
theorem d_PI_gramsBefore_1 : decode b_PI_gramsBefore 1 = .ok (.getfield 34, 3) := by decide +kernel
theorem d_PI_gramsBefore_4 : decode b_PI_gramsBefore 4 = .ok (.iconst 1, 1) := by decide +kernel
theorem d_PI_gramsBefore_5 : decode b_PI_gramsBefore 5 = .ok (.if_icmp .ge 7, 3) := by decide +kernel
theorem d_PI_gramsBefore_8 : decode b_PI_gramsBefore 8 = .ok (.iconst 0, 1) := by decide +kernel
theorem d_PI_gramsBefore_9 : decode b_PI_gramsBefore 9 = .ok (.goto 20, 3) := by decide +kernel
theorem d_PI_gramsBefore_12 : decode b_PI_gramsBefore 12 = .ok (.aload_n 0, 1) := by decide +kernel
theorem d_PI_gramsBefore_13 : decode b_PI_gramsBefore 13 = .ok (.getfield 9, 3) := by decide +kernel
theorem d_PI_gramsBefore_16 : decode b_PI_gramsBefore 16 = .ok (.iload_n 1, 1) := by decide +kernel
theorem d_PI_gramsBefore_17 : decode b_PI_gramsBefore 17 = .ok (.iaload, 1) := by decide +kernel
theorem d_PI_gramsBefore_18 : decode b_PI_gramsBefore 18 = .ok (.i2l, 1) := by decide +kernel
theorem d_PI_gramsBefore_19 : decode b_PI_gramsBefore 19 = .ok (.iload_n 2, 1) := by decide +kernel
theorem d_PI_gramsBefore_20 : decode b_PI_gramsBefore 20 = .ok (.i2l, 1) := by decide +kernel
theorem d_PI_gramsBefore_21 : decode b_PI_gramsBefore 21 = .ok (.lmul, 1) := by decide +kernel
theorem d_PI_gramsBefore_22 : decode b_PI_gramsBefore 22 = .ok (.aload_n 0, 1) := by decide +kernel
theorem d_PI_gramsBefore_23 : decode b_PI_gramsBefore 23 = .ok (.getfield 34, 3) := by decide +kernel
theorem d_PI_gramsBefore_26 : decode b_PI_gramsBefore 26 = .ok (.i2l, 1) := by decide +kernel
theorem d_PI_gramsBefore_27 : decode b_PI_gramsBefore 27 = .ok (.ldiv, 1) := by decide +kernel
theorem d_PI_gramsBefore_28 : decode b_PI_gramsBefore 28 = .ok (.l2i, 1) := by decide +kernel
theorem d_PI_gramsBefore_29 : decode b_PI_gramsBefore 29 = .ok (.ireturn, 1) := by decide +kernel
theorem d_PI_noteGreatest_0 : decode b_PI_noteGreatest 0 = .ok (.aload_n 0, 1) := by decide +kernel
theorem d_PI_noteGreatest_1 : decode b_PI_noteGreatest 1 = .ok (.getfield 25, 3) := by decide +kernel
theorem d_PI_noteGreatest_4 : decode b_PI_noteGreatest 4 = .ok (.iload_n 1, 1) := by decide +kernel
theorem d_PI_noteGreatest_5 : decode b_PI_noteGreatest 5 = .ok (.iaload, 1) := by decide +kernel
theorem d_PI_noteGreatest_6 : decode b_PI_noteGreatest 6 = .ok (.ifCond .eq 33, 3) := by decide +kernel
theorem d_PI_noteGreatest_9 : decode b_PI_noteGreatest 9 = .ok (.aload_n 0, 1) := by decide +kernel
theorem d_PI_noteGreatest_10 : decode b_PI_noteGreatest 10 = .ok (.getfield 18, 3) := by decide +kernel
theorem d_PI_noteGreatest_13 : decode b_PI_noteGreatest 13 = .ok (.iload_n 1, 1) := by decide +kernel
theorem d_PI_noteGreatest_14 : decode b_PI_noteGreatest 14 = .ok (.laload, 1) := by decide +kernel
theorem d_PI_noteGreatest_15 : decode b_PI_noteGreatest 15 = .ok (.aload_n 0, 1) := by decide +kernel
theorem d_PI_noteGreatest_16 : decode b_PI_noteGreatest 16 = .ok (.getfield 25, 3) := by decide +kernel
theorem d_PI_noteGreatest_19 : decode b_PI_noteGreatest 19 = .ok (.iload_n 1, 1) := by decide +kernel
theorem d_PI_noteGreatest_20 : decode b_PI_noteGreatest 20 = .ok (.iaload, 1) := by decide +kernel
theorem d_PI_noteGreatest_21 : decode b_PI_noteGreatest 21 = .ok (.i2l, 1) := by decide +kernel
theorem d_PI_noteGreatest_22 : decode b_PI_noteGreatest 22 = .ok (.lmul, 1) := by decide +kernel
theorem d_PI_noteGreatest_23 : decode b_PI_noteGreatest 23 = .ok (.aload_n 0, 1) := by decide +kernel
theorem d_PI_noteGreatest_24 : decode b_PI_noteGreatest 24 = .ok (.getfield 22, 3) := by decide +kernel
theorem d_PI_noteGreatest_27 : decode b_PI_noteGreatest 27 = .ok (.iload_n 1, 1) := by decide +kernel
theorem d_PI_noteGreatest_28 : decode b_PI_noteGreatest 28 = .ok (.laload, 1) := by decide +kernel
theorem d_PI_noteGreatest_29 : decode b_PI_noteGreatest 29 = .ok (.aload_n 0, 1) := by decide +kernel
theorem d_PI_noteGreatest_30 : decode b_PI_noteGreatest 30 = .ok (.getfield 57, 3) := by decide +kernel
theorem d_PI_noteGreatest_33 : decode b_PI_noteGreatest 33 = .ok (.i2l, 1) := by decide +kernel
theorem d_PI_noteGreatest_34 : decode b_PI_noteGreatest 34 = .ok (.lmul, 1) := by decide +kernel
theorem d_PI_noteGreatest_35 : decode b_PI_noteGreatest 35 = .ok (.lcmp, 1) := by decide +kernel
theorem d_PI_noteGreatest_36 : decode b_PI_noteGreatest 36 = .ok (.ifCond .le 25, 3) := by decide +kernel
theorem d_PI_noteGreatest_39 : decode b_PI_noteGreatest 39 = .ok (.aload_n 0, 1) := by decide +kernel
theorem d_PI_noteGreatest_40 : decode b_PI_noteGreatest 40 = .ok (.getfield 22, 3) := by decide +kernel
theorem d_PI_noteGreatest_43 : decode b_PI_noteGreatest 43 = .ok (.iload_n 1, 1) := by decide +kernel
theorem d_PI_noteGreatest_44 : decode b_PI_noteGreatest 44 = .ok (.aload_n 0, 1) := by decide +kernel
theorem d_PI_noteGreatest_45 : decode b_PI_noteGreatest 45 = .ok (.getfield 18, 3) := by decide +kernel
theorem d_PI_noteGreatest_48 : decode b_PI_noteGreatest 48 = .ok (.iload_n 1, 1) := by decide +kernel
theorem d_PI_noteGreatest_49 : decode b_PI_noteGreatest 49 = .ok (.laload, 1) := by decide +kernel
theorem d_PI_noteGreatest_50 : decode b_PI_noteGreatest 50 = .ok (.lastore, 1) := by decide +kernel
theorem d_PI_noteGreatest_51 : decode b_PI_noteGreatest 51 = .ok (.aload_n 0, 1) := by decide +kernel
theorem d_PI_noteGreatest_52 : decode b_PI_noteGreatest 52 = .ok (.getfield 25, 3) := by decide +kernel
theorem d_PI_noteGreatest_55 : decode b_PI_noteGreatest 55 = .ok (.iload_n 1, 1) := by decide +kernel
theorem d_PI_noteGreatest_56 : decode b_PI_noteGreatest 56 = .ok (.aload_n 0, 1) := by decide +kernel
theorem d_PI_noteGreatest_57 : decode b_PI_noteGreatest 57 = .ok (.getfield 57, 3) := by decide +kernel
theorem d_PI_noteGreatest_60 : decode b_PI_noteGreatest 60 = .ok (.iastore, 1) := by decide +kernel
theorem d_PI_noteGreatest_61 : decode b_PI_noteGreatest 61 = .ok (.return_, 1) := by decide +kernel
theorem d_PI_noteLeast_0 : decode b_PI_noteLeast 0 = .ok (.aload_n 0, 1) := by decide +kernel
theorem d_PI_noteLeast_1 : decode b_PI_noteLeast 1 = .ok (.getfield 31, 3) := by decide +kernel
theorem d_PI_noteLeast_4 : decode b_PI_noteLeast 4 = .ok (.iload_n 1, 1) := by decide +kernel
theorem d_PI_noteLeast_5 : decode b_PI_noteLeast 5 = .ok (.iaload, 1) := by decide +kernel
theorem d_PI_noteLeast_6 : decode b_PI_noteLeast 6 = .ok (.ifCond .eq 33, 3) := by decide +kernel
theorem d_PI_noteLeast_9 : decode b_PI_noteLeast 9 = .ok (.aload_n 0, 1) := by decide +kernel
theorem d_PI_noteLeast_10 : decode b_PI_noteLeast 10 = .ok (.getfield 18, 3) := by decide +kernel
theorem d_PI_noteLeast_13 : decode b_PI_noteLeast 13 = .ok (.iload_n 1, 1) := by decide +kernel
theorem d_PI_noteLeast_14 : decode b_PI_noteLeast 14 = .ok (.laload, 1) := by decide +kernel
theorem d_PI_noteLeast_15 : decode b_PI_noteLeast 15 = .ok (.aload_n 0, 1) := by decide +kernel
theorem d_PI_noteLeast_16 : decode b_PI_noteLeast 16 = .ok (.getfield 31, 3) := by decide +kernel
theorem d_PI_noteLeast_19 : decode b_PI_noteLeast 19 = .ok (.iload_n 1, 1) := by decide +kernel
theorem d_PI_noteLeast_20 : decode b_PI_noteLeast 20 = .ok (.iaload, 1) := by decide +kernel
theorem d_PI_noteLeast_21 : decode b_PI_noteLeast 21 = .ok (.i2l, 1) := by decide +kernel
theorem d_PI_noteLeast_22 : decode b_PI_noteLeast 22 = .ok (.lmul, 1) := by decide +kernel
theorem d_PI_noteLeast_23 : decode b_PI_noteLeast 23 = .ok (.aload_n 0, 1) := by decide +kernel
theorem d_PI_noteLeast_24 : decode b_PI_noteLeast 24 = .ok (.getfield 28, 3) := by decide +kernel
theorem d_PI_noteLeast_27 : decode b_PI_noteLeast 27 = .ok (.iload_n 1, 1) := by decide +kernel
theorem d_PI_noteLeast_28 : decode b_PI_noteLeast 28 = .ok (.laload, 1) := by decide +kernel
theorem d_PI_noteLeast_29 : decode b_PI_noteLeast 29 = .ok (.aload_n 0, 1) := by decide +kernel
theorem d_PI_noteLeast_30 : decode b_PI_noteLeast 30 = .ok (.getfield 57, 3) := by decide +kernel
theorem d_PI_noteLeast_33 : decode b_PI_noteLeast 33 = .ok (.i2l, 1) := by decide +kernel
theorem d_PI_noteLeast_34 : decode b_PI_noteLeast 34 = .ok (.lmul, 1) := by decide +kernel
theorem d_PI_noteLeast_35 : decode b_PI_noteLeast 35 = .ok (.lcmp, 1) := by decide +kernel
theorem d_PI_noteLeast_36 : decode b_PI_noteLeast 36 = .ok (.ifCond .ge 25, 3) := by decide +kernel
theorem d_PI_noteLeast_39 : decode b_PI_noteLeast 39 = .ok (.aload_n 0, 1) := by decide +kernel
theorem d_PI_noteLeast_40 : decode b_PI_noteLeast 40 = .ok (.getfield 28, 3) := by decide +kernel
theorem d_PI_noteLeast_43 : decode b_PI_noteLeast 43 = .ok (.iload_n 1, 1) := by decide +kernel
theorem d_PI_noteLeast_44 : decode b_PI_noteLeast 44 = .ok (.aload_n 0, 1) := by decide +kernel
theorem d_PI_noteLeast_45 : decode b_PI_noteLeast 45 = .ok (.getfield 18, 3) := by decide +kernel
theorem d_PI_noteLeast_48 : decode b_PI_noteLeast 48 = .ok (.iload_n 1, 1) := by decide +kernel
theorem d_PI_noteLeast_49 : decode b_PI_noteLeast 49 = .ok (.laload, 1) := by decide +kernel
theorem d_PI_noteLeast_50 : decode b_PI_noteLeast 50 = .ok (.lastore, 1) := by decide +kernel
theorem d_PI_noteLeast_51 : decode b_PI_noteLeast 51 = .ok (.aload_n 0, 1) := by decide +kernel
theorem d_PI_noteLeast_52 : decode b_PI_noteLeast 52 = .ok (.getfield 31, 3) := by decide +kernel
theorem d_PI_noteLeast_55 : decode b_PI_noteLeast 55 = .ok (.iload_n 1, 1) := by decide +kernel
theorem d_PI_noteLeast_56 : decode b_PI_noteLeast 56 = .ok (.aload_n 0, 1) := by decide +kernel
theorem d_PI_noteLeast_57 : decode b_PI_noteLeast 57 = .ok (.getfield 57, 3) := by decide +kernel
theorem d_PI_noteLeast_60 : decode b_PI_noteLeast 60 = .ok (.iastore, 1) := by decide +kernel
theorem d_PI_noteLeast_61 : decode b_PI_noteLeast 61 = .ok (.return_, 1) := by decide +kernel
theorem d_PI_spreadUpper_0 : decode b_PI_spreadUpper 0 = .ok (.aload_n 0, 1) := by decide +kernel
theorem d_PI_spreadUpper_1 : decode b_PI_spreadUpper 1 = .ok (.getfield 22, 3) := by decide +kernel
theorem d_PI_spreadUpper_4 : decode b_PI_spreadUpper 4 = .ok (.iload_n 1, 1) := by decide +kernel
theorem d_PI_spreadUpper_5 : decode b_PI_spreadUpper 5 = .ok (.laload, 1) := by decide +kernel
theorem d_PI_spreadUpper_6 : decode b_PI_spreadUpper 6 = .ok (.aload_n 0, 1) := by decide +kernel
theorem d_PI_spreadUpper_7 : decode b_PI_spreadUpper 7 = .ok (.getfield 31, 3) := by decide +kernel
theorem d_PI_spreadUpper_10 : decode b_PI_spreadUpper 10 = .ok (.iload_n 1, 1) := by decide +kernel
theorem d_PI_spreadUpper_11 : decode b_PI_spreadUpper 11 = .ok (.iaload, 1) := by decide +kernel
theorem d_PI_spreadUpper_12 : decode b_PI_spreadUpper 12 = .ok (.i2l, 1) := by decide +kernel
theorem d_PI_spreadUpper_13 : decode b_PI_spreadUpper 13 = .ok (.lmul, 1) := by decide +kernel
theorem d_PI_spreadUpper_14 : decode b_PI_spreadUpper 14 = .ok (.aload_n 0, 1) := by decide +kernel
theorem d_PI_spreadUpper_15 : decode b_PI_spreadUpper 15 = .ok (.getfield 28, 3) := by decide +kernel
theorem d_PI_spreadUpper_18 : decode b_PI_spreadUpper 18 = .ok (.iload_n 1, 1) := by decide +kernel
theorem d_PI_spreadUpper_19 : decode b_PI_spreadUpper 19 = .ok (.laload, 1) := by decide +kernel
theorem d_PI_spreadUpper_20 : decode b_PI_spreadUpper 20 = .ok (.aload_n 0, 1) := by decide +kernel
theorem d_PI_spreadUpper_21 : decode b_PI_spreadUpper 21 = .ok (.getfield 25, 3) := by decide +kernel
theorem d_PI_spreadUpper_24 : decode b_PI_spreadUpper 24 = .ok (.iload_n 1, 1) := by decide +kernel
theorem d_PI_spreadUpper_25 : decode b_PI_spreadUpper 25 = .ok (.iaload, 1) := by decide +kernel
theorem d_PI_spreadUpper_26 : decode b_PI_spreadUpper 26 = .ok (.i2l, 1) := by decide +kernel
theorem d_PI_spreadUpper_27 : decode b_PI_spreadUpper 27 = .ok (.lmul, 1) := by decide +kernel
theorem d_PI_spreadUpper_28 : decode b_PI_spreadUpper 28 = .ok (.lsub, 1) := by decide +kernel
theorem d_PI_spreadUpper_29 : decode b_PI_spreadUpper 29 = .ok (.lreturn, 1) := by decide +kernel
theorem d_PI_spreadLower_0 : decode b_PI_spreadLower 0 = .ok (.aload_n 0, 1) := by decide +kernel
theorem d_PI_spreadLower_1 : decode b_PI_spreadLower 1 = .ok (.getfield 25, 3) := by decide +kernel
theorem d_PI_spreadLower_4 : decode b_PI_spreadLower 4 = .ok (.iload_n 1, 1) := by decide +kernel
theorem d_PI_spreadLower_5 : decode b_PI_spreadLower 5 = .ok (.iaload, 1) := by decide +kernel
theorem d_PI_spreadLower_6 : decode b_PI_spreadLower 6 = .ok (.i2l, 1) := by decide +kernel
theorem d_PI_spreadLower_7 : decode b_PI_spreadLower 7 = .ok (.aload_n 0, 1) := by decide +kernel
theorem d_PI_spreadLower_8 : decode b_PI_spreadLower 8 = .ok (.getfield 31, 3) := by decide +kernel
theorem d_PI_spreadLower_11 : decode b_PI_spreadLower 11 = .ok (.iload_n 1, 1) := by decide +kernel
theorem d_PI_spreadLower_12 : decode b_PI_spreadLower 12 = .ok (.iaload, 1) := by decide +kernel
theorem d_PI_spreadLower_13 : decode b_PI_spreadLower 13 = .ok (.i2l, 1) := by decide +kernel
theorem d_PI_spreadLower_14 : decode b_PI_spreadLower 14 = .ok (.lmul, 1) := by decide +kernel
theorem d_PI_spreadLower_15 : decode b_PI_spreadLower 15 = .ok (.lreturn, 1) := by decide +kernel
theorem d_LI_init_0 : decode b_LI_init 0 = .ok (.aload_n 0, 1) := by decide +kernel
theorem d_LI_init_1 : decode b_LI_init 1 = .ok (.invokespecial 1, 3) := by decide +kernel
theorem d_LI_init_4 : decode b_LI_init 4 = .ok (.return_, 1) := by decide +kernel
theorem d_LI_addPoint_0 : decode b_LI_addPoint 0 = .ok (.aload_n 0, 1) := by decide +kernel
theorem d_LI_addPoint_1 : decode b_LI_addPoint 1 = .ok (.dup, 1) := by decide +kernel
theorem d_LI_addPoint_2 : decode b_LI_addPoint 2 = .ok (.getfield 7, 3) := by decide +kernel
theorem d_LI_addPoint_5 : decode b_LI_addPoint 5 = .ok (.iconst 1, 1) := by decide +kernel
theorem d_LI_addPoint_6 : decode b_LI_addPoint 6 = .ok (.iadd, 1) := by decide +kernel
theorem d_LI_addPoint_7 : decode b_LI_addPoint 7 = .ok (.putfield 7, 3) := by decide +kernel
theorem d_LI_addPoint_10 : decode b_LI_addPoint 10 = .ok (.aload_n 0, 1) := by decide +kernel
theorem d_LI_addPoint_11 : decode b_LI_addPoint 11 = .ok (.dup, 1) := by decide +kernel
theorem d_LI_addPoint_12 : decode b_LI_addPoint 12 = .ok (.getfield 13, 3) := by decide +kernel
theorem d_LI_addPoint_15 : decode b_LI_addPoint 15 = .ok (.iload_n 1, 1) := by decide +kernel
theorem d_LI_addPoint_16 : decode b_LI_addPoint 16 = .ok (.i2l, 1) := by decide +kernel
theorem d_LI_addPoint_17 : decode b_LI_addPoint 17 = .ok (.ladd, 1) := by decide +kernel
theorem d_LI_addPoint_18 : decode b_LI_addPoint 18 = .ok (.putfield 13, 3) := by decide +kernel
theorem d_LI_addPoint_21 : decode b_LI_addPoint 21 = .ok (.aload_n 0, 1) := by decide +kernel
theorem d_LI_addPoint_22 : decode b_LI_addPoint 22 = .ok (.dup, 1) := by decide +kernel
theorem d_LI_addPoint_23 : decode b_LI_addPoint 23 = .ok (.getfield 17, 3) := by decide +kernel
theorem d_LI_addPoint_26 : decode b_LI_addPoint 26 = .ok (.iload_n 2, 1) := by decide +kernel
theorem d_LI_addPoint_27 : decode b_LI_addPoint 27 = .ok (.i2l, 1) := by decide +kernel
theorem d_LI_addPoint_28 : decode b_LI_addPoint 28 = .ok (.ladd, 1) := by decide +kernel
theorem d_LI_addPoint_29 : decode b_LI_addPoint 29 = .ok (.putfield 17, 3) := by decide +kernel
theorem d_LI_addPoint_32 : decode b_LI_addPoint 32 = .ok (.aload_n 0, 1) := by decide +kernel
theorem d_LI_addPoint_33 : decode b_LI_addPoint 33 = .ok (.dup, 1) := by decide +kernel
theorem d_LI_addPoint_34 : decode b_LI_addPoint 34 = .ok (.getfield 20, 3) := by decide +kernel
theorem d_LI_addPoint_37 : decode b_LI_addPoint 37 = .ok (.iload_n 1, 1) := by decide +kernel
theorem d_LI_addPoint_38 : decode b_LI_addPoint 38 = .ok (.i2l, 1) := by decide +kernel
theorem d_LI_addPoint_39 : decode b_LI_addPoint 39 = .ok (.iload_n 1, 1) := by decide +kernel
theorem d_LI_addPoint_40 : decode b_LI_addPoint 40 = .ok (.i2l, 1) := by decide +kernel
theorem d_LI_addPoint_41 : decode b_LI_addPoint 41 = .ok (.lmul, 1) := by decide +kernel
theorem d_LI_addPoint_42 : decode b_LI_addPoint 42 = .ok (.ladd, 1) := by decide +kernel
theorem d_LI_addPoint_43 : decode b_LI_addPoint 43 = .ok (.putfield 20, 3) := by decide +kernel
theorem d_LI_addPoint_46 : decode b_LI_addPoint 46 = .ok (.aload_n 0, 1) := by decide +kernel
theorem d_LI_addPoint_47 : decode b_LI_addPoint 47 = .ok (.dup, 1) := by decide +kernel
theorem d_LI_addPoint_48 : decode b_LI_addPoint 48 = .ok (.getfield 23, 3) := by decide +kernel
theorem d_LI_addPoint_51 : decode b_LI_addPoint 51 = .ok (.iload_n 1, 1) := by decide +kernel
theorem d_LI_addPoint_52 : decode b_LI_addPoint 52 = .ok (.i2l, 1) := by decide +kernel
theorem d_LI_addPoint_53 : decode b_LI_addPoint 53 = .ok (.iload_n 2, 1) := by decide +kernel
theorem d_LI_addPoint_54 : decode b_LI_addPoint 54 = .ok (.i2l, 1) := by decide +kernel
theorem d_LI_addPoint_55 : decode b_LI_addPoint 55 = .ok (.lmul, 1) := by decide +kernel
theorem d_LI_addPoint_56 : decode b_LI_addPoint 56 = .ok (.ladd, 1) := by decide +kernel
theorem d_LI_addPoint_57 : decode b_LI_addPoint 57 = .ok (.putfield 23, 3) := by decide +kernel
theorem d_LI_addPoint_60 : decode b_LI_addPoint 60 = .ok (.return_, 1) := by decide +kernel
theorem d_LI_slopeUpper_0 : decode b_LI_slopeUpper 0 = .ok (.aload_n 0, 1) := by decide +kernel
theorem d_LI_slopeUpper_1 : decode b_LI_slopeUpper 1 = .ok (.getfield 7, 3) := by decide +kernel
theorem d_LI_slopeUpper_4 : decode b_LI_slopeUpper 4 = .ok (.i2l, 1) := by decide +kernel
theorem d_LI_slopeUpper_5 : decode b_LI_slopeUpper 5 = .ok (.aload_n 0, 1) := by decide +kernel
theorem d_LI_slopeUpper_6 : decode b_LI_slopeUpper 6 = .ok (.getfield 23, 3) := by decide +kernel
theorem d_LI_slopeUpper_9 : decode b_LI_slopeUpper 9 = .ok (.lmul, 1) := by decide +kernel
theorem d_LI_slopeUpper_10 : decode b_LI_slopeUpper 10 = .ok (.aload_n 0, 1) := by decide +kernel
theorem d_LI_slopeUpper_11 : decode b_LI_slopeUpper 11 = .ok (.getfield 13, 3) := by decide +kernel
theorem d_LI_slopeUpper_14 : decode b_LI_slopeUpper 14 = .ok (.aload_n 0, 1) := by decide +kernel
theorem d_LI_slopeUpper_15 : decode b_LI_slopeUpper 15 = .ok (.getfield 17, 3) := by decide +kernel
theorem d_LI_slopeUpper_18 : decode b_LI_slopeUpper 18 = .ok (.lmul, 1) := by decide +kernel
theorem d_LI_slopeUpper_19 : decode b_LI_slopeUpper 19 = .ok (.lsub, 1) := by decide +kernel
theorem d_LI_slopeUpper_20 : decode b_LI_slopeUpper 20 = .ok (.lreturn, 1) := by decide +kernel
theorem d_LI_heightUpper_0 : decode b_LI_heightUpper 0 = .ok (.aload_n 0, 1) := by decide +kernel
theorem d_LI_heightUpper_1 : decode b_LI_heightUpper 1 = .ok (.getfield 17, 3) := by decide +kernel
theorem d_LI_heightUpper_4 : decode b_LI_heightUpper 4 = .ok (.aload_n 0, 1) := by decide +kernel
theorem d_LI_heightUpper_5 : decode b_LI_heightUpper 5 = .ok (.getfield 20, 3) := by decide +kernel
theorem d_LI_heightUpper_8 : decode b_LI_heightUpper 8 = .ok (.lmul, 1) := by decide +kernel
theorem d_LI_heightUpper_9 : decode b_LI_heightUpper 9 = .ok (.aload_n 0, 1) := by decide +kernel
theorem d_LI_heightUpper_10 : decode b_LI_heightUpper 10 = .ok (.getfield 13, 3) := by decide +kernel
theorem d_LI_heightUpper_13 : decode b_LI_heightUpper 13 = .ok (.aload_n 0, 1) := by decide +kernel
theorem d_LI_heightUpper_14 : decode b_LI_heightUpper 14 = .ok (.getfield 23, 3) := by decide +kernel
theorem d_LI_heightUpper_17 : decode b_LI_heightUpper 17 = .ok (.lmul, 1) := by decide +kernel
theorem d_LI_heightUpper_18 : decode b_LI_heightUpper 18 = .ok (.lsub, 1) := by decide +kernel
theorem d_LI_heightUpper_19 : decode b_LI_heightUpper 19 = .ok (.lreturn, 1) := by decide +kernel
theorem d_LI_lower_0 : decode b_LI_lower 0 = .ok (.aload_n 0, 1) := by decide +kernel
theorem d_LI_lower_1 : decode b_LI_lower 1 = .ok (.getfield 7, 3) := by decide +kernel
theorem d_LI_lower_4 : decode b_LI_lower 4 = .ok (.i2l, 1) := by decide +kernel
theorem d_LI_lower_5 : decode b_LI_lower 5 = .ok (.aload_n 0, 1) := by decide +kernel
theorem d_LI_lower_6 : decode b_LI_lower 6 = .ok (.getfield 20, 3) := by decide +kernel
theorem d_LI_lower_9 : decode b_LI_lower 9 = .ok (.lmul, 1) := by decide +kernel
theorem d_LI_lower_10 : decode b_LI_lower 10 = .ok (.aload_n 0, 1) := by decide +kernel
theorem d_LI_lower_11 : decode b_LI_lower 11 = .ok (.getfield 13, 3) := by decide +kernel
theorem d_LI_lower_14 : decode b_LI_lower 14 = .ok (.aload_n 0, 1) := by decide +kernel
theorem d_LI_lower_15 : decode b_LI_lower 15 = .ok (.getfield 13, 3) := by decide +kernel
theorem d_LI_lower_18 : decode b_LI_lower 18 = .ok (.lmul, 1) := by decide +kernel
theorem d_LI_lower_19 : decode b_LI_lower 19 = .ok (.lsub, 1) := by decide +kernel
theorem d_LI_lower_20 : decode b_LI_lower 20 = .ok (.lreturn, 1) := by decide +kernel
end
section
-- WHAT THE CLASS'S METHODS ANSWER, as functions of numbers
abbrev xI : String := "java/lang/IndexOutOfBoundsException"
abbrev xS : String := "java/lang/IllegalStateException"
abbrev xA : String := "java/lang/IllegalArgumentException"
abbrev xU : String := "java/lang/UnsupportedOperationException"
abbrev okM (x : Int32) : Prop := ¬ x < 0 ∧ x < 8
abbrev okE (x : Int32) : Prop := ¬ x < 0 ∧ x < 4
abbrev okQ (x : Int32) : Prop := ¬ x < 0 ∧ x ≤ 1
abbrev okP (x : Int32) : Prop := ¬ x < 0 ∧ ¬ 4 ≤ x
abbrev ok20 (x : Int32) : Prop := ¬ x < 0 ∧ x < 20
abbrev okR (x lo hi : Int32) : Prop := ¬ x < lo ∧ x ≤ hi
def gcdL : Nat → Int64 → Int64 → Int64
  | 0, dv, _ => dv
  | n + 1, dv, rs => if rs = 0 then dv else gcdL n rs (dv - dv / rs * rs)
def gcdF (u v : Int64) : Int64 := gcdL 100 (if 0 < u then u else -u) (if 0 < v then v else -v)
def lowF (u v : Int64) (q : Int32) : Int64 := if gcdF u v = 0 then 0 else if 0 ≤ v then (if q = 0 then u else v) / gcdF u v else -((if q = 0 then u else v) / gcdF u v)
def stockL (fDy fMa fKi : Nat → Int32) (cn to x : Int32) : Nat → Nat → Int32 → Int32
  | 0, _, acc => acc
  | n + 1, i, acc => if cn ≤ nI i then acc else stockL fDy fMa fKi cn to x n (i + 1) (if fMa (nI i).toNatClampNeg = x then (if to < fDy (nI i).toNatClampNeg then acc else acc + fKi (nI i).toNatClampNeg) else acc)
def stockF (fLa fDy fMa fKi : Nat → Int32) (cn to x : Int32) : Int32 := stockL fDy fMa fKi cn to x 40 0 (-(fLa x.toNatClampNeg))
def gbF (sl g y : Int32) : Int32 := if 1 ≤ sl then ((g.toInt64 * y.toInt64) / sl.toInt64).toInt32 else 0
def ptF (sl g tk : Int32) : Int32 := gbF sl g (tk + 1) - gbF sl g tk
def alS (fLS : Nat → Int32) (ly : Int32) (fSh : Nat → Int32) (x k : Int32) : Nat → Int32 := upd fLS (ly * 4 + k).toNatClampNeg (fSh (x * 4 + k).toNatClampNeg)
def al4 (fLS : Nat → Int32) (ly : Int32) (fSh : Nat → Int32) (x : Int32) : Nat → Int32 := alS (alS (alS (alS fLS ly fSh x 0) ly fSh x 1) ly fSh x 2) ly fSh x 3
def clS (f : Nat → Int64) (k : Int32) : Nat → Int64 := vp_updL f k.toNatClampNeg 0
def cl4 (f : Nat → Int64) : Nat → Int64 := clS (clS (clS (clS f 0) 1) 2) 3
def tolS (pt : Int32) (fLS : Nat → Int32) (x : Int32) (f : Nat → Int64) (k : Int32) : Nat → Int64 := vp_updL f k.toNatClampNeg (f k.toNatClampNeg + pt.toInt64 * (fLS (x * 4 + k).toNatClampNeg).toInt64)
def tol4 (pt : Int32) (fLS : Nat → Int32) (x : Int32) (f : Nat → Int64) : Nat → Int64 := tolS pt fLS x (tolS pt fLS x (tolS pt fLS x (tolS pt fLS x f 0) 1) 2) 3
def tkG (sl tk : Int32) (fLG : Nat → Int32) (ly : Int32) : Nat → Nat → Int32 → Int32
  | 0, _, lt => lt
  | n + 1, i, lt => if ly ≤ nI i then lt else tkG sl tk fLG ly n (i + 1) (lt + ptF sl (fLG (nI i).toNatClampNeg) tk)
def tkS (sl tk : Int32) (fLG fLS : Nat → Int32) (ly : Int32) : Nat → Nat → (Nat → Int64) → (Nat → Int64)
  | 0, _, f => f
  | n + 1, i, f => if ly ≤ nI i then f else tkS sl tk fLG fLS ly n (i + 1) (tol4 (ptF sl (fLG (nI i).toNatClampNeg) tk) fLS (nI i) f)
def ngS (lt : Int32) (fLt fGS : Nat → Int64) (fGG : Nat → Int32) (k : Int32) : Nat → Int64 :=
  if fGG k.toNatClampNeg = 0 then vp_updL fGS k.toNatClampNeg (fLt k.toNatClampNeg) else if fLt k.toNatClampNeg * (fGG k.toNatClampNeg).toInt64 ≤ fGS k.toNatClampNeg * lt.toInt64 then fGS else vp_updL fGS k.toNatClampNeg (fLt k.toNatClampNeg)
def ngG (lt : Int32) (fLt fGS : Nat → Int64) (fGG : Nat → Int32) (k : Int32) : Nat → Int32 :=
  if fGG k.toNatClampNeg = 0 then upd fGG k.toNatClampNeg lt else if fLt k.toNatClampNeg * (fGG k.toNatClampNeg).toInt64 ≤ fGS k.toNatClampNeg * lt.toInt64 then fGG else upd fGG k.toNatClampNeg lt
def neS (lt : Int32) (fLt fES : Nat → Int64) (fEG : Nat → Int32) (k : Int32) : Nat → Int64 :=
  if fEG k.toNatClampNeg = 0 then vp_updL fES k.toNatClampNeg (fLt k.toNatClampNeg) else if fES k.toNatClampNeg * lt.toInt64 ≤ fLt k.toNatClampNeg * (fEG k.toNatClampNeg).toInt64 then fES else vp_updL fES k.toNatClampNeg (fLt k.toNatClampNeg)
def neG (lt : Int32) (fLt fES : Nat → Int64) (fEG : Nat → Int32) (k : Int32) : Nat → Int32 :=
  if fEG k.toNatClampNeg = 0 then upd fEG k.toNatClampNeg lt else if fES k.toNatClampNeg * lt.toInt64 ≤ fLt k.toNatClampNeg * (fEG k.toNatClampNeg).toInt64 then fEG else upd fEG k.toNatClampNeg lt
def ngP (lt : Int32) (fLt : Nat → Int64) (u : (Nat → Int64) × (Nat → Int32)) (k : Int32) : (Nat → Int64) × (Nat → Int32) := (ngS lt fLt u.1 u.2 k, ngG lt fLt u.1 u.2 k)
def neP (lt : Int32) (fLt : Nat → Int64) (u : (Nat → Int64) × (Nat → Int32)) (k : Int32) : (Nat → Int64) × (Nat → Int32) := (neS lt fLt u.1 u.2 k, neG lt fLt u.1 u.2 k)
def tnG (lt : Int32) (fLt : Nat → Int64) (u : (Nat → Int64) × (Nat → Int32)) : (Nat → Int64) × (Nat → Int32) := if lt ≤ 0 then u else ngP lt fLt (ngP lt fLt (ngP lt fLt (ngP lt fLt u 0) 1) 2) 3
def tnE (lt : Int32) (fLt : Nat → Int64) (u : (Nat → Int64) × (Nat → Int32)) : (Nat → Int64) × (Nat → Int32) := if lt ≤ 0 then u else neP lt fLt (neP lt fLt (neP lt fLt (neP lt fLt u 0) 1) 2) 3
def pileAtF (w sl tk ly gr gt : Int32) : Int32 := if w.toInt = 0 then sl else if w.toInt = 1 then tk else if w.toInt = 2 then ly else if w.toInt = 3 then gr else gt
def fitF (w n : Int32) (x y xx xy : Int64) : Int64 := if w = 0 then n.toInt64 * xy - x * y else y * xx - x * xy
-- WHAT THEY THROW
def X_moisture (x y : Int32) : Option String := if okM x then if okR y 0 900 then none else some xA else some xI
def X_element (x k y : Int32) : Option String := if okM x then if okE k then if okR y 0 10000 then none else some xA else some xI else some xI
def X_ship (cn to day x kg lo : Int32) : Option String := if okM x then if cn < 40 then if okR day to 9999 then if okR kg 1 1000 then if okR lo 0 999 then none else some xA else some xA else some xA else some xS else some xI
def X_stock (x : Int32) : Option String := if okM x then none else some xI
def X_pile (pc x : Int32) : Option String := if pc < 4 then if okR x 1 65536 then none else some xA else some xS
def X_lay (y kg tk ly st : Int32) : Option String := if okM y then if tk ≤ 0 then if okR kg 1 1000 then if ly < 20 then if kg ≤ st then none else some xU else some xU else some xA else some xS else some xI
def X_slice (ly tk sl : Int32) : Option String := if ly = 0 then some xS else if tk < sl then none else some xS
def X_share (k q tk lt : Int32) : Option String := if okE k then if okQ q then if ¬ tk = 0 then if lt = 0 then some xU else none else some xS else some xI else some xI
def X_basicity (q tk : Int32) (b : Int64) : Option String := if okQ q then if ¬ tk = 0 then if b = 0 then some xU else none else some xS else some xI
def X_spread (k q gt : Int32) : Option String := if okE k then if okQ q then if gt = 0 then some xS else none else some xI else some xI
def X_pileAt (w : Int32) : Option String := if w.toInt < 0 ∨ 4 < w.toInt then some xI else none
def X_mix (x y k aim q a b : Int32) : Option String := if okM x then if okM y then if x = y then some xI else if okE k then if okQ q then if okR aim 0 10000 then if a = b then some xU else if aim < (if b < a then b else a) then some xU else if aim ≤ (if a < b then b else a) then none else some xU else some xA else some xI else some xI else some xI else some xI
def X_point (n x y : Int32) : Option String := if n < 20 then if okR x 0 10000 then if okR y 0 10000 then none else some xA else some xA else some xS
def X_fit (w q : Int32) (lw : Int64) : Option String := if w < 0 then some xI else if w ≤ 1 then if okQ q then if lw = 0 then some xU else none else some xI else some xI
def X_tick (x to : Int32) : Option String := if okR x 1 1000 then if okR (to + x) 0 9999 then none else some xA else some xA
-- INDICES
theorem vq_nz {x : Int32} (h : 1 ≤ x) : ¬ x.toInt64 = 0 := by
  intro z
  have h1 := congrArg Int64.toInt z
  rw [Int32.toInt_toInt64] at h1
  rw [Int32.le_iff_toInt_le] at h
  have h2 : (1 : Int32).toInt = 1 := by decide
  have h3 : (0 : Int64).toInt = 0 := by decide
  omega
theorem vq_nat {x N : Int32} {n : Nat} (hN : N.toInt = n) (h1 : ¬ x < 0) (h2 : x < N) : ∃ j : Nat, j < n ∧ x = nI j := by
  obtain ⟨j, hj, rfl⟩ := nI_of h1
  refine ⟨j, ?_, rfl⟩
  rw [Int32.lt_iff_toInt_lt, nI_toInt hj] at h2
  omega
theorem vq_ixM {x : Int32} (h : okM x) {e : Nat} (he : e < 4) : vp_in (x * 4 + nI e) 32 := by
  obtain ⟨j, hj, rfl⟩ := vq_nat (N := 8) (n := 8) (by decide) h.1 h.2
  rw [show (4 : Int32) = nI 4 from rfl, pk_mul, nI_add]
  exact vp_in_nI (by omega) (by decide)
theorem vq_ixL {x : Int32} (h : ok20 x) {e : Nat} (he : e < 4) : vp_in (x * 4 + nI e) 80 := by
  obtain ⟨j, hj, rfl⟩ := vq_nat (N := 20) (n := 20) (by decide) h.1 h.2
  rw [show (4 : Int32) = nI 4 from rfl, pk_mul, nI_add]
  exact vp_in_nI (by omega) (by decide)
theorem vq_ixE {x k : Int32} (h : okM x) (h2 : okE k) : vp_in (x * 4 + k) 32 := by
  obtain ⟨i, hi, rfl⟩ := vq_nat (N := 4) (n := 4) (by decide) h2.1 h2.2
  exact vq_ixM h hi
end
section
-- THE CONTEXT of every method of ours, calls and throws in it
/-- what every method of ours is given beside its cells: the classes, the links across the nest, the texts, what a throw needs -/
def vq_Cx (D : va_G) (cs : Nat → ClassId) (A : Nat → Prop) (U : State) : Prop :=
  va_K D vq_cl (vq_tys cs) U ∧ (∀ q ∈ vq_NF, va_Nw (.fieldLinkNest q.1 q.2.1 q.2.2.1 q.2.2.2.1 q.2.2.2.2.1 q.2.2.2.2.2) U) ∧ (∀ q ∈ vq_NM, va_Nw (.methodLinkNest q.1 q.2.1 q.2.2.1 q.2.2.2) U) ∧
  (∀ q ∈ vq_SW, ∃ sa, vk_R q.1 q.2.1 q.2.2 sa U) ∧ (∀ C ∈ vq_AO, va_AO C U) ∧ (∀ E ∈ vq_E, va_Nw (.castable E E) U) ∧ (∀ E ∈ vq_E, ∀ F ∈ vq_E, E ≠ F → va_Nc E F U) ∧ (∀ y ∈ vq_DE, va_Nw (.declares y) U) ∧ vx_Zq Bundle.tN "UNASSIGNED_STACK" Bundle.steD A U U.heap ∧ vx_Zq Bundle.tN "SUPPRESSED_SENTINEL" Bundle.listD A U U.heap
theorem vq_cast {a b : String} {s U : State} (hW : s.WarmedH U.vm) (h : va_Nw (.castable a b) s) : va_Nw (.castable a b) U := va_tabs rfl (rfl : (s.setVm U.vm).vm = U.vm) ((Cond.castable_setVm (args := #[]) hW.alike a b).trans h)
theorem vq_decl {y : MethodName} {s U : State} (hW : s.WarmedH U.vm) (h : va_Nw (.declares y) s) : va_Nw (.declares y) U := va_tabs rfl (rfl : (s.setVm U.vm).vm = U.vm) ((Cond.declares_setVm (args := #[]) hW.alike y).trans h)
theorem vq_new {n q : Nat} (h : va_A [] n q) : n ≤ q := by
  rcases h with ⟨k, e, h⟩ | h
  · simp at h
  · exact h
theorem vq_wk {A : Nat → Prop} {H0 H : Heap} {locs : List Loc} (h : va_S (va_A [] H0.size) H0 H locs) (hA : ∀ q, H0.size ≤ q → A q) : va_S A H0 H locs :=
  ⟨h.1, fun q h1 _ => h.2.1 q h1 (fun z => absurd (vq_new z) (Nat.not_le.mpr h1)), fun q hq => hA _ (vq_new (h.2.2 q hq))⟩
theorem vq_Cx.go {D : va_G} {cs : Nat → ClassId} {A B : Nat → Prop} {s U : State} {H : Heap} {locs : List Loc} (h : vq_Cx D cs A s) (hS : va_S A s.heap H locs) (hU : U.heap = H) (hW : s.WarmedH U.vm) (hB : ∀ q, B q → A q) : vq_Cx D cs B U := by
  obtain ⟨h1, h2, h3, h4, h5, h8, h9, h10, h6, h7⟩ := h
  refine ⟨va_K.moved hW.alike h1, fun q hq => va_Nw.warmF hW (h2 q hq), fun q hq => va_Nw.warmM hW (h3 q hq), fun q hq => (h4 q hq).imp fun sa h => h.warm hW, fun C hC => va_AO.moved hW.alike (h5 C hC), fun E hE => vq_cast hW (h8 E hE), fun E hE F hF hn => va_Nc.moved hW.alike (h9 E hE F hF hn), fun y hy => vq_decl hW (h10 y hy), ?_, ?_⟩
  · rw [hU]; exact ((h6.kept hS.2.1).narrow hB).moved hW.alike
  · rw [hU]; exact ((h7.kept hS.2.1).narrow hB).moved hW.alike
theorem vq_Cx.blind {D : va_G} {cs : Nat → ClassId} {A : Nat → Prop} {U : State} {g : JFrame} {mk : MethodId} {a : Array Value} (h : vq_Cx D cs A U) : vq_Cx D cs A (U.calling g mk a) := by
  obtain ⟨h1, h2, h3, h4, h5, h8, h9, h10, h6, h7⟩ := h
  exact ⟨va_K.moved (u := U) (U := U.calling g mk a) (Vm.Alike.refl U.vm) h1, fun q hq => va_Nw.same rfl rfl (h2 q hq), fun q hq => va_Nw.same rfl rfl (h3 q hq), fun q hq => (h4 q hq).imp fun sa h => h.same rfl, fun C hC => va_AO.moved (u := U) (U := U.calling g mk a) (Vm.Alike.refl U.vm) (h5 C hC), fun E hE => va_Nw.same rfl rfl (h8 E hE), fun E hE F hF hn => va_Nc.moved (u := U) (U := U.calling g mk a) (Vm.Alike.refl U.vm) (h9 E hE F hF hn), fun y hy => va_Nw.same rfl rfl (h10 y hy),
    vx_Zq.moved (u := U) (U := U.calling g mk a) (Vm.Alike.refl U.vm) h6, vx_Zq.moved (u := U) (U := U.calling g mk a) (Vm.Alike.refl U.vm) h7⟩
/-- the start of a method that only reads; of one that writes -/
abbrev vq_PreR (D : va_G) (cs : Nat → ClassId) (ws : va_W) (sz : Nat) (av : List Value) : Array Value → State → Prop := va_Pc av (fun U => U.heap.size = sz ∧ va_P D vq_cl ws U.heap ∧ vq_Cx D cs (va_A [] sz) U)
abbrev vq_Pre (D : va_G) (cs : Nat → ClassId) (ws : va_W) (sz : Nat) (av : List Value) : Array Value → State → Prop := va_Pc av (fun U => U.heap.size = sz ∧ va_P D vq_cl ws U.heap ∧ va_D (fun _ => True) ws ∧ vq_Cx D cs (va_A ws sz) U)
abbrev vq_B {S : Type} (D : va_G) (_ : Nat → ClassId) (A : Nat → Prop) (w1 : S → va_W) : S → State → Prop := fun u t => va_P D vq_cl (w1 u) t.heap ∧ va_D A (w1 u)
def vq_X (px : String → Prop) (sz : Nat) : String → State → State → Prop := vx_X (S := Unit) (fun _ => True) (fun E _ _ => px E) (va_A [] sz)
theorem vq_Xof {px : String → Prop} {sz : Nat} {E : String} {s t : State} (h : px E) (hF : va_F (va_A [] sz) s t) : vq_X px sz E s t := ⟨(), trivial, h, hF⟩
section VQP
variable {s : State} {D : va_G} {cs : Nat → ClassId} {A : Nat → Prop} {H : Heap} {locs : List Loc} {ws wc : va_W} {As : List Value} {C : String} {b : Addr}
theorem vq_preSr (hC : vq_Cx D cs A s) (hP : va_P D vq_cl ws H) (hS : va_S A s.heap H locs) (hA : ∀ q, s.heap.size ≤ q → A q) (is : List Nat) (hs : is.filterMap (fun i => ws[i]?) = wc) : PreS s H (vq_PreR D cs wc H.size As) As :=
  ⟨fun a U g mk q => by obtain ⟨q0, q1, qP, qC⟩ := q; exact ⟨q0, q1, qP, qC.blind⟩,
   fun U hU hW => ⟨rfl, by rw [hU], by rw [hU]; exact hP.sub is hs, hC.go hS hU hW (fun q h => hA q (Nat.le_trans hS.1 (vq_new h)))⟩⟩
theorem vq_preVr (hrc : ∃ cellB : Cell, H[b]? = some cellB ∧ cellB.vm.isStatics = false ∧ s.vm.findClass C = some cellB.cls) (hC : vq_Cx D cs A s) (hP : va_P D vq_cl ws H) (hS : va_S A s.heap H locs) (hA : ∀ q, s.heap.size ≤ q → A q) (is : List Nat) (hs : is.filterMap (fun i => ws[i]?) = wc) : PreV s H C b (vq_PreR D cs wc H.size (.ref b :: As)) As :=
  ⟨fun a U g mk q => by obtain ⟨q0, q1, qP, qC⟩ := q; exact ⟨q0, q1, qP, qC.blind⟩, hrc,
   fun U hU hW => ⟨rfl, by rw [hU], by rw [hU]; exact hP.sub is hs, hC.go hS hU hW (fun q h => hA q (Nat.le_trans hS.1 (vq_new h)))⟩⟩
theorem vq_preSw (hC : vq_Cx D cs A s) (hP : va_P D vq_cl ws H) (hD : va_D A ws) (hS : va_S A s.heap H locs) (hA : ∀ q, s.heap.size ≤ q → A q) (is : List Nat) (hs : is.filterMap (fun i => ws[i]?) = wc) (h2 : is.map (fun i => ws[i]?) = wc.map some) (hn : va_nd is = true) : PreS s H (vq_Pre D cs wc H.size As) As :=
  ⟨fun a U g mk q => by obtain ⟨q0, q1, qP, qD, qC⟩ := q; exact ⟨q0, q1, qP, qD, qC.blind⟩,
   fun U hU hW => ⟨rfl, by rw [hU], by rw [hU]; exact hP.sub is hs, (hD.sub is hn h2).weaken (fun _ _ _ _ => trivial), hC.go hS hU hW (va_free hD hS hA is h2)⟩⟩
theorem vq_preVw (hrc : ∃ cellB : Cell, H[b]? = some cellB ∧ cellB.vm.isStatics = false ∧ s.vm.findClass C = some cellB.cls) (hC : vq_Cx D cs A s) (hP : va_P D vq_cl ws H) (hD : va_D A ws) (hS : va_S A s.heap H locs) (hA : ∀ q, s.heap.size ≤ q → A q) (is : List Nat) (hs : is.filterMap (fun i => ws[i]?) = wc) (h2 : is.map (fun i => ws[i]?) = wc.map some) (hn : va_nd is = true) : PreV s H C b (vq_Pre D cs wc H.size (.ref b :: As)) As :=
  ⟨fun a U g mk q => by obtain ⟨q0, q1, qP, qD, qC⟩ := q; exact ⟨q0, q1, qP, qD, qC.blind⟩, hrc,
   fun U hU hW => ⟨rfl, by rw [hU], by rw [hU]; exact hP.sub is hs, (hD.sub is hn h2).weaken (fun _ _ _ _ => trivial), hC.go hS hU hW (va_free hD hS hA is h2)⟩⟩
end VQP
section VQC
variable {p : Program} {l : Launch} {e : Env} {R : Room} {s : State} {m : MethodId} {args : Array Value} {below : List Frame} {meth : Method} {c : Code} {H : Heap} {locs : List Loc} {cells slots : Nat} {Q : State → Prop}
variable {pc : Nat} {ls : Array Slot} {rest st0 : List Value} {a : Array Value} {A0 : Nat → Prop} {H0 : Heap} {mc ms : Nat} {D : va_G} {cs : Nat → ClassId} {ws wc : va_W} {S : Type} {w1 : S → va_W} {px : String → Prop}
theorem mk_ri {post : Int32 → Unit → Prop} (hr : va_Run p l e R s m args below meth c H locs cells slots mc ms (F0 m pc ls st0) rest (va_Qi post (fun _ _ => True) (va_A [] H.size) a) (va_A [] H.size)) (hP : va_P D vq_cl ws H) (hS : va_S A0 H0 H locs) (hA : ∀ q, H0.size ≤ q → A0 q)
    (kk : ∀ (r : Int32) (H1 : Heap) (locs1 : List Loc), post r () → va_P D vq_cl ws H1 → va_S A0 H0 H1 locs1 → W p l e R s m args below meth c H1 locs1 (cells + mc) (slots + ms) Q (F0 m (pc + 3) ls (.int r :: rest))) : W p l e R s m args below meth c H locs cells slots Q (F0 m pc ls st0) :=
  va_calli hr hS (fun q h z => absurd (vq_new z) (Nat.not_le.mpr h)) (fun q h => hA q (Nat.le_trans hS.1 (vq_new h))) (fun r u t H1 locs1 ht hvm hw hB hz hk hS1 => kk r H1 locs1 hw (hP.kept (fun k q hq => hk q.1 ((hP k q hq).lt) (fun z => absurd (vq_new z) (Nat.not_le.mpr ((hP k q hq).lt))))) hS1)
theorem mx_ri {post : Int32 → Unit → Prop} (hr : vx_Run p l e R s m args below meth c H locs cells slots mc ms (F0 m pc ls st0) rest (va_Qi post (fun _ _ => True) (va_A [] H.size) a) (vq_X px H.size) (va_A [] H.size)) (hP : va_P D vq_cl ws H) (hS : va_S A0 H0 H locs) (hA : ∀ q, H0.size ≤ q → A0 q)
    (kx : ∀ (E : String) (ce : Cell) (q9 : Addr) (H1 : Heap) (locs1 : List Loc), px E → va_P D vq_cl ws H1 → va_S A0 H0 H1 locs1 → H1[q9]? = some ce → ce.vm = .none → s.vm.findClass E = some ce.cls → vx_W p l e R s m args below meth c H1 locs1 (cells + mc) (slots + ms) Q (F0 m pc ls rest) q9)
    (kk : ∀ (r : Int32) (H1 : Heap) (locs1 : List Loc), post r () → va_P D vq_cl ws H1 → va_S A0 H0 H1 locs1 → W p l e R s m args below meth c H1 locs1 (cells + mc) (slots + ms) Q (F0 m (pc + 3) ls (.int r :: rest))) : W p l e R s m args below meth c H locs cells slots Q (F0 m pc ls st0) :=
  vx_calli hr hS (fun q h z => absurd (vq_new z) (Nat.not_le.mpr h)) (fun q h => hA q (Nat.le_trans hS.1 (vq_new h))) (fun q h z => absurd (vq_new z) (Nat.not_le.mpr h)) (fun E ce q9 u t H1 locs1 ht hvm hpx hB hz hk hS1 h1 h2 h3 => kx E ce q9 H1 locs1 hB (hP.kept (fun k q hq => hk q.1 ((hP k q hq).lt) (fun z => absurd (vq_new z) (Nat.not_le.mpr ((hP k q hq).lt))))) hS1 h1 h2 h3) (fun r u t H1 locs1 ht hvm hw hB hz hk hS1 => kk r H1 locs1 hw (hP.kept (fun k q hq => hk q.1 ((hP k q hq).lt) (fun z => absurd (vq_new z) (Nat.not_le.mpr ((hP k q hq).lt))))) hS1)
theorem mk_wi {post : Int32 → S → Prop} (hr : va_Run p l e R s m args below meth c H locs cells slots mc ms (F0 m pc ls st0) rest (va_Qi post (vq_B D cs (va_A wc H.size) w1) (va_A wc H.size) a) (va_A wc H.size)) (hP : va_P D vq_cl ws H) (hD : va_D A0 ws) (hS : va_S A0 H0 H locs) (hA : ∀ q, H0.size ≤ q → A0 q) (isC isR : List Nat) (hC : isC.map (fun i => ws[i]?) = wc.map some) (hR : isR.map (fun i => ws[i]?) = (isR.filterMap (fun i => ws[i]?)).map some) (hn : va_nd isR = true) (hdis : ∀ i ∈ isR, i ∉ isC)
    (kk : ∀ (r : Int32) (u : S) (H1 : Heap) (locs1 : List Loc), post r u → va_P D vq_cl (isR.filterMap (fun i => ws[i]?) ++ w1 u) H1 → va_D A0 (isR.filterMap (fun i => ws[i]?) ++ w1 u) → va_S A0 H0 H1 locs1 → W p l e R s m args below meth c H1 locs1 (cells + mc) (slots + ms) Q (F0 m (pc + 3) ls (.int r :: rest))) : W p l e R s m args below meth c H locs cells slots Q (F0 m pc ls st0) :=
  va_calli hr hS (fun q _ h => va_free hD hS hA isC hC q h) (va_free hD hS hA isC hC) (fun r u t H1 locs1 ht hvm hw hB hz hk hS1 => by
    obtain ⟨hP1, hD1⟩ := hB
    rw [ht] at hP1
    obtain ⟨x1, x2⟩ := va_join hP hD isC isR hC hR hn hdis hk (va_free hD hS hA isC hC) hP1 hD1
    exact kk r u H1 locs1 hw x1 x2 hS1)
theorem mx_wi {post : Int32 → S → Prop} (hr : vx_Run p l e R s m args below meth c H locs cells slots mc ms (F0 m pc ls st0) rest (va_Qi post (vq_B D cs (va_A wc H.size) w1) (va_A wc H.size) a) (vq_X px H.size) (va_A wc H.size)) (hP : va_P D vq_cl ws H) (hD : va_D A0 ws) (hS : va_S A0 H0 H locs) (hA : ∀ q, H0.size ≤ q → A0 q) (isC isR : List Nat) (hC : isC.map (fun i => ws[i]?) = wc.map some) (hR : isR.map (fun i => ws[i]?) = (isR.filterMap (fun i => ws[i]?)).map some) (hn : va_nd isR = true) (hdis : ∀ i ∈ isR, i ∉ isC)
    (kx : ∀ (E : String) (ce : Cell) (q9 : Addr) (H1 : Heap) (locs1 : List Loc), px E → va_P D vq_cl ws H1 → va_S A0 H0 H1 locs1 → H1[q9]? = some ce → ce.vm = .none → s.vm.findClass E = some ce.cls → vx_W p l e R s m args below meth c H1 locs1 (cells + mc) (slots + ms) Q (F0 m pc ls rest) q9)
    (kk : ∀ (r : Int32) (u : S) (H1 : Heap) (locs1 : List Loc), post r u → va_P D vq_cl (isR.filterMap (fun i => ws[i]?) ++ w1 u) H1 → va_D A0 (isR.filterMap (fun i => ws[i]?) ++ w1 u) → va_S A0 H0 H1 locs1 → W p l e R s m args below meth c H1 locs1 (cells + mc) (slots + ms) Q (F0 m (pc + 3) ls (.int r :: rest))) : W p l e R s m args below meth c H locs cells slots Q (F0 m pc ls st0) :=
  vx_calli hr hS (fun q _ h => va_free hD hS hA isC hC q h) (va_free hD hS hA isC hC) (fun q h z => absurd (vq_new z) (Nat.not_le.mpr h)) (fun E ce q9 u t H1 locs1 ht hvm hpx hB hz hk hS1 h1 h2 h3 => kx E ce q9 H1 locs1 hB (hP.kept (fun k q hq => hk q.1 ((hP k q hq).lt) (fun z => absurd (vq_new z) (Nat.not_le.mpr ((hP k q hq).lt))))) hS1 h1 h2 h3) (fun r u t H1 locs1 ht hvm hw hB hz hk hS1 => by
    obtain ⟨hP1, hD1⟩ := hB
    rw [ht] at hP1
    obtain ⟨x1, x2⟩ := va_join hP hD isC isR hC hR hn hdis hk (va_free hD hS hA isC hC) hP1 hD1
    exact kk r u H1 locs1 hw x1 x2 hS1)
theorem mk_rl {post : Int64 → Unit → Prop} (hr : va_Run p l e R s m args below meth c H locs cells slots mc ms (F0 m pc ls st0) rest (va_Ql post (fun _ _ => True) (va_A [] H.size) a) (va_A [] H.size)) (hP : va_P D vq_cl ws H) (hS : va_S A0 H0 H locs) (hA : ∀ q, H0.size ≤ q → A0 q)
    (kk : ∀ (r : Int64) (H1 : Heap) (locs1 : List Loc), post r () → va_P D vq_cl ws H1 → va_S A0 H0 H1 locs1 → W p l e R s m args below meth c H1 locs1 (cells + mc) (slots + ms) Q (F0 m (pc + 3) ls (.long r :: rest))) : W p l e R s m args below meth c H locs cells slots Q (F0 m pc ls st0) :=
  va_calll hr hS (fun q h z => absurd (vq_new z) (Nat.not_le.mpr h)) (fun q h => hA q (Nat.le_trans hS.1 (vq_new h))) (fun r u t H1 locs1 ht hvm hw hB hz hk hS1 => kk r H1 locs1 hw (hP.kept (fun k q hq => hk q.1 ((hP k q hq).lt) (fun z => absurd (vq_new z) (Nat.not_le.mpr ((hP k q hq).lt))))) hS1)
theorem mx_rl {post : Int64 → Unit → Prop} (hr : vx_Run p l e R s m args below meth c H locs cells slots mc ms (F0 m pc ls st0) rest (va_Ql post (fun _ _ => True) (va_A [] H.size) a) (vq_X px H.size) (va_A [] H.size)) (hP : va_P D vq_cl ws H) (hS : va_S A0 H0 H locs) (hA : ∀ q, H0.size ≤ q → A0 q)
    (kx : ∀ (E : String) (ce : Cell) (q9 : Addr) (H1 : Heap) (locs1 : List Loc), px E → va_P D vq_cl ws H1 → va_S A0 H0 H1 locs1 → H1[q9]? = some ce → ce.vm = .none → s.vm.findClass E = some ce.cls → vx_W p l e R s m args below meth c H1 locs1 (cells + mc) (slots + ms) Q (F0 m pc ls rest) q9)
    (kk : ∀ (r : Int64) (H1 : Heap) (locs1 : List Loc), post r () → va_P D vq_cl ws H1 → va_S A0 H0 H1 locs1 → W p l e R s m args below meth c H1 locs1 (cells + mc) (slots + ms) Q (F0 m (pc + 3) ls (.long r :: rest))) : W p l e R s m args below meth c H locs cells slots Q (F0 m pc ls st0) :=
  vx_calll hr hS (fun q h z => absurd (vq_new z) (Nat.not_le.mpr h)) (fun q h => hA q (Nat.le_trans hS.1 (vq_new h))) (fun q h z => absurd (vq_new z) (Nat.not_le.mpr h)) (fun E ce q9 u t H1 locs1 ht hvm hpx hB hz hk hS1 h1 h2 h3 => kx E ce q9 H1 locs1 hB (hP.kept (fun k q hq => hk q.1 ((hP k q hq).lt) (fun z => absurd (vq_new z) (Nat.not_le.mpr ((hP k q hq).lt))))) hS1 h1 h2 h3) (fun r u t H1 locs1 ht hvm hw hB hz hk hS1 => kk r H1 locs1 hw (hP.kept (fun k q hq => hk q.1 ((hP k q hq).lt) (fun z => absurd (vq_new z) (Nat.not_le.mpr ((hP k q hq).lt))))) hS1)
theorem mk_wl {post : Int64 → S → Prop} (hr : va_Run p l e R s m args below meth c H locs cells slots mc ms (F0 m pc ls st0) rest (va_Ql post (vq_B D cs (va_A wc H.size) w1) (va_A wc H.size) a) (va_A wc H.size)) (hP : va_P D vq_cl ws H) (hD : va_D A0 ws) (hS : va_S A0 H0 H locs) (hA : ∀ q, H0.size ≤ q → A0 q) (isC isR : List Nat) (hC : isC.map (fun i => ws[i]?) = wc.map some) (hR : isR.map (fun i => ws[i]?) = (isR.filterMap (fun i => ws[i]?)).map some) (hn : va_nd isR = true) (hdis : ∀ i ∈ isR, i ∉ isC)
    (kk : ∀ (r : Int64) (u : S) (H1 : Heap) (locs1 : List Loc), post r u → va_P D vq_cl (isR.filterMap (fun i => ws[i]?) ++ w1 u) H1 → va_D A0 (isR.filterMap (fun i => ws[i]?) ++ w1 u) → va_S A0 H0 H1 locs1 → W p l e R s m args below meth c H1 locs1 (cells + mc) (slots + ms) Q (F0 m (pc + 3) ls (.long r :: rest))) : W p l e R s m args below meth c H locs cells slots Q (F0 m pc ls st0) :=
  va_calll hr hS (fun q _ h => va_free hD hS hA isC hC q h) (va_free hD hS hA isC hC) (fun r u t H1 locs1 ht hvm hw hB hz hk hS1 => by
    obtain ⟨hP1, hD1⟩ := hB
    rw [ht] at hP1
    obtain ⟨x1, x2⟩ := va_join hP hD isC isR hC hR hn hdis hk (va_free hD hS hA isC hC) hP1 hD1
    exact kk r u H1 locs1 hw x1 x2 hS1)
theorem mx_wl {post : Int64 → S → Prop} (hr : vx_Run p l e R s m args below meth c H locs cells slots mc ms (F0 m pc ls st0) rest (va_Ql post (vq_B D cs (va_A wc H.size) w1) (va_A wc H.size) a) (vq_X px H.size) (va_A wc H.size)) (hP : va_P D vq_cl ws H) (hD : va_D A0 ws) (hS : va_S A0 H0 H locs) (hA : ∀ q, H0.size ≤ q → A0 q) (isC isR : List Nat) (hC : isC.map (fun i => ws[i]?) = wc.map some) (hR : isR.map (fun i => ws[i]?) = (isR.filterMap (fun i => ws[i]?)).map some) (hn : va_nd isR = true) (hdis : ∀ i ∈ isR, i ∉ isC)
    (kx : ∀ (E : String) (ce : Cell) (q9 : Addr) (H1 : Heap) (locs1 : List Loc), px E → va_P D vq_cl ws H1 → va_S A0 H0 H1 locs1 → H1[q9]? = some ce → ce.vm = .none → s.vm.findClass E = some ce.cls → vx_W p l e R s m args below meth c H1 locs1 (cells + mc) (slots + ms) Q (F0 m pc ls rest) q9)
    (kk : ∀ (r : Int64) (u : S) (H1 : Heap) (locs1 : List Loc), post r u → va_P D vq_cl (isR.filterMap (fun i => ws[i]?) ++ w1 u) H1 → va_D A0 (isR.filterMap (fun i => ws[i]?) ++ w1 u) → va_S A0 H0 H1 locs1 → W p l e R s m args below meth c H1 locs1 (cells + mc) (slots + ms) Q (F0 m (pc + 3) ls (.long r :: rest))) : W p l e R s m args below meth c H locs cells slots Q (F0 m pc ls st0) :=
  vx_calll hr hS (fun q _ h => va_free hD hS hA isC hC q h) (va_free hD hS hA isC hC) (fun q h z => absurd (vq_new z) (Nat.not_le.mpr h)) (fun E ce q9 u t H1 locs1 ht hvm hpx hB hz hk hS1 h1 h2 h3 => kx E ce q9 H1 locs1 hB (hP.kept (fun k q hq => hk q.1 ((hP k q hq).lt) (fun z => absurd (vq_new z) (Nat.not_le.mpr ((hP k q hq).lt))))) hS1 h1 h2 h3) (fun r u t H1 locs1 ht hvm hw hB hz hk hS1 => by
    obtain ⟨hP1, hD1⟩ := hB
    rw [ht] at hP1
    obtain ⟨x1, x2⟩ := va_join hP hD isC isR hC hR hn hdis hk (va_free hD hS hA isC hC) hP1 hD1
    exact kk r u H1 locs1 hw x1 x2 hS1)
theorem mk_rv {post : Unit → Prop} (hr : va_Run p l e R s m args below meth c H locs cells slots mc ms (F0 m pc ls st0) rest (va_Qv post (fun _ _ => True) (va_A [] H.size) a) (va_A [] H.size)) (hP : va_P D vq_cl ws H) (hS : va_S A0 H0 H locs) (hA : ∀ q, H0.size ≤ q → A0 q)
    (kk : ∀ (H1 : Heap) (locs1 : List Loc), post () → va_P D vq_cl ws H1 → va_S A0 H0 H1 locs1 → W p l e R s m args below meth c H1 locs1 (cells + mc) (slots + ms) Q (F0 m (pc + 3) ls (rest))) : W p l e R s m args below meth c H locs cells slots Q (F0 m pc ls st0) :=
  va_callv hr hS (fun q h z => absurd (vq_new z) (Nat.not_le.mpr h)) (fun q h => hA q (Nat.le_trans hS.1 (vq_new h))) (fun u t H1 locs1 ht hvm hw hB hz hk hS1 => kk H1 locs1 hw (hP.kept (fun k q hq => hk q.1 ((hP k q hq).lt) (fun z => absurd (vq_new z) (Nat.not_le.mpr ((hP k q hq).lt))))) hS1)
theorem mx_rv {post : Unit → Prop} (hr : vx_Run p l e R s m args below meth c H locs cells slots mc ms (F0 m pc ls st0) rest (va_Qv post (fun _ _ => True) (va_A [] H.size) a) (vq_X px H.size) (va_A [] H.size)) (hP : va_P D vq_cl ws H) (hS : va_S A0 H0 H locs) (hA : ∀ q, H0.size ≤ q → A0 q)
    (kx : ∀ (E : String) (ce : Cell) (q9 : Addr) (H1 : Heap) (locs1 : List Loc), px E → va_P D vq_cl ws H1 → va_S A0 H0 H1 locs1 → H1[q9]? = some ce → ce.vm = .none → s.vm.findClass E = some ce.cls → vx_W p l e R s m args below meth c H1 locs1 (cells + mc) (slots + ms) Q (F0 m pc ls rest) q9)
    (kk : ∀ (H1 : Heap) (locs1 : List Loc), post () → va_P D vq_cl ws H1 → va_S A0 H0 H1 locs1 → W p l e R s m args below meth c H1 locs1 (cells + mc) (slots + ms) Q (F0 m (pc + 3) ls (rest))) : W p l e R s m args below meth c H locs cells slots Q (F0 m pc ls st0) :=
  vx_callv hr hS (fun q h z => absurd (vq_new z) (Nat.not_le.mpr h)) (fun q h => hA q (Nat.le_trans hS.1 (vq_new h))) (fun q h z => absurd (vq_new z) (Nat.not_le.mpr h)) (fun E ce q9 u t H1 locs1 ht hvm hpx hB hz hk hS1 h1 h2 h3 => kx E ce q9 H1 locs1 hB (hP.kept (fun k q hq => hk q.1 ((hP k q hq).lt) (fun z => absurd (vq_new z) (Nat.not_le.mpr ((hP k q hq).lt))))) hS1 h1 h2 h3) (fun u t H1 locs1 ht hvm hw hB hz hk hS1 => kk H1 locs1 hw (hP.kept (fun k q hq => hk q.1 ((hP k q hq).lt) (fun z => absurd (vq_new z) (Nat.not_le.mpr ((hP k q hq).lt))))) hS1)
theorem mk_wv {post : S → Prop} (hr : va_Run p l e R s m args below meth c H locs cells slots mc ms (F0 m pc ls st0) rest (va_Qv post (vq_B D cs (va_A wc H.size) w1) (va_A wc H.size) a) (va_A wc H.size)) (hP : va_P D vq_cl ws H) (hD : va_D A0 ws) (hS : va_S A0 H0 H locs) (hA : ∀ q, H0.size ≤ q → A0 q) (isC isR : List Nat) (hC : isC.map (fun i => ws[i]?) = wc.map some) (hR : isR.map (fun i => ws[i]?) = (isR.filterMap (fun i => ws[i]?)).map some) (hn : va_nd isR = true) (hdis : ∀ i ∈ isR, i ∉ isC)
    (kk : ∀ (u : S) (H1 : Heap) (locs1 : List Loc), post u → va_P D vq_cl (isR.filterMap (fun i => ws[i]?) ++ w1 u) H1 → va_D A0 (isR.filterMap (fun i => ws[i]?) ++ w1 u) → va_S A0 H0 H1 locs1 → W p l e R s m args below meth c H1 locs1 (cells + mc) (slots + ms) Q (F0 m (pc + 3) ls (rest))) : W p l e R s m args below meth c H locs cells slots Q (F0 m pc ls st0) :=
  va_callv hr hS (fun q _ h => va_free hD hS hA isC hC q h) (va_free hD hS hA isC hC) (fun u t H1 locs1 ht hvm hw hB hz hk hS1 => by
    obtain ⟨hP1, hD1⟩ := hB
    rw [ht] at hP1
    obtain ⟨x1, x2⟩ := va_join hP hD isC isR hC hR hn hdis hk (va_free hD hS hA isC hC) hP1 hD1
    exact kk u H1 locs1 hw x1 x2 hS1)
theorem mx_wv {post : S → Prop} (hr : vx_Run p l e R s m args below meth c H locs cells slots mc ms (F0 m pc ls st0) rest (va_Qv post (vq_B D cs (va_A wc H.size) w1) (va_A wc H.size) a) (vq_X px H.size) (va_A wc H.size)) (hP : va_P D vq_cl ws H) (hD : va_D A0 ws) (hS : va_S A0 H0 H locs) (hA : ∀ q, H0.size ≤ q → A0 q) (isC isR : List Nat) (hC : isC.map (fun i => ws[i]?) = wc.map some) (hR : isR.map (fun i => ws[i]?) = (isR.filterMap (fun i => ws[i]?)).map some) (hn : va_nd isR = true) (hdis : ∀ i ∈ isR, i ∉ isC)
    (kx : ∀ (E : String) (ce : Cell) (q9 : Addr) (H1 : Heap) (locs1 : List Loc), px E → va_P D vq_cl ws H1 → va_S A0 H0 H1 locs1 → H1[q9]? = some ce → ce.vm = .none → s.vm.findClass E = some ce.cls → vx_W p l e R s m args below meth c H1 locs1 (cells + mc) (slots + ms) Q (F0 m pc ls rest) q9)
    (kk : ∀ (u : S) (H1 : Heap) (locs1 : List Loc), post u → va_P D vq_cl (isR.filterMap (fun i => ws[i]?) ++ w1 u) H1 → va_D A0 (isR.filterMap (fun i => ws[i]?) ++ w1 u) → va_S A0 H0 H1 locs1 → W p l e R s m args below meth c H1 locs1 (cells + mc) (slots + ms) Q (F0 m (pc + 3) ls (rest))) : W p l e R s m args below meth c H locs cells slots Q (F0 m pc ls st0) :=
  vx_callv hr hS (fun q _ h => va_free hD hS hA isC hC q h) (va_free hD hS hA isC hC) (fun q h z => absurd (vq_new z) (Nat.not_le.mpr h)) (fun E ce q9 u t H1 locs1 ht hvm hpx hB hz hk hS1 h1 h2 h3 => kx E ce q9 H1 locs1 hB (hP.kept (fun k q hq => hk q.1 ((hP k q hq).lt) (fun z => absurd (vq_new z) (Nat.not_le.mpr ((hP k q hq).lt))))) hS1 h1 h2 h3) (fun u t H1 locs1 ht hvm hw hB hz hk hS1 => by
    obtain ⟨hP1, hD1⟩ := hB
    rw [ht] at hP1
    obtain ⟨x1, x2⟩ := va_join hP hD isC isR hC hR hn hdis hk (va_free hD hS hA isC hC) hP1 hD1
    exact kk u H1 locs1 hw x1 x2 hS1)
theorem mk_rr {v0 : Nat} (hr : va_Run p l e R s m args below meth c H locs cells slots mc ms (F0 m pc ls st0) rest (va_Qr (fun _ : Unit => True) (fun _ x _ => x = v0) (va_A [] H.size) a) (va_A [] H.size)) (hP : va_P D vq_cl ws H) (hS : va_S A0 H0 H locs) (hA : ∀ q, H0.size ≤ q → A0 q)
    (kk : ∀ (r : Nat) (H1 : Heap) (locs1 : List Loc), r = v0 → va_P D vq_cl ws H1 → va_S A0 H0 H1 locs1 → W p l e R s m args below meth c H1 locs1 (cells + mc) (slots + ms) Q (F0 m (pc + 3) ls (.ref r :: rest))) : W p l e R s m args below meth c H locs cells slots Q (F0 m pc ls st0) :=
  va_callr hr hS (fun q h z => absurd (vq_new z) (Nat.not_le.mpr h)) (fun q h => hA q (Nat.le_trans hS.1 (vq_new h))) (fun u r t H1 locs1 ht hvm hw hB hz hk hS1 => kk r H1 locs1 hB (hP.kept (fun k q hq => hk q.1 ((hP k q hq).lt) (fun z => absurd (vq_new z) (Nat.not_le.mpr ((hP k q hq).lt))))) hS1)
end VQC
section VQT
variable {p : Program} {l : Launch} {e : Env} {R : Room} {s : State} {m : MethodId} {args : Array Value} {below : List Frame} {meth : Method} {c : Code} {H : Heap} {locs : List Loc} {cells slots : Nat} {Q : State → Prop}
variable {cc : ByteArray} {pc : Nat} {ls : Array Slot} {rest : List Value} {A : Nat → Prop} {H0 : Heap} {mc ms : Nat} {D : va_G} {cs : Nat → ClassId} {ws : va_W} {px : String → Prop} {Qc : Array Value → State → Outcome → State → Prop}
theorem vq_thr {own cls text : String} {ik is ic : Nat} (hx : p.tables.exec = Jvm.exec) (hb : c.code = cc) (hlT : l.stackTraces = false) (hown : s.vm.findClass own = some m.cls) (hG : ∀ w ∈ vq_G, w.before args s = true) (hCx : vq_Cx D cs A s) (hA : ∀ q, s.heap.size ≤ q → A q) (hw : vq_TW own ik is ic cls text)
    (hS : va_S (va_A [] s.heap.size) s.heap H locs) (hsize : ls.size = c.maxLocals) (d0 : decode cc pc = .ok (.new ik, 3)) (d3 : decode cc (pc + 3) = .ok (.dup, 1)) (d4 : decode cc (pc + 4) = .ok (.ldc is, 2)) (d6 : decode cc (pc + 6) = .ok (.invokespecial ic, 3)) (d9 : decode cc (pc + 9) = .ok (.athrow, 1))
    (htb : ∀ x ∈ c.exceptionTable.toList, False) (hlocks : meth.locks = false) (hfr : 5 < R.frames) (hlo : (rest.map fun v => v.category).sum + 82 ≤ R.locals) (hc : cells + 1 ≤ R.cells) (hs : slots + 6 ≤ R.slots) (hpx : px cls) (hmc : cells + 1 ≤ mc) (hms : slots + 6 ≤ ms) :
    W p l e R s m args below meth c H locs cells slots (vx_MQ below Qc (vq_X px s.heap.size) args s mc ms A) (F0 m pc ls rest) := by
  obtain ⟨h1, h2, h3, h4, h4b, h5, h6, h7⟩ := hw
  obtain ⟨c1, c2, c3, c4, c5, c8, c9, c10, c6, c7⟩ := hCx
  obtain ⟨sa, hstr⟩ := c4 _ h3
  exact vx_throwS (names := vq_N) (A := va_A [] s.heap.size) hx hb hlT hown h6 (by decide +kernel) (hG _ h1) (hG _ h2) hstr (vx_hat (fun w h => hG w (h4 w h)) h4b (List.forall_mem_cons.mpr ⟨va_Nw.use rfl (c8 _ h7), fun w h => by obtain ⟨y, hy, rfl⟩ := List.mem_map.mp h; exact va_Nw.use rfl (c10 y hy)⟩)) h5 (c6.narrow (fun q h => hA q (vq_new h))) (c7.narrow (fun q h => hA q (vq_new h))) hS hsize d0 d3 d4 d6 d9 (fun x h => (htb x h).elim) hfr hlo hc hs hlocks
    (fun t hvm hz hk => vq_Xof hpx ⟨Nat.le_trans hS.1 hz, fun q q1 q2 => (hk q (Nat.lt_of_lt_of_le q1 hS.1)).trans (hS.2.1 q q1 q2)⟩) (fun z hz => hA _ (vq_new (hS.2.2 z hz))) hmc hms
theorem vq_thrW {own cls text : String} {ik is ic : Nat} (hx : p.tables.exec = Jvm.exec) (hb : c.code = cc) (hlT : l.stackTraces = false) (hown : s.vm.findClass own = some m.cls) (hG : ∀ w ∈ vq_G, w.before args s = true) (hCx : vq_Cx D cs A s) (hA : ∀ q, s.heap.size ≤ q → A q) (hw : vq_TW own ik is ic cls text)
    (hS : va_S (va_A [] s.heap.size) s.heap H locs) (hsize : ls.size = c.maxLocals) (d0 : decode cc pc = .ok (.new ik, 3)) (d3 : decode cc (pc + 3) = .ok (.dup, 1)) (d4 : decode cc (pc + 4) = .ok (.ldc_w is, 3)) (d6 : decode cc (pc + 7) = .ok (.invokespecial ic, 3)) (d9 : decode cc (pc + 10) = .ok (.athrow, 1))
    (htb : ∀ x ∈ c.exceptionTable.toList, False) (hlocks : meth.locks = false) (hfr : 5 < R.frames) (hlo : (rest.map fun v => v.category).sum + 82 ≤ R.locals) (hc : cells + 1 ≤ R.cells) (hs : slots + 6 ≤ R.slots) (hpx : px cls) (hmc : cells + 1 ≤ mc) (hms : slots + 6 ≤ ms) :
    W p l e R s m args below meth c H locs cells slots (vx_MQ below Qc (vq_X px s.heap.size) args s mc ms A) (F0 m pc ls rest) := by
  obtain ⟨h1, h2, h3, h4, h4b, h5, h6, h7⟩ := hw
  obtain ⟨c1, c2, c3, c4, c5, c8, c9, c10, c6, c7⟩ := hCx
  obtain ⟨sa, hstr⟩ := c4 _ h3
  exact vx_throwSW (names := vq_N) (A := va_A [] s.heap.size) hx hb hlT hown h6 (by decide +kernel) (hG _ h1) (hG _ h2) hstr (vx_hat (fun w h => hG w (h4 w h)) h4b (List.forall_mem_cons.mpr ⟨va_Nw.use rfl (c8 _ h7), fun w h => by obtain ⟨y, hy, rfl⟩ := List.mem_map.mp h; exact va_Nw.use rfl (c10 y hy)⟩)) h5 (c6.narrow (fun q h => hA q (vq_new h))) (c7.narrow (fun q h => hA q (vq_new h))) hS hsize d0 d3 d4 d6 d9 (fun x h => (htb x h).elim) hfr hlo hc hs hlocks
    (fun t hvm hz hk => vq_Xof hpx ⟨Nat.le_trans hS.1 hz, fun q q1 q2 => (hk q (Nat.lt_of_lt_of_le q1 hS.1)).trans (hS.2.1 q q1 q2)⟩) (fun z hz => hA _ (vq_new (hS.2.2 z hz))) hmc hms
/-- a new array, its class the one that the context names -/
theorem vq_newI {N : Nat} {n : Int32} (hx : p.tables.exec = Jvm.exec) (hb : c.code = cc) (hG : ∀ w ∈ vq_G, w.before args s = true) {A2 : Nat → Prop} (hCx : vq_Cx D cs A2 s) (hP : va_P D vq_cl ws H) (hD : va_D A ws) (hS : va_S A H0 H locs) (hA : ∀ q, H0.size ≤ q → A q)
    (hn : ¬ n < 0) (hN : n.toNatClampNeg = N) (hby : N * 4 ≤ 536870912) (hc : cells + 1 ≤ R.cells) (hs : slots + N ≤ R.slots) (hdg : decode cc pc = .ok (.newarray .int, 2))
    (kk : ∀ (q : Nat) (H1 : Heap), va_P D vq_cl (ws ++ [(q, .inl (cs 0, N, .inl (fun _ => 0)))]) H1 → va_D A (ws ++ [(q, .inl (cs 0, N, .inl (fun _ => 0)))]) → va_S A H0 H1 locs → W p l e R s m args below meth c H1 locs (cells + 1) (slots + N) Q (F0 m (pc + 2) ls (.ref q :: rest))) :
    W p l e R s m args below meth c H locs cells slots Q (F0 m pc ls (.int n :: rest)) :=
  va_newa (atype := .int) (a0 := (N, .inl (fun _ => 0))) hx hb (hG _ vq_arrI) rfl hCx.1 hP hD hS hA (fun cA => rfl) hn hN hby hc hs hdg (fun q cA H1 hK1 hP1 hD1 hS1 => by
    have e1 : cA = cs 0 := Option.some.inj ((hK1.2 (vq_tys cs).length (cA, .int) rfl).2.symm.trans (hCx.1.2 0 (cs 0, .int) rfl).2)
    subst e1
    exact kk q H1 hP1 hD1 hS1)
theorem vq_newJ {N : Nat} {n : Int32} (hx : p.tables.exec = Jvm.exec) (hb : c.code = cc) (hG : ∀ w ∈ vq_G, w.before args s = true) {A2 : Nat → Prop} (hCx : vq_Cx D cs A2 s) (hP : va_P D vq_cl ws H) (hD : va_D A ws) (hS : va_S A H0 H locs) (hA : ∀ q, H0.size ≤ q → A q)
    (hn : ¬ n < 0) (hN : n.toNatClampNeg = N) (hby : N * 8 ≤ 536870912) (hc : cells + 1 ≤ R.cells) (hs : slots + N ≤ R.slots) (hdg : decode cc pc = .ok (.newarray .long, 2))
    (kk : ∀ (q : Nat) (H1 : Heap), va_P D vq_cl (ws ++ [(q, .inl (cs 1, N, .inr (.inl (fun _ => 0))))]) H1 → va_D A (ws ++ [(q, .inl (cs 1, N, .inr (.inl (fun _ => 0))))]) → va_S A H0 H1 locs → W p l e R s m args below meth c H1 locs (cells + 1) (slots + N) Q (F0 m (pc + 2) ls (.ref q :: rest))) :
    W p l e R s m args below meth c H locs cells slots Q (F0 m pc ls (.int n :: rest)) :=
  va_newa (atype := .long) (a0 := (N, .inr (.inl (fun _ => 0)))) hx hb (hG _ vq_arrJ) rfl hCx.1 hP hD hS hA (fun cA => rfl) hn hN hby hc hs hdg (fun q cA H1 hK1 hP1 hD1 hS1 => by
    have e1 : cA = cs 1 := Option.some.inj ((hK1.2 (vq_tys cs).length (cA, .long) rfl).2.symm.trans (hCx.1.2 1 (cs 1, .long) rfl).2)
    subst e1
    exact kk q H1 hP1 hD1 hS1)
theorem vq_newR {C own : String} {index N : Nat} {n : Int32} (k : Nat) (hx : p.tables.exec = Jvm.exec) (hb : c.code = cc) (hown : s.vm.findClass own = some m.cls) (hcl : (Cond.classLink own index C).before args s = true) {A2 : Nat → Prop} (hCx : vq_Cx D cs A2 s) (hC : C ∈ vq_AO) (hk : (vq_tys cs)[k]? = some (cs k, .object C))
    (hP : va_P D vq_cl ws H) (hD : va_D A ws) (hS : va_S A H0 H locs) (hA : ∀ q, H0.size ≤ q → A q)
    (hn : ¬ n < 0) (hN : n.toNatClampNeg = N) (hby : N * 4 ≤ 536870912) (hc : cells + 1 ≤ R.cells) (hs : slots + N ≤ R.slots) (hdg : decode cc pc = .ok (.anewarray index, 3))
    (kk : ∀ (q : Nat) (H1 : Heap), va_P D vq_cl (ws ++ [(q, .inl (cs k, N, .inr (.inr (.inr (.inr (fun _ => none))))))]) H1 → va_D A (ws ++ [(q, .inl (cs k, N, .inr (.inr (.inr (.inr (fun _ => none))))))]) → va_S A H0 H1 locs → W p l e R s m args below meth c H1 locs (cells + 1) (slots + N) Q (F0 m (pc + 3) ls (.ref q :: rest))) :
    W p l e R s m args below meth c H locs cells slots Q (F0 m pc ls (.int n :: rest)) :=
  va_newq hx hb hown hcl (hCx.2.2.2.2.1 C hC) hCx.1 hP hD hS hA hn hN hby hc hs hdg (fun q cA H1 hK1 hP1 hD1 hS1 => by
    obtain ⟨_, _, _, _, _, x1⟩ := (hK1.2 (vq_tys cs).length (cA, .object C) (by simp)).2
    obtain ⟨_, _, _, _, _, x2⟩ := (hCx.1.2 k (cs k, .object C) hk).2
    have e1 : cA = cs k := Option.some.inj (x1.symm.trans x2)
    subst e1
    exact kk q H1 hP1 hD1 hS1)
end VQT
/-- an index below a bound -/
theorem vq_in {x : Int32} {n : Nat} (N : Int32) (hN : N.toInt = n) (h1 : ¬ x < 0) (h2 : x < N) : vp_in x n := by
  rw [vp_in_iff]
  rw [Int32.lt_iff_toInt_lt] at h1 h2
  rw [Int32.toInt_zero] at h1
  omega
theorem vq_in0 {x : Int32} {n : Nat} (N : Int32) (hN : N.toInt = n) (h1 : ¬ x < 0) (h2 : ¬ N ≤ x) : vp_in x n := by
  rw [vp_in_iff]
  rw [Int32.lt_iff_toInt_lt] at h1
  rw [Int32.le_iff_toInt_le] at h2
  rw [Int32.toInt_zero] at h1
  omega
end
section
set_option maxHeartbeats 4000000 in
set_option maxRecDepth 100000 in
/-- needMaterial -/
theorem c_needMaterial (l : Launch) (hlT : l.stackTraces = false) (dC : Nat → ClassId) (dI : Nat → Nat → Nat) (cs : Nat → ClassId) (sz : Nat) (x : Int32) : vx_Met l y_BR_needMaterial w_BR_needMaterial ({ frames := 6, cells := 1, slots := 6, locals := 82 }) (vq_PreR (dC, dI) cs [] sz [.int x]) (va_Qv (fun (_ : Unit) => okM x) (fun _ _ => True) (va_A [] sz)) (vq_X (fun E => E = xI ∧ ¬ okM x) sz) 1 6 (va_A [] sz) := by
  refine vx_ofW (cc := b_BR_needMaterial) (maxL := 1) (ret := none) (by decide) rfl ?_
  intro p e s m args below meth c s₁ B hml htb hv
  obtain ⟨rfl, hsz, hP, hCx⟩ := hv
  have hx := B.exec
  have hb := B.bytes
  have hr := B.returns
  have hG := vq_hG (atoms_spec (ws := w_BR_needMaterial) B.pre)
  have hown : s.vm.findClass R_BR = some m.cls := findClass_of_methodNamed B.named
  have hlocks := B.notSynchronized
  subst hsz
  have hK := hCx.1
  have hA : ∀ q : Nat, s.heap.size ≤ q → va_A [] s.heap.size q := fun q h => Or.inr h
  have hA0 : ∀ q : Nat, s.heap.size ≤ q → va_A [] s.heap.size q := fun q h => Or.inr h
  have hS : va_S (va_A [] s.heap.size) s.heap s.heap [] := va_S.rf
  have hl := lv_entry ([.int x]) (n := 1) (Nat.le_of_ble_eq_true rfl)
  rw [lg_entry_eq]
  generalize (lg_sl ([.int x]) ++ List.replicate (1 - (lg_sl ([.int x])).length) Slot.unset).toArray = ls at hl ⊢
  have hl : lv_has ls 1 [(0, .int x)] := hl
  have hP : va_P (dC, dI) vq_cl [] s.heap := hP
  refine lv_iload_n hx hb d_BR_needMaterial_0 rfl (lv_at hl 0 rfl) ?_
  refine lv_if_lt (tgt := 10) hx hb d_BR_needMaterial_1 (by decide) (fun c_1 => ?_) (fun c_1 => ?_)
  · skip
    exact vq_thr hx hb hlT hown hG hCx hA vq_tw0 hS (by rw [hml]; exact hl.1) d_BR_needMaterial_10 d_BR_needMaterial_13 d_BR_needMaterial_14 d_BR_needMaterial_16 d_BR_needMaterial_19 htb hlocks (Nat.le_of_ble_eq_true rfl) (Nat.le_of_ble_eq_true rfl) (Nat.le_of_ble_eq_true rfl) (Nat.le_of_ble_eq_true rfl) (⟨rfl, fun h => by first | exact h.1 c_1 | exact c_7 h.2⟩) (Nat.le_of_ble_eq_true rfl) (Nat.le_of_ble_eq_true rfl)
  · skip
    refine lv_iload_n hx hb d_BR_needMaterial_4 rfl (lv_at hl 0 rfl) ?_
    refine lv_bipush (v := 8) hx hb d_BR_needMaterial_5 (by decide) ?_
    refine lv_icmp_lt (tgt := 20) hx hb d_BR_needMaterial_7 (by decide) (fun c_7 => ?_) (fun c_7 => ?_)
    · skip
      refine vx_ret ?_
      refine W.widen (k := 1) (n := 6) (Nat.le_of_ble_eq_true rfl) (Nat.le_of_ble_eq_true rfl) ?_
      exact W.vret hx hb hr (fun t ht hW => ⟨⟨(), rfl, ⟨c_1, c_7⟩, trivial⟩, hS.F ht⟩) hS.2.2 d_BR_needMaterial_20
    · skip
      exact vq_thr hx hb hlT hown hG hCx hA vq_tw0 hS (by rw [hml]; exact hl.1) d_BR_needMaterial_10 d_BR_needMaterial_13 d_BR_needMaterial_14 d_BR_needMaterial_16 d_BR_needMaterial_19 htb hlocks (Nat.le_of_ble_eq_true rfl) (Nat.le_of_ble_eq_true rfl) (Nat.le_of_ble_eq_true rfl) (Nat.le_of_ble_eq_true rfl) (⟨rfl, fun h => by first | exact h.1 c_1 | exact c_7 h.2⟩) (Nat.le_of_ble_eq_true rfl) (Nat.le_of_ble_eq_true rfl)
set_option maxHeartbeats 4000000 in
set_option maxRecDepth 100000 in
/-- needElement -/
theorem c_needElement (l : Launch) (hlT : l.stackTraces = false) (dC : Nat → ClassId) (dI : Nat → Nat → Nat) (cs : Nat → ClassId) (sz : Nat) (x : Int32) : vx_Met l y_BR_needElement w_BR_needElement ({ frames := 6, cells := 1, slots := 6, locals := 82 }) (vq_PreR (dC, dI) cs [] sz [.int x]) (va_Qv (fun (_ : Unit) => okE x) (fun _ _ => True) (va_A [] sz)) (vq_X (fun E => E = xI ∧ ¬ okE x) sz) 1 6 (va_A [] sz) := by
  refine vx_ofW (cc := b_BR_needElement) (maxL := 1) (ret := none) (by decide) rfl ?_
  intro p e s m args below meth c s₁ B hml htb hv
  obtain ⟨rfl, hsz, hP, hCx⟩ := hv
  have hx := B.exec
  have hb := B.bytes
  have hr := B.returns
  have hG := vq_hG (atoms_spec (ws := w_BR_needElement) B.pre)
  have hown : s.vm.findClass R_BR = some m.cls := findClass_of_methodNamed B.named
  have hlocks := B.notSynchronized
  subst hsz
  have hK := hCx.1
  have hA : ∀ q : Nat, s.heap.size ≤ q → va_A [] s.heap.size q := fun q h => Or.inr h
  have hA0 : ∀ q : Nat, s.heap.size ≤ q → va_A [] s.heap.size q := fun q h => Or.inr h
  have hS : va_S (va_A [] s.heap.size) s.heap s.heap [] := va_S.rf
  have hl := lv_entry ([.int x]) (n := 1) (Nat.le_of_ble_eq_true rfl)
  rw [lg_entry_eq]
  generalize (lg_sl ([.int x]) ++ List.replicate (1 - (lg_sl ([.int x])).length) Slot.unset).toArray = ls at hl ⊢
  have hl : lv_has ls 1 [(0, .int x)] := hl
  have hP : va_P (dC, dI) vq_cl [] s.heap := hP
  refine lv_iload_n hx hb d_BR_needElement_0 rfl (lv_at hl 0 rfl) ?_
  refine lv_if_lt (tgt := 9) hx hb d_BR_needElement_1 (by decide) (fun c_1 => ?_) (fun c_1 => ?_)
  · skip
    exact vq_thr hx hb hlT hown hG hCx hA vq_tw1 hS (by rw [hml]; exact hl.1) d_BR_needElement_9 d_BR_needElement_12 d_BR_needElement_13 d_BR_needElement_15 d_BR_needElement_18 htb hlocks (Nat.le_of_ble_eq_true rfl) (Nat.le_of_ble_eq_true rfl) (Nat.le_of_ble_eq_true rfl) (Nat.le_of_ble_eq_true rfl) (⟨rfl, fun h => by first | exact h.1 c_1 | exact c_6 h.2⟩) (Nat.le_of_ble_eq_true rfl) (Nat.le_of_ble_eq_true rfl)
  · skip
    refine lv_iload_n hx hb d_BR_needElement_4 rfl (lv_at hl 0 rfl) ?_
    refine lv_iconst (v := 4) hx hb d_BR_needElement_5 (by decide) ?_
    refine lv_icmp_lt (tgt := 19) hx hb d_BR_needElement_6 (by decide) (fun c_6 => ?_) (fun c_6 => ?_)
    · skip
      refine vx_ret ?_
      refine W.widen (k := 1) (n := 6) (Nat.le_of_ble_eq_true rfl) (Nat.le_of_ble_eq_true rfl) ?_
      exact W.vret hx hb hr (fun t ht hW => ⟨⟨(), rfl, ⟨c_1, c_6⟩, trivial⟩, hS.F ht⟩) hS.2.2 d_BR_needElement_19
    · skip
      exact vq_thr hx hb hlT hown hG hCx hA vq_tw1 hS (by rw [hml]; exact hl.1) d_BR_needElement_9 d_BR_needElement_12 d_BR_needElement_13 d_BR_needElement_15 d_BR_needElement_18 htb hlocks (Nat.le_of_ble_eq_true rfl) (Nat.le_of_ble_eq_true rfl) (Nat.le_of_ble_eq_true rfl) (Nat.le_of_ble_eq_true rfl) (⟨rfl, fun h => by first | exact h.1 c_1 | exact c_6 h.2⟩) (Nat.le_of_ble_eq_true rfl) (Nat.le_of_ble_eq_true rfl)
set_option maxHeartbeats 4000000 in
set_option maxRecDepth 100000 in
/-- needPart -/
theorem c_needPart (l : Launch) (hlT : l.stackTraces = false) (dC : Nat → ClassId) (dI : Nat → Nat → Nat) (cs : Nat → ClassId) (sz : Nat) (x : Int32) : vx_Met l y_BR_needPart w_BR_needPart ({ frames := 6, cells := 1, slots := 6, locals := 82 }) (vq_PreR (dC, dI) cs [] sz [.int x]) (va_Qv (fun (_ : Unit) => okQ x) (fun _ _ => True) (va_A [] sz)) (vq_X (fun E => E = xI ∧ ¬ okQ x) sz) 1 6 (va_A [] sz) := by
  refine vx_ofW (cc := b_BR_needPart) (maxL := 1) (ret := none) (by decide) rfl ?_
  intro p e s m args below meth c s₁ B hml htb hv
  obtain ⟨rfl, hsz, hP, hCx⟩ := hv
  have hx := B.exec
  have hb := B.bytes
  have hr := B.returns
  have hG := vq_hG (atoms_spec (ws := w_BR_needPart) B.pre)
  have hown : s.vm.findClass R_BR = some m.cls := findClass_of_methodNamed B.named
  have hlocks := B.notSynchronized
  subst hsz
  have hK := hCx.1
  have hA : ∀ q : Nat, s.heap.size ≤ q → va_A [] s.heap.size q := fun q h => Or.inr h
  have hA0 : ∀ q : Nat, s.heap.size ≤ q → va_A [] s.heap.size q := fun q h => Or.inr h
  have hS : va_S (va_A [] s.heap.size) s.heap s.heap [] := va_S.rf
  have hl := lv_entry ([.int x]) (n := 1) (Nat.le_of_ble_eq_true rfl)
  rw [lg_entry_eq]
  generalize (lg_sl ([.int x]) ++ List.replicate (1 - (lg_sl ([.int x])).length) Slot.unset).toArray = ls at hl ⊢
  have hl : lv_has ls 1 [(0, .int x)] := hl
  have hP : va_P (dC, dI) vq_cl [] s.heap := hP
  refine lv_iload_n hx hb d_BR_needPart_0 rfl (lv_at hl 0 rfl) ?_
  refine lv_if_lt (tgt := 9) hx hb d_BR_needPart_1 (by decide) (fun c_1 => ?_) (fun c_1 => ?_)
  · skip
    exact vq_thr hx hb hlT hown hG hCx hA vq_tw2 hS (by rw [hml]; exact hl.1) d_BR_needPart_9 d_BR_needPart_12 d_BR_needPart_13 d_BR_needPart_15 d_BR_needPart_18 htb hlocks (Nat.le_of_ble_eq_true rfl) (Nat.le_of_ble_eq_true rfl) (Nat.le_of_ble_eq_true rfl) (Nat.le_of_ble_eq_true rfl) (⟨rfl, fun h => by first | exact h.1 c_1 | exact c_6 h.2⟩) (Nat.le_of_ble_eq_true rfl) (Nat.le_of_ble_eq_true rfl)
  · skip
    refine lv_iload_n hx hb d_BR_needPart_4 rfl (lv_at hl 0 rfl) ?_
    refine lv_iconst (v := 1) hx hb d_BR_needPart_5 (by decide) ?_
    refine lv_icmp_le (tgt := 19) hx hb d_BR_needPart_6 (by decide) (fun c_6 => ?_) (fun c_6 => ?_)
    · skip
      refine vx_ret ?_
      refine W.widen (k := 1) (n := 6) (Nat.le_of_ble_eq_true rfl) (Nat.le_of_ble_eq_true rfl) ?_
      exact W.vret hx hb hr (fun t ht hW => ⟨⟨(), rfl, ⟨c_1, c_6⟩, trivial⟩, hS.F ht⟩) hS.2.2 d_BR_needPart_19
    · skip
      exact vq_thr hx hb hlT hown hG hCx hA vq_tw2 hS (by rw [hml]; exact hl.1) d_BR_needPart_9 d_BR_needPart_12 d_BR_needPart_13 d_BR_needPart_15 d_BR_needPart_18 htb hlocks (Nat.le_of_ble_eq_true rfl) (Nat.le_of_ble_eq_true rfl) (Nat.le_of_ble_eq_true rfl) (Nat.le_of_ble_eq_true rfl) (⟨rfl, fun h => by first | exact h.1 c_1 | exact c_6 h.2⟩) (Nat.le_of_ble_eq_true rfl) (Nat.le_of_ble_eq_true rfl)
set_option maxHeartbeats 4000000 in
set_option maxRecDepth 100000 in
/-- needRange -/
theorem c_needRange (l : Launch) (hlT : l.stackTraces = false) (dC : Nat → ClassId) (dI : Nat → Nat → Nat) (cs : Nat → ClassId) (sz : Nat) (x : Int32) (lo : Int32) (hi : Int32) : vx_Met l y_BR_needRange w_BR_needRange ({ frames := 6, cells := 1, slots := 6, locals := 82 }) (vq_PreR (dC, dI) cs [] sz [.int x, .int lo, .int hi]) (va_Qv (fun (_ : Unit) => okR x lo hi) (fun _ _ => True) (va_A [] sz)) (vq_X (fun E => E = xA ∧ ¬ okR x lo hi) sz) 1 6 (va_A [] sz) := by
  refine vx_ofW (cc := b_BR_needRange) (maxL := 3) (ret := none) (by decide) rfl ?_
  intro p e s m args below meth c s₁ B hml htb hv
  obtain ⟨rfl, hsz, hP, hCx⟩ := hv
  have hx := B.exec
  have hb := B.bytes
  have hr := B.returns
  have hG := vq_hG (atoms_spec (ws := w_BR_needRange) B.pre)
  have hown : s.vm.findClass R_BR = some m.cls := findClass_of_methodNamed B.named
  have hlocks := B.notSynchronized
  subst hsz
  have hK := hCx.1
  have hA : ∀ q : Nat, s.heap.size ≤ q → va_A [] s.heap.size q := fun q h => Or.inr h
  have hA0 : ∀ q : Nat, s.heap.size ≤ q → va_A [] s.heap.size q := fun q h => Or.inr h
  have hS : va_S (va_A [] s.heap.size) s.heap s.heap [] := va_S.rf
  have hl := lv_entry ([.int x, .int lo, .int hi]) (n := 3) (Nat.le_of_ble_eq_true rfl)
  rw [lg_entry_eq]
  generalize (lg_sl ([.int x, .int lo, .int hi]) ++ List.replicate (3 - (lg_sl ([.int x, .int lo, .int hi])).length) Slot.unset).toArray = ls at hl ⊢
  have hl : lv_has ls 3 [(0, .int x), (1, .int lo), (2, .int hi)] := hl
  have hP : va_P (dC, dI) vq_cl [] s.heap := hP
  refine lv_iload_n hx hb d_BR_needRange_0 rfl (lv_at hl 0 rfl) ?_
  refine lv_iload_n hx hb d_BR_needRange_1 rfl (lv_at hl 1 rfl) ?_
  refine lv_icmp_lt (tgt := 10) hx hb d_BR_needRange_2 (by decide) (fun c_2 => ?_) (fun c_2 => ?_)
  · skip
    exact vq_thr hx hb hlT hown hG hCx hA vq_tw3 hS (by rw [hml]; exact hl.1) d_BR_needRange_10 d_BR_needRange_13 d_BR_needRange_14 d_BR_needRange_16 d_BR_needRange_19 htb hlocks (Nat.le_of_ble_eq_true rfl) (Nat.le_of_ble_eq_true rfl) (Nat.le_of_ble_eq_true rfl) (Nat.le_of_ble_eq_true rfl) (⟨rfl, fun h => by first | exact h.1 c_2 | exact c_7 h.2⟩) (Nat.le_of_ble_eq_true rfl) (Nat.le_of_ble_eq_true rfl)
  · skip
    refine lv_iload_n hx hb d_BR_needRange_5 rfl (lv_at hl 0 rfl) ?_
    refine lv_iload_n hx hb d_BR_needRange_6 rfl (lv_at hl 2 rfl) ?_
    refine lv_icmp_le (tgt := 20) hx hb d_BR_needRange_7 (by decide) (fun c_7 => ?_) (fun c_7 => ?_)
    · skip
      refine vx_ret ?_
      refine W.widen (k := 1) (n := 6) (Nat.le_of_ble_eq_true rfl) (Nat.le_of_ble_eq_true rfl) ?_
      exact W.vret hx hb hr (fun t ht hW => ⟨⟨(), rfl, ⟨c_2, c_7⟩, trivial⟩, hS.F ht⟩) hS.2.2 d_BR_needRange_20
    · skip
      exact vq_thr hx hb hlT hown hG hCx hA vq_tw3 hS (by rw [hml]; exact hl.1) d_BR_needRange_10 d_BR_needRange_13 d_BR_needRange_14 d_BR_needRange_16 d_BR_needRange_19 htb hlocks (Nat.le_of_ble_eq_true rfl) (Nat.le_of_ble_eq_true rfl) (Nat.le_of_ble_eq_true rfl) (Nat.le_of_ble_eq_true rfl) (⟨rfl, fun h => by first | exact h.1 c_2 | exact c_7 h.2⟩) (Nat.le_of_ble_eq_true rfl) (Nat.le_of_ble_eq_true rfl)
set_option maxHeartbeats 4000000 in
set_option maxRecDepth 100000 in
/-- needTaken -/
theorem c_needTaken (l : Launch) (hlT : l.stackTraces = false) (dC : Nat → ClassId) (dI : Nat → Nat → Nat) (cs : Nat → ClassId) (sz : Nat) (pa : Nat) (bLG : Nat) (bLS : Nat) (bLt : Nat) (bGS : Nat) (bGG : Nat) (bES : Nat) (bEG : Nat) (zSl : Int32) (zLy : Int32) (zGr : Int32) (zTk : Int32) (zGt : Int32) (zLt : Int32) : vx_Met l y_BR_needTaken w_BR_needTaken ({ frames := 6, cells := 1, slots := 6, locals := 82 }) (vq_PreR (dC, dI) cs [(pa, .inr (1, [.int zSl, .ref bLG, .ref bLS, .int zLy, .int zGr, .int zTk, .int zGt, .int zLt, .ref bLt, .ref bGS, .ref bGG, .ref bES, .ref bEG]))] sz [.ref pa]) (va_Qv (fun (_ : Unit) => ¬ zTk = 0) (fun _ _ => True) (va_A [] sz)) (vq_X (fun E => E = xS ∧ ¬ ¬ zTk = 0) sz) 1 6 (va_A [] sz) := by
  refine vx_ofW (cc := b_BR_needTaken) (maxL := 1) (ret := none) (by decide) rfl ?_
  intro p e s m args below meth c s₁ B hml htb hv
  obtain ⟨rfl, hsz, hP, hCx⟩ := hv
  have hx := B.exec
  have hb := B.bytes
  have hr := B.returns
  have hG := vq_hG (atoms_spec (ws := w_BR_needTaken) B.pre)
  have hown : s.vm.findClass R_BR = some m.cls := findClass_of_methodNamed B.named
  have hlocks := B.notSynchronized
  subst hsz
  have hK := hCx.1
  have hA : ∀ q : Nat, s.heap.size ≤ q → va_A [] s.heap.size q := fun q h => Or.inr h
  have hA0 : ∀ q : Nat, s.heap.size ≤ q → va_A [] s.heap.size q := fun q h => Or.inr h
  have hS : va_S (va_A [] s.heap.size) s.heap s.heap [] := va_S.rf
  have hl := lv_entry ([.ref pa]) (n := 1) (Nat.le_of_ble_eq_true rfl)
  rw [lg_entry_eq]
  generalize (lg_sl ([.ref pa]) ++ List.replicate (1 - (lg_sl ([.ref pa])).length) Slot.unset).toArray = ls at hl ⊢
  have hl : lv_has ls 1 [(0, .ref pa)] := hl
  have hP : va_P (dC, dI) vq_cl [(pa, .inr (1, [.int zSl, .ref bLG, .ref bLS, .int zLy, .int zGr, .int zTk, .int zGt, .int zLt, .ref bLt, .ref bGS, .ref bGG, .ref bES, .ref bEG]))] s.heap := hP
  refine lv_aload_n hx hb d_BR_needTaken_0 rfl (lv_at hl 0 rfl) ?_
  refine va_getN (D := (dC, dI)) (ci := 1) (v := .int zTk) (C := R_PI) (T := F_PI) (N := 13) hx hb hG i_PI hown hK hP 0 rfl rfl 5 (by decide) (va_Nw.use rfl (hCx.2.1 _ vq_nf0)) (fun _ h9 => h9) rfl d_BR_needTaken_1 ?_
  refine lv_if_ne (tgt := 17) hx hb d_BR_needTaken_4 (by decide) (fun c_4 => ?_) (fun c_4 => ?_)
  · skip
    refine vx_ret ?_
    refine W.widen (k := 1) (n := 6) (Nat.le_of_ble_eq_true rfl) (Nat.le_of_ble_eq_true rfl) ?_
    exact W.vret hx hb hr (fun t ht hW => ⟨⟨(), rfl, c_4, trivial⟩, hS.F ht⟩) hS.2.2 d_BR_needTaken_17
  · skip
    exact vq_thr hx hb hlT hown hG hCx hA vq_tw4 hS (by rw [hml]; exact hl.1) d_BR_needTaken_7 d_BR_needTaken_10 d_BR_needTaken_11 d_BR_needTaken_13 d_BR_needTaken_16 htb hlocks (Nat.le_of_ble_eq_true rfl) (Nat.le_of_ble_eq_true rfl) (Nat.le_of_ble_eq_true rfl) (Nat.le_of_ble_eq_true rfl) (⟨rfl, fun h => h c_4⟩) (Nat.le_of_ble_eq_true rfl) (Nat.le_of_ble_eq_true rfl)
set_option maxHeartbeats 4000000 in
set_option maxRecDepth 100000 in
/-- needPile, there is one -/
theorem c_needPile_ok (l : Launch) (dC : Nat → ClassId) (dI : Nat → Nat → Nat) (cs : Nat → ClassId) (sz : Nat) (h0 : Nat) (aMo : Nat) (aSh : Nat) (aLa : Nat) (aDy : Nat) (aMa : Nat) (aKi : Nat) (aPi : Nat) (aLn : Nat) (zCn : Int32) (zPc : Int32) (zTo : Int32) (fPi : Nat → Option Nat) (x : Int32) (pa : Nat) (hi : okP x) (hf : fPi x.toNatClampNeg = some pa) : Met l y_BR_needPile w_BR_needPile ({ frames := 0, cells := 0, slots := 0, locals := 0 }) (vq_PreR (dC, dI) cs [(h0, .inr (0, [.ref aMo, .ref aSh, .ref aLa, .ref aDy, .ref aMa, .ref aKi, .int zCn, .ref aPi, .int zPc, .ref aLn, .int zTo])), (aPi, .inl ((cs 2), 4, .inr (.inr (.inr (.inr fPi)))))] sz [.ref h0, .int x]) (va_Qr (fun _ : Unit => True) (fun _ a _ => a = pa) (va_A [] sz)) 0 0 (va_A [] sz) := by
  refine Met.ofW (cc := b_BR_needPile) (maxL := 2) (ret := (some (.object "BlendRows$Pile"))) (by decide) rfl ?_
  intro p e s m args below meth c s₁ B hml hv
  obtain ⟨rfl, hsz, hP, hCx⟩ := hv
  have hx := B.exec
  have hb := B.bytes
  have hr := B.returns
  have hG := vq_hG (atoms_spec (ws := w_BR_needPile) B.pre)
  have hown : s.vm.findClass R_BR = some m.cls := findClass_of_methodNamed B.named
  have hlocks := B.notSynchronized
  subst hsz
  have hK := hCx.1
  have hA : ∀ q : Nat, s.heap.size ≤ q → va_A [] s.heap.size q := fun q h => Or.inr h
  have hA0 : ∀ q : Nat, s.heap.size ≤ q → va_A [] s.heap.size q := fun q h => Or.inr h
  have hS : va_S (va_A [] s.heap.size) s.heap s.heap [] := va_S.rf
  have hl := lv_entry ([.ref h0, .int x]) (n := 2) (Nat.le_of_ble_eq_true rfl)
  rw [lg_entry_eq]
  generalize (lg_sl ([.ref h0, .int x]) ++ List.replicate (2 - (lg_sl ([.ref h0, .int x])).length) Slot.unset).toArray = ls at hl ⊢
  have hl : lv_has ls 2 [(0, .ref h0), (1, .int x)] := hl
  have hP : va_P (dC, dI) vq_cl [(h0, .inr (0, [.ref aMo, .ref aSh, .ref aLa, .ref aDy, .ref aMa, .ref aKi, .int zCn, .ref aPi, .int zPc, .ref aLn, .int zTo])), (aPi, .inl ((cs 2), 4, .inr (.inr (.inr (.inr fPi)))))] s.heap := hP
  refine lv_iload_n hx hb d_BR_needPile_0 rfl (lv_at hl 1 rfl) ?_
  refine lv_if_lt (tgt := 18) hx hb d_BR_needPile_1 (by decide) (fun c_1 => ?_) (fun c_1 => ?_)
  · skip
    exact absurd c_1 hi.1
  · skip
    refine lv_iload_n hx hb d_BR_needPile_4 rfl (lv_at hl 1 rfl) ?_
    refine lv_iconst (v := 4) hx hb d_BR_needPile_5 (by decide) ?_
    refine lv_icmp_ge (tgt := 18) hx hb d_BR_needPile_6 (by decide) (fun c_6 => ?_) (fun c_6 => ?_)
    · skip
      exact absurd c_6 hi.2
    · skip
      refine lv_aload_n hx hb d_BR_needPile_9 rfl (lv_at hl 0 rfl) ?_
      refine va_get (D := (dC, dI)) (ci := 0) (v := .ref aPi) (C := R_BR) (T := F_BR) (N := 11) hx hb hG i_BR hown hK hP 0 rfl rfl 7 (by decide) (hG _ vq_t54) (fun _ h9 => h9) rfl d_BR_needPile_10 ?_
      refine lv_iload_n hx hb d_BR_needPile_13 rfl (lv_at hl 1 rfl) ?_
      refine va_aldq (D := (dC, dI)) hx hb hK hP 1 2 rfl rfl (vq_in0 4 rfl hi.1 hi.2) d_BR_needPile_14 ?_
      rw [hf]
      refine lv_ifnonnull (tgt := 28) hx hb d_BR_needPile_15 (by decide) ?_
      refine lv_aload_n hx hb d_BR_needPile_28 rfl (lv_at hl 0 rfl) ?_
      refine va_get (D := (dC, dI)) (ci := 0) (v := .ref aPi) (C := R_BR) (T := F_BR) (N := 11) hx hb hG i_BR hown hK hP 0 rfl rfl 7 (by decide) (hG _ vq_t54) (fun _ h9 => h9) rfl d_BR_needPile_29 ?_
      refine lv_iload_n hx hb d_BR_needPile_32 rfl (lv_at hl 1 rfl) ?_
      refine va_aldq (D := (dC, dI)) hx hb hK hP 1 2 rfl rfl (vq_in0 4 rfl hi.1 hi.2) d_BR_needPile_33 ?_
      rw [hf]
      refine W.widen (k := 0) (n := 0) (Nat.le_of_ble_eq_true rfl) (Nat.le_of_ble_eq_true rfl) ?_
      exact W.aret hx hb hr (Or.inl ⟨_, rfl⟩) (Or.inr ⟨_, rfl⟩) (fun t ht hW => ⟨⟨(), pa, rfl, trivial, rfl⟩, hS.F ht⟩) hS.2.2 d_BR_needPile_34
set_option maxHeartbeats 4000000 in
set_option maxRecDepth 100000 in
/-- needPile, there is none -/
theorem c_needPile_bad (l : Launch) (hlT : l.stackTraces = false) (dC : Nat → ClassId) (dI : Nat → Nat → Nat) (cs : Nat → ClassId) (sz : Nat) (h0 : Nat) (aMo : Nat) (aSh : Nat) (aLa : Nat) (aDy : Nat) (aMa : Nat) (aKi : Nat) (aPi : Nat) (aLn : Nat) (zCn : Int32) (zPc : Int32) (zTo : Int32) (fPi : Nat → Option Nat) (x : Int32) (hi : okP x → fPi x.toNatClampNeg = none) : vx_Met l y_BR_needPile w_BR_needPile ({ frames := 6, cells := 1, slots := 6, locals := 82 }) (vq_PreR (dC, dI) cs [(h0, .inr (0, [.ref aMo, .ref aSh, .ref aLa, .ref aDy, .ref aMa, .ref aKi, .int zCn, .ref aPi, .int zPc, .ref aLn, .int zTo])), (aPi, .inl ((cs 2), 4, .inr (.inr (.inr (.inr fPi)))))] sz [.ref h0, .int x]) (va_Qv (fun (_ : Unit) => False) (fun _ _ => True) (va_A [] sz)) (vq_X (fun E => E = xI) sz) 1 6 (va_A [] sz) := by
  refine vx_ofW (cc := b_BR_needPile) (maxL := 2) (ret := (some (.object "BlendRows$Pile"))) (by decide) rfl ?_
  intro p e s m args below meth c s₁ B hml htb hv
  obtain ⟨rfl, hsz, hP, hCx⟩ := hv
  have hx := B.exec
  have hb := B.bytes
  have hr := B.returns
  have hG := vq_hG (atoms_spec (ws := w_BR_needPile) B.pre)
  have hown : s.vm.findClass R_BR = some m.cls := findClass_of_methodNamed B.named
  have hlocks := B.notSynchronized
  subst hsz
  have hK := hCx.1
  have hA : ∀ q : Nat, s.heap.size ≤ q → va_A [] s.heap.size q := fun q h => Or.inr h
  have hA0 : ∀ q : Nat, s.heap.size ≤ q → va_A [] s.heap.size q := fun q h => Or.inr h
  have hS : va_S (va_A [] s.heap.size) s.heap s.heap [] := va_S.rf
  have hl := lv_entry ([.ref h0, .int x]) (n := 2) (Nat.le_of_ble_eq_true rfl)
  rw [lg_entry_eq]
  generalize (lg_sl ([.ref h0, .int x]) ++ List.replicate (2 - (lg_sl ([.ref h0, .int x])).length) Slot.unset).toArray = ls at hl ⊢
  have hl : lv_has ls 2 [(0, .ref h0), (1, .int x)] := hl
  have hP : va_P (dC, dI) vq_cl [(h0, .inr (0, [.ref aMo, .ref aSh, .ref aLa, .ref aDy, .ref aMa, .ref aKi, .int zCn, .ref aPi, .int zPc, .ref aLn, .int zTo])), (aPi, .inl ((cs 2), 4, .inr (.inr (.inr (.inr fPi)))))] s.heap := hP
  refine lv_iload_n hx hb d_BR_needPile_0 rfl (lv_at hl 1 rfl) ?_
  refine lv_if_lt (tgt := 18) hx hb d_BR_needPile_1 (by decide) (fun c_1 => ?_) (fun c_1 => ?_)
  · skip
    exact vq_thr hx hb hlT hown hG hCx hA vq_tw5 hS (by rw [hml]; exact hl.1) d_BR_needPile_18 d_BR_needPile_21 d_BR_needPile_22 d_BR_needPile_24 d_BR_needPile_27 htb hlocks (Nat.le_of_ble_eq_true rfl) (Nat.le_of_ble_eq_true rfl) (Nat.le_of_ble_eq_true rfl) (Nat.le_of_ble_eq_true rfl) rfl (Nat.le_of_ble_eq_true rfl) (Nat.le_of_ble_eq_true rfl)
  · skip
    refine lv_iload_n hx hb d_BR_needPile_4 rfl (lv_at hl 1 rfl) ?_
    refine lv_iconst (v := 4) hx hb d_BR_needPile_5 (by decide) ?_
    refine lv_icmp_ge (tgt := 18) hx hb d_BR_needPile_6 (by decide) (fun c_6 => ?_) (fun c_6 => ?_)
    · skip
      exact vq_thr hx hb hlT hown hG hCx hA vq_tw5 hS (by rw [hml]; exact hl.1) d_BR_needPile_18 d_BR_needPile_21 d_BR_needPile_22 d_BR_needPile_24 d_BR_needPile_27 htb hlocks (Nat.le_of_ble_eq_true rfl) (Nat.le_of_ble_eq_true rfl) (Nat.le_of_ble_eq_true rfl) (Nat.le_of_ble_eq_true rfl) rfl (Nat.le_of_ble_eq_true rfl) (Nat.le_of_ble_eq_true rfl)
    · skip
      refine lv_aload_n hx hb d_BR_needPile_9 rfl (lv_at hl 0 rfl) ?_
      refine va_get (D := (dC, dI)) (ci := 0) (v := .ref aPi) (C := R_BR) (T := F_BR) (N := 11) hx hb hG i_BR hown hK hP 0 rfl rfl 7 (by decide) (hG _ vq_t54) (fun _ h9 => h9) rfl d_BR_needPile_10 ?_
      refine lv_iload_n hx hb d_BR_needPile_13 rfl (lv_at hl 1 rfl) ?_
      refine va_aldq (D := (dC, dI)) hx hb hK hP 1 2 rfl rfl (vq_in0 4 rfl c_1 c_6) d_BR_needPile_14 ?_
      rw [hi ⟨c_1, c_6⟩]
      refine lv_ifnonnullN hx hb d_BR_needPile_15 ?_
      exact vq_thr hx hb hlT hown hG hCx hA vq_tw5 hS (by rw [hml]; exact hl.1) d_BR_needPile_18 d_BR_needPile_21 d_BR_needPile_22 d_BR_needPile_24 d_BR_needPile_27 htb hlocks (Nat.le_of_ble_eq_true rfl) (Nat.le_of_ble_eq_true rfl) (Nat.le_of_ble_eq_true rfl) (Nat.le_of_ble_eq_true rfl) rfl (Nat.le_of_ble_eq_true rfl) (Nat.le_of_ble_eq_true rfl)
set_option maxHeartbeats 4000000 in
set_option maxRecDepth 100000 in
/-- lostKilos -/
theorem c_lostKilos (l : Launch) (dC : Nat → ClassId) (dI : Nat → Nat → Nat) (cs : Nat → ClassId) (sz : Nat) (k : Int32) (lo : Int32) : Met l y_BR_lostKilos w_BR_lostKilos ({ frames := 0, cells := 0, slots := 0, locals := 0 }) (vq_PreR (dC, dI) cs [] sz [.int k, .int lo]) (va_Qi (fun (r : Int32) (_ : Unit) => r = (((k * lo) + 1000) - 1) / 1000) (fun _ _ => True) (va_A [] sz)) 0 0 (va_A [] sz) := by
  refine Met.ofW (cc := b_BR_lostKilos) (maxL := 2) (ret := (some .int)) (by decide) rfl ?_
  intro p e s m args below meth c s₁ B hml hv
  obtain ⟨rfl, hsz, hP, hCx⟩ := hv
  have hx := B.exec
  have hb := B.bytes
  have hr := B.returns
  have hG := vq_hG (atoms_spec (ws := w_BR_lostKilos) B.pre)
  have hown : s.vm.findClass R_BR = some m.cls := findClass_of_methodNamed B.named
  have hlocks := B.notSynchronized
  subst hsz
  have hK := hCx.1
  have hA : ∀ q : Nat, s.heap.size ≤ q → va_A [] s.heap.size q := fun q h => Or.inr h
  have hA0 : ∀ q : Nat, s.heap.size ≤ q → va_A [] s.heap.size q := fun q h => Or.inr h
  have hS : va_S (va_A [] s.heap.size) s.heap s.heap [] := va_S.rf
  have hl := lv_entry ([.int k, .int lo]) (n := 2) (Nat.le_of_ble_eq_true rfl)
  rw [lg_entry_eq]
  generalize (lg_sl ([.int k, .int lo]) ++ List.replicate (2 - (lg_sl ([.int k, .int lo])).length) Slot.unset).toArray = ls at hl ⊢
  have hl : lv_has ls 2 [(0, .int k), (1, .int lo)] := hl
  have hP : va_P (dC, dI) vq_cl [] s.heap := hP
  refine lv_iload_n hx hb d_BR_lostKilos_0 rfl (lv_at hl 0 rfl) ?_
  refine lv_iload_n hx hb d_BR_lostKilos_1 rfl (lv_at hl 1 rfl) ?_
  refine lv_imul hx hb d_BR_lostKilos_2 ?_
  refine lv_sipush (v := 1000) hx hb d_BR_lostKilos_3 (by decide) ?_
  refine lv_iadd hx hb d_BR_lostKilos_6 ?_
  refine lv_iconst (v := 1) hx hb d_BR_lostKilos_7 (by decide) ?_
  refine lv_isub hx hb d_BR_lostKilos_8 ?_
  refine lv_sipush (v := 1000) hx hb d_BR_lostKilos_9 (by decide) ?_
  refine lv_idiv hx hb d_BR_lostKilos_12 (by decide) ?_
  refine W.widen (k := 0) (n := 0) (Nat.le_of_ble_eq_true rfl) (Nat.le_of_ble_eq_true rfl) ?_
  exact W.iret (v := ((((k * lo) + 1000) - 1) / 1000)) hx hb hr (fun t ht hW => ⟨⟨((((k * lo) + 1000) - 1) / 1000), (), rfl, by rfl, trivial⟩, hS.F ht⟩) hS.2.2 d_BR_lostKilos_13
end
section
set_option maxHeartbeats 4000000 in
set_option maxRecDepth 100000 in
/-- Line() -/
theorem c_Line_init (l : Launch) (dC : Nat → ClassId) (dI : Nat → Nat → Nat) (cs : Nat → ClassId) (sz : Nat) (aLn : Nat) (zN : Int32) (zX : Int64) (zY : Int64) (zXX : Int64) (zXY : Int64) : Met l y_LI_init w_LI_init ({ frames := 1, cells := 0, slots := 0, locals := 12 }) (vq_Pre (dC, dI) cs [(aLn, .inr (2, [.int zN, .long zX, .long zY, .long zXX, .long zXY]))] sz [.ref aLn]) (va_Qv (fun (_ : Unit) => True) (vq_B (dC, dI) cs (va_A [(aLn, .inr (2, [.int zN, .long zX, .long zY, .long zXX, .long zXY]))] sz) (fun _ => [(aLn, .inr (2, [.int zN, .long zX, .long zY, .long zXX, .long zXY]))])) (va_A [(aLn, .inr (2, [.int zN, .long zX, .long zY, .long zXX, .long zXY]))] sz)) 0 0 (va_A [(aLn, .inr (2, [.int zN, .long zX, .long zY, .long zXX, .long zXY]))] sz) := by
  refine Met.ofW (cc := b_LI_init) (maxL := 1) (ret := none) (by decide) rfl ?_
  intro p e s m args below meth c s₁ B hml hv
  obtain ⟨rfl, hsz, hP, hD0, hCx⟩ := hv
  have hx := B.exec
  have hb := B.bytes
  have hr := B.returns
  have hG := vq_hG (atoms_spec (ws := w_LI_init) B.pre)
  have hown : s.vm.findClass R_LI = some m.cls := findClass_of_methodNamed B.named
  have hlocks := B.notSynchronized
  have hin : meth.name = "<init>" := (name_of_methodNamed B.named B.method).1
  subst hsz
  have hK := hCx.1
  have hD := hD0.self (sz := s.heap.size)
  generalize hAe : va_A [(aLn, .inr (2, [.int zN, .long zX, .long zY, .long zXX, .long zXY]))] s.heap.size = A at hD hCx ⊢
  have hA : ∀ q : Nat, s.heap.size ≤ q → A q := fun q h => by rw [← hAe]; exact Or.inr h
  have hA0 : ∀ q : Nat, s.heap.size ≤ q → va_A [] s.heap.size q := fun q h => Or.inr h
  have hS : va_S (va_A [] s.heap.size) s.heap s.heap [] := va_S.rf
  have hl := lv_entry ([.ref aLn]) (n := 1) (Nat.le_of_ble_eq_true rfl)
  rw [lg_entry_eq]
  generalize (lg_sl ([.ref aLn]) ++ List.replicate (1 - (lg_sl ([.ref aLn])).length) Slot.unset).toArray = ls at hl ⊢
  have hl : lv_has ls 1 [(0, .ref aLn)] := hl
  have hP : va_P (dC, dI) vq_cl [(aLn, .inr (2, [.int zN, .long zX, .long zY, .long zXX, .long zXY]))] s.heap := hP
  refine lv_aload_n hx hb d_LI_init_0 rfl (lv_at hl 0 rfl) ?_
  refine W.objInit hx hb hown (hG _ vq_t28) (hG _ wOI_inst) (hG _ wOI_code) rfl (by rw [hml]; exact hl.1) rfl d_LI_init_1 (Nat.le_of_ble_eq_true rfl) (Nat.le_of_ble_eq_true rfl) ?_
  refine W.eq (g2 := F0 m 4 ls []) rfl ?_
  have hS := vq_wk hS hA
  refine W.widen (k := 0) (n := 0) (Nat.le_of_ble_eq_true rfl) (Nat.le_of_ble_eq_true rfl) ?_
  have hP9 : va_P (dC, dI) vq_cl [(aLn, .inr (2, [.int zN, .long zX, .long zY, .long zXX, .long zXY]))] _ := hP.sub [0] rfl
  have hD9 : va_D A [(aLn, .inr (2, [.int zN, .long zX, .long zY, .long zXX, .long zXY]))] := hD.sub [0] (by decide) rfl
  exact W.vret hx hb hr (fun t ht hW => ⟨⟨(), rfl, trivial, ⟨by rw [ht]; exact hP9, hD9⟩⟩, hS.F ht⟩) hS.2.2 d_LI_init_4
set_option maxHeartbeats 4000000 in
set_option maxRecDepth 100000 in
/-- addPoint -/
theorem c_addPoint (l : Launch) (dC : Nat → ClassId) (dI : Nat → Nat → Nat) (cs : Nat → ClassId) (sz : Nat) (aLn : Nat) (zN : Int32) (zX : Int64) (zY : Int64) (zXX : Int64) (zXY : Int64) (x : Int32) (y : Int32) : Met l y_LI_addPoint w_LI_addPoint ({ frames := 0, cells := 0, slots := 0, locals := 0 }) (vq_Pre (dC, dI) cs [(aLn, .inr (2, [.int zN, .long zX, .long zY, .long zXX, .long zXY]))] sz [.ref aLn, .int x, .int y]) (va_Qv (fun (_ : Unit) => True) (vq_B (dC, dI) cs (va_A [(aLn, .inr (2, [.int zN, .long zX, .long zY, .long zXX, .long zXY]))] sz) (fun _ => [(aLn, .inr (2, [.int (zN + 1), .long (zX + x.toInt64), .long (zY + y.toInt64), .long (zXX + (x.toInt64 * x.toInt64)), .long (zXY + (x.toInt64 * y.toInt64))]))])) (va_A [(aLn, .inr (2, [.int zN, .long zX, .long zY, .long zXX, .long zXY]))] sz)) 0 0 (va_A [(aLn, .inr (2, [.int zN, .long zX, .long zY, .long zXX, .long zXY]))] sz) := by
  refine Met.ofW (cc := b_LI_addPoint) (maxL := 3) (ret := none) (by decide) rfl ?_
  intro p e s m args below meth c s₁ B hml hv
  obtain ⟨rfl, hsz, hP, hD0, hCx⟩ := hv
  have hx := B.exec
  have hb := B.bytes
  have hr := B.returns
  have hG := vq_hG (atoms_spec (ws := w_LI_addPoint) B.pre)
  have hown : s.vm.findClass R_LI = some m.cls := findClass_of_methodNamed B.named
  have hlocks := B.notSynchronized
  subst hsz
  have hK := hCx.1
  have hD := hD0.self (sz := s.heap.size)
  generalize hAe : va_A [(aLn, .inr (2, [.int zN, .long zX, .long zY, .long zXX, .long zXY]))] s.heap.size = A at hD hCx ⊢
  have hA : ∀ q : Nat, s.heap.size ≤ q → A q := fun q h => by rw [← hAe]; exact Or.inr h
  have hA0 : ∀ q : Nat, s.heap.size ≤ q → va_A [] s.heap.size q := fun q h => Or.inr h
  have hS : va_S (va_A [] s.heap.size) s.heap s.heap [] := va_S.rf
  have hl := lv_entry ([.ref aLn, .int x, .int y]) (n := 3) (Nat.le_of_ble_eq_true rfl)
  rw [lg_entry_eq]
  generalize (lg_sl ([.ref aLn, .int x, .int y]) ++ List.replicate (3 - (lg_sl ([.ref aLn, .int x, .int y])).length) Slot.unset).toArray = ls at hl ⊢
  have hl : lv_has ls 3 [(0, .ref aLn), (1, .int x), (2, .int y)] := hl
  have hP : va_P (dC, dI) vq_cl [(aLn, .inr (2, [.int zN, .long zX, .long zY, .long zXX, .long zXY]))] s.heap := hP
  refine lv_aload_n hx hb d_LI_addPoint_0 rfl (lv_at hl 0 rfl) ?_
  refine lv_dup hx hb d_LI_addPoint_1 rfl ?_
  refine va_get (D := (dC, dI)) (ci := 2) (v := .int zN) (C := R_LI) (T := F_LI) (N := 5) hx hb hG i_LI hown hK hP 0 rfl rfl 0 (by decide) (hG _ vq_t29) (fun _ h9 => h9) rfl d_LI_addPoint_2 ?_
  refine lv_iconst (v := 1) hx hb d_LI_addPoint_5 (by decide) ?_
  refine lv_iadd hx hb d_LI_addPoint_6 ?_
  have hS := vq_wk hS hA
  refine va_put (D := (dC, dI)) (ci := 2) (v := .int (zN + 1)) (ty := .int) (C := R_LI) (T := F_LI) (N := 5) hx hb hG i_LI t_LI t_LI_ok n_LI hown hK hP hD hS 0 rfl rfl 0 (by decide) (hG _ vq_t29) (fun _ h9 => h9) rfl (by decide +kernel) rfl rfl (Nat.le_of_ble_eq_true rfl) d_LI_addPoint_7 (fun H locs hP hD hS => ?_)
  have hP : va_P (dC, dI) vq_cl [(aLn, .inr (2, [.int (zN + 1), .long zX, .long zY, .long zXX, .long zXY]))] H := hP
  have hD : va_D A [(aLn, .inr (2, [.int (zN + 1), .long zX, .long zY, .long zXX, .long zXY]))] := hD
  refine lv_aload_n hx hb d_LI_addPoint_10 rfl (lv_at hl 0 rfl) ?_
  refine lv_dup hx hb d_LI_addPoint_11 rfl ?_
  refine va_get (D := (dC, dI)) (ci := 2) (v := .long zX) (C := R_LI) (T := F_LI) (N := 5) hx hb hG i_LI hown hK hP 0 rfl rfl 1 (by decide) (hG _ vq_t31) (fun _ h9 => h9) rfl d_LI_addPoint_12 ?_
  refine lv_iload_n hx hb d_LI_addPoint_15 rfl (lv_at hl 1 rfl) ?_
  refine lv_i2l hx hb d_LI_addPoint_16 rfl ?_
  refine lv_ladd hx hb d_LI_addPoint_17 ?_
  refine va_put (D := (dC, dI)) (ci := 2) (v := .long (zX + x.toInt64)) (ty := .long) (C := R_LI) (T := F_LI) (N := 5) hx hb hG i_LI t_LI t_LI_ok n_LI hown hK hP hD hS 0 rfl rfl 1 (by decide) (hG _ vq_t31) (fun _ h9 => h9) rfl (by decide +kernel) rfl rfl (Nat.le_of_ble_eq_true rfl) d_LI_addPoint_18 (fun H locs hP hD hS => ?_)
  have hP : va_P (dC, dI) vq_cl [(aLn, .inr (2, [.int (zN + 1), .long (zX + x.toInt64), .long zY, .long zXX, .long zXY]))] H := hP
  have hD : va_D A [(aLn, .inr (2, [.int (zN + 1), .long (zX + x.toInt64), .long zY, .long zXX, .long zXY]))] := hD
  refine lv_aload_n hx hb d_LI_addPoint_21 rfl (lv_at hl 0 rfl) ?_
  refine lv_dup hx hb d_LI_addPoint_22 rfl ?_
  refine va_get (D := (dC, dI)) (ci := 2) (v := .long zY) (C := R_LI) (T := F_LI) (N := 5) hx hb hG i_LI hown hK hP 0 rfl rfl 2 (by decide) (hG _ vq_t32) (fun _ h9 => h9) rfl d_LI_addPoint_23 ?_
  refine lv_iload_n hx hb d_LI_addPoint_26 rfl (lv_at hl 2 rfl) ?_
  refine lv_i2l hx hb d_LI_addPoint_27 rfl ?_
  refine lv_ladd hx hb d_LI_addPoint_28 ?_
  refine va_put (D := (dC, dI)) (ci := 2) (v := .long (zY + y.toInt64)) (ty := .long) (C := R_LI) (T := F_LI) (N := 5) hx hb hG i_LI t_LI t_LI_ok n_LI hown hK hP hD hS 0 rfl rfl 2 (by decide) (hG _ vq_t32) (fun _ h9 => h9) rfl (by decide +kernel) rfl rfl (Nat.le_of_ble_eq_true rfl) d_LI_addPoint_29 (fun H locs hP hD hS => ?_)
  have hP : va_P (dC, dI) vq_cl [(aLn, .inr (2, [.int (zN + 1), .long (zX + x.toInt64), .long (zY + y.toInt64), .long zXX, .long zXY]))] H := hP
  have hD : va_D A [(aLn, .inr (2, [.int (zN + 1), .long (zX + x.toInt64), .long (zY + y.toInt64), .long zXX, .long zXY]))] := hD
  refine lv_aload_n hx hb d_LI_addPoint_32 rfl (lv_at hl 0 rfl) ?_
  refine lv_dup hx hb d_LI_addPoint_33 rfl ?_
  refine va_get (D := (dC, dI)) (ci := 2) (v := .long zXX) (C := R_LI) (T := F_LI) (N := 5) hx hb hG i_LI hown hK hP 0 rfl rfl 3 (by decide) (hG _ vq_t33) (fun _ h9 => h9) rfl d_LI_addPoint_34 ?_
  refine lv_iload_n hx hb d_LI_addPoint_37 rfl (lv_at hl 1 rfl) ?_
  refine lv_i2l hx hb d_LI_addPoint_38 rfl ?_
  refine lv_iload_n hx hb d_LI_addPoint_39 rfl (lv_at hl 1 rfl) ?_
  refine lv_i2l hx hb d_LI_addPoint_40 rfl ?_
  refine lv_lmul hx hb d_LI_addPoint_41 ?_
  refine lv_ladd hx hb d_LI_addPoint_42 ?_
  refine va_put (D := (dC, dI)) (ci := 2) (v := .long (zXX + (x.toInt64 * x.toInt64))) (ty := .long) (C := R_LI) (T := F_LI) (N := 5) hx hb hG i_LI t_LI t_LI_ok n_LI hown hK hP hD hS 0 rfl rfl 3 (by decide) (hG _ vq_t33) (fun _ h9 => h9) rfl (by decide +kernel) rfl rfl (Nat.le_of_ble_eq_true rfl) d_LI_addPoint_43 (fun H locs hP hD hS => ?_)
  have hP : va_P (dC, dI) vq_cl [(aLn, .inr (2, [.int (zN + 1), .long (zX + x.toInt64), .long (zY + y.toInt64), .long (zXX + (x.toInt64 * x.toInt64)), .long zXY]))] H := hP
  have hD : va_D A [(aLn, .inr (2, [.int (zN + 1), .long (zX + x.toInt64), .long (zY + y.toInt64), .long (zXX + (x.toInt64 * x.toInt64)), .long zXY]))] := hD
  refine lv_aload_n hx hb d_LI_addPoint_46 rfl (lv_at hl 0 rfl) ?_
  refine lv_dup hx hb d_LI_addPoint_47 rfl ?_
  refine va_get (D := (dC, dI)) (ci := 2) (v := .long zXY) (C := R_LI) (T := F_LI) (N := 5) hx hb hG i_LI hown hK hP 0 rfl rfl 4 (by decide) (hG _ vq_t34) (fun _ h9 => h9) rfl d_LI_addPoint_48 ?_
  refine lv_iload_n hx hb d_LI_addPoint_51 rfl (lv_at hl 1 rfl) ?_
  refine lv_i2l hx hb d_LI_addPoint_52 rfl ?_
  refine lv_iload_n hx hb d_LI_addPoint_53 rfl (lv_at hl 2 rfl) ?_
  refine lv_i2l hx hb d_LI_addPoint_54 rfl ?_
  refine lv_lmul hx hb d_LI_addPoint_55 ?_
  refine lv_ladd hx hb d_LI_addPoint_56 ?_
  refine va_put (D := (dC, dI)) (ci := 2) (v := .long (zXY + (x.toInt64 * y.toInt64))) (ty := .long) (C := R_LI) (T := F_LI) (N := 5) hx hb hG i_LI t_LI t_LI_ok n_LI hown hK hP hD hS 0 rfl rfl 4 (by decide) (hG _ vq_t34) (fun _ h9 => h9) rfl (by decide +kernel) rfl rfl (Nat.le_of_ble_eq_true rfl) d_LI_addPoint_57 (fun H locs hP hD hS => ?_)
  have hP : va_P (dC, dI) vq_cl [(aLn, .inr (2, [.int (zN + 1), .long (zX + x.toInt64), .long (zY + y.toInt64), .long (zXX + (x.toInt64 * x.toInt64)), .long (zXY + (x.toInt64 * y.toInt64))]))] H := hP
  have hD : va_D A [(aLn, .inr (2, [.int (zN + 1), .long (zX + x.toInt64), .long (zY + y.toInt64), .long (zXX + (x.toInt64 * x.toInt64)), .long (zXY + (x.toInt64 * y.toInt64))]))] := hD
  refine W.widen (k := 0) (n := 0) (Nat.le_of_ble_eq_true rfl) (Nat.le_of_ble_eq_true rfl) ?_
  have hP9 : va_P (dC, dI) vq_cl [(aLn, .inr (2, [.int (zN + 1), .long (zX + x.toInt64), .long (zY + y.toInt64), .long (zXX + (x.toInt64 * x.toInt64)), .long (zXY + (x.toInt64 * y.toInt64))]))] _ := hP.sub [0] rfl
  have hD9 : va_D A [(aLn, .inr (2, [.int (zN + 1), .long (zX + x.toInt64), .long (zY + y.toInt64), .long (zXX + (x.toInt64 * x.toInt64)), .long (zXY + (x.toInt64 * y.toInt64))]))] := hD.sub [0] (by decide) rfl
  exact W.vret hx hb hr (fun t ht hW => ⟨⟨(), rfl, trivial, ⟨by rw [ht]; exact hP9, hD9⟩⟩, hS.F ht⟩) hS.2.2 d_LI_addPoint_60
set_option maxHeartbeats 4000000 in
set_option maxRecDepth 100000 in
/-- slopeUpper -/
theorem c_slopeUpper (l : Launch) (dC : Nat → ClassId) (dI : Nat → Nat → Nat) (cs : Nat → ClassId) (sz : Nat) (aLn : Nat) (zN : Int32) (zX : Int64) (zY : Int64) (zXX : Int64) (zXY : Int64) : Met l y_LI_slopeUpper w_LI_slopeUpper ({ frames := 0, cells := 0, slots := 0, locals := 0 }) (vq_PreR (dC, dI) cs [(aLn, .inr (2, [.int zN, .long zX, .long zY, .long zXX, .long zXY]))] sz [.ref aLn]) (va_Ql (fun (r : Int64) (_ : Unit) => r = ((zN.toInt64 * zXY) - (zX * zY))) (fun _ _ => True) (va_A [] sz)) 0 0 (va_A [] sz) := by
  refine Met.ofW (cc := b_LI_slopeUpper) (maxL := 1) (ret := (some .long)) (by decide) rfl ?_
  intro p e s m args below meth c s₁ B hml hv
  obtain ⟨rfl, hsz, hP, hCx⟩ := hv
  have hx := B.exec
  have hb := B.bytes
  have hr := B.returns
  have hG := vq_hG (atoms_spec (ws := w_LI_slopeUpper) B.pre)
  have hown : s.vm.findClass R_LI = some m.cls := findClass_of_methodNamed B.named
  have hlocks := B.notSynchronized
  subst hsz
  have hK := hCx.1
  have hA : ∀ q : Nat, s.heap.size ≤ q → va_A [] s.heap.size q := fun q h => Or.inr h
  have hA0 : ∀ q : Nat, s.heap.size ≤ q → va_A [] s.heap.size q := fun q h => Or.inr h
  have hS : va_S (va_A [] s.heap.size) s.heap s.heap [] := va_S.rf
  have hl := lv_entry ([.ref aLn]) (n := 1) (Nat.le_of_ble_eq_true rfl)
  rw [lg_entry_eq]
  generalize (lg_sl ([.ref aLn]) ++ List.replicate (1 - (lg_sl ([.ref aLn])).length) Slot.unset).toArray = ls at hl ⊢
  have hl : lv_has ls 1 [(0, .ref aLn)] := hl
  have hP : va_P (dC, dI) vq_cl [(aLn, .inr (2, [.int zN, .long zX, .long zY, .long zXX, .long zXY]))] s.heap := hP
  refine lv_aload_n hx hb d_LI_slopeUpper_0 rfl (lv_at hl 0 rfl) ?_
  refine va_get (D := (dC, dI)) (ci := 2) (v := .int zN) (C := R_LI) (T := F_LI) (N := 5) hx hb hG i_LI hown hK hP 0 rfl rfl 0 (by decide) (hG _ vq_t29) (fun _ h9 => h9) rfl d_LI_slopeUpper_1 ?_
  refine lv_i2l hx hb d_LI_slopeUpper_4 rfl ?_
  refine lv_aload_n hx hb d_LI_slopeUpper_5 rfl (lv_at hl 0 rfl) ?_
  refine va_get (D := (dC, dI)) (ci := 2) (v := .long zXY) (C := R_LI) (T := F_LI) (N := 5) hx hb hG i_LI hown hK hP 0 rfl rfl 4 (by decide) (hG _ vq_t34) (fun _ h9 => h9) rfl d_LI_slopeUpper_6 ?_
  refine lv_lmul hx hb d_LI_slopeUpper_9 ?_
  refine lv_aload_n hx hb d_LI_slopeUpper_10 rfl (lv_at hl 0 rfl) ?_
  refine va_get (D := (dC, dI)) (ci := 2) (v := .long zX) (C := R_LI) (T := F_LI) (N := 5) hx hb hG i_LI hown hK hP 0 rfl rfl 1 (by decide) (hG _ vq_t31) (fun _ h9 => h9) rfl d_LI_slopeUpper_11 ?_
  refine lv_aload_n hx hb d_LI_slopeUpper_14 rfl (lv_at hl 0 rfl) ?_
  refine va_get (D := (dC, dI)) (ci := 2) (v := .long zY) (C := R_LI) (T := F_LI) (N := 5) hx hb hG i_LI hown hK hP 0 rfl rfl 2 (by decide) (hG _ vq_t32) (fun _ h9 => h9) rfl d_LI_slopeUpper_15 ?_
  refine lv_lmul hx hb d_LI_slopeUpper_18 ?_
  refine lv_lsub hx hb d_LI_slopeUpper_19 ?_
  refine W.widen (k := 0) (n := 0) (Nat.le_of_ble_eq_true rfl) (Nat.le_of_ble_eq_true rfl) ?_
  exact W.lret (v := ((zN.toInt64 * zXY) - (zX * zY))) hx hb hr (fun t ht hW => ⟨⟨((zN.toInt64 * zXY) - (zX * zY)), (), rfl, rfl, trivial⟩, hS.F ht⟩) hS.2.2 d_LI_slopeUpper_20
set_option maxHeartbeats 4000000 in
set_option maxRecDepth 100000 in
/-- heightUpper -/
theorem c_heightUpper (l : Launch) (dC : Nat → ClassId) (dI : Nat → Nat → Nat) (cs : Nat → ClassId) (sz : Nat) (aLn : Nat) (zN : Int32) (zX : Int64) (zY : Int64) (zXX : Int64) (zXY : Int64) : Met l y_LI_heightUpper w_LI_heightUpper ({ frames := 0, cells := 0, slots := 0, locals := 0 }) (vq_PreR (dC, dI) cs [(aLn, .inr (2, [.int zN, .long zX, .long zY, .long zXX, .long zXY]))] sz [.ref aLn]) (va_Ql (fun (r : Int64) (_ : Unit) => r = ((zY * zXX) - (zX * zXY))) (fun _ _ => True) (va_A [] sz)) 0 0 (va_A [] sz) := by
  refine Met.ofW (cc := b_LI_heightUpper) (maxL := 1) (ret := (some .long)) (by decide) rfl ?_
  intro p e s m args below meth c s₁ B hml hv
  obtain ⟨rfl, hsz, hP, hCx⟩ := hv
  have hx := B.exec
  have hb := B.bytes
  have hr := B.returns
  have hG := vq_hG (atoms_spec (ws := w_LI_heightUpper) B.pre)
  have hown : s.vm.findClass R_LI = some m.cls := findClass_of_methodNamed B.named
  have hlocks := B.notSynchronized
  subst hsz
  have hK := hCx.1
  have hA : ∀ q : Nat, s.heap.size ≤ q → va_A [] s.heap.size q := fun q h => Or.inr h
  have hA0 : ∀ q : Nat, s.heap.size ≤ q → va_A [] s.heap.size q := fun q h => Or.inr h
  have hS : va_S (va_A [] s.heap.size) s.heap s.heap [] := va_S.rf
  have hl := lv_entry ([.ref aLn]) (n := 1) (Nat.le_of_ble_eq_true rfl)
  rw [lg_entry_eq]
  generalize (lg_sl ([.ref aLn]) ++ List.replicate (1 - (lg_sl ([.ref aLn])).length) Slot.unset).toArray = ls at hl ⊢
  have hl : lv_has ls 1 [(0, .ref aLn)] := hl
  have hP : va_P (dC, dI) vq_cl [(aLn, .inr (2, [.int zN, .long zX, .long zY, .long zXX, .long zXY]))] s.heap := hP
  refine lv_aload_n hx hb d_LI_heightUpper_0 rfl (lv_at hl 0 rfl) ?_
  refine va_get (D := (dC, dI)) (ci := 2) (v := .long zY) (C := R_LI) (T := F_LI) (N := 5) hx hb hG i_LI hown hK hP 0 rfl rfl 2 (by decide) (hG _ vq_t32) (fun _ h9 => h9) rfl d_LI_heightUpper_1 ?_
  refine lv_aload_n hx hb d_LI_heightUpper_4 rfl (lv_at hl 0 rfl) ?_
  refine va_get (D := (dC, dI)) (ci := 2) (v := .long zXX) (C := R_LI) (T := F_LI) (N := 5) hx hb hG i_LI hown hK hP 0 rfl rfl 3 (by decide) (hG _ vq_t33) (fun _ h9 => h9) rfl d_LI_heightUpper_5 ?_
  refine lv_lmul hx hb d_LI_heightUpper_8 ?_
  refine lv_aload_n hx hb d_LI_heightUpper_9 rfl (lv_at hl 0 rfl) ?_
  refine va_get (D := (dC, dI)) (ci := 2) (v := .long zX) (C := R_LI) (T := F_LI) (N := 5) hx hb hG i_LI hown hK hP 0 rfl rfl 1 (by decide) (hG _ vq_t31) (fun _ h9 => h9) rfl d_LI_heightUpper_10 ?_
  refine lv_aload_n hx hb d_LI_heightUpper_13 rfl (lv_at hl 0 rfl) ?_
  refine va_get (D := (dC, dI)) (ci := 2) (v := .long zXY) (C := R_LI) (T := F_LI) (N := 5) hx hb hG i_LI hown hK hP 0 rfl rfl 4 (by decide) (hG _ vq_t34) (fun _ h9 => h9) rfl d_LI_heightUpper_14 ?_
  refine lv_lmul hx hb d_LI_heightUpper_17 ?_
  refine lv_lsub hx hb d_LI_heightUpper_18 ?_
  refine W.widen (k := 0) (n := 0) (Nat.le_of_ble_eq_true rfl) (Nat.le_of_ble_eq_true rfl) ?_
  exact W.lret (v := ((zY * zXX) - (zX * zXY))) hx hb hr (fun t ht hW => ⟨⟨((zY * zXX) - (zX * zXY)), (), rfl, rfl, trivial⟩, hS.F ht⟩) hS.2.2 d_LI_heightUpper_19
set_option maxHeartbeats 4000000 in
set_option maxRecDepth 100000 in
/-- lower -/
theorem c_lower (l : Launch) (dC : Nat → ClassId) (dI : Nat → Nat → Nat) (cs : Nat → ClassId) (sz : Nat) (aLn : Nat) (zN : Int32) (zX : Int64) (zY : Int64) (zXX : Int64) (zXY : Int64) : Met l y_LI_lower w_LI_lower ({ frames := 0, cells := 0, slots := 0, locals := 0 }) (vq_PreR (dC, dI) cs [(aLn, .inr (2, [.int zN, .long zX, .long zY, .long zXX, .long zXY]))] sz [.ref aLn]) (va_Ql (fun (r : Int64) (_ : Unit) => r = ((zN.toInt64 * zXX) - (zX * zX))) (fun _ _ => True) (va_A [] sz)) 0 0 (va_A [] sz) := by
  refine Met.ofW (cc := b_LI_lower) (maxL := 1) (ret := (some .long)) (by decide) rfl ?_
  intro p e s m args below meth c s₁ B hml hv
  obtain ⟨rfl, hsz, hP, hCx⟩ := hv
  have hx := B.exec
  have hb := B.bytes
  have hr := B.returns
  have hG := vq_hG (atoms_spec (ws := w_LI_lower) B.pre)
  have hown : s.vm.findClass R_LI = some m.cls := findClass_of_methodNamed B.named
  have hlocks := B.notSynchronized
  subst hsz
  have hK := hCx.1
  have hA : ∀ q : Nat, s.heap.size ≤ q → va_A [] s.heap.size q := fun q h => Or.inr h
  have hA0 : ∀ q : Nat, s.heap.size ≤ q → va_A [] s.heap.size q := fun q h => Or.inr h
  have hS : va_S (va_A [] s.heap.size) s.heap s.heap [] := va_S.rf
  have hl := lv_entry ([.ref aLn]) (n := 1) (Nat.le_of_ble_eq_true rfl)
  rw [lg_entry_eq]
  generalize (lg_sl ([.ref aLn]) ++ List.replicate (1 - (lg_sl ([.ref aLn])).length) Slot.unset).toArray = ls at hl ⊢
  have hl : lv_has ls 1 [(0, .ref aLn)] := hl
  have hP : va_P (dC, dI) vq_cl [(aLn, .inr (2, [.int zN, .long zX, .long zY, .long zXX, .long zXY]))] s.heap := hP
  refine lv_aload_n hx hb d_LI_lower_0 rfl (lv_at hl 0 rfl) ?_
  refine va_get (D := (dC, dI)) (ci := 2) (v := .int zN) (C := R_LI) (T := F_LI) (N := 5) hx hb hG i_LI hown hK hP 0 rfl rfl 0 (by decide) (hG _ vq_t29) (fun _ h9 => h9) rfl d_LI_lower_1 ?_
  refine lv_i2l hx hb d_LI_lower_4 rfl ?_
  refine lv_aload_n hx hb d_LI_lower_5 rfl (lv_at hl 0 rfl) ?_
  refine va_get (D := (dC, dI)) (ci := 2) (v := .long zXX) (C := R_LI) (T := F_LI) (N := 5) hx hb hG i_LI hown hK hP 0 rfl rfl 3 (by decide) (hG _ vq_t33) (fun _ h9 => h9) rfl d_LI_lower_6 ?_
  refine lv_lmul hx hb d_LI_lower_9 ?_
  refine lv_aload_n hx hb d_LI_lower_10 rfl (lv_at hl 0 rfl) ?_
  refine va_get (D := (dC, dI)) (ci := 2) (v := .long zX) (C := R_LI) (T := F_LI) (N := 5) hx hb hG i_LI hown hK hP 0 rfl rfl 1 (by decide) (hG _ vq_t31) (fun _ h9 => h9) rfl d_LI_lower_11 ?_
  refine lv_aload_n hx hb d_LI_lower_14 rfl (lv_at hl 0 rfl) ?_
  refine va_get (D := (dC, dI)) (ci := 2) (v := .long zX) (C := R_LI) (T := F_LI) (N := 5) hx hb hG i_LI hown hK hP 0 rfl rfl 1 (by decide) (hG _ vq_t31) (fun _ h9 => h9) rfl d_LI_lower_15 ?_
  refine lv_lmul hx hb d_LI_lower_18 ?_
  refine lv_lsub hx hb d_LI_lower_19 ?_
  refine W.widen (k := 0) (n := 0) (Nat.le_of_ble_eq_true rfl) (Nat.le_of_ble_eq_true rfl) ?_
  exact W.lret (v := ((zN.toInt64 * zXX) - (zX * zX))) hx hb hr (fun t ht hW => ⟨⟨((zN.toInt64 * zXX) - (zX * zX)), (), rfl, rfl, trivial⟩, hS.F ht⟩) hS.2.2 d_LI_lower_20
end
section
set_option maxHeartbeats 4000000 in
set_option maxRecDepth 100000 in
/-- the loop of commonDivisor -/
theorem lp_gcd {p : Program} {l : Launch} {e : Env} {R : Room} {s : State} {m : MethodId} {args : Array Value} {below : List Frame} {meth : Method} {c : Code} {cells slots : Nat} {Q : State → Prop} {H : Heap} {locs : List Loc} (hx : p.tables.exec = Jvm.exec) (hb : c.code = b_BR_commonDivisor) :
    ∀ (n i : Nat) (dv rs : Int64) (ls : Array Slot), i + n = 100 → lv_has ls 11 [(4, .long dv), (6, .long rs), (8, .int (nI i))] → (∀ ls : Array Slot, lv_has ls 11 [(4, .long (gcdL n dv rs))] → W p l e R s m args below meth c H locs cells slots Q (F0 m 50 ls [])) → W p l e R s m args below meth c H locs cells slots Q (F0 m 15 ls []) := by
  intro n
  induction n with
  | zero =>
    intro i dv rs ls hi hl kk
    refine lv_iload hx hb d_BR_commonDivisor_15 (lv_at hl 2 rfl) ?_
    refine lv_bipush (v := 100) hx hb d_BR_commonDivisor_17 (by decide) ?_
    refine lv_icmp_ge (tgt := 50) hx hb d_BR_commonDivisor_19 (by decide) (fun c_19 => ?_) (fun c_19 => ?_)
    · skip
      exact kk ls (lv_sub hl [0] rfl)
    · skip
      exact absurd c_19 (not_not_intro (by rw [show i = 100 by omega]; decide))
  | succ n ih =>
    intro i dv rs ls hi hl kk
    refine lv_iload hx hb d_BR_commonDivisor_15 (lv_at hl 2 rfl) ?_
    refine lv_bipush (v := 100) hx hb d_BR_commonDivisor_17 (by decide) ?_
    refine lv_icmp_ge (tgt := 50) hx hb d_BR_commonDivisor_19 (by decide) (fun c_19 => ?_) (fun c_19 => ?_)
    · skip
      exact absurd c_19 (fun z => nI_ge (a := i) (b := 100) (by omega) (by decide) z)
    · skip
      refine lv_lload hx hb d_BR_commonDivisor_22 (lv_at hl 1 rfl) ?_
      refine lv_lconst (v := 0) hx hb d_BR_commonDivisor_24 (by decide) ?_
      refine W.lcmp hx hb d_BR_commonDivisor_25 ?_
      refine lv_if_eq (tgt := 50) hx hb d_BR_commonDivisor_26 (by decide) (fun c_26 => ?_) (fun c_26 => ?_)
      · skip
        have c_26 := (lg_cmp_eq rs 0).mp c_26
        exact kk ls (by rw [gcdL, if_pos c_26]; exact lv_sub hl [0] rfl)
      · skip
        have c_26 := (not_congr (lg_cmp_eq rs 0)).mp c_26
        refine lv_lload hx hb d_BR_commonDivisor_29 (lv_at hl 0 rfl) ?_
        refine lv_lload hx hb d_BR_commonDivisor_31 (lv_at hl 1 rfl) ?_
        refine lv_lrem hx hb d_BR_commonDivisor_33 c_26 ?_
        refine lv_lstore (lv' := [(9, .long (dv - dv / rs * rs)), (4, .long dv), (6, .long rs), (8, .int (nI i))]) hx hb d_BR_commonDivisor_34 hl (by decide) rfl (fun ls hl => ?_)
        refine lv_lload hx hb d_BR_commonDivisor_36 (lv_at hl 2 rfl) ?_
        refine lv_lstore (lv' := [(4, .long rs), (9, .long (dv - dv / rs * rs)), (6, .long rs), (8, .int (nI i))]) hx hb d_BR_commonDivisor_38 hl (by decide) rfl (fun ls hl => ?_)
        refine lv_lload hx hb d_BR_commonDivisor_40 (lv_at hl 1 rfl) ?_
        refine lv_lstore (lv' := [(6, .long (dv - dv / rs * rs)), (4, .long rs), (9, .long (dv - dv / rs * rs)), (8, .int (nI i))]) hx hb d_BR_commonDivisor_42 hl (by decide) rfl (fun ls hl => ?_)
        refine lv_iinc (v := (nI (i + 1))) (lv' := [(8, .int (nI (i + 1))), (6, .long (dv - dv / rs * rs)), (4, .long rs), (9, .long (dv - dv / rs * rs))]) hx hb d_BR_commonDivisor_44 hl (k := 3) rfl (nI_1 i) (by decide) rfl (fun ls hl => ?_)
        refine lv_goto (tgt := 15) hx hb d_BR_commonDivisor_47 (by decide) ?_
        exact ih (i + 1) rs (dv - dv / rs * rs) ls (by omega) (lv_sub hl [2, 1, 0] rfl) (fun ls hl => kk ls (by rw [gcdL, if_neg c_26]; exact hl))
set_option maxHeartbeats 4000000 in
set_option maxRecDepth 100000 in
/-- commonDivisor -/
theorem c_commonDivisor (l : Launch) (dC : Nat → ClassId) (dI : Nat → Nat → Nat) (cs : Nat → ClassId) (sz : Nat) (u : Int64) (v : Int64) : Met l y_BR_commonDivisor w_BR_commonDivisor ({ frames := 1, cells := 0, slots := 0, locals := 13 }) (vq_PreR (dC, dI) cs [] sz [.long u, .long v]) (va_Ql (fun (r : Int64) (_ : Unit) => r = gcdF u v) (fun _ _ => True) (va_A [] sz)) 0 0 (va_A [] sz) := by
  refine Met.ofW (cc := b_BR_commonDivisor) (maxL := 11) (ret := (some .long)) (by decide) rfl ?_
  intro p e s m args below meth c s₁ B hml hv
  obtain ⟨rfl, hsz, hP, hCx⟩ := hv
  have hx := B.exec
  have hb := B.bytes
  have hr := B.returns
  have hG := vq_hG (atoms_spec (ws := w_BR_commonDivisor) B.pre)
  have hown : s.vm.findClass R_BR = some m.cls := findClass_of_methodNamed B.named
  have hlocks := B.notSynchronized
  subst hsz
  have hK := hCx.1
  have hA : ∀ q : Nat, s.heap.size ≤ q → va_A [] s.heap.size q := fun q h => Or.inr h
  have hA0 : ∀ q : Nat, s.heap.size ≤ q → va_A [] s.heap.size q := fun q h => Or.inr h
  have hS : va_S (va_A [] s.heap.size) s.heap s.heap [] := va_S.rf
  have hl := lv_entry ([.long u, .long v]) (n := 11) (Nat.le_of_ble_eq_true rfl)
  rw [lg_entry_eq]
  generalize (lg_sl ([.long u, .long v]) ++ List.replicate (11 - (lg_sl ([.long u, .long v])).length) Slot.unset).toArray = ls at hl ⊢
  have hl : lv_has ls 11 [(0, .long u), (2, .long v)] := hl
  have hP : va_P (dC, dI) vq_cl [] s.heap := hP
  refine lv_lload_n hx hb d_BR_commonDivisor_0 rfl (lv_at hl 0 rfl) ?_
  refine va_mabs_long hx hb (by rw [hml]; exact hl.1.symm) hown (hG _ vq_t382) (hG _ vq_t383) (hG _ vq_t12) (hG _ vq_t384) (Nat.le_of_ble_eq_true rfl) (Nat.le_of_ble_eq_true rfl) (Nat.le_of_ble_eq_true rfl) (Nat.le_of_ble_eq_true rfl) d_BR_commonDivisor_1 ?_
  refine lv_lstore (lv' := [(4, .long (if 0 < u then u else -u)), (0, .long u), (2, .long v)]) hx hb d_BR_commonDivisor_4 hl (by decide) rfl (fun ls hl => ?_)
  refine lv_lload_n hx hb d_BR_commonDivisor_6 rfl (lv_at hl 2 rfl) ?_
  refine va_mabs_long hx hb (by rw [hml]; exact hl.1.symm) hown (hG _ vq_t382) (hG _ vq_t383) (hG _ vq_t12) (hG _ vq_t384) (Nat.le_of_ble_eq_true rfl) (Nat.le_of_ble_eq_true rfl) (Nat.le_of_ble_eq_true rfl) (Nat.le_of_ble_eq_true rfl) d_BR_commonDivisor_7 ?_
  refine lv_lstore (lv' := [(6, .long (if 0 < v then v else -v)), (4, .long (if 0 < u then u else -u)), (0, .long u), (2, .long v)]) hx hb d_BR_commonDivisor_10 hl (by decide) rfl (fun ls hl => ?_)
  refine lv_iconst (v := 0) hx hb d_BR_commonDivisor_12 (by decide) ?_
  refine lv_istore (lv' := [(8, .int 0), (6, .long (if 0 < v then v else -v)), (4, .long (if 0 < u then u else -u)), (0, .long u), (2, .long v)]) hx hb d_BR_commonDivisor_13 hl (by decide) rfl (fun ls hl => ?_)
  refine lp_gcd hx hb 100 0 _ _ ls rfl (lv_sub hl [2, 1, 0] rfl) (fun ls hl => ?_)
  refine lv_lload hx hb d_BR_commonDivisor_50 (lv_at hl 0 rfl) ?_
  refine W.widen (k := 0) (n := 0) (Nat.le_of_ble_eq_true rfl) (Nat.le_of_ble_eq_true rfl) ?_
  exact W.lret (v := (gcdF u v)) hx hb hr (fun t ht hW => ⟨⟨(gcdF u v), (), rfl, by rfl, trivial⟩, hS.F ht⟩) hS.2.2 d_BR_commonDivisor_52
set_option maxHeartbeats 4000000 in
set_option maxRecDepth 100000 in
/-- lowestTerms -/
theorem c_lowestTerms (l : Launch) (dC : Nat → ClassId) (dI : Nat → Nat → Nat) (cs : Nat → ClassId) (sz : Nat) (u : Int64) (v : Int64) (q : Int32) : Met l y_BR_lowestTerms w_BR_lowestTerms ({ frames := 2, cells := 0, slots := 0, locals := 43 }) (vq_PreR (dC, dI) cs [] sz [.long u, .long v, .int q]) (va_Ql (fun (r : Int64) (_ : Unit) => r = lowF u v q) (fun _ _ => True) (va_A [] sz)) 0 0 (va_A [] sz) := by
  refine Met.ofW (cc := b_BR_lowestTerms) (maxL := 9) (ret := (some .long)) (by decide) rfl ?_
  intro p e s m args below meth c s₁ B hml hv
  obtain ⟨rfl, hsz, hP, hCx⟩ := hv
  have hx := B.exec
  have hb := B.bytes
  have hr := B.returns
  have hG := vq_hG (atoms_spec (ws := w_BR_lowestTerms) B.pre)
  have hown : s.vm.findClass R_BR = some m.cls := findClass_of_methodNamed B.named
  have hlocks := B.notSynchronized
  subst hsz
  have hK := hCx.1
  have hA : ∀ q : Nat, s.heap.size ≤ q → va_A [] s.heap.size q := fun q h => Or.inr h
  have hA0 : ∀ q : Nat, s.heap.size ≤ q → va_A [] s.heap.size q := fun q h => Or.inr h
  have hS : va_S (va_A [] s.heap.size) s.heap s.heap [] := va_S.rf
  have hl := lv_entry ([.long u, .long v, .int q]) (n := 9) (Nat.le_of_ble_eq_true rfl)
  rw [lg_entry_eq]
  generalize (lg_sl ([.long u, .long v, .int q]) ++ List.replicate (9 - (lg_sl ([.long u, .long v, .int q])).length) Slot.unset).toArray = ls at hl ⊢
  have hl : lv_has ls 9 [(0, .long u), (2, .long v), (4, .int q)] := hl
  have hP : va_P (dC, dI) vq_cl [] s.heap := hP
  refine lv_lload_n hx hb d_BR_lowestTerms_0 rfl (lv_at hl 0 rfl) ?_
  refine lv_lload_n hx hb d_BR_lowestTerms_1 rfl (lv_at hl 1 rfl) ?_
  refine mk_rl (va_runS (As := [.long u, .long v]) (rest := []) ⟨hx, hb, hml, hown, hG⟩ (c_commonDivisor l dC dI cs _ u v) (cwS 2 hG (vq_gS vq_t379 vq_t380 vq_t1 vq_t381) rfl rfl rfl (by decide +kernel) ⟨Nat.le_of_ble_eq_true rfl, Nat.le_of_ble_eq_true rfl⟩) (vq_preSr (wc := []) hCx hP (vq_wk hS hA) hA [] rfl) rfl rfl hl.1 rfl (lv_room (Nat.le_of_ble_eq_true rfl)) d_BR_lowestTerms_2 ⟨Nat.le_of_ble_eq_true rfl, Nat.le_of_ble_eq_true rfl⟩) hP hS hA0 (fun r_2 H locs w_2 hP hS => ?_)
  subst w_2
  refine lv_lstore (lv' := [(5, .long (gcdF u v)), (0, .long u), (2, .long v), (4, .int q)]) hx hb d_BR_lowestTerms_5 hl (by decide) rfl (fun ls hl => ?_)
  refine lv_lload hx hb d_BR_lowestTerms_7 (lv_at hl 0 rfl) ?_
  refine lv_lconst (v := 0) hx hb d_BR_lowestTerms_9 (by decide) ?_
  refine W.lcmp hx hb d_BR_lowestTerms_10 ?_
  refine lv_if_ne (tgt := 16) hx hb d_BR_lowestTerms_11 (by decide) (fun c_11 => ?_) (fun c_11 => ?_)
  · skip
    have c_11 := (not_congr (lg_cmp_eq (gcdF u v) 0)).mp c_11
    refine lv_iload hx hb d_BR_lowestTerms_16 (lv_at hl 3 rfl) ?_
    refine lv_if_ne (tgt := 25) hx hb d_BR_lowestTerms_18 (by decide) (fun c_18 => ?_) (fun c_18 => ?_)
    · skip
      refine lv_lload_n hx hb d_BR_lowestTerms_25 rfl (lv_at hl 2 rfl) ?_
      refine lv_lload hx hb d_BR_lowestTerms_26 (lv_at hl 0 rfl) ?_
      refine lv_ldiv hx hb d_BR_lowestTerms_28 c_11 ?_
      refine lv_lstore (lv' := [(7, .long (v / (gcdF u v))), (5, .long (gcdF u v)), (0, .long u), (2, .long v), (4, .int q)]) hx hb d_BR_lowestTerms_29 hl (by decide) rfl (fun ls hl => ?_)
      refine lv_lload_n hx hb d_BR_lowestTerms_31 rfl (lv_at hl 3 rfl) ?_
      refine lv_lconst (v := 0) hx hb d_BR_lowestTerms_32 (by decide) ?_
      refine W.lcmp hx hb d_BR_lowestTerms_33 ?_
      refine lv_if_ge (tgt := 43) hx hb d_BR_lowestTerms_34 (by decide) (fun c_34 => ?_) (fun c_34 => ?_)
      · skip
        have c_34 := (lg_cmp_ge v 0).mp c_34
        refine lv_lload hx hb d_BR_lowestTerms_43 (lv_at hl 0 rfl) ?_
        refine W.widen (k := 0) (n := 0) (Nat.le_of_ble_eq_true rfl) (Nat.le_of_ble_eq_true rfl) ?_
        exact W.lret (v := (v / (gcdF u v))) hx hb hr (fun t ht hW => ⟨⟨(v / (gcdF u v)), (), rfl, by simp only [lowF, if_neg c_11, if_neg c_18, if_pos c_34], trivial⟩, hS.F ht⟩) hS.2.2 d_BR_lowestTerms_45
      · skip
        have c_34 := (not_congr (lg_cmp_ge v 0)).mp c_34
        refine lv_lload hx hb d_BR_lowestTerms_37 (lv_at hl 0 rfl) ?_
        refine lv_lneg hx hb d_BR_lowestTerms_39 ?_
        refine lv_goto (tgt := 45) hx hb d_BR_lowestTerms_40 (by decide) ?_
        refine W.widen (k := 0) (n := 0) (Nat.le_of_ble_eq_true rfl) (Nat.le_of_ble_eq_true rfl) ?_
        exact W.lret (v := (-(v / (gcdF u v)))) hx hb hr (fun t ht hW => ⟨⟨(-(v / (gcdF u v))), (), rfl, by simp only [lowF, if_neg c_11, if_neg c_18, if_neg c_34], trivial⟩, hS.F ht⟩) hS.2.2 d_BR_lowestTerms_45
    · skip
      refine lv_lload_n hx hb d_BR_lowestTerms_21 rfl (lv_at hl 1 rfl) ?_
      refine lv_goto (tgt := 26) hx hb d_BR_lowestTerms_22 (by decide) ?_
      refine lv_lload hx hb d_BR_lowestTerms_26 (lv_at hl 0 rfl) ?_
      refine lv_ldiv hx hb d_BR_lowestTerms_28 c_11 ?_
      refine lv_lstore (lv' := [(7, .long (u / (gcdF u v))), (5, .long (gcdF u v)), (0, .long u), (2, .long v), (4, .int q)]) hx hb d_BR_lowestTerms_29 hl (by decide) rfl (fun ls hl => ?_)
      refine lv_lload_n hx hb d_BR_lowestTerms_31 rfl (lv_at hl 3 rfl) ?_
      refine lv_lconst (v := 0) hx hb d_BR_lowestTerms_32 (by decide) ?_
      refine W.lcmp hx hb d_BR_lowestTerms_33 ?_
      refine lv_if_ge (tgt := 43) hx hb d_BR_lowestTerms_34 (by decide) (fun c_34 => ?_) (fun c_34 => ?_)
      · skip
        have c_34 := (lg_cmp_ge v 0).mp c_34
        refine lv_lload hx hb d_BR_lowestTerms_43 (lv_at hl 0 rfl) ?_
        refine W.widen (k := 0) (n := 0) (Nat.le_of_ble_eq_true rfl) (Nat.le_of_ble_eq_true rfl) ?_
        exact W.lret (v := (u / (gcdF u v))) hx hb hr (fun t ht hW => ⟨⟨(u / (gcdF u v)), (), rfl, by simp only [lowF, if_neg c_11, if_pos c_18, if_pos c_34], trivial⟩, hS.F ht⟩) hS.2.2 d_BR_lowestTerms_45
      · skip
        have c_34 := (not_congr (lg_cmp_ge v 0)).mp c_34
        refine lv_lload hx hb d_BR_lowestTerms_37 (lv_at hl 0 rfl) ?_
        refine lv_lneg hx hb d_BR_lowestTerms_39 ?_
        refine lv_goto (tgt := 45) hx hb d_BR_lowestTerms_40 (by decide) ?_
        refine W.widen (k := 0) (n := 0) (Nat.le_of_ble_eq_true rfl) (Nat.le_of_ble_eq_true rfl) ?_
        exact W.lret (v := (-(u / (gcdF u v)))) hx hb hr (fun t ht hW => ⟨⟨(-(u / (gcdF u v))), (), rfl, by simp only [lowF, if_neg c_11, if_pos c_18, if_neg c_34], trivial⟩, hS.F ht⟩) hS.2.2 d_BR_lowestTerms_45
  · skip
    have c_11 := (lg_cmp_eq (gcdF u v) 0).mp c_11
    refine lv_lconst (v := 0) hx hb d_BR_lowestTerms_14 (by decide) ?_
    refine W.widen (k := 0) (n := 0) (Nat.le_of_ble_eq_true rfl) (Nat.le_of_ble_eq_true rfl) ?_
    exact W.lret (v := 0) hx hb hr (fun t ht hW => ⟨⟨0, (), rfl, by simp only [lowF, if_pos c_11], trivial⟩, hS.F ht⟩) hS.2.2 d_BR_lowestTerms_15
set_option maxHeartbeats 4000000 in
set_option maxRecDepth 100000 in
/-- the loop of stockOf -/
theorem lp_stock {p : Program} {l : Launch} {e : Env} {R : Room} {s : State} {m : MethodId} {args : Array Value} {below : List Frame} {meth : Method} {c : Code} {cells slots : Nat} {Q : State → Prop} {H : Heap} {locs : List Loc} {dC : Nat → ClassId} {dI : Nat → Nat → Nat} {cs : Nat → ClassId} {h0 : Nat} {aMo : Nat} {aSh : Nat} {aLa : Nat} {aDy : Nat} {aMa : Nat} {aKi : Nat} {aPi : Nat} {aLn : Nat} {zCn : Int32} {zPc : Int32} {zTo : Int32} {fLa : Nat → Int32} {fDy : Nat → Int32} {fMa : Nat → Int32} {fKi : Nat → Int32} {x : Int32} (hx : p.tables.exec = Jvm.exec) (hb : c.code = b_BR_stockOf) (hG : ∀ w ∈ vq_G, w.before args s = true) (hown : s.vm.findClass R_BR = some m.cls) (hK : va_K (dC, dI) vq_cl (vq_tys cs) s) (hP : va_P (dC, dI) vq_cl [(h0, .inr (0, [.ref aMo, .ref aSh, .ref aLa, .ref aDy, .ref aMa, .ref aKi, .int zCn, .ref aPi, .int zPc, .ref aLn, .int zTo])), (aLa, .inl ((cs 0), 8, .inl fLa)), (aDy, .inl ((cs 0), 40, .inl fDy)), (aMa, .inl ((cs 0), 40, .inl fMa)), (aKi, .inl ((cs 0), 40, .inl fKi))] H) :
    ∀ (n i : Nat) (acc : Int32) (ls : Array Slot), i + n = 40 → lv_has ls 4 [(0, .ref h0), (1, .int x), (2, .int acc), (3, .int (nI i))] → (∀ ls : Array Slot, lv_has ls 4 [(2, .int (stockL fDy fMa fKi zCn zTo x n i acc))] → W p l e R s m args below meth c H locs cells slots Q (F0 m 62 ls [])) → W p l e R s m args below meth c H locs cells slots Q (F0 m 10 ls []) := by
  intro n
  induction n with
  | zero =>
    intro i acc ls hi hl kk
    refine lv_iload_n hx hb d_BR_stockOf_10 rfl (lv_at hl 3 rfl) ?_
    refine lv_bipush (v := 40) hx hb d_BR_stockOf_11 (by decide) ?_
    refine lv_icmp_ge (tgt := 62) hx hb d_BR_stockOf_13 (by decide) (fun c_13 => ?_) (fun c_13 => ?_)
    · skip
      exact kk ls (lv_sub hl [2] rfl)
    · skip
      exact absurd c_13 (not_not_intro (by rw [show i = 40 by omega]; decide))
  | succ n ih =>
    intro i acc ls hi hl kk
    have hin : vp_in (nI i) 40 := vp_in_nI (by omega) (by decide)
    refine lv_iload_n hx hb d_BR_stockOf_10 rfl (lv_at hl 3 rfl) ?_
    refine lv_bipush (v := 40) hx hb d_BR_stockOf_11 (by decide) ?_
    refine lv_icmp_ge (tgt := 62) hx hb d_BR_stockOf_13 (by decide) (fun c_13 => ?_) (fun c_13 => ?_)
    · skip
      exact absurd c_13 (fun z => nI_ge (a := i) (b := 40) (by omega) (by decide) z)
    · skip
      refine lv_iload_n hx hb d_BR_stockOf_16 rfl (lv_at hl 3 rfl) ?_
      refine lv_aload_n hx hb d_BR_stockOf_17 rfl (lv_at hl 0 rfl) ?_
      refine va_get (D := (dC, dI)) (ci := 0) (v := .int zCn) (C := R_BR) (T := F_BR) (N := 11) hx hb hG i_BR hown hK hP 0 rfl rfl 6 (by decide) (hG _ vq_t53) (fun _ h9 => h9) rfl d_BR_stockOf_18 ?_
      refine lv_icmp_ge (tgt := 62) hx hb d_BR_stockOf_21 (by decide) (fun c_21 => ?_) (fun c_21 => ?_)
      · skip
        exact kk ls (by rw [stockL, if_pos c_21]; exact lv_sub hl [2] rfl)
      · skip
        refine lv_aload_n hx hb d_BR_stockOf_24 rfl (lv_at hl 0 rfl) ?_
        refine va_get (D := (dC, dI)) (ci := 0) (v := .ref aMa) (C := R_BR) (T := F_BR) (N := 11) hx hb hG i_BR hown hK hP 0 rfl rfl 4 (by decide) (hG _ vq_t51) (fun _ h9 => h9) rfl d_BR_stockOf_25 ?_
        refine lv_iload_n hx hb d_BR_stockOf_28 rfl (lv_at hl 3 rfl) ?_
        refine va_iald (D := (dC, dI)) hx hb hK hP 3 0 rfl rfl hin d_BR_stockOf_29 ?_
        refine lv_iload_n hx hb d_BR_stockOf_30 rfl (lv_at hl 1 rfl) ?_
        refine lv_icmp_ne (tgt := 56) hx hb d_BR_stockOf_31 (by decide) (fun c_31 => ?_) (fun c_31 => ?_)
        · skip
          refine lv_iinc (v := (nI (i + 1))) (lv' := [(3, .int (nI (i + 1))), (0, .ref h0), (1, .int x), (2, .int acc)]) hx hb d_BR_stockOf_56 hl (k := 3) rfl (nI_1 i) (by decide) rfl (fun ls hl => ?_)
          refine lv_goto (tgt := 10) hx hb d_BR_stockOf_59 (by decide) ?_
          exact ih (i + 1) acc ls (by omega) (lv_sub hl [1, 2, 3, 0] rfl) (fun ls hl => kk ls (by rw [stockL, if_neg c_21, if_neg c_31]; exact hl))
        · skip
          refine lv_aload_n hx hb d_BR_stockOf_34 rfl (lv_at hl 0 rfl) ?_
          refine va_get (D := (dC, dI)) (ci := 0) (v := .ref aDy) (C := R_BR) (T := F_BR) (N := 11) hx hb hG i_BR hown hK hP 0 rfl rfl 3 (by decide) (hG _ vq_t50) (fun _ h9 => h9) rfl d_BR_stockOf_35 ?_
          refine lv_iload_n hx hb d_BR_stockOf_38 rfl (lv_at hl 3 rfl) ?_
          refine va_iald (D := (dC, dI)) hx hb hK hP 2 0 rfl rfl hin d_BR_stockOf_39 ?_
          refine lv_aload_n hx hb d_BR_stockOf_40 rfl (lv_at hl 0 rfl) ?_
          refine va_get (D := (dC, dI)) (ci := 0) (v := .int zTo) (C := R_BR) (T := F_BR) (N := 11) hx hb hG i_BR hown hK hP 0 rfl rfl 10 (by decide) (hG _ vq_t57) (fun _ h9 => h9) rfl d_BR_stockOf_41 ?_
          refine lv_icmp_gt (tgt := 56) hx hb d_BR_stockOf_44 (by decide) (fun c_44 => ?_) (fun c_44 => ?_)
          · skip
            refine lv_iinc (v := (nI (i + 1))) (lv' := [(3, .int (nI (i + 1))), (0, .ref h0), (1, .int x), (2, .int acc)]) hx hb d_BR_stockOf_56 hl (k := 3) rfl (nI_1 i) (by decide) rfl (fun ls hl => ?_)
            refine lv_goto (tgt := 10) hx hb d_BR_stockOf_59 (by decide) ?_
            exact ih (i + 1) acc ls (by omega) (lv_sub hl [1, 2, 3, 0] rfl) (fun ls hl => kk ls (by rw [stockL, if_neg c_21, if_pos c_31, if_pos c_44]; exact hl))
          · skip
            refine lv_iload_n hx hb d_BR_stockOf_47 rfl (lv_at hl 2 rfl) ?_
            refine lv_aload_n hx hb d_BR_stockOf_48 rfl (lv_at hl 0 rfl) ?_
            refine va_get (D := (dC, dI)) (ci := 0) (v := .ref aKi) (C := R_BR) (T := F_BR) (N := 11) hx hb hG i_BR hown hK hP 0 rfl rfl 5 (by decide) (hG _ vq_t52) (fun _ h9 => h9) rfl d_BR_stockOf_49 ?_
            refine lv_iload_n hx hb d_BR_stockOf_52 rfl (lv_at hl 3 rfl) ?_
            refine va_iald (D := (dC, dI)) hx hb hK hP 4 0 rfl rfl hin d_BR_stockOf_53 ?_
            refine lv_iadd hx hb d_BR_stockOf_54 ?_
            refine lv_istore_n (lv' := [(2, .int (acc + (fKi (nI i).toNatClampNeg))), (0, .ref h0), (1, .int x), (3, .int (nI i))]) hx hb d_BR_stockOf_55 rfl hl (by decide) rfl (fun ls hl => ?_)
            refine lv_iinc (v := (nI (i + 1))) (lv' := [(3, .int (nI (i + 1))), (2, .int (acc + (fKi (nI i).toNatClampNeg))), (0, .ref h0), (1, .int x)]) hx hb d_BR_stockOf_56 hl (k := 3) rfl (nI_1 i) (by decide) rfl (fun ls hl => ?_)
            refine lv_goto (tgt := 10) hx hb d_BR_stockOf_59 (by decide) ?_
            exact ih (i + 1) (acc + (fKi (nI i).toNatClampNeg)) ls (by omega) (lv_sub hl [2, 3, 1, 0] rfl) (fun ls hl => kk ls (by rw [stockL, if_neg c_21, if_pos c_31, if_neg c_44]; exact hl))
set_option maxHeartbeats 4000000 in
set_option maxRecDepth 100000 in
/-- stockOf -/
theorem c_stockOf (l : Launch) (dC : Nat → ClassId) (dI : Nat → Nat → Nat) (cs : Nat → ClassId) (sz : Nat) (h0 : Nat) (aMo : Nat) (aSh : Nat) (aLa : Nat) (aDy : Nat) (aMa : Nat) (aKi : Nat) (aPi : Nat) (aLn : Nat) (zCn : Int32) (zPc : Int32) (zTo : Int32) (fLa : Nat → Int32) (fDy : Nat → Int32) (fMa : Nat → Int32) (fKi : Nat → Int32) (x : Int32) (hi : okM x) : Met l y_BR_stockOf w_BR_stockOf ({ frames := 0, cells := 0, slots := 0, locals := 0 }) (vq_PreR (dC, dI) cs [(h0, .inr (0, [.ref aMo, .ref aSh, .ref aLa, .ref aDy, .ref aMa, .ref aKi, .int zCn, .ref aPi, .int zPc, .ref aLn, .int zTo])), (aLa, .inl ((cs 0), 8, .inl fLa)), (aDy, .inl ((cs 0), 40, .inl fDy)), (aMa, .inl ((cs 0), 40, .inl fMa)), (aKi, .inl ((cs 0), 40, .inl fKi))] sz [.ref h0, .int x]) (va_Qi (fun (r : Int32) (_ : Unit) => r = stockF fLa fDy fMa fKi zCn zTo x) (fun _ _ => True) (va_A [] sz)) 0 0 (va_A [] sz) := by
  refine Met.ofW (cc := b_BR_stockOf) (maxL := 4) (ret := (some .int)) (by decide) rfl ?_
  intro p e s m args below meth c s₁ B hml hv
  obtain ⟨rfl, hsz, hP, hCx⟩ := hv
  have hx := B.exec
  have hb := B.bytes
  have hr := B.returns
  have hG := vq_hG (atoms_spec (ws := w_BR_stockOf) B.pre)
  have hown : s.vm.findClass R_BR = some m.cls := findClass_of_methodNamed B.named
  have hlocks := B.notSynchronized
  subst hsz
  have hK := hCx.1
  have hA : ∀ q : Nat, s.heap.size ≤ q → va_A [] s.heap.size q := fun q h => Or.inr h
  have hA0 : ∀ q : Nat, s.heap.size ≤ q → va_A [] s.heap.size q := fun q h => Or.inr h
  have hS : va_S (va_A [] s.heap.size) s.heap s.heap [] := va_S.rf
  have hl := lv_entry ([.ref h0, .int x]) (n := 4) (Nat.le_of_ble_eq_true rfl)
  rw [lg_entry_eq]
  generalize (lg_sl ([.ref h0, .int x]) ++ List.replicate (4 - (lg_sl ([.ref h0, .int x])).length) Slot.unset).toArray = ls at hl ⊢
  have hl : lv_has ls 4 [(0, .ref h0), (1, .int x)] := hl
  have hP : va_P (dC, dI) vq_cl [(h0, .inr (0, [.ref aMo, .ref aSh, .ref aLa, .ref aDy, .ref aMa, .ref aKi, .int zCn, .ref aPi, .int zPc, .ref aLn, .int zTo])), (aLa, .inl ((cs 0), 8, .inl fLa)), (aDy, .inl ((cs 0), 40, .inl fDy)), (aMa, .inl ((cs 0), 40, .inl fMa)), (aKi, .inl ((cs 0), 40, .inl fKi))] s.heap := hP
  refine lv_aload_n hx hb d_BR_stockOf_0 rfl (lv_at hl 0 rfl) ?_
  refine va_get (D := (dC, dI)) (ci := 0) (v := .ref aLa) (C := R_BR) (T := F_BR) (N := 11) hx hb hG i_BR hown hK hP 0 rfl rfl 2 (by decide) (hG _ vq_t49) (fun _ h9 => h9) rfl d_BR_stockOf_1 ?_
  refine lv_iload_n hx hb d_BR_stockOf_4 rfl (lv_at hl 1 rfl) ?_
  refine va_iald (D := (dC, dI)) hx hb hK hP 1 0 rfl rfl (vq_in 8 rfl hi.1 hi.2) d_BR_stockOf_5 ?_
  refine lv_ineg hx hb d_BR_stockOf_6 ?_
  refine lv_istore_n (lv' := [(2, .int (-(fLa x.toNatClampNeg))), (0, .ref h0), (1, .int x)]) hx hb d_BR_stockOf_7 rfl hl (by decide) rfl (fun ls hl => ?_)
  refine lv_iconst (v := 0) hx hb d_BR_stockOf_8 (by decide) ?_
  refine lv_istore_n (lv' := [(3, .int 0), (2, .int (-(fLa x.toNatClampNeg))), (0, .ref h0), (1, .int x)]) hx hb d_BR_stockOf_9 rfl hl (by decide) rfl (fun ls hl => ?_)
  refine lp_stock hx hb hG hown hK hP 40 0 _ ls rfl (lv_sub hl [2, 3, 1, 0] rfl) (fun ls hl => ?_)
  refine lv_iload_n hx hb d_BR_stockOf_62 rfl (lv_at hl 0 rfl) ?_
  refine W.widen (k := 0) (n := 0) (Nat.le_of_ble_eq_true rfl) (Nat.le_of_ble_eq_true rfl) ?_
  exact W.iret (v := (stockF fLa fDy fMa fKi zCn zTo x)) hx hb hr (fun t ht hW => ⟨⟨(stockF fLa fDy fMa fKi zCn zTo x), (), rfl, by rfl, trivial⟩, hS.F ht⟩) hS.2.2 d_BR_stockOf_63
end
section
set_option maxHeartbeats 4000000 in
set_option maxRecDepth 100000 in
/-- Pile(x) -/
theorem c_Pile_init (l : Launch) (dC : Nat → ClassId) (dI : Nat → Nat → Nat) (cs : Nat → ClassId) (sz : Nat) (pa : Nat) (x : Int32) : Met l y_PI_init w_PI_init ({ frames := 1, cells := 7, slots := 120, locals := 12 }) (vq_Pre (dC, dI) cs [(pa, .inr (1, [.int 0, .null, .null, .int 0, .int 0, .int 0, .int 0, .int 0, .null, .null, .null, .null, .null]))] sz [.ref pa, .int x]) (va_Qv (fun (_ : Nat × Nat × Nat × Nat × Nat × Nat × Nat) => True) (vq_B (dC, dI) cs (va_A [(pa, .inr (1, [.int 0, .null, .null, .int 0, .int 0, .int 0, .int 0, .int 0, .null, .null, .null, .null, .null]))] sz) (fun u => [(pa, .inr (1, [.int x, .ref u.1, .ref u.2.1, .int 0, .int 0, .int 0, .int 0, .int 0, .ref u.2.2.1, .ref u.2.2.2.1, .ref u.2.2.2.2.1, .ref u.2.2.2.2.2.1, .ref u.2.2.2.2.2.2])), (u.1, .inl ((cs 0), 20, .inl (fun _ => 0))), (u.2.1, .inl ((cs 0), 80, .inl (fun _ => 0))), (u.2.2.1, .inl ((cs 1), 4, .inr (.inl (fun _ => 0)))), (u.2.2.2.1, .inl ((cs 1), 4, .inr (.inl (fun _ => 0)))), (u.2.2.2.2.1, .inl ((cs 0), 4, .inl (fun _ => 0))), (u.2.2.2.2.2.1, .inl ((cs 1), 4, .inr (.inl (fun _ => 0)))), (u.2.2.2.2.2.2, .inl ((cs 0), 4, .inl (fun _ => 0)))])) (va_A [(pa, .inr (1, [.int 0, .null, .null, .int 0, .int 0, .int 0, .int 0, .int 0, .null, .null, .null, .null, .null]))] sz)) 7 120 (va_A [(pa, .inr (1, [.int 0, .null, .null, .int 0, .int 0, .int 0, .int 0, .int 0, .null, .null, .null, .null, .null]))] sz) := by
  refine Met.ofW (cc := b_PI_init) (maxL := 2) (ret := none) (by decide) rfl ?_
  intro p e s m args below meth c s₁ B hml hv
  obtain ⟨rfl, hsz, hP, hD0, hCx⟩ := hv
  have hx := B.exec
  have hb := B.bytes
  have hr := B.returns
  have hG := vq_hG (atoms_spec (ws := w_PI_init) B.pre)
  have hown : s.vm.findClass R_PI = some m.cls := findClass_of_methodNamed B.named
  have hlocks := B.notSynchronized
  have hin : meth.name = "<init>" := (name_of_methodNamed B.named B.method).1
  subst hsz
  have hK := hCx.1
  have hD := hD0.self (sz := s.heap.size)
  generalize hAe : va_A [(pa, .inr (1, [.int 0, .null, .null, .int 0, .int 0, .int 0, .int 0, .int 0, .null, .null, .null, .null, .null]))] s.heap.size = A at hD hCx ⊢
  have hA : ∀ q : Nat, s.heap.size ≤ q → A q := fun q h => by rw [← hAe]; exact Or.inr h
  have hA0 : ∀ q : Nat, s.heap.size ≤ q → va_A [] s.heap.size q := fun q h => Or.inr h
  have hS : va_S (va_A [] s.heap.size) s.heap s.heap [] := va_S.rf
  have hl := lv_entry ([.ref pa, .int x]) (n := 2) (Nat.le_of_ble_eq_true rfl)
  rw [lg_entry_eq]
  generalize (lg_sl ([.ref pa, .int x]) ++ List.replicate (2 - (lg_sl ([.ref pa, .int x])).length) Slot.unset).toArray = ls at hl ⊢
  have hl : lv_has ls 2 [(0, .ref pa), (1, .int x)] := hl
  have hP : va_P (dC, dI) vq_cl [(pa, .inr (1, [.int 0, .null, .null, .int 0, .int 0, .int 0, .int 0, .int 0, .null, .null, .null, .null, .null]))] s.heap := hP
  refine lv_aload_n hx hb d_PI_init_0 rfl (lv_at hl 0 rfl) ?_
  refine W.objInit hx hb hown (hG _ vq_t243) (hG _ wOI_inst) (hG _ wOI_code) rfl (by rw [hml]; exact hl.1) rfl d_PI_init_1 (Nat.le_of_ble_eq_true rfl) (Nat.le_of_ble_eq_true rfl) ?_
  refine W.eq (g2 := F0 m 4 ls []) rfl ?_
  refine lv_aload_n hx hb d_PI_init_4 rfl (lv_at hl 0 rfl) ?_
  refine lv_bipush (v := 20) hx hb d_PI_init_5 (by decide) ?_
  have hS := vq_wk hS hA
  refine vq_newI (N := 20) hx hb hG hCx hP hD hS hA (by decide) rfl (by decide) (Nat.le_of_ble_eq_true rfl) (Nat.le_of_ble_eq_true rfl) d_PI_init_7 (fun q7 H hP hD hS => ?_)
  have hP : va_P (dC, dI) vq_cl [(pa, .inr (1, [.int 0, .null, .null, .int 0, .int 0, .int 0, .int 0, .int 0, .null, .null, .null, .null, .null])), (q7, .inl ((cs 0), 20, .inl (fun _ => 0)))] H := hP
  have hD : va_D A [(pa, .inr (1, [.int 0, .null, .null, .int 0, .int 0, .int 0, .int 0, .int 0, .null, .null, .null, .null, .null])), (q7, .inl ((cs 0), 20, .inl (fun _ => 0)))] := hD
  refine W.widen (k := 1) (n := 20) (Nat.le_of_ble_eq_true rfl) (Nat.le_of_ble_eq_true rfl) ?_
  refine va_putF (D := (dC, dI)) (ci := 1) (v := .ref q7) (ty := (.array .int)) (C := R_PI) (T := F_PI) (N := 13) hx hb hG i_PI t_PI t_PI_ok n_PI hown hK hP hD hS 0 rfl rfl 1 (by decide) (hG _ vq_t246) (fun _ h9 => h9) rfl hin rfl (by decide +kernel) rfl rfl (Nat.le_of_ble_eq_true rfl) d_PI_init_9 (fun H locs hP hD hS => ?_)
  have hP : va_P (dC, dI) vq_cl [(pa, .inr (1, [.int 0, .ref q7, .null, .int 0, .int 0, .int 0, .int 0, .int 0, .null, .null, .null, .null, .null])), (q7, .inl ((cs 0), 20, .inl (fun _ => 0)))] H := hP
  have hD : va_D A [(pa, .inr (1, [.int 0, .ref q7, .null, .int 0, .int 0, .int 0, .int 0, .int 0, .null, .null, .null, .null, .null])), (q7, .inl ((cs 0), 20, .inl (fun _ => 0)))] := hD
  refine lv_aload_n hx hb d_PI_init_12 rfl (lv_at hl 0 rfl) ?_
  refine lv_bipush (v := 80) hx hb d_PI_init_13 (by decide) ?_
  refine vq_newI (N := 80) hx hb hG hCx hP hD hS hA (by decide) rfl (by decide) (Nat.le_of_ble_eq_true rfl) (Nat.le_of_ble_eq_true rfl) d_PI_init_15 (fun q15 H hP hD hS => ?_)
  have hP : va_P (dC, dI) vq_cl [(pa, .inr (1, [.int 0, .ref q7, .null, .int 0, .int 0, .int 0, .int 0, .int 0, .null, .null, .null, .null, .null])), (q7, .inl ((cs 0), 20, .inl (fun _ => 0))), (q15, .inl ((cs 0), 80, .inl (fun _ => 0)))] H := hP
  have hD : va_D A [(pa, .inr (1, [.int 0, .ref q7, .null, .int 0, .int 0, .int 0, .int 0, .int 0, .null, .null, .null, .null, .null])), (q7, .inl ((cs 0), 20, .inl (fun _ => 0))), (q15, .inl ((cs 0), 80, .inl (fun _ => 0)))] := hD
  refine W.widen (k := 2) (n := 100) (Nat.le_of_ble_eq_true rfl) (Nat.le_of_ble_eq_true rfl) ?_
  refine va_putF (D := (dC, dI)) (ci := 1) (v := .ref q15) (ty := (.array .int)) (C := R_PI) (T := F_PI) (N := 13) hx hb hG i_PI t_PI t_PI_ok n_PI hown hK hP hD hS 0 rfl rfl 2 (by decide) (hG _ vq_t247) (fun _ h9 => h9) rfl hin rfl (by decide +kernel) rfl rfl (Nat.le_of_ble_eq_true rfl) d_PI_init_17 (fun H locs hP hD hS => ?_)
  have hP : va_P (dC, dI) vq_cl [(pa, .inr (1, [.int 0, .ref q7, .ref q15, .int 0, .int 0, .int 0, .int 0, .int 0, .null, .null, .null, .null, .null])), (q7, .inl ((cs 0), 20, .inl (fun _ => 0))), (q15, .inl ((cs 0), 80, .inl (fun _ => 0)))] H := hP
  have hD : va_D A [(pa, .inr (1, [.int 0, .ref q7, .ref q15, .int 0, .int 0, .int 0, .int 0, .int 0, .null, .null, .null, .null, .null])), (q7, .inl ((cs 0), 20, .inl (fun _ => 0))), (q15, .inl ((cs 0), 80, .inl (fun _ => 0)))] := hD
  refine lv_aload_n hx hb d_PI_init_20 rfl (lv_at hl 0 rfl) ?_
  refine lv_iconst (v := 4) hx hb d_PI_init_21 (by decide) ?_
  refine vq_newJ (N := 4) hx hb hG hCx hP hD hS hA (by decide) rfl (by decide) (Nat.le_of_ble_eq_true rfl) (Nat.le_of_ble_eq_true rfl) d_PI_init_22 (fun q22 H hP hD hS => ?_)
  have hP : va_P (dC, dI) vq_cl [(pa, .inr (1, [.int 0, .ref q7, .ref q15, .int 0, .int 0, .int 0, .int 0, .int 0, .null, .null, .null, .null, .null])), (q7, .inl ((cs 0), 20, .inl (fun _ => 0))), (q15, .inl ((cs 0), 80, .inl (fun _ => 0))), (q22, .inl ((cs 1), 4, .inr (.inl (fun _ => 0))))] H := hP
  have hD : va_D A [(pa, .inr (1, [.int 0, .ref q7, .ref q15, .int 0, .int 0, .int 0, .int 0, .int 0, .null, .null, .null, .null, .null])), (q7, .inl ((cs 0), 20, .inl (fun _ => 0))), (q15, .inl ((cs 0), 80, .inl (fun _ => 0))), (q22, .inl ((cs 1), 4, .inr (.inl (fun _ => 0))))] := hD
  refine W.widen (k := 3) (n := 104) (Nat.le_of_ble_eq_true rfl) (Nat.le_of_ble_eq_true rfl) ?_
  refine va_putF (D := (dC, dI)) (ci := 1) (v := .ref q22) (ty := (.array .long)) (C := R_PI) (T := F_PI) (N := 13) hx hb hG i_PI t_PI t_PI_ok n_PI hown hK hP hD hS 0 rfl rfl 8 (by decide) (hG _ vq_t258) (fun _ h9 => h9) rfl hin rfl (by decide +kernel) rfl rfl (Nat.le_of_ble_eq_true rfl) d_PI_init_24 (fun H locs hP hD hS => ?_)
  have hP : va_P (dC, dI) vq_cl [(pa, .inr (1, [.int 0, .ref q7, .ref q15, .int 0, .int 0, .int 0, .int 0, .int 0, .ref q22, .null, .null, .null, .null])), (q7, .inl ((cs 0), 20, .inl (fun _ => 0))), (q15, .inl ((cs 0), 80, .inl (fun _ => 0))), (q22, .inl ((cs 1), 4, .inr (.inl (fun _ => 0))))] H := hP
  have hD : va_D A [(pa, .inr (1, [.int 0, .ref q7, .ref q15, .int 0, .int 0, .int 0, .int 0, .int 0, .ref q22, .null, .null, .null, .null])), (q7, .inl ((cs 0), 20, .inl (fun _ => 0))), (q15, .inl ((cs 0), 80, .inl (fun _ => 0))), (q22, .inl ((cs 1), 4, .inr (.inl (fun _ => 0))))] := hD
  refine lv_aload_n hx hb d_PI_init_27 rfl (lv_at hl 0 rfl) ?_
  refine lv_iconst (v := 4) hx hb d_PI_init_28 (by decide) ?_
  refine vq_newJ (N := 4) hx hb hG hCx hP hD hS hA (by decide) rfl (by decide) (Nat.le_of_ble_eq_true rfl) (Nat.le_of_ble_eq_true rfl) d_PI_init_29 (fun q29 H hP hD hS => ?_)
  have hP : va_P (dC, dI) vq_cl [(pa, .inr (1, [.int 0, .ref q7, .ref q15, .int 0, .int 0, .int 0, .int 0, .int 0, .ref q22, .null, .null, .null, .null])), (q7, .inl ((cs 0), 20, .inl (fun _ => 0))), (q15, .inl ((cs 0), 80, .inl (fun _ => 0))), (q22, .inl ((cs 1), 4, .inr (.inl (fun _ => 0)))), (q29, .inl ((cs 1), 4, .inr (.inl (fun _ => 0))))] H := hP
  have hD : va_D A [(pa, .inr (1, [.int 0, .ref q7, .ref q15, .int 0, .int 0, .int 0, .int 0, .int 0, .ref q22, .null, .null, .null, .null])), (q7, .inl ((cs 0), 20, .inl (fun _ => 0))), (q15, .inl ((cs 0), 80, .inl (fun _ => 0))), (q22, .inl ((cs 1), 4, .inr (.inl (fun _ => 0)))), (q29, .inl ((cs 1), 4, .inr (.inl (fun _ => 0))))] := hD
  refine W.widen (k := 4) (n := 108) (Nat.le_of_ble_eq_true rfl) (Nat.le_of_ble_eq_true rfl) ?_
  refine va_putF (D := (dC, dI)) (ci := 1) (v := .ref q29) (ty := (.array .long)) (C := R_PI) (T := F_PI) (N := 13) hx hb hG i_PI t_PI t_PI_ok n_PI hown hK hP hD hS 0 rfl rfl 9 (by decide) (hG _ vq_t260) (fun _ h9 => h9) rfl hin rfl (by decide +kernel) rfl rfl (Nat.le_of_ble_eq_true rfl) d_PI_init_31 (fun H locs hP hD hS => ?_)
  have hP : va_P (dC, dI) vq_cl [(pa, .inr (1, [.int 0, .ref q7, .ref q15, .int 0, .int 0, .int 0, .int 0, .int 0, .ref q22, .ref q29, .null, .null, .null])), (q7, .inl ((cs 0), 20, .inl (fun _ => 0))), (q15, .inl ((cs 0), 80, .inl (fun _ => 0))), (q22, .inl ((cs 1), 4, .inr (.inl (fun _ => 0)))), (q29, .inl ((cs 1), 4, .inr (.inl (fun _ => 0))))] H := hP
  have hD : va_D A [(pa, .inr (1, [.int 0, .ref q7, .ref q15, .int 0, .int 0, .int 0, .int 0, .int 0, .ref q22, .ref q29, .null, .null, .null])), (q7, .inl ((cs 0), 20, .inl (fun _ => 0))), (q15, .inl ((cs 0), 80, .inl (fun _ => 0))), (q22, .inl ((cs 1), 4, .inr (.inl (fun _ => 0)))), (q29, .inl ((cs 1), 4, .inr (.inl (fun _ => 0))))] := hD
  refine lv_aload_n hx hb d_PI_init_34 rfl (lv_at hl 0 rfl) ?_
  refine lv_iconst (v := 4) hx hb d_PI_init_35 (by decide) ?_
  refine vq_newI (N := 4) hx hb hG hCx hP hD hS hA (by decide) rfl (by decide) (Nat.le_of_ble_eq_true rfl) (Nat.le_of_ble_eq_true rfl) d_PI_init_36 (fun q36 H hP hD hS => ?_)
  have hP : va_P (dC, dI) vq_cl [(pa, .inr (1, [.int 0, .ref q7, .ref q15, .int 0, .int 0, .int 0, .int 0, .int 0, .ref q22, .ref q29, .null, .null, .null])), (q7, .inl ((cs 0), 20, .inl (fun _ => 0))), (q15, .inl ((cs 0), 80, .inl (fun _ => 0))), (q22, .inl ((cs 1), 4, .inr (.inl (fun _ => 0)))), (q29, .inl ((cs 1), 4, .inr (.inl (fun _ => 0)))), (q36, .inl ((cs 0), 4, .inl (fun _ => 0)))] H := hP
  have hD : va_D A [(pa, .inr (1, [.int 0, .ref q7, .ref q15, .int 0, .int 0, .int 0, .int 0, .int 0, .ref q22, .ref q29, .null, .null, .null])), (q7, .inl ((cs 0), 20, .inl (fun _ => 0))), (q15, .inl ((cs 0), 80, .inl (fun _ => 0))), (q22, .inl ((cs 1), 4, .inr (.inl (fun _ => 0)))), (q29, .inl ((cs 1), 4, .inr (.inl (fun _ => 0)))), (q36, .inl ((cs 0), 4, .inl (fun _ => 0)))] := hD
  refine W.widen (k := 5) (n := 112) (Nat.le_of_ble_eq_true rfl) (Nat.le_of_ble_eq_true rfl) ?_
  refine va_putF (D := (dC, dI)) (ci := 1) (v := .ref q36) (ty := (.array .int)) (C := R_PI) (T := F_PI) (N := 13) hx hb hG i_PI t_PI t_PI_ok n_PI hown hK hP hD hS 0 rfl rfl 10 (by decide) (hG _ vq_t261) (fun _ h9 => h9) rfl hin rfl (by decide +kernel) rfl rfl (Nat.le_of_ble_eq_true rfl) d_PI_init_38 (fun H locs hP hD hS => ?_)
  have hP : va_P (dC, dI) vq_cl [(pa, .inr (1, [.int 0, .ref q7, .ref q15, .int 0, .int 0, .int 0, .int 0, .int 0, .ref q22, .ref q29, .ref q36, .null, .null])), (q7, .inl ((cs 0), 20, .inl (fun _ => 0))), (q15, .inl ((cs 0), 80, .inl (fun _ => 0))), (q22, .inl ((cs 1), 4, .inr (.inl (fun _ => 0)))), (q29, .inl ((cs 1), 4, .inr (.inl (fun _ => 0)))), (q36, .inl ((cs 0), 4, .inl (fun _ => 0)))] H := hP
  have hD : va_D A [(pa, .inr (1, [.int 0, .ref q7, .ref q15, .int 0, .int 0, .int 0, .int 0, .int 0, .ref q22, .ref q29, .ref q36, .null, .null])), (q7, .inl ((cs 0), 20, .inl (fun _ => 0))), (q15, .inl ((cs 0), 80, .inl (fun _ => 0))), (q22, .inl ((cs 1), 4, .inr (.inl (fun _ => 0)))), (q29, .inl ((cs 1), 4, .inr (.inl (fun _ => 0)))), (q36, .inl ((cs 0), 4, .inl (fun _ => 0)))] := hD
  refine lv_aload_n hx hb d_PI_init_41 rfl (lv_at hl 0 rfl) ?_
  refine lv_iconst (v := 4) hx hb d_PI_init_42 (by decide) ?_
  refine vq_newJ (N := 4) hx hb hG hCx hP hD hS hA (by decide) rfl (by decide) (Nat.le_of_ble_eq_true rfl) (Nat.le_of_ble_eq_true rfl) d_PI_init_43 (fun q43 H hP hD hS => ?_)
  have hP : va_P (dC, dI) vq_cl [(pa, .inr (1, [.int 0, .ref q7, .ref q15, .int 0, .int 0, .int 0, .int 0, .int 0, .ref q22, .ref q29, .ref q36, .null, .null])), (q7, .inl ((cs 0), 20, .inl (fun _ => 0))), (q15, .inl ((cs 0), 80, .inl (fun _ => 0))), (q22, .inl ((cs 1), 4, .inr (.inl (fun _ => 0)))), (q29, .inl ((cs 1), 4, .inr (.inl (fun _ => 0)))), (q36, .inl ((cs 0), 4, .inl (fun _ => 0))), (q43, .inl ((cs 1), 4, .inr (.inl (fun _ => 0))))] H := hP
  have hD : va_D A [(pa, .inr (1, [.int 0, .ref q7, .ref q15, .int 0, .int 0, .int 0, .int 0, .int 0, .ref q22, .ref q29, .ref q36, .null, .null])), (q7, .inl ((cs 0), 20, .inl (fun _ => 0))), (q15, .inl ((cs 0), 80, .inl (fun _ => 0))), (q22, .inl ((cs 1), 4, .inr (.inl (fun _ => 0)))), (q29, .inl ((cs 1), 4, .inr (.inl (fun _ => 0)))), (q36, .inl ((cs 0), 4, .inl (fun _ => 0))), (q43, .inl ((cs 1), 4, .inr (.inl (fun _ => 0))))] := hD
  refine W.widen (k := 6) (n := 116) (Nat.le_of_ble_eq_true rfl) (Nat.le_of_ble_eq_true rfl) ?_
  refine va_putF (D := (dC, dI)) (ci := 1) (v := .ref q43) (ty := (.array .long)) (C := R_PI) (T := F_PI) (N := 13) hx hb hG i_PI t_PI t_PI_ok n_PI hown hK hP hD hS 0 rfl rfl 11 (by decide) (hG _ vq_t262) (fun _ h9 => h9) rfl hin rfl (by decide +kernel) rfl rfl (Nat.le_of_ble_eq_true rfl) d_PI_init_45 (fun H locs hP hD hS => ?_)
  have hP : va_P (dC, dI) vq_cl [(pa, .inr (1, [.int 0, .ref q7, .ref q15, .int 0, .int 0, .int 0, .int 0, .int 0, .ref q22, .ref q29, .ref q36, .ref q43, .null])), (q7, .inl ((cs 0), 20, .inl (fun _ => 0))), (q15, .inl ((cs 0), 80, .inl (fun _ => 0))), (q22, .inl ((cs 1), 4, .inr (.inl (fun _ => 0)))), (q29, .inl ((cs 1), 4, .inr (.inl (fun _ => 0)))), (q36, .inl ((cs 0), 4, .inl (fun _ => 0))), (q43, .inl ((cs 1), 4, .inr (.inl (fun _ => 0))))] H := hP
  have hD : va_D A [(pa, .inr (1, [.int 0, .ref q7, .ref q15, .int 0, .int 0, .int 0, .int 0, .int 0, .ref q22, .ref q29, .ref q36, .ref q43, .null])), (q7, .inl ((cs 0), 20, .inl (fun _ => 0))), (q15, .inl ((cs 0), 80, .inl (fun _ => 0))), (q22, .inl ((cs 1), 4, .inr (.inl (fun _ => 0)))), (q29, .inl ((cs 1), 4, .inr (.inl (fun _ => 0)))), (q36, .inl ((cs 0), 4, .inl (fun _ => 0))), (q43, .inl ((cs 1), 4, .inr (.inl (fun _ => 0))))] := hD
  refine lv_aload_n hx hb d_PI_init_48 rfl (lv_at hl 0 rfl) ?_
  refine lv_iconst (v := 4) hx hb d_PI_init_49 (by decide) ?_
  refine vq_newI (N := 4) hx hb hG hCx hP hD hS hA (by decide) rfl (by decide) (Nat.le_of_ble_eq_true rfl) (Nat.le_of_ble_eq_true rfl) d_PI_init_50 (fun q50 H hP hD hS => ?_)
  have hP : va_P (dC, dI) vq_cl [(pa, .inr (1, [.int 0, .ref q7, .ref q15, .int 0, .int 0, .int 0, .int 0, .int 0, .ref q22, .ref q29, .ref q36, .ref q43, .null])), (q7, .inl ((cs 0), 20, .inl (fun _ => 0))), (q15, .inl ((cs 0), 80, .inl (fun _ => 0))), (q22, .inl ((cs 1), 4, .inr (.inl (fun _ => 0)))), (q29, .inl ((cs 1), 4, .inr (.inl (fun _ => 0)))), (q36, .inl ((cs 0), 4, .inl (fun _ => 0))), (q43, .inl ((cs 1), 4, .inr (.inl (fun _ => 0)))), (q50, .inl ((cs 0), 4, .inl (fun _ => 0)))] H := hP
  have hD : va_D A [(pa, .inr (1, [.int 0, .ref q7, .ref q15, .int 0, .int 0, .int 0, .int 0, .int 0, .ref q22, .ref q29, .ref q36, .ref q43, .null])), (q7, .inl ((cs 0), 20, .inl (fun _ => 0))), (q15, .inl ((cs 0), 80, .inl (fun _ => 0))), (q22, .inl ((cs 1), 4, .inr (.inl (fun _ => 0)))), (q29, .inl ((cs 1), 4, .inr (.inl (fun _ => 0)))), (q36, .inl ((cs 0), 4, .inl (fun _ => 0))), (q43, .inl ((cs 1), 4, .inr (.inl (fun _ => 0)))), (q50, .inl ((cs 0), 4, .inl (fun _ => 0)))] := hD
  refine W.widen (k := 7) (n := 120) (Nat.le_of_ble_eq_true rfl) (Nat.le_of_ble_eq_true rfl) ?_
  refine va_putF (D := (dC, dI)) (ci := 1) (v := .ref q50) (ty := (.array .int)) (C := R_PI) (T := F_PI) (N := 13) hx hb hG i_PI t_PI t_PI_ok n_PI hown hK hP hD hS 0 rfl rfl 12 (by decide) (hG _ vq_t263) (fun _ h9 => h9) rfl hin rfl (by decide +kernel) rfl rfl (Nat.le_of_ble_eq_true rfl) d_PI_init_52 (fun H locs hP hD hS => ?_)
  have hP : va_P (dC, dI) vq_cl [(pa, .inr (1, [.int 0, .ref q7, .ref q15, .int 0, .int 0, .int 0, .int 0, .int 0, .ref q22, .ref q29, .ref q36, .ref q43, .ref q50])), (q7, .inl ((cs 0), 20, .inl (fun _ => 0))), (q15, .inl ((cs 0), 80, .inl (fun _ => 0))), (q22, .inl ((cs 1), 4, .inr (.inl (fun _ => 0)))), (q29, .inl ((cs 1), 4, .inr (.inl (fun _ => 0)))), (q36, .inl ((cs 0), 4, .inl (fun _ => 0))), (q43, .inl ((cs 1), 4, .inr (.inl (fun _ => 0)))), (q50, .inl ((cs 0), 4, .inl (fun _ => 0)))] H := hP
  have hD : va_D A [(pa, .inr (1, [.int 0, .ref q7, .ref q15, .int 0, .int 0, .int 0, .int 0, .int 0, .ref q22, .ref q29, .ref q36, .ref q43, .ref q50])), (q7, .inl ((cs 0), 20, .inl (fun _ => 0))), (q15, .inl ((cs 0), 80, .inl (fun _ => 0))), (q22, .inl ((cs 1), 4, .inr (.inl (fun _ => 0)))), (q29, .inl ((cs 1), 4, .inr (.inl (fun _ => 0)))), (q36, .inl ((cs 0), 4, .inl (fun _ => 0))), (q43, .inl ((cs 1), 4, .inr (.inl (fun _ => 0)))), (q50, .inl ((cs 0), 4, .inl (fun _ => 0)))] := hD
  refine lv_aload_n hx hb d_PI_init_55 rfl (lv_at hl 0 rfl) ?_
  refine lv_iload_n hx hb d_PI_init_56 rfl (lv_at hl 1 rfl) ?_
  refine va_putF (D := (dC, dI)) (ci := 1) (v := .int x) (ty := .int) (C := R_PI) (T := F_PI) (N := 13) hx hb hG i_PI t_PI t_PI_ok n_PI hown hK hP hD hS 0 rfl rfl 0 (by decide) (hG _ vq_t244) (fun _ h9 => h9) rfl hin rfl (by decide +kernel) rfl rfl (Nat.le_of_ble_eq_true rfl) d_PI_init_57 (fun H locs hP hD hS => ?_)
  have hP : va_P (dC, dI) vq_cl [(pa, .inr (1, [.int x, .ref q7, .ref q15, .int 0, .int 0, .int 0, .int 0, .int 0, .ref q22, .ref q29, .ref q36, .ref q43, .ref q50])), (q7, .inl ((cs 0), 20, .inl (fun _ => 0))), (q15, .inl ((cs 0), 80, .inl (fun _ => 0))), (q22, .inl ((cs 1), 4, .inr (.inl (fun _ => 0)))), (q29, .inl ((cs 1), 4, .inr (.inl (fun _ => 0)))), (q36, .inl ((cs 0), 4, .inl (fun _ => 0))), (q43, .inl ((cs 1), 4, .inr (.inl (fun _ => 0)))), (q50, .inl ((cs 0), 4, .inl (fun _ => 0)))] H := hP
  have hD : va_D A [(pa, .inr (1, [.int x, .ref q7, .ref q15, .int 0, .int 0, .int 0, .int 0, .int 0, .ref q22, .ref q29, .ref q36, .ref q43, .ref q50])), (q7, .inl ((cs 0), 20, .inl (fun _ => 0))), (q15, .inl ((cs 0), 80, .inl (fun _ => 0))), (q22, .inl ((cs 1), 4, .inr (.inl (fun _ => 0)))), (q29, .inl ((cs 1), 4, .inr (.inl (fun _ => 0)))), (q36, .inl ((cs 0), 4, .inl (fun _ => 0))), (q43, .inl ((cs 1), 4, .inr (.inl (fun _ => 0)))), (q50, .inl ((cs 0), 4, .inl (fun _ => 0)))] := hD
  refine W.widen (k := 7) (n := 120) (Nat.le_of_ble_eq_true rfl) (Nat.le_of_ble_eq_true rfl) ?_
  have hP9 : va_P (dC, dI) vq_cl [(pa, .inr (1, [.int x, .ref q7, .ref q15, .int 0, .int 0, .int 0, .int 0, .int 0, .ref q22, .ref q29, .ref q36, .ref q43, .ref q50])), (q7, .inl ((cs 0), 20, .inl (fun _ => 0))), (q15, .inl ((cs 0), 80, .inl (fun _ => 0))), (q22, .inl ((cs 1), 4, .inr (.inl (fun _ => 0)))), (q29, .inl ((cs 1), 4, .inr (.inl (fun _ => 0)))), (q36, .inl ((cs 0), 4, .inl (fun _ => 0))), (q43, .inl ((cs 1), 4, .inr (.inl (fun _ => 0)))), (q50, .inl ((cs 0), 4, .inl (fun _ => 0)))] _ := hP.sub [0, 1, 2, 3, 4, 5, 6, 7] rfl
  have hD9 : va_D A [(pa, .inr (1, [.int x, .ref q7, .ref q15, .int 0, .int 0, .int 0, .int 0, .int 0, .ref q22, .ref q29, .ref q36, .ref q43, .ref q50])), (q7, .inl ((cs 0), 20, .inl (fun _ => 0))), (q15, .inl ((cs 0), 80, .inl (fun _ => 0))), (q22, .inl ((cs 1), 4, .inr (.inl (fun _ => 0)))), (q29, .inl ((cs 1), 4, .inr (.inl (fun _ => 0)))), (q36, .inl ((cs 0), 4, .inl (fun _ => 0))), (q43, .inl ((cs 1), 4, .inr (.inl (fun _ => 0)))), (q50, .inl ((cs 0), 4, .inl (fun _ => 0)))] := hD.sub [0, 1, 2, 3, 4, 5, 6, 7] (by decide) rfl
  exact W.vret hx hb hr (fun t ht hW => ⟨⟨(q7, q15, q22, q29, q36, q43, q50), rfl, trivial, ⟨by rw [ht]; exact hP9, hD9⟩⟩, hS.F ht⟩) hS.2.2 d_PI_init_60
set_option maxHeartbeats 4000000 in
set_option maxRecDepth 100000 in
/-- addLayer -/
theorem c_addLayer (l : Launch) (dC : Nat → ClassId) (dI : Nat → Nat → Nat) (cs : Nat → ClassId) (sz : Nat) (pa : Nat) (bLG : Nat) (bLS : Nat) (bLt : Nat) (bGS : Nat) (bGG : Nat) (bES : Nat) (bEG : Nat) (zSl : Int32) (zLy : Int32) (zGr : Int32) (zTk : Int32) (zGt : Int32) (zLt : Int32) (fLG : Nat → Int32) (fLS : Nat → Int32) (fSh : Nat → Int32) (aSh : Nat) (d : Int32) (x : Int32) (hy : ok20 zLy) (hi : okM x) : Met l y_PI_addLayer w_PI_addLayer ({ frames := 0, cells := 0, slots := 0, locals := 0 }) (vq_Pre (dC, dI) cs [(pa, .inr (1, [.int zSl, .ref bLG, .ref bLS, .int zLy, .int zGr, .int zTk, .int zGt, .int zLt, .ref bLt, .ref bGS, .ref bGG, .ref bES, .ref bEG])), (bLG, .inl ((cs 0), 20, .inl fLG)), (bLS, .inl ((cs 0), 80, .inl fLS)), (aSh, .inl ((cs 0), 32, .inl fSh))] sz [.ref pa, .int d, .ref aSh, .int x]) (va_Qv (fun (_ : Unit) => True) (vq_B (dC, dI) cs (va_A [(pa, .inr (1, [.int zSl, .ref bLG, .ref bLS, .int zLy, .int zGr, .int zTk, .int zGt, .int zLt, .ref bLt, .ref bGS, .ref bGG, .ref bES, .ref bEG])), (bLG, .inl ((cs 0), 20, .inl fLG)), (bLS, .inl ((cs 0), 80, .inl fLS)), (aSh, .inl ((cs 0), 32, .inl fSh))] sz) (fun _ => [(pa, .inr (1, [.int zSl, .ref bLG, .ref bLS, .int (zLy + 1), .int (zGr + d), .int zTk, .int zGt, .int zLt, .ref bLt, .ref bGS, .ref bGG, .ref bES, .ref bEG])), (bLG, .inl ((cs 0), 20, .inl (upd fLG zLy.toNatClampNeg d))), (bLS, .inl ((cs 0), 80, .inl (al4 fLS zLy fSh x))), (aSh, .inl ((cs 0), 32, .inl fSh))])) (va_A [(pa, .inr (1, [.int zSl, .ref bLG, .ref bLS, .int zLy, .int zGr, .int zTk, .int zGt, .int zLt, .ref bLt, .ref bGS, .ref bGG, .ref bES, .ref bEG])), (bLG, .inl ((cs 0), 20, .inl fLG)), (bLS, .inl ((cs 0), 80, .inl fLS)), (aSh, .inl ((cs 0), 32, .inl fSh))] sz)) 0 0 (va_A [(pa, .inr (1, [.int zSl, .ref bLG, .ref bLS, .int zLy, .int zGr, .int zTk, .int zGt, .int zLt, .ref bLt, .ref bGS, .ref bGG, .ref bES, .ref bEG])), (bLG, .inl ((cs 0), 20, .inl fLG)), (bLS, .inl ((cs 0), 80, .inl fLS)), (aSh, .inl ((cs 0), 32, .inl fSh))] sz) := by
  refine Met.ofW (cc := b_PI_addLayer) (maxL := 5) (ret := none) (by decide) rfl ?_
  intro p e s m args below meth c s₁ B hml hv
  obtain ⟨rfl, hsz, hP, hD0, hCx⟩ := hv
  have hx := B.exec
  have hb := B.bytes
  have hr := B.returns
  have hG := vq_hG (atoms_spec (ws := w_PI_addLayer) B.pre)
  have hown : s.vm.findClass R_PI = some m.cls := findClass_of_methodNamed B.named
  have hlocks := B.notSynchronized
  subst hsz
  have hK := hCx.1
  have hD := hD0.self (sz := s.heap.size)
  generalize hAe : va_A [(pa, .inr (1, [.int zSl, .ref bLG, .ref bLS, .int zLy, .int zGr, .int zTk, .int zGt, .int zLt, .ref bLt, .ref bGS, .ref bGG, .ref bES, .ref bEG])), (bLG, .inl ((cs 0), 20, .inl fLG)), (bLS, .inl ((cs 0), 80, .inl fLS)), (aSh, .inl ((cs 0), 32, .inl fSh))] s.heap.size = A at hD hCx ⊢
  have hA : ∀ q : Nat, s.heap.size ≤ q → A q := fun q h => by rw [← hAe]; exact Or.inr h
  have hA0 : ∀ q : Nat, s.heap.size ≤ q → va_A [] s.heap.size q := fun q h => Or.inr h
  have hS : va_S (va_A [] s.heap.size) s.heap s.heap [] := va_S.rf
  have hl := lv_entry ([.ref pa, .int d, .ref aSh, .int x]) (n := 5) (Nat.le_of_ble_eq_true rfl)
  rw [lg_entry_eq]
  generalize (lg_sl ([.ref pa, .int d, .ref aSh, .int x]) ++ List.replicate (5 - (lg_sl ([.ref pa, .int d, .ref aSh, .int x])).length) Slot.unset).toArray = ls at hl ⊢
  have hl : lv_has ls 5 [(0, .ref pa), (1, .int d), (2, .ref aSh), (3, .int x)] := hl
  have hP : va_P (dC, dI) vq_cl [(pa, .inr (1, [.int zSl, .ref bLG, .ref bLS, .int zLy, .int zGr, .int zTk, .int zGt, .int zLt, .ref bLt, .ref bGS, .ref bGG, .ref bES, .ref bEG])), (bLG, .inl ((cs 0), 20, .inl fLG)), (bLS, .inl ((cs 0), 80, .inl fLS)), (aSh, .inl ((cs 0), 32, .inl fSh))] s.heap := hP
  refine lv_aload_n hx hb d_PI_addLayer_0 rfl (lv_at hl 0 rfl) ?_
  refine va_get (D := (dC, dI)) (ci := 1) (v := .ref bLG) (C := R_PI) (T := F_PI) (N := 13) hx hb hG i_PI hown hK hP 0 rfl rfl 1 (by decide) (hG _ vq_t246) (fun _ h9 => h9) rfl d_PI_addLayer_1 ?_
  refine lv_aload_n hx hb d_PI_addLayer_4 rfl (lv_at hl 0 rfl) ?_
  refine va_get (D := (dC, dI)) (ci := 1) (v := .int zLy) (C := R_PI) (T := F_PI) (N := 13) hx hb hG i_PI hown hK hP 0 rfl rfl 3 (by decide) (hG _ vq_t248) (fun _ h9 => h9) rfl d_PI_addLayer_5 ?_
  refine lv_iload_n hx hb d_PI_addLayer_8 rfl (lv_at hl 1 rfl) ?_
  have hS := vq_wk hS hA
  refine va_iast (D := (dC, dI)) hx hb hK hP hD hS 1 0 rfl rfl (vq_in 20 rfl hy.1 hy.2) d_PI_addLayer_9 (fun H locs hP hD hS => ?_)
  have hP : va_P (dC, dI) vq_cl [(pa, .inr (1, [.int zSl, .ref bLG, .ref bLS, .int zLy, .int zGr, .int zTk, .int zGt, .int zLt, .ref bLt, .ref bGS, .ref bGG, .ref bES, .ref bEG])), (bLG, .inl ((cs 0), 20, .inl (upd fLG zLy.toNatClampNeg d))), (bLS, .inl ((cs 0), 80, .inl fLS)), (aSh, .inl ((cs 0), 32, .inl fSh))] H := hP
  have hD : va_D A [(pa, .inr (1, [.int zSl, .ref bLG, .ref bLS, .int zLy, .int zGr, .int zTk, .int zGt, .int zLt, .ref bLt, .ref bGS, .ref bGG, .ref bES, .ref bEG])), (bLG, .inl ((cs 0), 20, .inl (upd fLG zLy.toNatClampNeg d))), (bLS, .inl ((cs 0), 80, .inl fLS)), (aSh, .inl ((cs 0), 32, .inl fSh))] := hD
  refine lv_iconst (v := 0) hx hb d_PI_addLayer_10 (by decide) ?_
  refine lv_istore (lv' := [(4, .int 0), (0, .ref pa), (1, .int d), (2, .ref aSh), (3, .int x)]) hx hb d_PI_addLayer_11 hl (by decide) rfl (fun ls hl => ?_)
  refine lv_iload hx hb d_PI_addLayer_13 (lv_at hl 0 rfl) ?_
  refine lv_iconst (v := 4) hx hb d_PI_addLayer_15 (by decide) ?_
  refine lv_icmp_ge (tgt := 47) hx hb d_PI_addLayer_16 (by decide) (fun c_16 => ?_) (fun c_16 => ?_)
  · skip
    exact absurd c_16 (by decide)
  · skip
    refine lv_aload_n hx hb d_PI_addLayer_19 rfl (lv_at hl 1 rfl) ?_
    refine va_get (D := (dC, dI)) (ci := 1) (v := .ref bLS) (C := R_PI) (T := F_PI) (N := 13) hx hb hG i_PI hown hK hP 0 rfl rfl 2 (by decide) (hG _ vq_t247) (fun _ h9 => h9) rfl d_PI_addLayer_20 ?_
    refine lv_aload_n hx hb d_PI_addLayer_23 rfl (lv_at hl 1 rfl) ?_
    refine va_get (D := (dC, dI)) (ci := 1) (v := .int zLy) (C := R_PI) (T := F_PI) (N := 13) hx hb hG i_PI hown hK hP 0 rfl rfl 3 (by decide) (hG _ vq_t248) (fun _ h9 => h9) rfl d_PI_addLayer_24 ?_
    refine lv_iconst (v := 4) hx hb d_PI_addLayer_27 (by decide) ?_
    refine lv_imul hx hb d_PI_addLayer_28 ?_
    refine lv_iload hx hb d_PI_addLayer_29 (lv_at hl 0 rfl) ?_
    refine lv_iadd hx hb d_PI_addLayer_31 ?_
    refine lv_aload_n hx hb d_PI_addLayer_32 rfl (lv_at hl 3 rfl) ?_
    refine lv_iload_n hx hb d_PI_addLayer_33 rfl (lv_at hl 4 rfl) ?_
    refine lv_iconst (v := 4) hx hb d_PI_addLayer_34 (by decide) ?_
    refine lv_imul hx hb d_PI_addLayer_35 ?_
    refine lv_iload hx hb d_PI_addLayer_36 (lv_at hl 0 rfl) ?_
    refine lv_iadd hx hb d_PI_addLayer_38 ?_
    refine va_iald (D := (dC, dI)) hx hb hK hP 3 0 rfl rfl (vq_ixM hi (e := 0) (by decide)) d_PI_addLayer_39 ?_
    refine va_iast (D := (dC, dI)) hx hb hK hP hD hS 2 0 rfl rfl (vq_ixL hy (e := 0) (by decide)) d_PI_addLayer_40 (fun H locs hP hD hS => ?_)
    have hP : va_P (dC, dI) vq_cl [(pa, .inr (1, [.int zSl, .ref bLG, .ref bLS, .int zLy, .int zGr, .int zTk, .int zGt, .int zLt, .ref bLt, .ref bGS, .ref bGG, .ref bES, .ref bEG])), (bLG, .inl ((cs 0), 20, .inl (upd fLG zLy.toNatClampNeg d))), (bLS, .inl ((cs 0), 80, .inl (alS fLS zLy fSh x 0))), (aSh, .inl ((cs 0), 32, .inl fSh))] H := hP
    have hD : va_D A [(pa, .inr (1, [.int zSl, .ref bLG, .ref bLS, .int zLy, .int zGr, .int zTk, .int zGt, .int zLt, .ref bLt, .ref bGS, .ref bGG, .ref bES, .ref bEG])), (bLG, .inl ((cs 0), 20, .inl (upd fLG zLy.toNatClampNeg d))), (bLS, .inl ((cs 0), 80, .inl (alS fLS zLy fSh x 0))), (aSh, .inl ((cs 0), 32, .inl fSh))] := hD
    refine lv_iinc (v := 1) (lv' := [(4, .int 1), (0, .ref pa), (1, .int d), (2, .ref aSh), (3, .int x)]) hx hb d_PI_addLayer_41 hl (k := 0) rfl (by decide) (by decide) rfl (fun ls hl => ?_)
    refine lv_goto (tgt := 13) hx hb d_PI_addLayer_44 (by decide) ?_
    refine lv_iload hx hb d_PI_addLayer_13 (lv_at hl 0 rfl) ?_
    refine lv_iconst (v := 4) hx hb d_PI_addLayer_15 (by decide) ?_
    refine lv_icmp_ge (tgt := 47) hx hb d_PI_addLayer_16 (by decide) (fun c_16 => ?_) (fun c_16 => ?_)
    · skip
      exact absurd c_16 (by decide)
    · skip
      refine lv_aload_n hx hb d_PI_addLayer_19 rfl (lv_at hl 1 rfl) ?_
      refine va_get (D := (dC, dI)) (ci := 1) (v := .ref bLS) (C := R_PI) (T := F_PI) (N := 13) hx hb hG i_PI hown hK hP 0 rfl rfl 2 (by decide) (hG _ vq_t247) (fun _ h9 => h9) rfl d_PI_addLayer_20 ?_
      refine lv_aload_n hx hb d_PI_addLayer_23 rfl (lv_at hl 1 rfl) ?_
      refine va_get (D := (dC, dI)) (ci := 1) (v := .int zLy) (C := R_PI) (T := F_PI) (N := 13) hx hb hG i_PI hown hK hP 0 rfl rfl 3 (by decide) (hG _ vq_t248) (fun _ h9 => h9) rfl d_PI_addLayer_24 ?_
      refine lv_iconst (v := 4) hx hb d_PI_addLayer_27 (by decide) ?_
      refine lv_imul hx hb d_PI_addLayer_28 ?_
      refine lv_iload hx hb d_PI_addLayer_29 (lv_at hl 0 rfl) ?_
      refine lv_iadd hx hb d_PI_addLayer_31 ?_
      refine lv_aload_n hx hb d_PI_addLayer_32 rfl (lv_at hl 3 rfl) ?_
      refine lv_iload_n hx hb d_PI_addLayer_33 rfl (lv_at hl 4 rfl) ?_
      refine lv_iconst (v := 4) hx hb d_PI_addLayer_34 (by decide) ?_
      refine lv_imul hx hb d_PI_addLayer_35 ?_
      refine lv_iload hx hb d_PI_addLayer_36 (lv_at hl 0 rfl) ?_
      refine lv_iadd hx hb d_PI_addLayer_38 ?_
      refine va_iald (D := (dC, dI)) hx hb hK hP 3 0 rfl rfl (vq_ixM hi (e := 1) (by decide)) d_PI_addLayer_39 ?_
      refine va_iast (D := (dC, dI)) hx hb hK hP hD hS 2 0 rfl rfl (vq_ixL hy (e := 1) (by decide)) d_PI_addLayer_40 (fun H locs hP hD hS => ?_)
      have hP : va_P (dC, dI) vq_cl [(pa, .inr (1, [.int zSl, .ref bLG, .ref bLS, .int zLy, .int zGr, .int zTk, .int zGt, .int zLt, .ref bLt, .ref bGS, .ref bGG, .ref bES, .ref bEG])), (bLG, .inl ((cs 0), 20, .inl (upd fLG zLy.toNatClampNeg d))), (bLS, .inl ((cs 0), 80, .inl (alS (alS fLS zLy fSh x 0) zLy fSh x 1))), (aSh, .inl ((cs 0), 32, .inl fSh))] H := hP
      have hD : va_D A [(pa, .inr (1, [.int zSl, .ref bLG, .ref bLS, .int zLy, .int zGr, .int zTk, .int zGt, .int zLt, .ref bLt, .ref bGS, .ref bGG, .ref bES, .ref bEG])), (bLG, .inl ((cs 0), 20, .inl (upd fLG zLy.toNatClampNeg d))), (bLS, .inl ((cs 0), 80, .inl (alS (alS fLS zLy fSh x 0) zLy fSh x 1))), (aSh, .inl ((cs 0), 32, .inl fSh))] := hD
      refine lv_iinc (v := 2) (lv' := [(4, .int 2), (0, .ref pa), (1, .int d), (2, .ref aSh), (3, .int x)]) hx hb d_PI_addLayer_41 hl (k := 0) rfl (by decide) (by decide) rfl (fun ls hl => ?_)
      refine lv_goto (tgt := 13) hx hb d_PI_addLayer_44 (by decide) ?_
      refine lv_iload hx hb d_PI_addLayer_13 (lv_at hl 0 rfl) ?_
      refine lv_iconst (v := 4) hx hb d_PI_addLayer_15 (by decide) ?_
      refine lv_icmp_ge (tgt := 47) hx hb d_PI_addLayer_16 (by decide) (fun c_16 => ?_) (fun c_16 => ?_)
      · skip
        exact absurd c_16 (by decide)
      · skip
        refine lv_aload_n hx hb d_PI_addLayer_19 rfl (lv_at hl 1 rfl) ?_
        refine va_get (D := (dC, dI)) (ci := 1) (v := .ref bLS) (C := R_PI) (T := F_PI) (N := 13) hx hb hG i_PI hown hK hP 0 rfl rfl 2 (by decide) (hG _ vq_t247) (fun _ h9 => h9) rfl d_PI_addLayer_20 ?_
        refine lv_aload_n hx hb d_PI_addLayer_23 rfl (lv_at hl 1 rfl) ?_
        refine va_get (D := (dC, dI)) (ci := 1) (v := .int zLy) (C := R_PI) (T := F_PI) (N := 13) hx hb hG i_PI hown hK hP 0 rfl rfl 3 (by decide) (hG _ vq_t248) (fun _ h9 => h9) rfl d_PI_addLayer_24 ?_
        refine lv_iconst (v := 4) hx hb d_PI_addLayer_27 (by decide) ?_
        refine lv_imul hx hb d_PI_addLayer_28 ?_
        refine lv_iload hx hb d_PI_addLayer_29 (lv_at hl 0 rfl) ?_
        refine lv_iadd hx hb d_PI_addLayer_31 ?_
        refine lv_aload_n hx hb d_PI_addLayer_32 rfl (lv_at hl 3 rfl) ?_
        refine lv_iload_n hx hb d_PI_addLayer_33 rfl (lv_at hl 4 rfl) ?_
        refine lv_iconst (v := 4) hx hb d_PI_addLayer_34 (by decide) ?_
        refine lv_imul hx hb d_PI_addLayer_35 ?_
        refine lv_iload hx hb d_PI_addLayer_36 (lv_at hl 0 rfl) ?_
        refine lv_iadd hx hb d_PI_addLayer_38 ?_
        refine va_iald (D := (dC, dI)) hx hb hK hP 3 0 rfl rfl (vq_ixM hi (e := 2) (by decide)) d_PI_addLayer_39 ?_
        refine va_iast (D := (dC, dI)) hx hb hK hP hD hS 2 0 rfl rfl (vq_ixL hy (e := 2) (by decide)) d_PI_addLayer_40 (fun H locs hP hD hS => ?_)
        have hP : va_P (dC, dI) vq_cl [(pa, .inr (1, [.int zSl, .ref bLG, .ref bLS, .int zLy, .int zGr, .int zTk, .int zGt, .int zLt, .ref bLt, .ref bGS, .ref bGG, .ref bES, .ref bEG])), (bLG, .inl ((cs 0), 20, .inl (upd fLG zLy.toNatClampNeg d))), (bLS, .inl ((cs 0), 80, .inl (alS (alS (alS fLS zLy fSh x 0) zLy fSh x 1) zLy fSh x 2))), (aSh, .inl ((cs 0), 32, .inl fSh))] H := hP
        have hD : va_D A [(pa, .inr (1, [.int zSl, .ref bLG, .ref bLS, .int zLy, .int zGr, .int zTk, .int zGt, .int zLt, .ref bLt, .ref bGS, .ref bGG, .ref bES, .ref bEG])), (bLG, .inl ((cs 0), 20, .inl (upd fLG zLy.toNatClampNeg d))), (bLS, .inl ((cs 0), 80, .inl (alS (alS (alS fLS zLy fSh x 0) zLy fSh x 1) zLy fSh x 2))), (aSh, .inl ((cs 0), 32, .inl fSh))] := hD
        refine lv_iinc (v := 3) (lv' := [(4, .int 3), (0, .ref pa), (1, .int d), (2, .ref aSh), (3, .int x)]) hx hb d_PI_addLayer_41 hl (k := 0) rfl (by decide) (by decide) rfl (fun ls hl => ?_)
        refine lv_goto (tgt := 13) hx hb d_PI_addLayer_44 (by decide) ?_
        refine lv_iload hx hb d_PI_addLayer_13 (lv_at hl 0 rfl) ?_
        refine lv_iconst (v := 4) hx hb d_PI_addLayer_15 (by decide) ?_
        refine lv_icmp_ge (tgt := 47) hx hb d_PI_addLayer_16 (by decide) (fun c_16 => ?_) (fun c_16 => ?_)
        · skip
          exact absurd c_16 (by decide)
        · skip
          refine lv_aload_n hx hb d_PI_addLayer_19 rfl (lv_at hl 1 rfl) ?_
          refine va_get (D := (dC, dI)) (ci := 1) (v := .ref bLS) (C := R_PI) (T := F_PI) (N := 13) hx hb hG i_PI hown hK hP 0 rfl rfl 2 (by decide) (hG _ vq_t247) (fun _ h9 => h9) rfl d_PI_addLayer_20 ?_
          refine lv_aload_n hx hb d_PI_addLayer_23 rfl (lv_at hl 1 rfl) ?_
          refine va_get (D := (dC, dI)) (ci := 1) (v := .int zLy) (C := R_PI) (T := F_PI) (N := 13) hx hb hG i_PI hown hK hP 0 rfl rfl 3 (by decide) (hG _ vq_t248) (fun _ h9 => h9) rfl d_PI_addLayer_24 ?_
          refine lv_iconst (v := 4) hx hb d_PI_addLayer_27 (by decide) ?_
          refine lv_imul hx hb d_PI_addLayer_28 ?_
          refine lv_iload hx hb d_PI_addLayer_29 (lv_at hl 0 rfl) ?_
          refine lv_iadd hx hb d_PI_addLayer_31 ?_
          refine lv_aload_n hx hb d_PI_addLayer_32 rfl (lv_at hl 3 rfl) ?_
          refine lv_iload_n hx hb d_PI_addLayer_33 rfl (lv_at hl 4 rfl) ?_
          refine lv_iconst (v := 4) hx hb d_PI_addLayer_34 (by decide) ?_
          refine lv_imul hx hb d_PI_addLayer_35 ?_
          refine lv_iload hx hb d_PI_addLayer_36 (lv_at hl 0 rfl) ?_
          refine lv_iadd hx hb d_PI_addLayer_38 ?_
          refine va_iald (D := (dC, dI)) hx hb hK hP 3 0 rfl rfl (vq_ixM hi (e := 3) (by decide)) d_PI_addLayer_39 ?_
          refine va_iast (D := (dC, dI)) hx hb hK hP hD hS 2 0 rfl rfl (vq_ixL hy (e := 3) (by decide)) d_PI_addLayer_40 (fun H locs hP hD hS => ?_)
          have hP : va_P (dC, dI) vq_cl [(pa, .inr (1, [.int zSl, .ref bLG, .ref bLS, .int zLy, .int zGr, .int zTk, .int zGt, .int zLt, .ref bLt, .ref bGS, .ref bGG, .ref bES, .ref bEG])), (bLG, .inl ((cs 0), 20, .inl (upd fLG zLy.toNatClampNeg d))), (bLS, .inl ((cs 0), 80, .inl (alS (alS (alS (alS fLS zLy fSh x 0) zLy fSh x 1) zLy fSh x 2) zLy fSh x 3))), (aSh, .inl ((cs 0), 32, .inl fSh))] H := hP
          have hD : va_D A [(pa, .inr (1, [.int zSl, .ref bLG, .ref bLS, .int zLy, .int zGr, .int zTk, .int zGt, .int zLt, .ref bLt, .ref bGS, .ref bGG, .ref bES, .ref bEG])), (bLG, .inl ((cs 0), 20, .inl (upd fLG zLy.toNatClampNeg d))), (bLS, .inl ((cs 0), 80, .inl (alS (alS (alS (alS fLS zLy fSh x 0) zLy fSh x 1) zLy fSh x 2) zLy fSh x 3))), (aSh, .inl ((cs 0), 32, .inl fSh))] := hD
          refine lv_iinc (v := 4) (lv' := [(4, .int 4), (0, .ref pa), (1, .int d), (2, .ref aSh), (3, .int x)]) hx hb d_PI_addLayer_41 hl (k := 0) rfl (by decide) (by decide) rfl (fun ls hl => ?_)
          refine lv_goto (tgt := 13) hx hb d_PI_addLayer_44 (by decide) ?_
          refine lv_iload hx hb d_PI_addLayer_13 (lv_at hl 0 rfl) ?_
          refine lv_iconst (v := 4) hx hb d_PI_addLayer_15 (by decide) ?_
          refine lv_icmp_ge (tgt := 47) hx hb d_PI_addLayer_16 (by decide) (fun c_16 => ?_) (fun c_16 => ?_)
          · skip
            refine lv_aload_n hx hb d_PI_addLayer_47 rfl (lv_at hl 1 rfl) ?_
            refine lv_dup hx hb d_PI_addLayer_48 rfl ?_
            refine va_get (D := (dC, dI)) (ci := 1) (v := .int zGr) (C := R_PI) (T := F_PI) (N := 13) hx hb hG i_PI hown hK hP 0 rfl rfl 4 (by decide) (hG _ vq_t250) (fun _ h9 => h9) rfl d_PI_addLayer_49 ?_
            refine lv_iload_n hx hb d_PI_addLayer_52 rfl (lv_at hl 2 rfl) ?_
            refine lv_iadd hx hb d_PI_addLayer_53 ?_
            refine va_put (D := (dC, dI)) (ci := 1) (v := .int (zGr + d)) (ty := .int) (C := R_PI) (T := F_PI) (N := 13) hx hb hG i_PI t_PI t_PI_ok n_PI hown hK hP hD hS 0 rfl rfl 4 (by decide) (hG _ vq_t250) (fun _ h9 => h9) rfl (by decide +kernel) rfl rfl (Nat.le_of_ble_eq_true rfl) d_PI_addLayer_54 (fun H locs hP hD hS => ?_)
            have hP : va_P (dC, dI) vq_cl [(pa, .inr (1, [.int zSl, .ref bLG, .ref bLS, .int zLy, .int (zGr + d), .int zTk, .int zGt, .int zLt, .ref bLt, .ref bGS, .ref bGG, .ref bES, .ref bEG])), (bLG, .inl ((cs 0), 20, .inl (upd fLG zLy.toNatClampNeg d))), (bLS, .inl ((cs 0), 80, .inl (alS (alS (alS (alS fLS zLy fSh x 0) zLy fSh x 1) zLy fSh x 2) zLy fSh x 3))), (aSh, .inl ((cs 0), 32, .inl fSh))] H := hP
            have hD : va_D A [(pa, .inr (1, [.int zSl, .ref bLG, .ref bLS, .int zLy, .int (zGr + d), .int zTk, .int zGt, .int zLt, .ref bLt, .ref bGS, .ref bGG, .ref bES, .ref bEG])), (bLG, .inl ((cs 0), 20, .inl (upd fLG zLy.toNatClampNeg d))), (bLS, .inl ((cs 0), 80, .inl (alS (alS (alS (alS fLS zLy fSh x 0) zLy fSh x 1) zLy fSh x 2) zLy fSh x 3))), (aSh, .inl ((cs 0), 32, .inl fSh))] := hD
            refine lv_aload_n hx hb d_PI_addLayer_57 rfl (lv_at hl 1 rfl) ?_
            refine lv_dup hx hb d_PI_addLayer_58 rfl ?_
            refine va_get (D := (dC, dI)) (ci := 1) (v := .int zLy) (C := R_PI) (T := F_PI) (N := 13) hx hb hG i_PI hown hK hP 0 rfl rfl 3 (by decide) (hG _ vq_t248) (fun _ h9 => h9) rfl d_PI_addLayer_59 ?_
            refine lv_iconst (v := 1) hx hb d_PI_addLayer_62 (by decide) ?_
            refine lv_iadd hx hb d_PI_addLayer_63 ?_
            refine va_put (D := (dC, dI)) (ci := 1) (v := .int (zLy + 1)) (ty := .int) (C := R_PI) (T := F_PI) (N := 13) hx hb hG i_PI t_PI t_PI_ok n_PI hown hK hP hD hS 0 rfl rfl 3 (by decide) (hG _ vq_t248) (fun _ h9 => h9) rfl (by decide +kernel) rfl rfl (Nat.le_of_ble_eq_true rfl) d_PI_addLayer_64 (fun H locs hP hD hS => ?_)
            have hP : va_P (dC, dI) vq_cl [(pa, .inr (1, [.int zSl, .ref bLG, .ref bLS, .int (zLy + 1), .int (zGr + d), .int zTk, .int zGt, .int zLt, .ref bLt, .ref bGS, .ref bGG, .ref bES, .ref bEG])), (bLG, .inl ((cs 0), 20, .inl (upd fLG zLy.toNatClampNeg d))), (bLS, .inl ((cs 0), 80, .inl (alS (alS (alS (alS fLS zLy fSh x 0) zLy fSh x 1) zLy fSh x 2) zLy fSh x 3))), (aSh, .inl ((cs 0), 32, .inl fSh))] H := hP
            have hD : va_D A [(pa, .inr (1, [.int zSl, .ref bLG, .ref bLS, .int (zLy + 1), .int (zGr + d), .int zTk, .int zGt, .int zLt, .ref bLt, .ref bGS, .ref bGG, .ref bES, .ref bEG])), (bLG, .inl ((cs 0), 20, .inl (upd fLG zLy.toNatClampNeg d))), (bLS, .inl ((cs 0), 80, .inl (alS (alS (alS (alS fLS zLy fSh x 0) zLy fSh x 1) zLy fSh x 2) zLy fSh x 3))), (aSh, .inl ((cs 0), 32, .inl fSh))] := hD
            refine W.widen (k := 0) (n := 0) (Nat.le_of_ble_eq_true rfl) (Nat.le_of_ble_eq_true rfl) ?_
            have hP9 : va_P (dC, dI) vq_cl [(pa, .inr (1, [.int zSl, .ref bLG, .ref bLS, .int (zLy + 1), .int (zGr + d), .int zTk, .int zGt, .int zLt, .ref bLt, .ref bGS, .ref bGG, .ref bES, .ref bEG])), (bLG, .inl ((cs 0), 20, .inl (upd fLG zLy.toNatClampNeg d))), (bLS, .inl ((cs 0), 80, .inl (alS (alS (alS (alS fLS zLy fSh x 0) zLy fSh x 1) zLy fSh x 2) zLy fSh x 3))), (aSh, .inl ((cs 0), 32, .inl fSh))] _ := hP.sub [0, 1, 2, 3] rfl
            have hD9 : va_D A [(pa, .inr (1, [.int zSl, .ref bLG, .ref bLS, .int (zLy + 1), .int (zGr + d), .int zTk, .int zGt, .int zLt, .ref bLt, .ref bGS, .ref bGG, .ref bES, .ref bEG])), (bLG, .inl ((cs 0), 20, .inl (upd fLG zLy.toNatClampNeg d))), (bLS, .inl ((cs 0), 80, .inl (alS (alS (alS (alS fLS zLy fSh x 0) zLy fSh x 1) zLy fSh x 2) zLy fSh x 3))), (aSh, .inl ((cs 0), 32, .inl fSh))] := hD.sub [0, 1, 2, 3] (by decide) rfl
            have e9 : ([(pa, .inr (1, [.int zSl, .ref bLG, .ref bLS, .int (zLy + 1), .int (zGr + d), .int zTk, .int zGt, .int zLt, .ref bLt, .ref bGS, .ref bGG, .ref bES, .ref bEG])), (bLG, .inl ((cs 0), 20, .inl (upd fLG zLy.toNatClampNeg d))), (bLS, .inl ((cs 0), 80, .inl (al4 fLS zLy fSh x))), (aSh, .inl ((cs 0), 32, .inl fSh))] : va_W) = [(pa, .inr (1, [.int zSl, .ref bLG, .ref bLS, .int (zLy + 1), .int (zGr + d), .int zTk, .int zGt, .int zLt, .ref bLt, .ref bGS, .ref bGG, .ref bES, .ref bEG])), (bLG, .inl ((cs 0), 20, .inl (upd fLG zLy.toNatClampNeg d))), (bLS, .inl ((cs 0), 80, .inl (alS (alS (alS (alS fLS zLy fSh x 0) zLy fSh x 1) zLy fSh x 2) zLy fSh x 3))), (aSh, .inl ((cs 0), 32, .inl fSh))] := by rfl
            rw [← e9] at hP9 hD9
            exact W.vret hx hb hr (fun t ht hW => ⟨⟨(), rfl, trivial, ⟨by rw [ht]; exact hP9, hD9⟩⟩, hS.F ht⟩) hS.2.2 d_PI_addLayer_67
          · skip
            exact absurd c_16 (by decide)
set_option maxHeartbeats 4000000 in
set_option maxRecDepth 100000 in
/-- clearLatest -/
theorem c_clearLatest (l : Launch) (dC : Nat → ClassId) (dI : Nat → Nat → Nat) (cs : Nat → ClassId) (sz : Nat) (pa : Nat) (bLG : Nat) (bLS : Nat) (bLt : Nat) (bGS : Nat) (bGG : Nat) (bES : Nat) (bEG : Nat) (zSl : Int32) (zLy : Int32) (zGr : Int32) (zTk : Int32) (zGt : Int32) (zLt : Int32) (fLt : Nat → Int64) : Met l y_PI_clearLatest w_PI_clearLatest ({ frames := 0, cells := 0, slots := 0, locals := 0 }) (vq_Pre (dC, dI) cs [(pa, .inr (1, [.int zSl, .ref bLG, .ref bLS, .int zLy, .int zGr, .int zTk, .int zGt, .int zLt, .ref bLt, .ref bGS, .ref bGG, .ref bES, .ref bEG])), (bLt, .inl ((cs 1), 4, .inr (.inl fLt)))] sz [.ref pa]) (va_Qv (fun (_ : Unit) => True) (vq_B (dC, dI) cs (va_A [(pa, .inr (1, [.int zSl, .ref bLG, .ref bLS, .int zLy, .int zGr, .int zTk, .int zGt, .int zLt, .ref bLt, .ref bGS, .ref bGG, .ref bES, .ref bEG])), (bLt, .inl ((cs 1), 4, .inr (.inl fLt)))] sz) (fun _ => [(pa, .inr (1, [.int zSl, .ref bLG, .ref bLS, .int zLy, .int zGr, .int zTk, .int zGt, .int 0, .ref bLt, .ref bGS, .ref bGG, .ref bES, .ref bEG])), (bLt, .inl ((cs 1), 4, .inr (.inl (cl4 fLt))))])) (va_A [(pa, .inr (1, [.int zSl, .ref bLG, .ref bLS, .int zLy, .int zGr, .int zTk, .int zGt, .int zLt, .ref bLt, .ref bGS, .ref bGG, .ref bES, .ref bEG])), (bLt, .inl ((cs 1), 4, .inr (.inl fLt)))] sz)) 0 0 (va_A [(pa, .inr (1, [.int zSl, .ref bLG, .ref bLS, .int zLy, .int zGr, .int zTk, .int zGt, .int zLt, .ref bLt, .ref bGS, .ref bGG, .ref bES, .ref bEG])), (bLt, .inl ((cs 1), 4, .inr (.inl fLt)))] sz) := by
  refine Met.ofW (cc := b_PI_clearLatest) (maxL := 2) (ret := none) (by decide) rfl ?_
  intro p e s m args below meth c s₁ B hml hv
  obtain ⟨rfl, hsz, hP, hD0, hCx⟩ := hv
  have hx := B.exec
  have hb := B.bytes
  have hr := B.returns
  have hG := vq_hG (atoms_spec (ws := w_PI_clearLatest) B.pre)
  have hown : s.vm.findClass R_PI = some m.cls := findClass_of_methodNamed B.named
  have hlocks := B.notSynchronized
  subst hsz
  have hK := hCx.1
  have hD := hD0.self (sz := s.heap.size)
  generalize hAe : va_A [(pa, .inr (1, [.int zSl, .ref bLG, .ref bLS, .int zLy, .int zGr, .int zTk, .int zGt, .int zLt, .ref bLt, .ref bGS, .ref bGG, .ref bES, .ref bEG])), (bLt, .inl ((cs 1), 4, .inr (.inl fLt)))] s.heap.size = A at hD hCx ⊢
  have hA : ∀ q : Nat, s.heap.size ≤ q → A q := fun q h => by rw [← hAe]; exact Or.inr h
  have hA0 : ∀ q : Nat, s.heap.size ≤ q → va_A [] s.heap.size q := fun q h => Or.inr h
  have hS : va_S (va_A [] s.heap.size) s.heap s.heap [] := va_S.rf
  have hl := lv_entry ([.ref pa]) (n := 2) (Nat.le_of_ble_eq_true rfl)
  rw [lg_entry_eq]
  generalize (lg_sl ([.ref pa]) ++ List.replicate (2 - (lg_sl ([.ref pa])).length) Slot.unset).toArray = ls at hl ⊢
  have hl : lv_has ls 2 [(0, .ref pa)] := hl
  have hP : va_P (dC, dI) vq_cl [(pa, .inr (1, [.int zSl, .ref bLG, .ref bLS, .int zLy, .int zGr, .int zTk, .int zGt, .int zLt, .ref bLt, .ref bGS, .ref bGG, .ref bES, .ref bEG])), (bLt, .inl ((cs 1), 4, .inr (.inl fLt)))] s.heap := hP
  refine lv_aload_n hx hb d_PI_clearLatest_0 rfl (lv_at hl 0 rfl) ?_
  refine lv_iconst (v := 0) hx hb d_PI_clearLatest_1 (by decide) ?_
  have hS := vq_wk hS hA
  refine va_put (D := (dC, dI)) (ci := 1) (v := .int 0) (ty := .int) (C := R_PI) (T := F_PI) (N := 13) hx hb hG i_PI t_PI t_PI_ok n_PI hown hK hP hD hS 0 rfl rfl 7 (by decide) (hG _ vq_t256) (fun _ h9 => h9) rfl (by decide +kernel) rfl rfl (Nat.le_of_ble_eq_true rfl) d_PI_clearLatest_2 (fun H locs hP hD hS => ?_)
  have hP : va_P (dC, dI) vq_cl [(pa, .inr (1, [.int zSl, .ref bLG, .ref bLS, .int zLy, .int zGr, .int zTk, .int zGt, .int 0, .ref bLt, .ref bGS, .ref bGG, .ref bES, .ref bEG])), (bLt, .inl ((cs 1), 4, .inr (.inl fLt)))] H := hP
  have hD : va_D A [(pa, .inr (1, [.int zSl, .ref bLG, .ref bLS, .int zLy, .int zGr, .int zTk, .int zGt, .int 0, .ref bLt, .ref bGS, .ref bGG, .ref bES, .ref bEG])), (bLt, .inl ((cs 1), 4, .inr (.inl fLt)))] := hD
  refine lv_iconst (v := 0) hx hb d_PI_clearLatest_5 (by decide) ?_
  refine lv_istore_n (lv' := [(1, .int 0), (0, .ref pa)]) hx hb d_PI_clearLatest_6 rfl hl (by decide) rfl (fun ls hl => ?_)
  refine lv_iload_n hx hb d_PI_clearLatest_7 rfl (lv_at hl 0 rfl) ?_
  refine lv_iconst (v := 4) hx hb d_PI_clearLatest_8 (by decide) ?_
  refine lv_icmp_ge (tgt := 25) hx hb d_PI_clearLatest_9 (by decide) (fun c_9 => ?_) (fun c_9 => ?_)
  · skip
    exact absurd c_9 (by decide)
  · skip
    refine lv_aload_n hx hb d_PI_clearLatest_12 rfl (lv_at hl 1 rfl) ?_
    refine va_get (D := (dC, dI)) (ci := 1) (v := .ref bLt) (C := R_PI) (T := F_PI) (N := 13) hx hb hG i_PI hown hK hP 0 rfl rfl 8 (by decide) (hG _ vq_t258) (fun _ h9 => h9) rfl d_PI_clearLatest_13 ?_
    refine lv_iload_n hx hb d_PI_clearLatest_16 rfl (lv_at hl 0 rfl) ?_
    refine lv_lconst (v := 0) hx hb d_PI_clearLatest_17 (by decide) ?_
    refine va_last (D := (dC, dI)) hx hb hK hP hD hS 1 1 rfl rfl (vq_in 4 rfl (by decide) (by decide)) d_PI_clearLatest_18 (fun H locs hP hD hS => ?_)
    have hP : va_P (dC, dI) vq_cl [(pa, .inr (1, [.int zSl, .ref bLG, .ref bLS, .int zLy, .int zGr, .int zTk, .int zGt, .int 0, .ref bLt, .ref bGS, .ref bGG, .ref bES, .ref bEG])), (bLt, .inl ((cs 1), 4, .inr (.inl (clS fLt 0))))] H := hP
    have hD : va_D A [(pa, .inr (1, [.int zSl, .ref bLG, .ref bLS, .int zLy, .int zGr, .int zTk, .int zGt, .int 0, .ref bLt, .ref bGS, .ref bGG, .ref bES, .ref bEG])), (bLt, .inl ((cs 1), 4, .inr (.inl (clS fLt 0))))] := hD
    refine lv_iinc (v := 1) (lv' := [(1, .int 1), (0, .ref pa)]) hx hb d_PI_clearLatest_19 hl (k := 0) rfl (by decide) (by decide) rfl (fun ls hl => ?_)
    refine lv_goto (tgt := 7) hx hb d_PI_clearLatest_22 (by decide) ?_
    refine lv_iload_n hx hb d_PI_clearLatest_7 rfl (lv_at hl 0 rfl) ?_
    refine lv_iconst (v := 4) hx hb d_PI_clearLatest_8 (by decide) ?_
    refine lv_icmp_ge (tgt := 25) hx hb d_PI_clearLatest_9 (by decide) (fun c_9 => ?_) (fun c_9 => ?_)
    · skip
      exact absurd c_9 (by decide)
    · skip
      refine lv_aload_n hx hb d_PI_clearLatest_12 rfl (lv_at hl 1 rfl) ?_
      refine va_get (D := (dC, dI)) (ci := 1) (v := .ref bLt) (C := R_PI) (T := F_PI) (N := 13) hx hb hG i_PI hown hK hP 0 rfl rfl 8 (by decide) (hG _ vq_t258) (fun _ h9 => h9) rfl d_PI_clearLatest_13 ?_
      refine lv_iload_n hx hb d_PI_clearLatest_16 rfl (lv_at hl 0 rfl) ?_
      refine lv_lconst (v := 0) hx hb d_PI_clearLatest_17 (by decide) ?_
      refine va_last (D := (dC, dI)) hx hb hK hP hD hS 1 1 rfl rfl (vq_in 4 rfl (by decide) (by decide)) d_PI_clearLatest_18 (fun H locs hP hD hS => ?_)
      have hP : va_P (dC, dI) vq_cl [(pa, .inr (1, [.int zSl, .ref bLG, .ref bLS, .int zLy, .int zGr, .int zTk, .int zGt, .int 0, .ref bLt, .ref bGS, .ref bGG, .ref bES, .ref bEG])), (bLt, .inl ((cs 1), 4, .inr (.inl (clS (clS fLt 0) 1))))] H := hP
      have hD : va_D A [(pa, .inr (1, [.int zSl, .ref bLG, .ref bLS, .int zLy, .int zGr, .int zTk, .int zGt, .int 0, .ref bLt, .ref bGS, .ref bGG, .ref bES, .ref bEG])), (bLt, .inl ((cs 1), 4, .inr (.inl (clS (clS fLt 0) 1))))] := hD
      refine lv_iinc (v := 2) (lv' := [(1, .int 2), (0, .ref pa)]) hx hb d_PI_clearLatest_19 hl (k := 0) rfl (by decide) (by decide) rfl (fun ls hl => ?_)
      refine lv_goto (tgt := 7) hx hb d_PI_clearLatest_22 (by decide) ?_
      refine lv_iload_n hx hb d_PI_clearLatest_7 rfl (lv_at hl 0 rfl) ?_
      refine lv_iconst (v := 4) hx hb d_PI_clearLatest_8 (by decide) ?_
      refine lv_icmp_ge (tgt := 25) hx hb d_PI_clearLatest_9 (by decide) (fun c_9 => ?_) (fun c_9 => ?_)
      · skip
        exact absurd c_9 (by decide)
      · skip
        refine lv_aload_n hx hb d_PI_clearLatest_12 rfl (lv_at hl 1 rfl) ?_
        refine va_get (D := (dC, dI)) (ci := 1) (v := .ref bLt) (C := R_PI) (T := F_PI) (N := 13) hx hb hG i_PI hown hK hP 0 rfl rfl 8 (by decide) (hG _ vq_t258) (fun _ h9 => h9) rfl d_PI_clearLatest_13 ?_
        refine lv_iload_n hx hb d_PI_clearLatest_16 rfl (lv_at hl 0 rfl) ?_
        refine lv_lconst (v := 0) hx hb d_PI_clearLatest_17 (by decide) ?_
        refine va_last (D := (dC, dI)) hx hb hK hP hD hS 1 1 rfl rfl (vq_in 4 rfl (by decide) (by decide)) d_PI_clearLatest_18 (fun H locs hP hD hS => ?_)
        have hP : va_P (dC, dI) vq_cl [(pa, .inr (1, [.int zSl, .ref bLG, .ref bLS, .int zLy, .int zGr, .int zTk, .int zGt, .int 0, .ref bLt, .ref bGS, .ref bGG, .ref bES, .ref bEG])), (bLt, .inl ((cs 1), 4, .inr (.inl (clS (clS (clS fLt 0) 1) 2))))] H := hP
        have hD : va_D A [(pa, .inr (1, [.int zSl, .ref bLG, .ref bLS, .int zLy, .int zGr, .int zTk, .int zGt, .int 0, .ref bLt, .ref bGS, .ref bGG, .ref bES, .ref bEG])), (bLt, .inl ((cs 1), 4, .inr (.inl (clS (clS (clS fLt 0) 1) 2))))] := hD
        refine lv_iinc (v := 3) (lv' := [(1, .int 3), (0, .ref pa)]) hx hb d_PI_clearLatest_19 hl (k := 0) rfl (by decide) (by decide) rfl (fun ls hl => ?_)
        refine lv_goto (tgt := 7) hx hb d_PI_clearLatest_22 (by decide) ?_
        refine lv_iload_n hx hb d_PI_clearLatest_7 rfl (lv_at hl 0 rfl) ?_
        refine lv_iconst (v := 4) hx hb d_PI_clearLatest_8 (by decide) ?_
        refine lv_icmp_ge (tgt := 25) hx hb d_PI_clearLatest_9 (by decide) (fun c_9 => ?_) (fun c_9 => ?_)
        · skip
          exact absurd c_9 (by decide)
        · skip
          refine lv_aload_n hx hb d_PI_clearLatest_12 rfl (lv_at hl 1 rfl) ?_
          refine va_get (D := (dC, dI)) (ci := 1) (v := .ref bLt) (C := R_PI) (T := F_PI) (N := 13) hx hb hG i_PI hown hK hP 0 rfl rfl 8 (by decide) (hG _ vq_t258) (fun _ h9 => h9) rfl d_PI_clearLatest_13 ?_
          refine lv_iload_n hx hb d_PI_clearLatest_16 rfl (lv_at hl 0 rfl) ?_
          refine lv_lconst (v := 0) hx hb d_PI_clearLatest_17 (by decide) ?_
          refine va_last (D := (dC, dI)) hx hb hK hP hD hS 1 1 rfl rfl (vq_in 4 rfl (by decide) (by decide)) d_PI_clearLatest_18 (fun H locs hP hD hS => ?_)
          have hP : va_P (dC, dI) vq_cl [(pa, .inr (1, [.int zSl, .ref bLG, .ref bLS, .int zLy, .int zGr, .int zTk, .int zGt, .int 0, .ref bLt, .ref bGS, .ref bGG, .ref bES, .ref bEG])), (bLt, .inl ((cs 1), 4, .inr (.inl (clS (clS (clS (clS fLt 0) 1) 2) 3))))] H := hP
          have hD : va_D A [(pa, .inr (1, [.int zSl, .ref bLG, .ref bLS, .int zLy, .int zGr, .int zTk, .int zGt, .int 0, .ref bLt, .ref bGS, .ref bGG, .ref bES, .ref bEG])), (bLt, .inl ((cs 1), 4, .inr (.inl (clS (clS (clS (clS fLt 0) 1) 2) 3))))] := hD
          refine lv_iinc (v := 4) (lv' := [(1, .int 4), (0, .ref pa)]) hx hb d_PI_clearLatest_19 hl (k := 0) rfl (by decide) (by decide) rfl (fun ls hl => ?_)
          refine lv_goto (tgt := 7) hx hb d_PI_clearLatest_22 (by decide) ?_
          refine lv_iload_n hx hb d_PI_clearLatest_7 rfl (lv_at hl 0 rfl) ?_
          refine lv_iconst (v := 4) hx hb d_PI_clearLatest_8 (by decide) ?_
          refine lv_icmp_ge (tgt := 25) hx hb d_PI_clearLatest_9 (by decide) (fun c_9 => ?_) (fun c_9 => ?_)
          · skip
            refine W.widen (k := 0) (n := 0) (Nat.le_of_ble_eq_true rfl) (Nat.le_of_ble_eq_true rfl) ?_
            have hP9 : va_P (dC, dI) vq_cl [(pa, .inr (1, [.int zSl, .ref bLG, .ref bLS, .int zLy, .int zGr, .int zTk, .int zGt, .int 0, .ref bLt, .ref bGS, .ref bGG, .ref bES, .ref bEG])), (bLt, .inl ((cs 1), 4, .inr (.inl (clS (clS (clS (clS fLt 0) 1) 2) 3))))] _ := hP.sub [0, 1] rfl
            have hD9 : va_D A [(pa, .inr (1, [.int zSl, .ref bLG, .ref bLS, .int zLy, .int zGr, .int zTk, .int zGt, .int 0, .ref bLt, .ref bGS, .ref bGG, .ref bES, .ref bEG])), (bLt, .inl ((cs 1), 4, .inr (.inl (clS (clS (clS (clS fLt 0) 1) 2) 3))))] := hD.sub [0, 1] (by decide) rfl
            have e9 : ([(pa, .inr (1, [.int zSl, .ref bLG, .ref bLS, .int zLy, .int zGr, .int zTk, .int zGt, .int 0, .ref bLt, .ref bGS, .ref bGG, .ref bES, .ref bEG])), (bLt, .inl ((cs 1), 4, .inr (.inl (cl4 fLt))))] : va_W) = [(pa, .inr (1, [.int zSl, .ref bLG, .ref bLS, .int zLy, .int zGr, .int zTk, .int zGt, .int 0, .ref bLt, .ref bGS, .ref bGG, .ref bES, .ref bEG])), (bLt, .inl ((cs 1), 4, .inr (.inl (clS (clS (clS (clS fLt 0) 1) 2) 3))))] := by rfl
            rw [← e9] at hP9 hD9
            exact W.vret hx hb hr (fun t ht hW => ⟨⟨(), rfl, trivial, ⟨by rw [ht]; exact hP9, hD9⟩⟩, hS.F ht⟩) hS.2.2 d_PI_clearLatest_25
          · skip
            exact absurd c_9 (by decide)
set_option maxHeartbeats 4000000 in
set_option maxRecDepth 100000 in
/-- gramsBefore -/
theorem c_gramsBefore (l : Launch) (dC : Nat → ClassId) (dI : Nat → Nat → Nat) (cs : Nat → ClassId) (sz : Nat) (pa : Nat) (bLG : Nat) (bLS : Nat) (bLt : Nat) (bGS : Nat) (bGG : Nat) (bES : Nat) (bEG : Nat) (zSl : Int32) (zLy : Int32) (zGr : Int32) (zTk : Int32) (zGt : Int32) (zLt : Int32) (fLG : Nat → Int32) (x : Int32) (y : Int32) (hi : ok20 x) : Met l y_PI_gramsBefore w_PI_gramsBefore ({ frames := 0, cells := 0, slots := 0, locals := 0 }) (vq_PreR (dC, dI) cs [(pa, .inr (1, [.int zSl, .ref bLG, .ref bLS, .int zLy, .int zGr, .int zTk, .int zGt, .int zLt, .ref bLt, .ref bGS, .ref bGG, .ref bES, .ref bEG])), (bLG, .inl ((cs 0), 20, .inl fLG))] sz [.ref pa, .int x, .int y]) (va_Qi (fun (r : Int32) (_ : Unit) => r = gbF zSl (fLG x.toNatClampNeg) y) (fun _ _ => True) (va_A [] sz)) 0 0 (va_A [] sz) := by
  refine Met.ofW (cc := b_PI_gramsBefore) (maxL := 3) (ret := (some .int)) (by decide) rfl ?_
  intro p e s m args below meth c s₁ B hml hv
  obtain ⟨rfl, hsz, hP, hCx⟩ := hv
  have hx := B.exec
  have hb := B.bytes
  have hr := B.returns
  have hG := vq_hG (atoms_spec (ws := w_PI_gramsBefore) B.pre)
  have hown : s.vm.findClass R_PI = some m.cls := findClass_of_methodNamed B.named
  have hlocks := B.notSynchronized
  subst hsz
  have hK := hCx.1
  have hA : ∀ q : Nat, s.heap.size ≤ q → va_A [] s.heap.size q := fun q h => Or.inr h
  have hA0 : ∀ q : Nat, s.heap.size ≤ q → va_A [] s.heap.size q := fun q h => Or.inr h
  have hS : va_S (va_A [] s.heap.size) s.heap s.heap [] := va_S.rf
  have hl := lv_entry ([.ref pa, .int x, .int y]) (n := 3) (Nat.le_of_ble_eq_true rfl)
  rw [lg_entry_eq]
  generalize (lg_sl ([.ref pa, .int x, .int y]) ++ List.replicate (3 - (lg_sl ([.ref pa, .int x, .int y])).length) Slot.unset).toArray = ls at hl ⊢
  have hl : lv_has ls 3 [(0, .ref pa), (1, .int x), (2, .int y)] := hl
  have hP : va_P (dC, dI) vq_cl [(pa, .inr (1, [.int zSl, .ref bLG, .ref bLS, .int zLy, .int zGr, .int zTk, .int zGt, .int zLt, .ref bLt, .ref bGS, .ref bGG, .ref bES, .ref bEG])), (bLG, .inl ((cs 0), 20, .inl fLG))] s.heap := hP
  refine lv_aload_n hx hb d_PI_gramsBefore_0 rfl (lv_at hl 0 rfl) ?_
  refine va_get (D := (dC, dI)) (ci := 1) (v := .int zSl) (C := R_PI) (T := F_PI) (N := 13) hx hb hG i_PI hown hK hP 0 rfl rfl 0 (by decide) (hG _ vq_t244) (fun _ h9 => h9) rfl d_PI_gramsBefore_1 ?_
  refine lv_iconst (v := 1) hx hb d_PI_gramsBefore_4 (by decide) ?_
  refine lv_icmp_ge (tgt := 12) hx hb d_PI_gramsBefore_5 (by decide) (fun c_5 => ?_) (fun c_5 => ?_)
  · skip
    refine lv_aload_n hx hb d_PI_gramsBefore_12 rfl (lv_at hl 0 rfl) ?_
    refine va_get (D := (dC, dI)) (ci := 1) (v := .ref bLG) (C := R_PI) (T := F_PI) (N := 13) hx hb hG i_PI hown hK hP 0 rfl rfl 1 (by decide) (hG _ vq_t246) (fun _ h9 => h9) rfl d_PI_gramsBefore_13 ?_
    refine lv_iload_n hx hb d_PI_gramsBefore_16 rfl (lv_at hl 1 rfl) ?_
    refine va_iald (D := (dC, dI)) hx hb hK hP 1 0 rfl rfl (vq_in 20 rfl hi.1 hi.2) d_PI_gramsBefore_17 ?_
    refine lv_i2l hx hb d_PI_gramsBefore_18 rfl ?_
    refine lv_iload_n hx hb d_PI_gramsBefore_19 rfl (lv_at hl 2 rfl) ?_
    refine lv_i2l hx hb d_PI_gramsBefore_20 rfl ?_
    refine lv_lmul hx hb d_PI_gramsBefore_21 ?_
    refine lv_aload_n hx hb d_PI_gramsBefore_22 rfl (lv_at hl 0 rfl) ?_
    refine va_get (D := (dC, dI)) (ci := 1) (v := .int zSl) (C := R_PI) (T := F_PI) (N := 13) hx hb hG i_PI hown hK hP 0 rfl rfl 0 (by decide) (hG _ vq_t244) (fun _ h9 => h9) rfl d_PI_gramsBefore_23 ?_
    refine lv_i2l hx hb d_PI_gramsBefore_26 rfl ?_
    refine lv_ldiv hx hb d_PI_gramsBefore_27 (vq_nz c_5) ?_
    refine lv_l2i hx hb d_PI_gramsBefore_28 rfl ?_
    refine W.widen (k := 0) (n := 0) (Nat.le_of_ble_eq_true rfl) (Nat.le_of_ble_eq_true rfl) ?_
    exact W.iret (v := ((((fLG x.toNatClampNeg).toInt64) * y.toInt64) / zSl.toInt64).toInt32) hx hb hr (fun t ht hW => ⟨⟨((((fLG x.toNatClampNeg).toInt64) * y.toInt64) / zSl.toInt64).toInt32, (), rfl, by simp only [gbF, if_pos c_5], trivial⟩, hS.F ht⟩) hS.2.2 d_PI_gramsBefore_29
  · skip
    refine lv_iconst (v := 0) hx hb d_PI_gramsBefore_8 (by decide) ?_
    refine lv_goto (tgt := 29) hx hb d_PI_gramsBefore_9 (by decide) ?_
    refine W.widen (k := 0) (n := 0) (Nat.le_of_ble_eq_true rfl) (Nat.le_of_ble_eq_true rfl) ?_
    exact W.iret (v := 0) hx hb hr (fun t ht hW => ⟨⟨0, (), rfl, by simp only [gbF, if_neg c_5], trivial⟩, hS.F ht⟩) hS.2.2 d_PI_gramsBefore_29
set_option maxHeartbeats 4000000 in
set_option maxRecDepth 100000 in
/-- takeOfLayer -/
theorem c_takeOfLayer (l : Launch) (dC : Nat → ClassId) (dI : Nat → Nat → Nat) (cs : Nat → ClassId) (sz : Nat) (pa : Nat) (bLG : Nat) (bLS : Nat) (bLt : Nat) (bGS : Nat) (bGG : Nat) (bES : Nat) (bEG : Nat) (zSl : Int32) (zLy : Int32) (zGr : Int32) (zTk : Int32) (zGt : Int32) (zLt : Int32) (fLG : Nat → Int32) (fLS : Nat → Int32) (fLt : Nat → Int64) (x : Int32) (hi : ok20 x) : Met l y_PI_takeOfLayer w_PI_takeOfLayer ({ frames := 1, cells := 0, slots := 0, locals := 22 }) (vq_Pre (dC, dI) cs [(pa, .inr (1, [.int zSl, .ref bLG, .ref bLS, .int zLy, .int zGr, .int zTk, .int zGt, .int zLt, .ref bLt, .ref bGS, .ref bGG, .ref bES, .ref bEG])), (bLG, .inl ((cs 0), 20, .inl fLG)), (bLS, .inl ((cs 0), 80, .inl fLS)), (bLt, .inl ((cs 1), 4, .inr (.inl fLt)))] sz [.ref pa, .int x]) (va_Qv (fun (_ : Unit) => True) (vq_B (dC, dI) cs (va_A [(pa, .inr (1, [.int zSl, .ref bLG, .ref bLS, .int zLy, .int zGr, .int zTk, .int zGt, .int zLt, .ref bLt, .ref bGS, .ref bGG, .ref bES, .ref bEG])), (bLG, .inl ((cs 0), 20, .inl fLG)), (bLS, .inl ((cs 0), 80, .inl fLS)), (bLt, .inl ((cs 1), 4, .inr (.inl fLt)))] sz) (fun _ => [(pa, .inr (1, [.int zSl, .ref bLG, .ref bLS, .int zLy, .int zGr, .int zTk, .int zGt, .int (zLt + (ptF zSl (fLG x.toNatClampNeg) zTk)), .ref bLt, .ref bGS, .ref bGG, .ref bES, .ref bEG])), (bLG, .inl ((cs 0), 20, .inl fLG)), (bLS, .inl ((cs 0), 80, .inl fLS)), (bLt, .inl ((cs 1), 4, .inr (.inl (tol4 (ptF zSl (fLG x.toNatClampNeg) zTk) fLS x fLt))))])) (va_A [(pa, .inr (1, [.int zSl, .ref bLG, .ref bLS, .int zLy, .int zGr, .int zTk, .int zGt, .int zLt, .ref bLt, .ref bGS, .ref bGG, .ref bES, .ref bEG])), (bLG, .inl ((cs 0), 20, .inl fLG)), (bLS, .inl ((cs 0), 80, .inl fLS)), (bLt, .inl ((cs 1), 4, .inr (.inl fLt)))] sz)) 0 0 (va_A [(pa, .inr (1, [.int zSl, .ref bLG, .ref bLS, .int zLy, .int zGr, .int zTk, .int zGt, .int zLt, .ref bLt, .ref bGS, .ref bGG, .ref bES, .ref bEG])), (bLG, .inl ((cs 0), 20, .inl fLG)), (bLS, .inl ((cs 0), 80, .inl fLS)), (bLt, .inl ((cs 1), 4, .inr (.inl fLt)))] sz) := by
  refine Met.ofW (cc := b_PI_takeOfLayer) (maxL := 4) (ret := none) (by decide) rfl ?_
  intro p e s m args below meth c s₁ B hml hv
  obtain ⟨rfl, hsz, hP, hD0, hCx⟩ := hv
  have hx := B.exec
  have hb := B.bytes
  have hr := B.returns
  have hG := vq_hG (atoms_spec (ws := w_PI_takeOfLayer) B.pre)
  have hown : s.vm.findClass R_PI = some m.cls := findClass_of_methodNamed B.named
  have hlocks := B.notSynchronized
  subst hsz
  have hK := hCx.1
  have hD := hD0.self (sz := s.heap.size)
  generalize hAe : va_A [(pa, .inr (1, [.int zSl, .ref bLG, .ref bLS, .int zLy, .int zGr, .int zTk, .int zGt, .int zLt, .ref bLt, .ref bGS, .ref bGG, .ref bES, .ref bEG])), (bLG, .inl ((cs 0), 20, .inl fLG)), (bLS, .inl ((cs 0), 80, .inl fLS)), (bLt, .inl ((cs 1), 4, .inr (.inl fLt)))] s.heap.size = A at hD hCx ⊢
  have hA : ∀ q : Nat, s.heap.size ≤ q → A q := fun q h => by rw [← hAe]; exact Or.inr h
  have hA0 : ∀ q : Nat, s.heap.size ≤ q → va_A [] s.heap.size q := fun q h => Or.inr h
  have hS : va_S (va_A [] s.heap.size) s.heap s.heap [] := va_S.rf
  have hl := lv_entry ([.ref pa, .int x]) (n := 4) (Nat.le_of_ble_eq_true rfl)
  rw [lg_entry_eq]
  generalize (lg_sl ([.ref pa, .int x]) ++ List.replicate (4 - (lg_sl ([.ref pa, .int x])).length) Slot.unset).toArray = ls at hl ⊢
  have hl : lv_has ls 4 [(0, .ref pa), (1, .int x)] := hl
  have hP : va_P (dC, dI) vq_cl [(pa, .inr (1, [.int zSl, .ref bLG, .ref bLS, .int zLy, .int zGr, .int zTk, .int zGt, .int zLt, .ref bLt, .ref bGS, .ref bGG, .ref bES, .ref bEG])), (bLG, .inl ((cs 0), 20, .inl fLG)), (bLS, .inl ((cs 0), 80, .inl fLS)), (bLt, .inl ((cs 1), 4, .inr (.inl fLt)))] s.heap := hP
  refine lv_aload_n hx hb d_PI_takeOfLayer_0 rfl (lv_at hl 0 rfl) ?_
  refine lv_iload_n hx hb d_PI_takeOfLayer_1 rfl (lv_at hl 1 rfl) ?_
  refine lv_aload_n hx hb d_PI_takeOfLayer_2 rfl (lv_at hl 0 rfl) ?_
  refine va_get (D := (dC, dI)) (ci := 1) (v := .int zTk) (C := R_PI) (T := F_PI) (N := 13) hx hb hG i_PI hown hK hP 0 rfl rfl 5 (by decide) (hG _ vq_t252) (fun _ h9 => h9) rfl d_PI_takeOfLayer_3 ?_
  refine lv_iconst (v := 1) hx hb d_PI_takeOfLayer_6 (by decide) ?_
  refine lv_iadd hx hb d_PI_takeOfLayer_7 ?_
  refine mk_ri (va_runV (As := [.int x, .int (zTk + 1)]) (rest := []) ⟨hx, hb, hml, hown, hG⟩ (c_gramsBefore l dC dI cs _ pa bLG bLS bLt bGS bGG bES bEG zSl zLy zGr zTk zGt zLt fLG x (zTk + 1) hi) (cwV 2 hG (vq_gV vq_t348 vq_t350 vq_s5 vq_t10 vq_t351) rfl rfl rfl (by decide +kernel) ⟨Nat.le_of_ble_eq_true rfl, Nat.le_of_ble_eq_true rfl⟩) (vq_preVr (wc := [(pa, .inr (1, [.int zSl, .ref bLG, .ref bLS, .int zLy, .int zGr, .int zTk, .int zGt, .int zLt, .ref bLt, .ref bGS, .ref bGG, .ref bES, .ref bEG])), (bLG, .inl ((cs 0), 20, .inl fLG))]) (va_recv hK hP (ci := 1) (q0 := 0) rfl rfl) hCx hP (vq_wk hS hA) hA [0, 1] rfl) rfl rfl hl.1 rfl (lv_room (Nat.le_of_ble_eq_true rfl)) d_PI_takeOfLayer_8 ⟨Nat.le_of_ble_eq_true rfl, Nat.le_of_ble_eq_true rfl⟩) hP hS hA0 (fun r_8 H locs w_8 hP hS => ?_)
  subst w_8
  refine lv_aload_n hx hb d_PI_takeOfLayer_11 rfl (lv_at hl 0 rfl) ?_
  refine lv_iload_n hx hb d_PI_takeOfLayer_12 rfl (lv_at hl 1 rfl) ?_
  refine lv_aload_n hx hb d_PI_takeOfLayer_13 rfl (lv_at hl 0 rfl) ?_
  refine va_get (D := (dC, dI)) (ci := 1) (v := .int zTk) (C := R_PI) (T := F_PI) (N := 13) hx hb hG i_PI hown hK hP 0 rfl rfl 5 (by decide) (hG _ vq_t252) (fun _ h9 => h9) rfl d_PI_takeOfLayer_14 ?_
  refine mk_ri (va_runV (As := [.int x, .int zTk]) (rest := [.int (gbF zSl (fLG x.toNatClampNeg) (zTk + 1))]) ⟨hx, hb, hml, hown, hG⟩ (c_gramsBefore l dC dI cs _ pa bLG bLS bLt bGS bGG bES bEG zSl zLy zGr zTk zGt zLt fLG x zTk hi) (cwV 2 hG (vq_gV vq_t348 vq_t350 vq_s5 vq_t10 vq_t351) rfl rfl rfl (by decide +kernel) ⟨Nat.le_of_ble_eq_true rfl, Nat.le_of_ble_eq_true rfl⟩) (vq_preVr (wc := [(pa, .inr (1, [.int zSl, .ref bLG, .ref bLS, .int zLy, .int zGr, .int zTk, .int zGt, .int zLt, .ref bLt, .ref bGS, .ref bGG, .ref bES, .ref bEG])), (bLG, .inl ((cs 0), 20, .inl fLG))]) (va_recv hK hP (ci := 1) (q0 := 0) rfl rfl) hCx hP (vq_wk hS hA) hA [0, 1] rfl) rfl rfl hl.1 rfl (lv_room (Nat.le_of_ble_eq_true rfl)) d_PI_takeOfLayer_17 ⟨Nat.le_of_ble_eq_true rfl, Nat.le_of_ble_eq_true rfl⟩) hP hS hA0 (fun r_17 H locs w_17 hP hS => ?_)
  subst w_17
  refine lv_isub hx hb d_PI_takeOfLayer_20 ?_
  refine lv_istore_n (lv' := [(2, .int (ptF zSl (fLG x.toNatClampNeg) zTk)), (0, .ref pa), (1, .int x)]) hx hb d_PI_takeOfLayer_21 rfl hl (by decide) rfl (fun ls hl => ?_)
  refine lv_aload_n hx hb d_PI_takeOfLayer_22 rfl (lv_at hl 1 rfl) ?_
  refine lv_dup hx hb d_PI_takeOfLayer_23 rfl ?_
  refine va_get (D := (dC, dI)) (ci := 1) (v := .int zLt) (C := R_PI) (T := F_PI) (N := 13) hx hb hG i_PI hown hK hP 0 rfl rfl 7 (by decide) (hG _ vq_t256) (fun _ h9 => h9) rfl d_PI_takeOfLayer_24 ?_
  refine lv_iload_n hx hb d_PI_takeOfLayer_27 rfl (lv_at hl 0 rfl) ?_
  refine lv_iadd hx hb d_PI_takeOfLayer_28 ?_
  have hS := vq_wk hS hA
  refine va_put (D := (dC, dI)) (ci := 1) (v := .int (zLt + (ptF zSl (fLG x.toNatClampNeg) zTk))) (ty := .int) (C := R_PI) (T := F_PI) (N := 13) hx hb hG i_PI t_PI t_PI_ok n_PI hown hK hP hD hS 0 rfl rfl 7 (by decide) (hG _ vq_t256) (fun _ h9 => h9) rfl (by decide +kernel) rfl rfl (Nat.le_of_ble_eq_true rfl) d_PI_takeOfLayer_29 (fun H locs hP hD hS => ?_)
  have hP : va_P (dC, dI) vq_cl [(pa, .inr (1, [.int zSl, .ref bLG, .ref bLS, .int zLy, .int zGr, .int zTk, .int zGt, .int (zLt + (ptF zSl (fLG x.toNatClampNeg) zTk)), .ref bLt, .ref bGS, .ref bGG, .ref bES, .ref bEG])), (bLG, .inl ((cs 0), 20, .inl fLG)), (bLS, .inl ((cs 0), 80, .inl fLS)), (bLt, .inl ((cs 1), 4, .inr (.inl fLt)))] H := hP
  have hD : va_D A [(pa, .inr (1, [.int zSl, .ref bLG, .ref bLS, .int zLy, .int zGr, .int zTk, .int zGt, .int (zLt + (ptF zSl (fLG x.toNatClampNeg) zTk)), .ref bLt, .ref bGS, .ref bGG, .ref bES, .ref bEG])), (bLG, .inl ((cs 0), 20, .inl fLG)), (bLS, .inl ((cs 0), 80, .inl fLS)), (bLt, .inl ((cs 1), 4, .inr (.inl fLt)))] := hD
  refine lv_iconst (v := 0) hx hb d_PI_takeOfLayer_32 (by decide) ?_
  refine lv_istore_n (lv' := [(3, .int 0), (2, .int (ptF zSl (fLG x.toNatClampNeg) zTk)), (0, .ref pa), (1, .int x)]) hx hb d_PI_takeOfLayer_33 rfl hl (by decide) rfl (fun ls hl => ?_)
  refine lv_iload_n hx hb d_PI_takeOfLayer_34 rfl (lv_at hl 0 rfl) ?_
  refine lv_iconst (v := 4) hx hb d_PI_takeOfLayer_35 (by decide) ?_
  refine lv_icmp_ge (tgt := 68) hx hb d_PI_takeOfLayer_36 (by decide) (fun c_36 => ?_) (fun c_36 => ?_)
  · skip
    exact absurd c_36 (by decide)
  · skip
    refine lv_aload_n hx hb d_PI_takeOfLayer_39 rfl (lv_at hl 2 rfl) ?_
    refine va_get (D := (dC, dI)) (ci := 1) (v := .ref bLt) (C := R_PI) (T := F_PI) (N := 13) hx hb hG i_PI hown hK hP 0 rfl rfl 8 (by decide) (hG _ vq_t258) (fun _ h9 => h9) rfl d_PI_takeOfLayer_40 ?_
    refine lv_iload_n hx hb d_PI_takeOfLayer_43 rfl (lv_at hl 0 rfl) ?_
    refine lv_dup2_11 hx hb d_PI_takeOfLayer_44 rfl rfl ?_
    refine va_lald (D := (dC, dI)) hx hb hK hP 3 1 rfl rfl (vq_in 4 rfl (by decide) (by decide)) d_PI_takeOfLayer_45 ?_
    refine lv_iload_n hx hb d_PI_takeOfLayer_46 rfl (lv_at hl 1 rfl) ?_
    refine lv_i2l hx hb d_PI_takeOfLayer_47 rfl ?_
    refine lv_aload_n hx hb d_PI_takeOfLayer_48 rfl (lv_at hl 2 rfl) ?_
    refine va_get (D := (dC, dI)) (ci := 1) (v := .ref bLS) (C := R_PI) (T := F_PI) (N := 13) hx hb hG i_PI hown hK hP 0 rfl rfl 2 (by decide) (hG _ vq_t247) (fun _ h9 => h9) rfl d_PI_takeOfLayer_49 ?_
    refine lv_iload_n hx hb d_PI_takeOfLayer_52 rfl (lv_at hl 3 rfl) ?_
    refine lv_iconst (v := 4) hx hb d_PI_takeOfLayer_53 (by decide) ?_
    refine lv_imul hx hb d_PI_takeOfLayer_54 ?_
    refine lv_iload_n hx hb d_PI_takeOfLayer_55 rfl (lv_at hl 0 rfl) ?_
    refine lv_iadd hx hb d_PI_takeOfLayer_56 ?_
    refine va_iald (D := (dC, dI)) hx hb hK hP 2 0 rfl rfl (vq_ixL hi (e := 0) (by decide)) d_PI_takeOfLayer_57 ?_
    refine lv_i2l hx hb d_PI_takeOfLayer_58 rfl ?_
    refine lv_lmul hx hb d_PI_takeOfLayer_59 ?_
    refine lv_ladd hx hb d_PI_takeOfLayer_60 ?_
    refine va_last (D := (dC, dI)) hx hb hK hP hD hS 3 1 rfl rfl (vq_in 4 rfl (by decide) (by decide)) d_PI_takeOfLayer_61 (fun H locs hP hD hS => ?_)
    have hP : va_P (dC, dI) vq_cl [(pa, .inr (1, [.int zSl, .ref bLG, .ref bLS, .int zLy, .int zGr, .int zTk, .int zGt, .int (zLt + (ptF zSl (fLG x.toNatClampNeg) zTk)), .ref bLt, .ref bGS, .ref bGG, .ref bES, .ref bEG])), (bLG, .inl ((cs 0), 20, .inl fLG)), (bLS, .inl ((cs 0), 80, .inl fLS)), (bLt, .inl ((cs 1), 4, .inr (.inl (tolS (ptF zSl (fLG x.toNatClampNeg) zTk) fLS x fLt 0))))] H := hP
    have hD : va_D A [(pa, .inr (1, [.int zSl, .ref bLG, .ref bLS, .int zLy, .int zGr, .int zTk, .int zGt, .int (zLt + (ptF zSl (fLG x.toNatClampNeg) zTk)), .ref bLt, .ref bGS, .ref bGG, .ref bES, .ref bEG])), (bLG, .inl ((cs 0), 20, .inl fLG)), (bLS, .inl ((cs 0), 80, .inl fLS)), (bLt, .inl ((cs 1), 4, .inr (.inl (tolS (ptF zSl (fLG x.toNatClampNeg) zTk) fLS x fLt 0))))] := hD
    refine lv_iinc (v := 1) (lv' := [(3, .int 1), (2, .int (ptF zSl (fLG x.toNatClampNeg) zTk)), (0, .ref pa), (1, .int x)]) hx hb d_PI_takeOfLayer_62 hl (k := 0) rfl (by decide) (by decide) rfl (fun ls hl => ?_)
    refine lv_goto (tgt := 34) hx hb d_PI_takeOfLayer_65 (by decide) ?_
    refine lv_iload_n hx hb d_PI_takeOfLayer_34 rfl (lv_at hl 0 rfl) ?_
    refine lv_iconst (v := 4) hx hb d_PI_takeOfLayer_35 (by decide) ?_
    refine lv_icmp_ge (tgt := 68) hx hb d_PI_takeOfLayer_36 (by decide) (fun c_36 => ?_) (fun c_36 => ?_)
    · skip
      exact absurd c_36 (by decide)
    · skip
      refine lv_aload_n hx hb d_PI_takeOfLayer_39 rfl (lv_at hl 2 rfl) ?_
      refine va_get (D := (dC, dI)) (ci := 1) (v := .ref bLt) (C := R_PI) (T := F_PI) (N := 13) hx hb hG i_PI hown hK hP 0 rfl rfl 8 (by decide) (hG _ vq_t258) (fun _ h9 => h9) rfl d_PI_takeOfLayer_40 ?_
      refine lv_iload_n hx hb d_PI_takeOfLayer_43 rfl (lv_at hl 0 rfl) ?_
      refine lv_dup2_11 hx hb d_PI_takeOfLayer_44 rfl rfl ?_
      refine va_lald (D := (dC, dI)) hx hb hK hP 3 1 rfl rfl (vq_in 4 rfl (by decide) (by decide)) d_PI_takeOfLayer_45 ?_
      refine lv_iload_n hx hb d_PI_takeOfLayer_46 rfl (lv_at hl 1 rfl) ?_
      refine lv_i2l hx hb d_PI_takeOfLayer_47 rfl ?_
      refine lv_aload_n hx hb d_PI_takeOfLayer_48 rfl (lv_at hl 2 rfl) ?_
      refine va_get (D := (dC, dI)) (ci := 1) (v := .ref bLS) (C := R_PI) (T := F_PI) (N := 13) hx hb hG i_PI hown hK hP 0 rfl rfl 2 (by decide) (hG _ vq_t247) (fun _ h9 => h9) rfl d_PI_takeOfLayer_49 ?_
      refine lv_iload_n hx hb d_PI_takeOfLayer_52 rfl (lv_at hl 3 rfl) ?_
      refine lv_iconst (v := 4) hx hb d_PI_takeOfLayer_53 (by decide) ?_
      refine lv_imul hx hb d_PI_takeOfLayer_54 ?_
      refine lv_iload_n hx hb d_PI_takeOfLayer_55 rfl (lv_at hl 0 rfl) ?_
      refine lv_iadd hx hb d_PI_takeOfLayer_56 ?_
      refine va_iald (D := (dC, dI)) hx hb hK hP 2 0 rfl rfl (vq_ixL hi (e := 1) (by decide)) d_PI_takeOfLayer_57 ?_
      refine lv_i2l hx hb d_PI_takeOfLayer_58 rfl ?_
      refine lv_lmul hx hb d_PI_takeOfLayer_59 ?_
      refine lv_ladd hx hb d_PI_takeOfLayer_60 ?_
      refine va_last (D := (dC, dI)) hx hb hK hP hD hS 3 1 rfl rfl (vq_in 4 rfl (by decide) (by decide)) d_PI_takeOfLayer_61 (fun H locs hP hD hS => ?_)
      have hP : va_P (dC, dI) vq_cl [(pa, .inr (1, [.int zSl, .ref bLG, .ref bLS, .int zLy, .int zGr, .int zTk, .int zGt, .int (zLt + (ptF zSl (fLG x.toNatClampNeg) zTk)), .ref bLt, .ref bGS, .ref bGG, .ref bES, .ref bEG])), (bLG, .inl ((cs 0), 20, .inl fLG)), (bLS, .inl ((cs 0), 80, .inl fLS)), (bLt, .inl ((cs 1), 4, .inr (.inl (tolS (ptF zSl (fLG x.toNatClampNeg) zTk) fLS x (tolS (ptF zSl (fLG x.toNatClampNeg) zTk) fLS x fLt 0) 1))))] H := hP
      have hD : va_D A [(pa, .inr (1, [.int zSl, .ref bLG, .ref bLS, .int zLy, .int zGr, .int zTk, .int zGt, .int (zLt + (ptF zSl (fLG x.toNatClampNeg) zTk)), .ref bLt, .ref bGS, .ref bGG, .ref bES, .ref bEG])), (bLG, .inl ((cs 0), 20, .inl fLG)), (bLS, .inl ((cs 0), 80, .inl fLS)), (bLt, .inl ((cs 1), 4, .inr (.inl (tolS (ptF zSl (fLG x.toNatClampNeg) zTk) fLS x (tolS (ptF zSl (fLG x.toNatClampNeg) zTk) fLS x fLt 0) 1))))] := hD
      refine lv_iinc (v := 2) (lv' := [(3, .int 2), (2, .int (ptF zSl (fLG x.toNatClampNeg) zTk)), (0, .ref pa), (1, .int x)]) hx hb d_PI_takeOfLayer_62 hl (k := 0) rfl (by decide) (by decide) rfl (fun ls hl => ?_)
      refine lv_goto (tgt := 34) hx hb d_PI_takeOfLayer_65 (by decide) ?_
      refine lv_iload_n hx hb d_PI_takeOfLayer_34 rfl (lv_at hl 0 rfl) ?_
      refine lv_iconst (v := 4) hx hb d_PI_takeOfLayer_35 (by decide) ?_
      refine lv_icmp_ge (tgt := 68) hx hb d_PI_takeOfLayer_36 (by decide) (fun c_36 => ?_) (fun c_36 => ?_)
      · skip
        exact absurd c_36 (by decide)
      · skip
        refine lv_aload_n hx hb d_PI_takeOfLayer_39 rfl (lv_at hl 2 rfl) ?_
        refine va_get (D := (dC, dI)) (ci := 1) (v := .ref bLt) (C := R_PI) (T := F_PI) (N := 13) hx hb hG i_PI hown hK hP 0 rfl rfl 8 (by decide) (hG _ vq_t258) (fun _ h9 => h9) rfl d_PI_takeOfLayer_40 ?_
        refine lv_iload_n hx hb d_PI_takeOfLayer_43 rfl (lv_at hl 0 rfl) ?_
        refine lv_dup2_11 hx hb d_PI_takeOfLayer_44 rfl rfl ?_
        refine va_lald (D := (dC, dI)) hx hb hK hP 3 1 rfl rfl (vq_in 4 rfl (by decide) (by decide)) d_PI_takeOfLayer_45 ?_
        refine lv_iload_n hx hb d_PI_takeOfLayer_46 rfl (lv_at hl 1 rfl) ?_
        refine lv_i2l hx hb d_PI_takeOfLayer_47 rfl ?_
        refine lv_aload_n hx hb d_PI_takeOfLayer_48 rfl (lv_at hl 2 rfl) ?_
        refine va_get (D := (dC, dI)) (ci := 1) (v := .ref bLS) (C := R_PI) (T := F_PI) (N := 13) hx hb hG i_PI hown hK hP 0 rfl rfl 2 (by decide) (hG _ vq_t247) (fun _ h9 => h9) rfl d_PI_takeOfLayer_49 ?_
        refine lv_iload_n hx hb d_PI_takeOfLayer_52 rfl (lv_at hl 3 rfl) ?_
        refine lv_iconst (v := 4) hx hb d_PI_takeOfLayer_53 (by decide) ?_
        refine lv_imul hx hb d_PI_takeOfLayer_54 ?_
        refine lv_iload_n hx hb d_PI_takeOfLayer_55 rfl (lv_at hl 0 rfl) ?_
        refine lv_iadd hx hb d_PI_takeOfLayer_56 ?_
        refine va_iald (D := (dC, dI)) hx hb hK hP 2 0 rfl rfl (vq_ixL hi (e := 2) (by decide)) d_PI_takeOfLayer_57 ?_
        refine lv_i2l hx hb d_PI_takeOfLayer_58 rfl ?_
        refine lv_lmul hx hb d_PI_takeOfLayer_59 ?_
        refine lv_ladd hx hb d_PI_takeOfLayer_60 ?_
        refine va_last (D := (dC, dI)) hx hb hK hP hD hS 3 1 rfl rfl (vq_in 4 rfl (by decide) (by decide)) d_PI_takeOfLayer_61 (fun H locs hP hD hS => ?_)
        have hP : va_P (dC, dI) vq_cl [(pa, .inr (1, [.int zSl, .ref bLG, .ref bLS, .int zLy, .int zGr, .int zTk, .int zGt, .int (zLt + (ptF zSl (fLG x.toNatClampNeg) zTk)), .ref bLt, .ref bGS, .ref bGG, .ref bES, .ref bEG])), (bLG, .inl ((cs 0), 20, .inl fLG)), (bLS, .inl ((cs 0), 80, .inl fLS)), (bLt, .inl ((cs 1), 4, .inr (.inl (tolS (ptF zSl (fLG x.toNatClampNeg) zTk) fLS x (tolS (ptF zSl (fLG x.toNatClampNeg) zTk) fLS x (tolS (ptF zSl (fLG x.toNatClampNeg) zTk) fLS x fLt 0) 1) 2))))] H := hP
        have hD : va_D A [(pa, .inr (1, [.int zSl, .ref bLG, .ref bLS, .int zLy, .int zGr, .int zTk, .int zGt, .int (zLt + (ptF zSl (fLG x.toNatClampNeg) zTk)), .ref bLt, .ref bGS, .ref bGG, .ref bES, .ref bEG])), (bLG, .inl ((cs 0), 20, .inl fLG)), (bLS, .inl ((cs 0), 80, .inl fLS)), (bLt, .inl ((cs 1), 4, .inr (.inl (tolS (ptF zSl (fLG x.toNatClampNeg) zTk) fLS x (tolS (ptF zSl (fLG x.toNatClampNeg) zTk) fLS x (tolS (ptF zSl (fLG x.toNatClampNeg) zTk) fLS x fLt 0) 1) 2))))] := hD
        refine lv_iinc (v := 3) (lv' := [(3, .int 3), (2, .int (ptF zSl (fLG x.toNatClampNeg) zTk)), (0, .ref pa), (1, .int x)]) hx hb d_PI_takeOfLayer_62 hl (k := 0) rfl (by decide) (by decide) rfl (fun ls hl => ?_)
        refine lv_goto (tgt := 34) hx hb d_PI_takeOfLayer_65 (by decide) ?_
        refine lv_iload_n hx hb d_PI_takeOfLayer_34 rfl (lv_at hl 0 rfl) ?_
        refine lv_iconst (v := 4) hx hb d_PI_takeOfLayer_35 (by decide) ?_
        refine lv_icmp_ge (tgt := 68) hx hb d_PI_takeOfLayer_36 (by decide) (fun c_36 => ?_) (fun c_36 => ?_)
        · skip
          exact absurd c_36 (by decide)
        · skip
          refine lv_aload_n hx hb d_PI_takeOfLayer_39 rfl (lv_at hl 2 rfl) ?_
          refine va_get (D := (dC, dI)) (ci := 1) (v := .ref bLt) (C := R_PI) (T := F_PI) (N := 13) hx hb hG i_PI hown hK hP 0 rfl rfl 8 (by decide) (hG _ vq_t258) (fun _ h9 => h9) rfl d_PI_takeOfLayer_40 ?_
          refine lv_iload_n hx hb d_PI_takeOfLayer_43 rfl (lv_at hl 0 rfl) ?_
          refine lv_dup2_11 hx hb d_PI_takeOfLayer_44 rfl rfl ?_
          refine va_lald (D := (dC, dI)) hx hb hK hP 3 1 rfl rfl (vq_in 4 rfl (by decide) (by decide)) d_PI_takeOfLayer_45 ?_
          refine lv_iload_n hx hb d_PI_takeOfLayer_46 rfl (lv_at hl 1 rfl) ?_
          refine lv_i2l hx hb d_PI_takeOfLayer_47 rfl ?_
          refine lv_aload_n hx hb d_PI_takeOfLayer_48 rfl (lv_at hl 2 rfl) ?_
          refine va_get (D := (dC, dI)) (ci := 1) (v := .ref bLS) (C := R_PI) (T := F_PI) (N := 13) hx hb hG i_PI hown hK hP 0 rfl rfl 2 (by decide) (hG _ vq_t247) (fun _ h9 => h9) rfl d_PI_takeOfLayer_49 ?_
          refine lv_iload_n hx hb d_PI_takeOfLayer_52 rfl (lv_at hl 3 rfl) ?_
          refine lv_iconst (v := 4) hx hb d_PI_takeOfLayer_53 (by decide) ?_
          refine lv_imul hx hb d_PI_takeOfLayer_54 ?_
          refine lv_iload_n hx hb d_PI_takeOfLayer_55 rfl (lv_at hl 0 rfl) ?_
          refine lv_iadd hx hb d_PI_takeOfLayer_56 ?_
          refine va_iald (D := (dC, dI)) hx hb hK hP 2 0 rfl rfl (vq_ixL hi (e := 3) (by decide)) d_PI_takeOfLayer_57 ?_
          refine lv_i2l hx hb d_PI_takeOfLayer_58 rfl ?_
          refine lv_lmul hx hb d_PI_takeOfLayer_59 ?_
          refine lv_ladd hx hb d_PI_takeOfLayer_60 ?_
          refine va_last (D := (dC, dI)) hx hb hK hP hD hS 3 1 rfl rfl (vq_in 4 rfl (by decide) (by decide)) d_PI_takeOfLayer_61 (fun H locs hP hD hS => ?_)
          have hP : va_P (dC, dI) vq_cl [(pa, .inr (1, [.int zSl, .ref bLG, .ref bLS, .int zLy, .int zGr, .int zTk, .int zGt, .int (zLt + (ptF zSl (fLG x.toNatClampNeg) zTk)), .ref bLt, .ref bGS, .ref bGG, .ref bES, .ref bEG])), (bLG, .inl ((cs 0), 20, .inl fLG)), (bLS, .inl ((cs 0), 80, .inl fLS)), (bLt, .inl ((cs 1), 4, .inr (.inl (tolS (ptF zSl (fLG x.toNatClampNeg) zTk) fLS x (tolS (ptF zSl (fLG x.toNatClampNeg) zTk) fLS x (tolS (ptF zSl (fLG x.toNatClampNeg) zTk) fLS x (tolS (ptF zSl (fLG x.toNatClampNeg) zTk) fLS x fLt 0) 1) 2) 3))))] H := hP
          have hD : va_D A [(pa, .inr (1, [.int zSl, .ref bLG, .ref bLS, .int zLy, .int zGr, .int zTk, .int zGt, .int (zLt + (ptF zSl (fLG x.toNatClampNeg) zTk)), .ref bLt, .ref bGS, .ref bGG, .ref bES, .ref bEG])), (bLG, .inl ((cs 0), 20, .inl fLG)), (bLS, .inl ((cs 0), 80, .inl fLS)), (bLt, .inl ((cs 1), 4, .inr (.inl (tolS (ptF zSl (fLG x.toNatClampNeg) zTk) fLS x (tolS (ptF zSl (fLG x.toNatClampNeg) zTk) fLS x (tolS (ptF zSl (fLG x.toNatClampNeg) zTk) fLS x (tolS (ptF zSl (fLG x.toNatClampNeg) zTk) fLS x fLt 0) 1) 2) 3))))] := hD
          refine lv_iinc (v := 4) (lv' := [(3, .int 4), (2, .int (ptF zSl (fLG x.toNatClampNeg) zTk)), (0, .ref pa), (1, .int x)]) hx hb d_PI_takeOfLayer_62 hl (k := 0) rfl (by decide) (by decide) rfl (fun ls hl => ?_)
          refine lv_goto (tgt := 34) hx hb d_PI_takeOfLayer_65 (by decide) ?_
          refine lv_iload_n hx hb d_PI_takeOfLayer_34 rfl (lv_at hl 0 rfl) ?_
          refine lv_iconst (v := 4) hx hb d_PI_takeOfLayer_35 (by decide) ?_
          refine lv_icmp_ge (tgt := 68) hx hb d_PI_takeOfLayer_36 (by decide) (fun c_36 => ?_) (fun c_36 => ?_)
          · skip
            refine W.widen (k := 0) (n := 0) (Nat.le_of_ble_eq_true rfl) (Nat.le_of_ble_eq_true rfl) ?_
            have hP9 : va_P (dC, dI) vq_cl [(pa, .inr (1, [.int zSl, .ref bLG, .ref bLS, .int zLy, .int zGr, .int zTk, .int zGt, .int (zLt + (ptF zSl (fLG x.toNatClampNeg) zTk)), .ref bLt, .ref bGS, .ref bGG, .ref bES, .ref bEG])), (bLG, .inl ((cs 0), 20, .inl fLG)), (bLS, .inl ((cs 0), 80, .inl fLS)), (bLt, .inl ((cs 1), 4, .inr (.inl (tolS (ptF zSl (fLG x.toNatClampNeg) zTk) fLS x (tolS (ptF zSl (fLG x.toNatClampNeg) zTk) fLS x (tolS (ptF zSl (fLG x.toNatClampNeg) zTk) fLS x (tolS (ptF zSl (fLG x.toNatClampNeg) zTk) fLS x fLt 0) 1) 2) 3))))] _ := hP.sub [0, 1, 2, 3] rfl
            have hD9 : va_D A [(pa, .inr (1, [.int zSl, .ref bLG, .ref bLS, .int zLy, .int zGr, .int zTk, .int zGt, .int (zLt + (ptF zSl (fLG x.toNatClampNeg) zTk)), .ref bLt, .ref bGS, .ref bGG, .ref bES, .ref bEG])), (bLG, .inl ((cs 0), 20, .inl fLG)), (bLS, .inl ((cs 0), 80, .inl fLS)), (bLt, .inl ((cs 1), 4, .inr (.inl (tolS (ptF zSl (fLG x.toNatClampNeg) zTk) fLS x (tolS (ptF zSl (fLG x.toNatClampNeg) zTk) fLS x (tolS (ptF zSl (fLG x.toNatClampNeg) zTk) fLS x (tolS (ptF zSl (fLG x.toNatClampNeg) zTk) fLS x fLt 0) 1) 2) 3))))] := hD.sub [0, 1, 2, 3] (by decide) rfl
            have e9 : ([(pa, .inr (1, [.int zSl, .ref bLG, .ref bLS, .int zLy, .int zGr, .int zTk, .int zGt, .int (zLt + (ptF zSl (fLG x.toNatClampNeg) zTk)), .ref bLt, .ref bGS, .ref bGG, .ref bES, .ref bEG])), (bLG, .inl ((cs 0), 20, .inl fLG)), (bLS, .inl ((cs 0), 80, .inl fLS)), (bLt, .inl ((cs 1), 4, .inr (.inl (tol4 (ptF zSl (fLG x.toNatClampNeg) zTk) fLS x fLt))))] : va_W) = [(pa, .inr (1, [.int zSl, .ref bLG, .ref bLS, .int zLy, .int zGr, .int zTk, .int zGt, .int (zLt + (ptF zSl (fLG x.toNatClampNeg) zTk)), .ref bLt, .ref bGS, .ref bGG, .ref bES, .ref bEG])), (bLG, .inl ((cs 0), 20, .inl fLG)), (bLS, .inl ((cs 0), 80, .inl fLS)), (bLt, .inl ((cs 1), 4, .inr (.inl (tolS (ptF zSl (fLG x.toNatClampNeg) zTk) fLS x (tolS (ptF zSl (fLG x.toNatClampNeg) zTk) fLS x (tolS (ptF zSl (fLG x.toNatClampNeg) zTk) fLS x (tolS (ptF zSl (fLG x.toNatClampNeg) zTk) fLS x fLt 0) 1) 2) 3))))] := by rfl
            rw [← e9] at hP9 hD9
            exact W.vret hx hb hr (fun t ht hW => ⟨⟨(), rfl, trivial, ⟨by rw [ht]; exact hP9, hD9⟩⟩, hS.F ht⟩) hS.2.2 d_PI_takeOfLayer_68
          · skip
            exact absurd c_36 (by decide)
set_option maxHeartbeats 4000000 in
set_option maxRecDepth 100000 in
/-- noteGreatest -/
theorem c_noteGreatest (l : Launch) (dC : Nat → ClassId) (dI : Nat → Nat → Nat) (cs : Nat → ClassId) (sz : Nat) (pa : Nat) (bLG : Nat) (bLS : Nat) (bLt : Nat) (bGS : Nat) (bGG : Nat) (bES : Nat) (bEG : Nat) (zSl : Int32) (zLy : Int32) (zGr : Int32) (zTk : Int32) (zGt : Int32) (zLt : Int32) (fLt : Nat → Int64) (fGS : Nat → Int64) (fGG : Nat → Int32) (k : Int32) (hi : okE k) : Met l y_PI_noteGreatest w_PI_noteGreatest ({ frames := 0, cells := 0, slots := 0, locals := 0 }) (vq_Pre (dC, dI) cs [(pa, .inr (1, [.int zSl, .ref bLG, .ref bLS, .int zLy, .int zGr, .int zTk, .int zGt, .int zLt, .ref bLt, .ref bGS, .ref bGG, .ref bES, .ref bEG])), (bLt, .inl ((cs 1), 4, .inr (.inl fLt))), (bGS, .inl ((cs 1), 4, .inr (.inl fGS))), (bGG, .inl ((cs 0), 4, .inl fGG))] sz [.ref pa, .int k]) (va_Qv (fun (_ : Unit) => True) (vq_B (dC, dI) cs (va_A [(pa, .inr (1, [.int zSl, .ref bLG, .ref bLS, .int zLy, .int zGr, .int zTk, .int zGt, .int zLt, .ref bLt, .ref bGS, .ref bGG, .ref bES, .ref bEG])), (bLt, .inl ((cs 1), 4, .inr (.inl fLt))), (bGS, .inl ((cs 1), 4, .inr (.inl fGS))), (bGG, .inl ((cs 0), 4, .inl fGG))] sz) (fun _ => [(pa, .inr (1, [.int zSl, .ref bLG, .ref bLS, .int zLy, .int zGr, .int zTk, .int zGt, .int zLt, .ref bLt, .ref bGS, .ref bGG, .ref bES, .ref bEG])), (bLt, .inl ((cs 1), 4, .inr (.inl fLt))), (bGS, .inl ((cs 1), 4, .inr (.inl (ngS zLt fLt fGS fGG k)))), (bGG, .inl ((cs 0), 4, .inl (ngG zLt fLt fGS fGG k)))])) (va_A [(pa, .inr (1, [.int zSl, .ref bLG, .ref bLS, .int zLy, .int zGr, .int zTk, .int zGt, .int zLt, .ref bLt, .ref bGS, .ref bGG, .ref bES, .ref bEG])), (bLt, .inl ((cs 1), 4, .inr (.inl fLt))), (bGS, .inl ((cs 1), 4, .inr (.inl fGS))), (bGG, .inl ((cs 0), 4, .inl fGG))] sz)) 0 0 (va_A [(pa, .inr (1, [.int zSl, .ref bLG, .ref bLS, .int zLy, .int zGr, .int zTk, .int zGt, .int zLt, .ref bLt, .ref bGS, .ref bGG, .ref bES, .ref bEG])), (bLt, .inl ((cs 1), 4, .inr (.inl fLt))), (bGS, .inl ((cs 1), 4, .inr (.inl fGS))), (bGG, .inl ((cs 0), 4, .inl fGG))] sz) := by
  refine Met.ofW (cc := b_PI_noteGreatest) (maxL := 2) (ret := none) (by decide) rfl ?_
  intro p e s m args below meth c s₁ B hml hv
  obtain ⟨rfl, hsz, hP, hD0, hCx⟩ := hv
  have hx := B.exec
  have hb := B.bytes
  have hr := B.returns
  have hG := vq_hG (atoms_spec (ws := w_PI_noteGreatest) B.pre)
  have hown : s.vm.findClass R_PI = some m.cls := findClass_of_methodNamed B.named
  have hlocks := B.notSynchronized
  subst hsz
  have hK := hCx.1
  have hD := hD0.self (sz := s.heap.size)
  generalize hAe : va_A [(pa, .inr (1, [.int zSl, .ref bLG, .ref bLS, .int zLy, .int zGr, .int zTk, .int zGt, .int zLt, .ref bLt, .ref bGS, .ref bGG, .ref bES, .ref bEG])), (bLt, .inl ((cs 1), 4, .inr (.inl fLt))), (bGS, .inl ((cs 1), 4, .inr (.inl fGS))), (bGG, .inl ((cs 0), 4, .inl fGG))] s.heap.size = A at hD hCx ⊢
  have hA : ∀ q : Nat, s.heap.size ≤ q → A q := fun q h => by rw [← hAe]; exact Or.inr h
  have hA0 : ∀ q : Nat, s.heap.size ≤ q → va_A [] s.heap.size q := fun q h => Or.inr h
  have hS : va_S (va_A [] s.heap.size) s.heap s.heap [] := va_S.rf
  have hl := lv_entry ([.ref pa, .int k]) (n := 2) (Nat.le_of_ble_eq_true rfl)
  rw [lg_entry_eq]
  generalize (lg_sl ([.ref pa, .int k]) ++ List.replicate (2 - (lg_sl ([.ref pa, .int k])).length) Slot.unset).toArray = ls at hl ⊢
  have hl : lv_has ls 2 [(0, .ref pa), (1, .int k)] := hl
  have hP : va_P (dC, dI) vq_cl [(pa, .inr (1, [.int zSl, .ref bLG, .ref bLS, .int zLy, .int zGr, .int zTk, .int zGt, .int zLt, .ref bLt, .ref bGS, .ref bGG, .ref bES, .ref bEG])), (bLt, .inl ((cs 1), 4, .inr (.inl fLt))), (bGS, .inl ((cs 1), 4, .inr (.inl fGS))), (bGG, .inl ((cs 0), 4, .inl fGG))] s.heap := hP
  refine lv_aload_n hx hb d_PI_noteGreatest_0 rfl (lv_at hl 0 rfl) ?_
  refine va_get (D := (dC, dI)) (ci := 1) (v := .ref bGG) (C := R_PI) (T := F_PI) (N := 13) hx hb hG i_PI hown hK hP 0 rfl rfl 10 (by decide) (hG _ vq_t261) (fun _ h9 => h9) rfl d_PI_noteGreatest_1 ?_
  refine lv_iload_n hx hb d_PI_noteGreatest_4 rfl (lv_at hl 1 rfl) ?_
  refine va_iald (D := (dC, dI)) hx hb hK hP 3 0 rfl rfl (vq_in 4 rfl hi.1 hi.2) d_PI_noteGreatest_5 ?_
  refine lv_if_eq (tgt := 39) hx hb d_PI_noteGreatest_6 (by decide) (fun c_6 => ?_) (fun c_6 => ?_)
  · skip
    refine lv_aload_n hx hb d_PI_noteGreatest_39 rfl (lv_at hl 0 rfl) ?_
    refine va_get (D := (dC, dI)) (ci := 1) (v := .ref bGS) (C := R_PI) (T := F_PI) (N := 13) hx hb hG i_PI hown hK hP 0 rfl rfl 9 (by decide) (hG _ vq_t260) (fun _ h9 => h9) rfl d_PI_noteGreatest_40 ?_
    refine lv_iload_n hx hb d_PI_noteGreatest_43 rfl (lv_at hl 1 rfl) ?_
    refine lv_aload_n hx hb d_PI_noteGreatest_44 rfl (lv_at hl 0 rfl) ?_
    refine va_get (D := (dC, dI)) (ci := 1) (v := .ref bLt) (C := R_PI) (T := F_PI) (N := 13) hx hb hG i_PI hown hK hP 0 rfl rfl 8 (by decide) (hG _ vq_t258) (fun _ h9 => h9) rfl d_PI_noteGreatest_45 ?_
    refine lv_iload_n hx hb d_PI_noteGreatest_48 rfl (lv_at hl 1 rfl) ?_
    refine va_lald (D := (dC, dI)) hx hb hK hP 1 1 rfl rfl (vq_in 4 rfl hi.1 hi.2) d_PI_noteGreatest_49 ?_
    have hS := vq_wk hS hA
    refine va_last (D := (dC, dI)) hx hb hK hP hD hS 2 1 rfl rfl (vq_in 4 rfl hi.1 hi.2) d_PI_noteGreatest_50 (fun H locs hP hD hS => ?_)
    have hP : va_P (dC, dI) vq_cl [(pa, .inr (1, [.int zSl, .ref bLG, .ref bLS, .int zLy, .int zGr, .int zTk, .int zGt, .int zLt, .ref bLt, .ref bGS, .ref bGG, .ref bES, .ref bEG])), (bLt, .inl ((cs 1), 4, .inr (.inl fLt))), (bGS, .inl ((cs 1), 4, .inr (.inl (vp_updL fGS k.toNatClampNeg (fLt k.toNatClampNeg))))), (bGG, .inl ((cs 0), 4, .inl fGG))] H := hP
    have hD : va_D A [(pa, .inr (1, [.int zSl, .ref bLG, .ref bLS, .int zLy, .int zGr, .int zTk, .int zGt, .int zLt, .ref bLt, .ref bGS, .ref bGG, .ref bES, .ref bEG])), (bLt, .inl ((cs 1), 4, .inr (.inl fLt))), (bGS, .inl ((cs 1), 4, .inr (.inl (vp_updL fGS k.toNatClampNeg (fLt k.toNatClampNeg))))), (bGG, .inl ((cs 0), 4, .inl fGG))] := hD
    refine lv_aload_n hx hb d_PI_noteGreatest_51 rfl (lv_at hl 0 rfl) ?_
    refine va_get (D := (dC, dI)) (ci := 1) (v := .ref bGG) (C := R_PI) (T := F_PI) (N := 13) hx hb hG i_PI hown hK hP 0 rfl rfl 10 (by decide) (hG _ vq_t261) (fun _ h9 => h9) rfl d_PI_noteGreatest_52 ?_
    refine lv_iload_n hx hb d_PI_noteGreatest_55 rfl (lv_at hl 1 rfl) ?_
    refine lv_aload_n hx hb d_PI_noteGreatest_56 rfl (lv_at hl 0 rfl) ?_
    refine va_get (D := (dC, dI)) (ci := 1) (v := .int zLt) (C := R_PI) (T := F_PI) (N := 13) hx hb hG i_PI hown hK hP 0 rfl rfl 7 (by decide) (hG _ vq_t256) (fun _ h9 => h9) rfl d_PI_noteGreatest_57 ?_
    refine va_iast (D := (dC, dI)) hx hb hK hP hD hS 3 0 rfl rfl (vq_in 4 rfl hi.1 hi.2) d_PI_noteGreatest_60 (fun H locs hP hD hS => ?_)
    have hP : va_P (dC, dI) vq_cl [(pa, .inr (1, [.int zSl, .ref bLG, .ref bLS, .int zLy, .int zGr, .int zTk, .int zGt, .int zLt, .ref bLt, .ref bGS, .ref bGG, .ref bES, .ref bEG])), (bLt, .inl ((cs 1), 4, .inr (.inl fLt))), (bGS, .inl ((cs 1), 4, .inr (.inl (vp_updL fGS k.toNatClampNeg (fLt k.toNatClampNeg))))), (bGG, .inl ((cs 0), 4, .inl (upd fGG k.toNatClampNeg zLt)))] H := hP
    have hD : va_D A [(pa, .inr (1, [.int zSl, .ref bLG, .ref bLS, .int zLy, .int zGr, .int zTk, .int zGt, .int zLt, .ref bLt, .ref bGS, .ref bGG, .ref bES, .ref bEG])), (bLt, .inl ((cs 1), 4, .inr (.inl fLt))), (bGS, .inl ((cs 1), 4, .inr (.inl (vp_updL fGS k.toNatClampNeg (fLt k.toNatClampNeg))))), (bGG, .inl ((cs 0), 4, .inl (upd fGG k.toNatClampNeg zLt)))] := hD
    refine W.widen (k := 0) (n := 0) (Nat.le_of_ble_eq_true rfl) (Nat.le_of_ble_eq_true rfl) ?_
    have hP9 : va_P (dC, dI) vq_cl [(pa, .inr (1, [.int zSl, .ref bLG, .ref bLS, .int zLy, .int zGr, .int zTk, .int zGt, .int zLt, .ref bLt, .ref bGS, .ref bGG, .ref bES, .ref bEG])), (bLt, .inl ((cs 1), 4, .inr (.inl fLt))), (bGS, .inl ((cs 1), 4, .inr (.inl (vp_updL fGS k.toNatClampNeg (fLt k.toNatClampNeg))))), (bGG, .inl ((cs 0), 4, .inl (upd fGG k.toNatClampNeg zLt)))] _ := hP.sub [0, 1, 2, 3] rfl
    have hD9 : va_D A [(pa, .inr (1, [.int zSl, .ref bLG, .ref bLS, .int zLy, .int zGr, .int zTk, .int zGt, .int zLt, .ref bLt, .ref bGS, .ref bGG, .ref bES, .ref bEG])), (bLt, .inl ((cs 1), 4, .inr (.inl fLt))), (bGS, .inl ((cs 1), 4, .inr (.inl (vp_updL fGS k.toNatClampNeg (fLt k.toNatClampNeg))))), (bGG, .inl ((cs 0), 4, .inl (upd fGG k.toNatClampNeg zLt)))] := hD.sub [0, 1, 2, 3] (by decide) rfl
    have e9 : ([(pa, .inr (1, [.int zSl, .ref bLG, .ref bLS, .int zLy, .int zGr, .int zTk, .int zGt, .int zLt, .ref bLt, .ref bGS, .ref bGG, .ref bES, .ref bEG])), (bLt, .inl ((cs 1), 4, .inr (.inl fLt))), (bGS, .inl ((cs 1), 4, .inr (.inl (ngS zLt fLt fGS fGG k)))), (bGG, .inl ((cs 0), 4, .inl (ngG zLt fLt fGS fGG k)))] : va_W) = [(pa, .inr (1, [.int zSl, .ref bLG, .ref bLS, .int zLy, .int zGr, .int zTk, .int zGt, .int zLt, .ref bLt, .ref bGS, .ref bGG, .ref bES, .ref bEG])), (bLt, .inl ((cs 1), 4, .inr (.inl fLt))), (bGS, .inl ((cs 1), 4, .inr (.inl (vp_updL fGS k.toNatClampNeg (fLt k.toNatClampNeg))))), (bGG, .inl ((cs 0), 4, .inl (upd fGG k.toNatClampNeg zLt)))] := by simp only [ngS, ngG, if_pos c_6]
    rw [← e9] at hP9 hD9
    exact W.vret hx hb hr (fun t ht hW => ⟨⟨(), rfl, trivial, ⟨by rw [ht]; exact hP9, hD9⟩⟩, hS.F ht⟩) hS.2.2 d_PI_noteGreatest_61
  · skip
    refine lv_aload_n hx hb d_PI_noteGreatest_9 rfl (lv_at hl 0 rfl) ?_
    refine va_get (D := (dC, dI)) (ci := 1) (v := .ref bLt) (C := R_PI) (T := F_PI) (N := 13) hx hb hG i_PI hown hK hP 0 rfl rfl 8 (by decide) (hG _ vq_t258) (fun _ h9 => h9) rfl d_PI_noteGreatest_10 ?_
    refine lv_iload_n hx hb d_PI_noteGreatest_13 rfl (lv_at hl 1 rfl) ?_
    refine va_lald (D := (dC, dI)) hx hb hK hP 1 1 rfl rfl (vq_in 4 rfl hi.1 hi.2) d_PI_noteGreatest_14 ?_
    refine lv_aload_n hx hb d_PI_noteGreatest_15 rfl (lv_at hl 0 rfl) ?_
    refine va_get (D := (dC, dI)) (ci := 1) (v := .ref bGG) (C := R_PI) (T := F_PI) (N := 13) hx hb hG i_PI hown hK hP 0 rfl rfl 10 (by decide) (hG _ vq_t261) (fun _ h9 => h9) rfl d_PI_noteGreatest_16 ?_
    refine lv_iload_n hx hb d_PI_noteGreatest_19 rfl (lv_at hl 1 rfl) ?_
    refine va_iald (D := (dC, dI)) hx hb hK hP 3 0 rfl rfl (vq_in 4 rfl hi.1 hi.2) d_PI_noteGreatest_20 ?_
    refine lv_i2l hx hb d_PI_noteGreatest_21 rfl ?_
    refine lv_lmul hx hb d_PI_noteGreatest_22 ?_
    refine lv_aload_n hx hb d_PI_noteGreatest_23 rfl (lv_at hl 0 rfl) ?_
    refine va_get (D := (dC, dI)) (ci := 1) (v := .ref bGS) (C := R_PI) (T := F_PI) (N := 13) hx hb hG i_PI hown hK hP 0 rfl rfl 9 (by decide) (hG _ vq_t260) (fun _ h9 => h9) rfl d_PI_noteGreatest_24 ?_
    refine lv_iload_n hx hb d_PI_noteGreatest_27 rfl (lv_at hl 1 rfl) ?_
    refine va_lald (D := (dC, dI)) hx hb hK hP 2 1 rfl rfl (vq_in 4 rfl hi.1 hi.2) d_PI_noteGreatest_28 ?_
    refine lv_aload_n hx hb d_PI_noteGreatest_29 rfl (lv_at hl 0 rfl) ?_
    refine va_get (D := (dC, dI)) (ci := 1) (v := .int zLt) (C := R_PI) (T := F_PI) (N := 13) hx hb hG i_PI hown hK hP 0 rfl rfl 7 (by decide) (hG _ vq_t256) (fun _ h9 => h9) rfl d_PI_noteGreatest_30 ?_
    refine lv_i2l hx hb d_PI_noteGreatest_33 rfl ?_
    refine lv_lmul hx hb d_PI_noteGreatest_34 ?_
    refine W.lcmp hx hb d_PI_noteGreatest_35 ?_
    refine lv_if_le (tgt := 61) hx hb d_PI_noteGreatest_36 (by decide) (fun c_36 => ?_) (fun c_36 => ?_)
    · skip
      have c_36 := (lg_cmp_le ((fLt k.toNatClampNeg) * ((fGG k.toNatClampNeg).toInt64)) ((fGS k.toNatClampNeg) * zLt.toInt64)).mp c_36
      have hS := vq_wk hS hA
      refine W.widen (k := 0) (n := 0) (Nat.le_of_ble_eq_true rfl) (Nat.le_of_ble_eq_true rfl) ?_
      have hP9 : va_P (dC, dI) vq_cl [(pa, .inr (1, [.int zSl, .ref bLG, .ref bLS, .int zLy, .int zGr, .int zTk, .int zGt, .int zLt, .ref bLt, .ref bGS, .ref bGG, .ref bES, .ref bEG])), (bLt, .inl ((cs 1), 4, .inr (.inl fLt))), (bGS, .inl ((cs 1), 4, .inr (.inl fGS))), (bGG, .inl ((cs 0), 4, .inl fGG))] _ := hP.sub [0, 1, 2, 3] rfl
      have hD9 : va_D A [(pa, .inr (1, [.int zSl, .ref bLG, .ref bLS, .int zLy, .int zGr, .int zTk, .int zGt, .int zLt, .ref bLt, .ref bGS, .ref bGG, .ref bES, .ref bEG])), (bLt, .inl ((cs 1), 4, .inr (.inl fLt))), (bGS, .inl ((cs 1), 4, .inr (.inl fGS))), (bGG, .inl ((cs 0), 4, .inl fGG))] := hD.sub [0, 1, 2, 3] (by decide) rfl
      have e9 : ([(pa, .inr (1, [.int zSl, .ref bLG, .ref bLS, .int zLy, .int zGr, .int zTk, .int zGt, .int zLt, .ref bLt, .ref bGS, .ref bGG, .ref bES, .ref bEG])), (bLt, .inl ((cs 1), 4, .inr (.inl fLt))), (bGS, .inl ((cs 1), 4, .inr (.inl (ngS zLt fLt fGS fGG k)))), (bGG, .inl ((cs 0), 4, .inl (ngG zLt fLt fGS fGG k)))] : va_W) = [(pa, .inr (1, [.int zSl, .ref bLG, .ref bLS, .int zLy, .int zGr, .int zTk, .int zGt, .int zLt, .ref bLt, .ref bGS, .ref bGG, .ref bES, .ref bEG])), (bLt, .inl ((cs 1), 4, .inr (.inl fLt))), (bGS, .inl ((cs 1), 4, .inr (.inl fGS))), (bGG, .inl ((cs 0), 4, .inl fGG))] := by simp only [ngS, ngG, if_neg c_6, if_pos c_36]
      rw [← e9] at hP9 hD9
      exact W.vret hx hb hr (fun t ht hW => ⟨⟨(), rfl, trivial, ⟨by rw [ht]; exact hP9, hD9⟩⟩, hS.F ht⟩) hS.2.2 d_PI_noteGreatest_61
    · skip
      have c_36 := (not_congr (lg_cmp_le ((fLt k.toNatClampNeg) * ((fGG k.toNatClampNeg).toInt64)) ((fGS k.toNatClampNeg) * zLt.toInt64))).mp c_36
      refine lv_aload_n hx hb d_PI_noteGreatest_39 rfl (lv_at hl 0 rfl) ?_
      refine va_get (D := (dC, dI)) (ci := 1) (v := .ref bGS) (C := R_PI) (T := F_PI) (N := 13) hx hb hG i_PI hown hK hP 0 rfl rfl 9 (by decide) (hG _ vq_t260) (fun _ h9 => h9) rfl d_PI_noteGreatest_40 ?_
      refine lv_iload_n hx hb d_PI_noteGreatest_43 rfl (lv_at hl 1 rfl) ?_
      refine lv_aload_n hx hb d_PI_noteGreatest_44 rfl (lv_at hl 0 rfl) ?_
      refine va_get (D := (dC, dI)) (ci := 1) (v := .ref bLt) (C := R_PI) (T := F_PI) (N := 13) hx hb hG i_PI hown hK hP 0 rfl rfl 8 (by decide) (hG _ vq_t258) (fun _ h9 => h9) rfl d_PI_noteGreatest_45 ?_
      refine lv_iload_n hx hb d_PI_noteGreatest_48 rfl (lv_at hl 1 rfl) ?_
      refine va_lald (D := (dC, dI)) hx hb hK hP 1 1 rfl rfl (vq_in 4 rfl hi.1 hi.2) d_PI_noteGreatest_49 ?_
      have hS := vq_wk hS hA
      refine va_last (D := (dC, dI)) hx hb hK hP hD hS 2 1 rfl rfl (vq_in 4 rfl hi.1 hi.2) d_PI_noteGreatest_50 (fun H locs hP hD hS => ?_)
      have hP : va_P (dC, dI) vq_cl [(pa, .inr (1, [.int zSl, .ref bLG, .ref bLS, .int zLy, .int zGr, .int zTk, .int zGt, .int zLt, .ref bLt, .ref bGS, .ref bGG, .ref bES, .ref bEG])), (bLt, .inl ((cs 1), 4, .inr (.inl fLt))), (bGS, .inl ((cs 1), 4, .inr (.inl (vp_updL fGS k.toNatClampNeg (fLt k.toNatClampNeg))))), (bGG, .inl ((cs 0), 4, .inl fGG))] H := hP
      have hD : va_D A [(pa, .inr (1, [.int zSl, .ref bLG, .ref bLS, .int zLy, .int zGr, .int zTk, .int zGt, .int zLt, .ref bLt, .ref bGS, .ref bGG, .ref bES, .ref bEG])), (bLt, .inl ((cs 1), 4, .inr (.inl fLt))), (bGS, .inl ((cs 1), 4, .inr (.inl (vp_updL fGS k.toNatClampNeg (fLt k.toNatClampNeg))))), (bGG, .inl ((cs 0), 4, .inl fGG))] := hD
      refine lv_aload_n hx hb d_PI_noteGreatest_51 rfl (lv_at hl 0 rfl) ?_
      refine va_get (D := (dC, dI)) (ci := 1) (v := .ref bGG) (C := R_PI) (T := F_PI) (N := 13) hx hb hG i_PI hown hK hP 0 rfl rfl 10 (by decide) (hG _ vq_t261) (fun _ h9 => h9) rfl d_PI_noteGreatest_52 ?_
      refine lv_iload_n hx hb d_PI_noteGreatest_55 rfl (lv_at hl 1 rfl) ?_
      refine lv_aload_n hx hb d_PI_noteGreatest_56 rfl (lv_at hl 0 rfl) ?_
      refine va_get (D := (dC, dI)) (ci := 1) (v := .int zLt) (C := R_PI) (T := F_PI) (N := 13) hx hb hG i_PI hown hK hP 0 rfl rfl 7 (by decide) (hG _ vq_t256) (fun _ h9 => h9) rfl d_PI_noteGreatest_57 ?_
      refine va_iast (D := (dC, dI)) hx hb hK hP hD hS 3 0 rfl rfl (vq_in 4 rfl hi.1 hi.2) d_PI_noteGreatest_60 (fun H locs hP hD hS => ?_)
      have hP : va_P (dC, dI) vq_cl [(pa, .inr (1, [.int zSl, .ref bLG, .ref bLS, .int zLy, .int zGr, .int zTk, .int zGt, .int zLt, .ref bLt, .ref bGS, .ref bGG, .ref bES, .ref bEG])), (bLt, .inl ((cs 1), 4, .inr (.inl fLt))), (bGS, .inl ((cs 1), 4, .inr (.inl (vp_updL fGS k.toNatClampNeg (fLt k.toNatClampNeg))))), (bGG, .inl ((cs 0), 4, .inl (upd fGG k.toNatClampNeg zLt)))] H := hP
      have hD : va_D A [(pa, .inr (1, [.int zSl, .ref bLG, .ref bLS, .int zLy, .int zGr, .int zTk, .int zGt, .int zLt, .ref bLt, .ref bGS, .ref bGG, .ref bES, .ref bEG])), (bLt, .inl ((cs 1), 4, .inr (.inl fLt))), (bGS, .inl ((cs 1), 4, .inr (.inl (vp_updL fGS k.toNatClampNeg (fLt k.toNatClampNeg))))), (bGG, .inl ((cs 0), 4, .inl (upd fGG k.toNatClampNeg zLt)))] := hD
      refine W.widen (k := 0) (n := 0) (Nat.le_of_ble_eq_true rfl) (Nat.le_of_ble_eq_true rfl) ?_
      have hP9 : va_P (dC, dI) vq_cl [(pa, .inr (1, [.int zSl, .ref bLG, .ref bLS, .int zLy, .int zGr, .int zTk, .int zGt, .int zLt, .ref bLt, .ref bGS, .ref bGG, .ref bES, .ref bEG])), (bLt, .inl ((cs 1), 4, .inr (.inl fLt))), (bGS, .inl ((cs 1), 4, .inr (.inl (vp_updL fGS k.toNatClampNeg (fLt k.toNatClampNeg))))), (bGG, .inl ((cs 0), 4, .inl (upd fGG k.toNatClampNeg zLt)))] _ := hP.sub [0, 1, 2, 3] rfl
      have hD9 : va_D A [(pa, .inr (1, [.int zSl, .ref bLG, .ref bLS, .int zLy, .int zGr, .int zTk, .int zGt, .int zLt, .ref bLt, .ref bGS, .ref bGG, .ref bES, .ref bEG])), (bLt, .inl ((cs 1), 4, .inr (.inl fLt))), (bGS, .inl ((cs 1), 4, .inr (.inl (vp_updL fGS k.toNatClampNeg (fLt k.toNatClampNeg))))), (bGG, .inl ((cs 0), 4, .inl (upd fGG k.toNatClampNeg zLt)))] := hD.sub [0, 1, 2, 3] (by decide) rfl
      have e9 : ([(pa, .inr (1, [.int zSl, .ref bLG, .ref bLS, .int zLy, .int zGr, .int zTk, .int zGt, .int zLt, .ref bLt, .ref bGS, .ref bGG, .ref bES, .ref bEG])), (bLt, .inl ((cs 1), 4, .inr (.inl fLt))), (bGS, .inl ((cs 1), 4, .inr (.inl (ngS zLt fLt fGS fGG k)))), (bGG, .inl ((cs 0), 4, .inl (ngG zLt fLt fGS fGG k)))] : va_W) = [(pa, .inr (1, [.int zSl, .ref bLG, .ref bLS, .int zLy, .int zGr, .int zTk, .int zGt, .int zLt, .ref bLt, .ref bGS, .ref bGG, .ref bES, .ref bEG])), (bLt, .inl ((cs 1), 4, .inr (.inl fLt))), (bGS, .inl ((cs 1), 4, .inr (.inl (vp_updL fGS k.toNatClampNeg (fLt k.toNatClampNeg))))), (bGG, .inl ((cs 0), 4, .inl (upd fGG k.toNatClampNeg zLt)))] := by simp only [ngS, ngG, if_neg c_6, if_neg c_36]
      rw [← e9] at hP9 hD9
      exact W.vret hx hb hr (fun t ht hW => ⟨⟨(), rfl, trivial, ⟨by rw [ht]; exact hP9, hD9⟩⟩, hS.F ht⟩) hS.2.2 d_PI_noteGreatest_61
set_option maxHeartbeats 4000000 in
set_option maxRecDepth 100000 in
/-- noteLeast -/
theorem c_noteLeast (l : Launch) (dC : Nat → ClassId) (dI : Nat → Nat → Nat) (cs : Nat → ClassId) (sz : Nat) (pa : Nat) (bLG : Nat) (bLS : Nat) (bLt : Nat) (bGS : Nat) (bGG : Nat) (bES : Nat) (bEG : Nat) (zSl : Int32) (zLy : Int32) (zGr : Int32) (zTk : Int32) (zGt : Int32) (zLt : Int32) (fLt : Nat → Int64) (fES : Nat → Int64) (fEG : Nat → Int32) (k : Int32) (hi : okE k) : Met l y_PI_noteLeast w_PI_noteLeast ({ frames := 0, cells := 0, slots := 0, locals := 0 }) (vq_Pre (dC, dI) cs [(pa, .inr (1, [.int zSl, .ref bLG, .ref bLS, .int zLy, .int zGr, .int zTk, .int zGt, .int zLt, .ref bLt, .ref bGS, .ref bGG, .ref bES, .ref bEG])), (bLt, .inl ((cs 1), 4, .inr (.inl fLt))), (bES, .inl ((cs 1), 4, .inr (.inl fES))), (bEG, .inl ((cs 0), 4, .inl fEG))] sz [.ref pa, .int k]) (va_Qv (fun (_ : Unit) => True) (vq_B (dC, dI) cs (va_A [(pa, .inr (1, [.int zSl, .ref bLG, .ref bLS, .int zLy, .int zGr, .int zTk, .int zGt, .int zLt, .ref bLt, .ref bGS, .ref bGG, .ref bES, .ref bEG])), (bLt, .inl ((cs 1), 4, .inr (.inl fLt))), (bES, .inl ((cs 1), 4, .inr (.inl fES))), (bEG, .inl ((cs 0), 4, .inl fEG))] sz) (fun _ => [(pa, .inr (1, [.int zSl, .ref bLG, .ref bLS, .int zLy, .int zGr, .int zTk, .int zGt, .int zLt, .ref bLt, .ref bGS, .ref bGG, .ref bES, .ref bEG])), (bLt, .inl ((cs 1), 4, .inr (.inl fLt))), (bES, .inl ((cs 1), 4, .inr (.inl (neS zLt fLt fES fEG k)))), (bEG, .inl ((cs 0), 4, .inl (neG zLt fLt fES fEG k)))])) (va_A [(pa, .inr (1, [.int zSl, .ref bLG, .ref bLS, .int zLy, .int zGr, .int zTk, .int zGt, .int zLt, .ref bLt, .ref bGS, .ref bGG, .ref bES, .ref bEG])), (bLt, .inl ((cs 1), 4, .inr (.inl fLt))), (bES, .inl ((cs 1), 4, .inr (.inl fES))), (bEG, .inl ((cs 0), 4, .inl fEG))] sz)) 0 0 (va_A [(pa, .inr (1, [.int zSl, .ref bLG, .ref bLS, .int zLy, .int zGr, .int zTk, .int zGt, .int zLt, .ref bLt, .ref bGS, .ref bGG, .ref bES, .ref bEG])), (bLt, .inl ((cs 1), 4, .inr (.inl fLt))), (bES, .inl ((cs 1), 4, .inr (.inl fES))), (bEG, .inl ((cs 0), 4, .inl fEG))] sz) := by
  refine Met.ofW (cc := b_PI_noteLeast) (maxL := 2) (ret := none) (by decide) rfl ?_
  intro p e s m args below meth c s₁ B hml hv
  obtain ⟨rfl, hsz, hP, hD0, hCx⟩ := hv
  have hx := B.exec
  have hb := B.bytes
  have hr := B.returns
  have hG := vq_hG (atoms_spec (ws := w_PI_noteLeast) B.pre)
  have hown : s.vm.findClass R_PI = some m.cls := findClass_of_methodNamed B.named
  have hlocks := B.notSynchronized
  subst hsz
  have hK := hCx.1
  have hD := hD0.self (sz := s.heap.size)
  generalize hAe : va_A [(pa, .inr (1, [.int zSl, .ref bLG, .ref bLS, .int zLy, .int zGr, .int zTk, .int zGt, .int zLt, .ref bLt, .ref bGS, .ref bGG, .ref bES, .ref bEG])), (bLt, .inl ((cs 1), 4, .inr (.inl fLt))), (bES, .inl ((cs 1), 4, .inr (.inl fES))), (bEG, .inl ((cs 0), 4, .inl fEG))] s.heap.size = A at hD hCx ⊢
  have hA : ∀ q : Nat, s.heap.size ≤ q → A q := fun q h => by rw [← hAe]; exact Or.inr h
  have hA0 : ∀ q : Nat, s.heap.size ≤ q → va_A [] s.heap.size q := fun q h => Or.inr h
  have hS : va_S (va_A [] s.heap.size) s.heap s.heap [] := va_S.rf
  have hl := lv_entry ([.ref pa, .int k]) (n := 2) (Nat.le_of_ble_eq_true rfl)
  rw [lg_entry_eq]
  generalize (lg_sl ([.ref pa, .int k]) ++ List.replicate (2 - (lg_sl ([.ref pa, .int k])).length) Slot.unset).toArray = ls at hl ⊢
  have hl : lv_has ls 2 [(0, .ref pa), (1, .int k)] := hl
  have hP : va_P (dC, dI) vq_cl [(pa, .inr (1, [.int zSl, .ref bLG, .ref bLS, .int zLy, .int zGr, .int zTk, .int zGt, .int zLt, .ref bLt, .ref bGS, .ref bGG, .ref bES, .ref bEG])), (bLt, .inl ((cs 1), 4, .inr (.inl fLt))), (bES, .inl ((cs 1), 4, .inr (.inl fES))), (bEG, .inl ((cs 0), 4, .inl fEG))] s.heap := hP
  refine lv_aload_n hx hb d_PI_noteLeast_0 rfl (lv_at hl 0 rfl) ?_
  refine va_get (D := (dC, dI)) (ci := 1) (v := .ref bEG) (C := R_PI) (T := F_PI) (N := 13) hx hb hG i_PI hown hK hP 0 rfl rfl 12 (by decide) (hG _ vq_t263) (fun _ h9 => h9) rfl d_PI_noteLeast_1 ?_
  refine lv_iload_n hx hb d_PI_noteLeast_4 rfl (lv_at hl 1 rfl) ?_
  refine va_iald (D := (dC, dI)) hx hb hK hP 3 0 rfl rfl (vq_in 4 rfl hi.1 hi.2) d_PI_noteLeast_5 ?_
  refine lv_if_eq (tgt := 39) hx hb d_PI_noteLeast_6 (by decide) (fun c_6 => ?_) (fun c_6 => ?_)
  · skip
    refine lv_aload_n hx hb d_PI_noteLeast_39 rfl (lv_at hl 0 rfl) ?_
    refine va_get (D := (dC, dI)) (ci := 1) (v := .ref bES) (C := R_PI) (T := F_PI) (N := 13) hx hb hG i_PI hown hK hP 0 rfl rfl 11 (by decide) (hG _ vq_t262) (fun _ h9 => h9) rfl d_PI_noteLeast_40 ?_
    refine lv_iload_n hx hb d_PI_noteLeast_43 rfl (lv_at hl 1 rfl) ?_
    refine lv_aload_n hx hb d_PI_noteLeast_44 rfl (lv_at hl 0 rfl) ?_
    refine va_get (D := (dC, dI)) (ci := 1) (v := .ref bLt) (C := R_PI) (T := F_PI) (N := 13) hx hb hG i_PI hown hK hP 0 rfl rfl 8 (by decide) (hG _ vq_t258) (fun _ h9 => h9) rfl d_PI_noteLeast_45 ?_
    refine lv_iload_n hx hb d_PI_noteLeast_48 rfl (lv_at hl 1 rfl) ?_
    refine va_lald (D := (dC, dI)) hx hb hK hP 1 1 rfl rfl (vq_in 4 rfl hi.1 hi.2) d_PI_noteLeast_49 ?_
    have hS := vq_wk hS hA
    refine va_last (D := (dC, dI)) hx hb hK hP hD hS 2 1 rfl rfl (vq_in 4 rfl hi.1 hi.2) d_PI_noteLeast_50 (fun H locs hP hD hS => ?_)
    have hP : va_P (dC, dI) vq_cl [(pa, .inr (1, [.int zSl, .ref bLG, .ref bLS, .int zLy, .int zGr, .int zTk, .int zGt, .int zLt, .ref bLt, .ref bGS, .ref bGG, .ref bES, .ref bEG])), (bLt, .inl ((cs 1), 4, .inr (.inl fLt))), (bES, .inl ((cs 1), 4, .inr (.inl (vp_updL fES k.toNatClampNeg (fLt k.toNatClampNeg))))), (bEG, .inl ((cs 0), 4, .inl fEG))] H := hP
    have hD : va_D A [(pa, .inr (1, [.int zSl, .ref bLG, .ref bLS, .int zLy, .int zGr, .int zTk, .int zGt, .int zLt, .ref bLt, .ref bGS, .ref bGG, .ref bES, .ref bEG])), (bLt, .inl ((cs 1), 4, .inr (.inl fLt))), (bES, .inl ((cs 1), 4, .inr (.inl (vp_updL fES k.toNatClampNeg (fLt k.toNatClampNeg))))), (bEG, .inl ((cs 0), 4, .inl fEG))] := hD
    refine lv_aload_n hx hb d_PI_noteLeast_51 rfl (lv_at hl 0 rfl) ?_
    refine va_get (D := (dC, dI)) (ci := 1) (v := .ref bEG) (C := R_PI) (T := F_PI) (N := 13) hx hb hG i_PI hown hK hP 0 rfl rfl 12 (by decide) (hG _ vq_t263) (fun _ h9 => h9) rfl d_PI_noteLeast_52 ?_
    refine lv_iload_n hx hb d_PI_noteLeast_55 rfl (lv_at hl 1 rfl) ?_
    refine lv_aload_n hx hb d_PI_noteLeast_56 rfl (lv_at hl 0 rfl) ?_
    refine va_get (D := (dC, dI)) (ci := 1) (v := .int zLt) (C := R_PI) (T := F_PI) (N := 13) hx hb hG i_PI hown hK hP 0 rfl rfl 7 (by decide) (hG _ vq_t256) (fun _ h9 => h9) rfl d_PI_noteLeast_57 ?_
    refine va_iast (D := (dC, dI)) hx hb hK hP hD hS 3 0 rfl rfl (vq_in 4 rfl hi.1 hi.2) d_PI_noteLeast_60 (fun H locs hP hD hS => ?_)
    have hP : va_P (dC, dI) vq_cl [(pa, .inr (1, [.int zSl, .ref bLG, .ref bLS, .int zLy, .int zGr, .int zTk, .int zGt, .int zLt, .ref bLt, .ref bGS, .ref bGG, .ref bES, .ref bEG])), (bLt, .inl ((cs 1), 4, .inr (.inl fLt))), (bES, .inl ((cs 1), 4, .inr (.inl (vp_updL fES k.toNatClampNeg (fLt k.toNatClampNeg))))), (bEG, .inl ((cs 0), 4, .inl (upd fEG k.toNatClampNeg zLt)))] H := hP
    have hD : va_D A [(pa, .inr (1, [.int zSl, .ref bLG, .ref bLS, .int zLy, .int zGr, .int zTk, .int zGt, .int zLt, .ref bLt, .ref bGS, .ref bGG, .ref bES, .ref bEG])), (bLt, .inl ((cs 1), 4, .inr (.inl fLt))), (bES, .inl ((cs 1), 4, .inr (.inl (vp_updL fES k.toNatClampNeg (fLt k.toNatClampNeg))))), (bEG, .inl ((cs 0), 4, .inl (upd fEG k.toNatClampNeg zLt)))] := hD
    refine W.widen (k := 0) (n := 0) (Nat.le_of_ble_eq_true rfl) (Nat.le_of_ble_eq_true rfl) ?_
    have hP9 : va_P (dC, dI) vq_cl [(pa, .inr (1, [.int zSl, .ref bLG, .ref bLS, .int zLy, .int zGr, .int zTk, .int zGt, .int zLt, .ref bLt, .ref bGS, .ref bGG, .ref bES, .ref bEG])), (bLt, .inl ((cs 1), 4, .inr (.inl fLt))), (bES, .inl ((cs 1), 4, .inr (.inl (vp_updL fES k.toNatClampNeg (fLt k.toNatClampNeg))))), (bEG, .inl ((cs 0), 4, .inl (upd fEG k.toNatClampNeg zLt)))] _ := hP.sub [0, 1, 2, 3] rfl
    have hD9 : va_D A [(pa, .inr (1, [.int zSl, .ref bLG, .ref bLS, .int zLy, .int zGr, .int zTk, .int zGt, .int zLt, .ref bLt, .ref bGS, .ref bGG, .ref bES, .ref bEG])), (bLt, .inl ((cs 1), 4, .inr (.inl fLt))), (bES, .inl ((cs 1), 4, .inr (.inl (vp_updL fES k.toNatClampNeg (fLt k.toNatClampNeg))))), (bEG, .inl ((cs 0), 4, .inl (upd fEG k.toNatClampNeg zLt)))] := hD.sub [0, 1, 2, 3] (by decide) rfl
    have e9 : ([(pa, .inr (1, [.int zSl, .ref bLG, .ref bLS, .int zLy, .int zGr, .int zTk, .int zGt, .int zLt, .ref bLt, .ref bGS, .ref bGG, .ref bES, .ref bEG])), (bLt, .inl ((cs 1), 4, .inr (.inl fLt))), (bES, .inl ((cs 1), 4, .inr (.inl (neS zLt fLt fES fEG k)))), (bEG, .inl ((cs 0), 4, .inl (neG zLt fLt fES fEG k)))] : va_W) = [(pa, .inr (1, [.int zSl, .ref bLG, .ref bLS, .int zLy, .int zGr, .int zTk, .int zGt, .int zLt, .ref bLt, .ref bGS, .ref bGG, .ref bES, .ref bEG])), (bLt, .inl ((cs 1), 4, .inr (.inl fLt))), (bES, .inl ((cs 1), 4, .inr (.inl (vp_updL fES k.toNatClampNeg (fLt k.toNatClampNeg))))), (bEG, .inl ((cs 0), 4, .inl (upd fEG k.toNatClampNeg zLt)))] := by simp only [neS, neG, if_pos c_6]
    rw [← e9] at hP9 hD9
    exact W.vret hx hb hr (fun t ht hW => ⟨⟨(), rfl, trivial, ⟨by rw [ht]; exact hP9, hD9⟩⟩, hS.F ht⟩) hS.2.2 d_PI_noteLeast_61
  · skip
    refine lv_aload_n hx hb d_PI_noteLeast_9 rfl (lv_at hl 0 rfl) ?_
    refine va_get (D := (dC, dI)) (ci := 1) (v := .ref bLt) (C := R_PI) (T := F_PI) (N := 13) hx hb hG i_PI hown hK hP 0 rfl rfl 8 (by decide) (hG _ vq_t258) (fun _ h9 => h9) rfl d_PI_noteLeast_10 ?_
    refine lv_iload_n hx hb d_PI_noteLeast_13 rfl (lv_at hl 1 rfl) ?_
    refine va_lald (D := (dC, dI)) hx hb hK hP 1 1 rfl rfl (vq_in 4 rfl hi.1 hi.2) d_PI_noteLeast_14 ?_
    refine lv_aload_n hx hb d_PI_noteLeast_15 rfl (lv_at hl 0 rfl) ?_
    refine va_get (D := (dC, dI)) (ci := 1) (v := .ref bEG) (C := R_PI) (T := F_PI) (N := 13) hx hb hG i_PI hown hK hP 0 rfl rfl 12 (by decide) (hG _ vq_t263) (fun _ h9 => h9) rfl d_PI_noteLeast_16 ?_
    refine lv_iload_n hx hb d_PI_noteLeast_19 rfl (lv_at hl 1 rfl) ?_
    refine va_iald (D := (dC, dI)) hx hb hK hP 3 0 rfl rfl (vq_in 4 rfl hi.1 hi.2) d_PI_noteLeast_20 ?_
    refine lv_i2l hx hb d_PI_noteLeast_21 rfl ?_
    refine lv_lmul hx hb d_PI_noteLeast_22 ?_
    refine lv_aload_n hx hb d_PI_noteLeast_23 rfl (lv_at hl 0 rfl) ?_
    refine va_get (D := (dC, dI)) (ci := 1) (v := .ref bES) (C := R_PI) (T := F_PI) (N := 13) hx hb hG i_PI hown hK hP 0 rfl rfl 11 (by decide) (hG _ vq_t262) (fun _ h9 => h9) rfl d_PI_noteLeast_24 ?_
    refine lv_iload_n hx hb d_PI_noteLeast_27 rfl (lv_at hl 1 rfl) ?_
    refine va_lald (D := (dC, dI)) hx hb hK hP 2 1 rfl rfl (vq_in 4 rfl hi.1 hi.2) d_PI_noteLeast_28 ?_
    refine lv_aload_n hx hb d_PI_noteLeast_29 rfl (lv_at hl 0 rfl) ?_
    refine va_get (D := (dC, dI)) (ci := 1) (v := .int zLt) (C := R_PI) (T := F_PI) (N := 13) hx hb hG i_PI hown hK hP 0 rfl rfl 7 (by decide) (hG _ vq_t256) (fun _ h9 => h9) rfl d_PI_noteLeast_30 ?_
    refine lv_i2l hx hb d_PI_noteLeast_33 rfl ?_
    refine lv_lmul hx hb d_PI_noteLeast_34 ?_
    refine W.lcmp hx hb d_PI_noteLeast_35 ?_
    refine lv_if_ge (tgt := 61) hx hb d_PI_noteLeast_36 (by decide) (fun c_36 => ?_) (fun c_36 => ?_)
    · skip
      have c_36 := (lg_cmp_ge ((fLt k.toNatClampNeg) * ((fEG k.toNatClampNeg).toInt64)) ((fES k.toNatClampNeg) * zLt.toInt64)).mp c_36
      have hS := vq_wk hS hA
      refine W.widen (k := 0) (n := 0) (Nat.le_of_ble_eq_true rfl) (Nat.le_of_ble_eq_true rfl) ?_
      have hP9 : va_P (dC, dI) vq_cl [(pa, .inr (1, [.int zSl, .ref bLG, .ref bLS, .int zLy, .int zGr, .int zTk, .int zGt, .int zLt, .ref bLt, .ref bGS, .ref bGG, .ref bES, .ref bEG])), (bLt, .inl ((cs 1), 4, .inr (.inl fLt))), (bES, .inl ((cs 1), 4, .inr (.inl fES))), (bEG, .inl ((cs 0), 4, .inl fEG))] _ := hP.sub [0, 1, 2, 3] rfl
      have hD9 : va_D A [(pa, .inr (1, [.int zSl, .ref bLG, .ref bLS, .int zLy, .int zGr, .int zTk, .int zGt, .int zLt, .ref bLt, .ref bGS, .ref bGG, .ref bES, .ref bEG])), (bLt, .inl ((cs 1), 4, .inr (.inl fLt))), (bES, .inl ((cs 1), 4, .inr (.inl fES))), (bEG, .inl ((cs 0), 4, .inl fEG))] := hD.sub [0, 1, 2, 3] (by decide) rfl
      have e9 : ([(pa, .inr (1, [.int zSl, .ref bLG, .ref bLS, .int zLy, .int zGr, .int zTk, .int zGt, .int zLt, .ref bLt, .ref bGS, .ref bGG, .ref bES, .ref bEG])), (bLt, .inl ((cs 1), 4, .inr (.inl fLt))), (bES, .inl ((cs 1), 4, .inr (.inl (neS zLt fLt fES fEG k)))), (bEG, .inl ((cs 0), 4, .inl (neG zLt fLt fES fEG k)))] : va_W) = [(pa, .inr (1, [.int zSl, .ref bLG, .ref bLS, .int zLy, .int zGr, .int zTk, .int zGt, .int zLt, .ref bLt, .ref bGS, .ref bGG, .ref bES, .ref bEG])), (bLt, .inl ((cs 1), 4, .inr (.inl fLt))), (bES, .inl ((cs 1), 4, .inr (.inl fES))), (bEG, .inl ((cs 0), 4, .inl fEG))] := by simp only [neS, neG, if_neg c_6, if_pos c_36]
      rw [← e9] at hP9 hD9
      exact W.vret hx hb hr (fun t ht hW => ⟨⟨(), rfl, trivial, ⟨by rw [ht]; exact hP9, hD9⟩⟩, hS.F ht⟩) hS.2.2 d_PI_noteLeast_61
    · skip
      have c_36 := (not_congr (lg_cmp_ge ((fLt k.toNatClampNeg) * ((fEG k.toNatClampNeg).toInt64)) ((fES k.toNatClampNeg) * zLt.toInt64))).mp c_36
      refine lv_aload_n hx hb d_PI_noteLeast_39 rfl (lv_at hl 0 rfl) ?_
      refine va_get (D := (dC, dI)) (ci := 1) (v := .ref bES) (C := R_PI) (T := F_PI) (N := 13) hx hb hG i_PI hown hK hP 0 rfl rfl 11 (by decide) (hG _ vq_t262) (fun _ h9 => h9) rfl d_PI_noteLeast_40 ?_
      refine lv_iload_n hx hb d_PI_noteLeast_43 rfl (lv_at hl 1 rfl) ?_
      refine lv_aload_n hx hb d_PI_noteLeast_44 rfl (lv_at hl 0 rfl) ?_
      refine va_get (D := (dC, dI)) (ci := 1) (v := .ref bLt) (C := R_PI) (T := F_PI) (N := 13) hx hb hG i_PI hown hK hP 0 rfl rfl 8 (by decide) (hG _ vq_t258) (fun _ h9 => h9) rfl d_PI_noteLeast_45 ?_
      refine lv_iload_n hx hb d_PI_noteLeast_48 rfl (lv_at hl 1 rfl) ?_
      refine va_lald (D := (dC, dI)) hx hb hK hP 1 1 rfl rfl (vq_in 4 rfl hi.1 hi.2) d_PI_noteLeast_49 ?_
      have hS := vq_wk hS hA
      refine va_last (D := (dC, dI)) hx hb hK hP hD hS 2 1 rfl rfl (vq_in 4 rfl hi.1 hi.2) d_PI_noteLeast_50 (fun H locs hP hD hS => ?_)
      have hP : va_P (dC, dI) vq_cl [(pa, .inr (1, [.int zSl, .ref bLG, .ref bLS, .int zLy, .int zGr, .int zTk, .int zGt, .int zLt, .ref bLt, .ref bGS, .ref bGG, .ref bES, .ref bEG])), (bLt, .inl ((cs 1), 4, .inr (.inl fLt))), (bES, .inl ((cs 1), 4, .inr (.inl (vp_updL fES k.toNatClampNeg (fLt k.toNatClampNeg))))), (bEG, .inl ((cs 0), 4, .inl fEG))] H := hP
      have hD : va_D A [(pa, .inr (1, [.int zSl, .ref bLG, .ref bLS, .int zLy, .int zGr, .int zTk, .int zGt, .int zLt, .ref bLt, .ref bGS, .ref bGG, .ref bES, .ref bEG])), (bLt, .inl ((cs 1), 4, .inr (.inl fLt))), (bES, .inl ((cs 1), 4, .inr (.inl (vp_updL fES k.toNatClampNeg (fLt k.toNatClampNeg))))), (bEG, .inl ((cs 0), 4, .inl fEG))] := hD
      refine lv_aload_n hx hb d_PI_noteLeast_51 rfl (lv_at hl 0 rfl) ?_
      refine va_get (D := (dC, dI)) (ci := 1) (v := .ref bEG) (C := R_PI) (T := F_PI) (N := 13) hx hb hG i_PI hown hK hP 0 rfl rfl 12 (by decide) (hG _ vq_t263) (fun _ h9 => h9) rfl d_PI_noteLeast_52 ?_
      refine lv_iload_n hx hb d_PI_noteLeast_55 rfl (lv_at hl 1 rfl) ?_
      refine lv_aload_n hx hb d_PI_noteLeast_56 rfl (lv_at hl 0 rfl) ?_
      refine va_get (D := (dC, dI)) (ci := 1) (v := .int zLt) (C := R_PI) (T := F_PI) (N := 13) hx hb hG i_PI hown hK hP 0 rfl rfl 7 (by decide) (hG _ vq_t256) (fun _ h9 => h9) rfl d_PI_noteLeast_57 ?_
      refine va_iast (D := (dC, dI)) hx hb hK hP hD hS 3 0 rfl rfl (vq_in 4 rfl hi.1 hi.2) d_PI_noteLeast_60 (fun H locs hP hD hS => ?_)
      have hP : va_P (dC, dI) vq_cl [(pa, .inr (1, [.int zSl, .ref bLG, .ref bLS, .int zLy, .int zGr, .int zTk, .int zGt, .int zLt, .ref bLt, .ref bGS, .ref bGG, .ref bES, .ref bEG])), (bLt, .inl ((cs 1), 4, .inr (.inl fLt))), (bES, .inl ((cs 1), 4, .inr (.inl (vp_updL fES k.toNatClampNeg (fLt k.toNatClampNeg))))), (bEG, .inl ((cs 0), 4, .inl (upd fEG k.toNatClampNeg zLt)))] H := hP
      have hD : va_D A [(pa, .inr (1, [.int zSl, .ref bLG, .ref bLS, .int zLy, .int zGr, .int zTk, .int zGt, .int zLt, .ref bLt, .ref bGS, .ref bGG, .ref bES, .ref bEG])), (bLt, .inl ((cs 1), 4, .inr (.inl fLt))), (bES, .inl ((cs 1), 4, .inr (.inl (vp_updL fES k.toNatClampNeg (fLt k.toNatClampNeg))))), (bEG, .inl ((cs 0), 4, .inl (upd fEG k.toNatClampNeg zLt)))] := hD
      refine W.widen (k := 0) (n := 0) (Nat.le_of_ble_eq_true rfl) (Nat.le_of_ble_eq_true rfl) ?_
      have hP9 : va_P (dC, dI) vq_cl [(pa, .inr (1, [.int zSl, .ref bLG, .ref bLS, .int zLy, .int zGr, .int zTk, .int zGt, .int zLt, .ref bLt, .ref bGS, .ref bGG, .ref bES, .ref bEG])), (bLt, .inl ((cs 1), 4, .inr (.inl fLt))), (bES, .inl ((cs 1), 4, .inr (.inl (vp_updL fES k.toNatClampNeg (fLt k.toNatClampNeg))))), (bEG, .inl ((cs 0), 4, .inl (upd fEG k.toNatClampNeg zLt)))] _ := hP.sub [0, 1, 2, 3] rfl
      have hD9 : va_D A [(pa, .inr (1, [.int zSl, .ref bLG, .ref bLS, .int zLy, .int zGr, .int zTk, .int zGt, .int zLt, .ref bLt, .ref bGS, .ref bGG, .ref bES, .ref bEG])), (bLt, .inl ((cs 1), 4, .inr (.inl fLt))), (bES, .inl ((cs 1), 4, .inr (.inl (vp_updL fES k.toNatClampNeg (fLt k.toNatClampNeg))))), (bEG, .inl ((cs 0), 4, .inl (upd fEG k.toNatClampNeg zLt)))] := hD.sub [0, 1, 2, 3] (by decide) rfl
      have e9 : ([(pa, .inr (1, [.int zSl, .ref bLG, .ref bLS, .int zLy, .int zGr, .int zTk, .int zGt, .int zLt, .ref bLt, .ref bGS, .ref bGG, .ref bES, .ref bEG])), (bLt, .inl ((cs 1), 4, .inr (.inl fLt))), (bES, .inl ((cs 1), 4, .inr (.inl (neS zLt fLt fES fEG k)))), (bEG, .inl ((cs 0), 4, .inl (neG zLt fLt fES fEG k)))] : va_W) = [(pa, .inr (1, [.int zSl, .ref bLG, .ref bLS, .int zLy, .int zGr, .int zTk, .int zGt, .int zLt, .ref bLt, .ref bGS, .ref bGG, .ref bES, .ref bEG])), (bLt, .inl ((cs 1), 4, .inr (.inl fLt))), (bES, .inl ((cs 1), 4, .inr (.inl (vp_updL fES k.toNatClampNeg (fLt k.toNatClampNeg))))), (bEG, .inl ((cs 0), 4, .inl (upd fEG k.toNatClampNeg zLt)))] := by simp only [neS, neG, if_neg c_6, if_neg c_36]
      rw [← e9] at hP9 hD9
      exact W.vret hx hb hr (fun t ht hW => ⟨⟨(), rfl, trivial, ⟨by rw [ht]; exact hP9, hD9⟩⟩, hS.F ht⟩) hS.2.2 d_PI_noteLeast_61
set_option maxHeartbeats 4000000 in
set_option maxRecDepth 100000 in
/-- spreadUpper -/
theorem c_spreadUpper (l : Launch) (dC : Nat → ClassId) (dI : Nat → Nat → Nat) (cs : Nat → ClassId) (sz : Nat) (pa : Nat) (bLG : Nat) (bLS : Nat) (bLt : Nat) (bGS : Nat) (bGG : Nat) (bES : Nat) (bEG : Nat) (zSl : Int32) (zLy : Int32) (zGr : Int32) (zTk : Int32) (zGt : Int32) (zLt : Int32) (fGS : Nat → Int64) (fES : Nat → Int64) (fGG : Nat → Int32) (fEG : Nat → Int32) (k : Int32) (hi : okE k) : Met l y_PI_spreadUpper w_PI_spreadUpper ({ frames := 0, cells := 0, slots := 0, locals := 0 }) (vq_PreR (dC, dI) cs [(pa, .inr (1, [.int zSl, .ref bLG, .ref bLS, .int zLy, .int zGr, .int zTk, .int zGt, .int zLt, .ref bLt, .ref bGS, .ref bGG, .ref bES, .ref bEG])), (bGS, .inl ((cs 1), 4, .inr (.inl fGS))), (bGG, .inl ((cs 0), 4, .inl fGG)), (bES, .inl ((cs 1), 4, .inr (.inl fES))), (bEG, .inl ((cs 0), 4, .inl fEG))] sz [.ref pa, .int k]) (va_Ql (fun (r : Int64) (_ : Unit) => r = ((fGS k.toNatClampNeg * (fEG k.toNatClampNeg).toInt64) - (fES k.toNatClampNeg * (fGG k.toNatClampNeg).toInt64))) (fun _ _ => True) (va_A [] sz)) 0 0 (va_A [] sz) := by
  refine Met.ofW (cc := b_PI_spreadUpper) (maxL := 2) (ret := (some .long)) (by decide) rfl ?_
  intro p e s m args below meth c s₁ B hml hv
  obtain ⟨rfl, hsz, hP, hCx⟩ := hv
  have hx := B.exec
  have hb := B.bytes
  have hr := B.returns
  have hG := vq_hG (atoms_spec (ws := w_PI_spreadUpper) B.pre)
  have hown : s.vm.findClass R_PI = some m.cls := findClass_of_methodNamed B.named
  have hlocks := B.notSynchronized
  subst hsz
  have hK := hCx.1
  have hA : ∀ q : Nat, s.heap.size ≤ q → va_A [] s.heap.size q := fun q h => Or.inr h
  have hA0 : ∀ q : Nat, s.heap.size ≤ q → va_A [] s.heap.size q := fun q h => Or.inr h
  have hS : va_S (va_A [] s.heap.size) s.heap s.heap [] := va_S.rf
  have hl := lv_entry ([.ref pa, .int k]) (n := 2) (Nat.le_of_ble_eq_true rfl)
  rw [lg_entry_eq]
  generalize (lg_sl ([.ref pa, .int k]) ++ List.replicate (2 - (lg_sl ([.ref pa, .int k])).length) Slot.unset).toArray = ls at hl ⊢
  have hl : lv_has ls 2 [(0, .ref pa), (1, .int k)] := hl
  have hP : va_P (dC, dI) vq_cl [(pa, .inr (1, [.int zSl, .ref bLG, .ref bLS, .int zLy, .int zGr, .int zTk, .int zGt, .int zLt, .ref bLt, .ref bGS, .ref bGG, .ref bES, .ref bEG])), (bGS, .inl ((cs 1), 4, .inr (.inl fGS))), (bGG, .inl ((cs 0), 4, .inl fGG)), (bES, .inl ((cs 1), 4, .inr (.inl fES))), (bEG, .inl ((cs 0), 4, .inl fEG))] s.heap := hP
  refine lv_aload_n hx hb d_PI_spreadUpper_0 rfl (lv_at hl 0 rfl) ?_
  refine va_get (D := (dC, dI)) (ci := 1) (v := .ref bGS) (C := R_PI) (T := F_PI) (N := 13) hx hb hG i_PI hown hK hP 0 rfl rfl 9 (by decide) (hG _ vq_t260) (fun _ h9 => h9) rfl d_PI_spreadUpper_1 ?_
  refine lv_iload_n hx hb d_PI_spreadUpper_4 rfl (lv_at hl 1 rfl) ?_
  refine va_lald (D := (dC, dI)) hx hb hK hP 1 1 rfl rfl (vq_in 4 rfl hi.1 hi.2) d_PI_spreadUpper_5 ?_
  refine lv_aload_n hx hb d_PI_spreadUpper_6 rfl (lv_at hl 0 rfl) ?_
  refine va_get (D := (dC, dI)) (ci := 1) (v := .ref bEG) (C := R_PI) (T := F_PI) (N := 13) hx hb hG i_PI hown hK hP 0 rfl rfl 12 (by decide) (hG _ vq_t263) (fun _ h9 => h9) rfl d_PI_spreadUpper_7 ?_
  refine lv_iload_n hx hb d_PI_spreadUpper_10 rfl (lv_at hl 1 rfl) ?_
  refine va_iald (D := (dC, dI)) hx hb hK hP 4 0 rfl rfl (vq_in 4 rfl hi.1 hi.2) d_PI_spreadUpper_11 ?_
  refine lv_i2l hx hb d_PI_spreadUpper_12 rfl ?_
  refine lv_lmul hx hb d_PI_spreadUpper_13 ?_
  refine lv_aload_n hx hb d_PI_spreadUpper_14 rfl (lv_at hl 0 rfl) ?_
  refine va_get (D := (dC, dI)) (ci := 1) (v := .ref bES) (C := R_PI) (T := F_PI) (N := 13) hx hb hG i_PI hown hK hP 0 rfl rfl 11 (by decide) (hG _ vq_t262) (fun _ h9 => h9) rfl d_PI_spreadUpper_15 ?_
  refine lv_iload_n hx hb d_PI_spreadUpper_18 rfl (lv_at hl 1 rfl) ?_
  refine va_lald (D := (dC, dI)) hx hb hK hP 3 1 rfl rfl (vq_in 4 rfl hi.1 hi.2) d_PI_spreadUpper_19 ?_
  refine lv_aload_n hx hb d_PI_spreadUpper_20 rfl (lv_at hl 0 rfl) ?_
  refine va_get (D := (dC, dI)) (ci := 1) (v := .ref bGG) (C := R_PI) (T := F_PI) (N := 13) hx hb hG i_PI hown hK hP 0 rfl rfl 10 (by decide) (hG _ vq_t261) (fun _ h9 => h9) rfl d_PI_spreadUpper_21 ?_
  refine lv_iload_n hx hb d_PI_spreadUpper_24 rfl (lv_at hl 1 rfl) ?_
  refine va_iald (D := (dC, dI)) hx hb hK hP 2 0 rfl rfl (vq_in 4 rfl hi.1 hi.2) d_PI_spreadUpper_25 ?_
  refine lv_i2l hx hb d_PI_spreadUpper_26 rfl ?_
  refine lv_lmul hx hb d_PI_spreadUpper_27 ?_
  refine lv_lsub hx hb d_PI_spreadUpper_28 ?_
  refine W.widen (k := 0) (n := 0) (Nat.le_of_ble_eq_true rfl) (Nat.le_of_ble_eq_true rfl) ?_
  exact W.lret (v := (((fGS k.toNatClampNeg) * ((fEG k.toNatClampNeg).toInt64)) - ((fES k.toNatClampNeg) * ((fGG k.toNatClampNeg).toInt64)))) hx hb hr (fun t ht hW => ⟨⟨(((fGS k.toNatClampNeg) * ((fEG k.toNatClampNeg).toInt64)) - ((fES k.toNatClampNeg) * ((fGG k.toNatClampNeg).toInt64))), (), rfl, by rfl, trivial⟩, hS.F ht⟩) hS.2.2 d_PI_spreadUpper_29
set_option maxHeartbeats 4000000 in
set_option maxRecDepth 100000 in
/-- spreadLower -/
theorem c_spreadLower (l : Launch) (dC : Nat → ClassId) (dI : Nat → Nat → Nat) (cs : Nat → ClassId) (sz : Nat) (pa : Nat) (bLG : Nat) (bLS : Nat) (bLt : Nat) (bGS : Nat) (bGG : Nat) (bES : Nat) (bEG : Nat) (zSl : Int32) (zLy : Int32) (zGr : Int32) (zTk : Int32) (zGt : Int32) (zLt : Int32) (fGG : Nat → Int32) (fEG : Nat → Int32) (k : Int32) (hi : okE k) : Met l y_PI_spreadLower w_PI_spreadLower ({ frames := 0, cells := 0, slots := 0, locals := 0 }) (vq_PreR (dC, dI) cs [(pa, .inr (1, [.int zSl, .ref bLG, .ref bLS, .int zLy, .int zGr, .int zTk, .int zGt, .int zLt, .ref bLt, .ref bGS, .ref bGG, .ref bES, .ref bEG])), (bGG, .inl ((cs 0), 4, .inl fGG)), (bEG, .inl ((cs 0), 4, .inl fEG))] sz [.ref pa, .int k]) (va_Ql (fun (r : Int64) (_ : Unit) => r = ((fGG k.toNatClampNeg).toInt64 * (fEG k.toNatClampNeg).toInt64)) (fun _ _ => True) (va_A [] sz)) 0 0 (va_A [] sz) := by
  refine Met.ofW (cc := b_PI_spreadLower) (maxL := 2) (ret := (some .long)) (by decide) rfl ?_
  intro p e s m args below meth c s₁ B hml hv
  obtain ⟨rfl, hsz, hP, hCx⟩ := hv
  have hx := B.exec
  have hb := B.bytes
  have hr := B.returns
  have hG := vq_hG (atoms_spec (ws := w_PI_spreadLower) B.pre)
  have hown : s.vm.findClass R_PI = some m.cls := findClass_of_methodNamed B.named
  have hlocks := B.notSynchronized
  subst hsz
  have hK := hCx.1
  have hA : ∀ q : Nat, s.heap.size ≤ q → va_A [] s.heap.size q := fun q h => Or.inr h
  have hA0 : ∀ q : Nat, s.heap.size ≤ q → va_A [] s.heap.size q := fun q h => Or.inr h
  have hS : va_S (va_A [] s.heap.size) s.heap s.heap [] := va_S.rf
  have hl := lv_entry ([.ref pa, .int k]) (n := 2) (Nat.le_of_ble_eq_true rfl)
  rw [lg_entry_eq]
  generalize (lg_sl ([.ref pa, .int k]) ++ List.replicate (2 - (lg_sl ([.ref pa, .int k])).length) Slot.unset).toArray = ls at hl ⊢
  have hl : lv_has ls 2 [(0, .ref pa), (1, .int k)] := hl
  have hP : va_P (dC, dI) vq_cl [(pa, .inr (1, [.int zSl, .ref bLG, .ref bLS, .int zLy, .int zGr, .int zTk, .int zGt, .int zLt, .ref bLt, .ref bGS, .ref bGG, .ref bES, .ref bEG])), (bGG, .inl ((cs 0), 4, .inl fGG)), (bEG, .inl ((cs 0), 4, .inl fEG))] s.heap := hP
  refine lv_aload_n hx hb d_PI_spreadLower_0 rfl (lv_at hl 0 rfl) ?_
  refine va_get (D := (dC, dI)) (ci := 1) (v := .ref bGG) (C := R_PI) (T := F_PI) (N := 13) hx hb hG i_PI hown hK hP 0 rfl rfl 10 (by decide) (hG _ vq_t261) (fun _ h9 => h9) rfl d_PI_spreadLower_1 ?_
  refine lv_iload_n hx hb d_PI_spreadLower_4 rfl (lv_at hl 1 rfl) ?_
  refine va_iald (D := (dC, dI)) hx hb hK hP 1 0 rfl rfl (vq_in 4 rfl hi.1 hi.2) d_PI_spreadLower_5 ?_
  refine lv_i2l hx hb d_PI_spreadLower_6 rfl ?_
  refine lv_aload_n hx hb d_PI_spreadLower_7 rfl (lv_at hl 0 rfl) ?_
  refine va_get (D := (dC, dI)) (ci := 1) (v := .ref bEG) (C := R_PI) (T := F_PI) (N := 13) hx hb hG i_PI hown hK hP 0 rfl rfl 12 (by decide) (hG _ vq_t263) (fun _ h9 => h9) rfl d_PI_spreadLower_8 ?_
  refine lv_iload_n hx hb d_PI_spreadLower_11 rfl (lv_at hl 1 rfl) ?_
  refine va_iald (D := (dC, dI)) hx hb hK hP 2 0 rfl rfl (vq_in 4 rfl hi.1 hi.2) d_PI_spreadLower_12 ?_
  refine lv_i2l hx hb d_PI_spreadLower_13 rfl ?_
  refine lv_lmul hx hb d_PI_spreadLower_14 ?_
  refine W.widen (k := 0) (n := 0) (Nat.le_of_ble_eq_true rfl) (Nat.le_of_ble_eq_true rfl) ?_
  exact W.lret (v := (((fGG k.toNatClampNeg).toInt64) * ((fEG k.toNatClampNeg).toInt64))) hx hb hr (fun t ht hW => ⟨⟨(((fGG k.toNatClampNeg).toInt64) * ((fEG k.toNatClampNeg).toInt64)), (), rfl, by rfl, trivial⟩, hS.F ht⟩) hS.2.2 d_PI_spreadLower_15
set_option maxHeartbeats 4000000 in
set_option maxRecDepth 100000 in
/-- the loop of takeNext over the layers -/
theorem lp_take {p : Program} {l : Launch} {e : Env} {R : Room} {s : State} {m : MethodId} {args : Array Value} {below : List Frame} {meth : Method} {c : Code} {cells slots : Nat} {Q : State → Prop} {dC : Nat → ClassId} {dI : Nat → Nat → Nat} {cs : Nat → ClassId} {pa : Nat} {bLG : Nat} {bLS : Nat} {bLt : Nat} {bGS : Nat} {bGG : Nat} {bES : Nat} {bEG : Nat} {zSl : Int32} {zLy : Int32} {zGr : Int32} {zTk : Int32} {zGt : Int32} {fLG : Nat → Int32} {fLS : Nat → Int32} {fGG : Nat → Int32} {fEG : Nat → Int32} {fGS : Nat → Int64} {fES : Nat → Int64} {A : Nat → Prop} (hx : p.tables.exec = Jvm.exec) (hb : c.code = b_PI_takeNext) (hml : c.maxLocals = 2) (hG : ∀ w ∈ vq_G, w.before args s = true) (hown : s.vm.findClass R_PI = some m.cls) (hCx : vq_Cx (dC, dI) cs A s) (hA : ∀ q, s.heap.size ≤ q → A q) (hRf : 1 + 1 ≤ R.frames) (hRl : 45 ≤ R.locals) (hRc : cells ≤ R.cells) (hRs : slots ≤ R.slots) :
    ∀ (n i : Nat) (lt : Int32) (G : Nat → Int64) (H : Heap) (locs : List Loc) (ls : Array Slot), i + n = 20 → va_P (dC, dI) vq_cl [(pa, .inr (1, [.int zSl, .ref bLG, .ref bLS, .int zLy, .int zGr, .int zTk, .int zGt, .int lt, .ref bLt, .ref bGS, .ref bGG, .ref bES, .ref bEG])), (bLG, .inl ((cs 0), 20, .inl fLG)), (bLS, .inl ((cs 0), 80, .inl fLS)), (bLt, .inl ((cs 1), 4, .inr (.inl G))), (bGS, .inl ((cs 1), 4, .inr (.inl fGS))), (bGG, .inl ((cs 0), 4, .inl fGG)), (bES, .inl ((cs 1), 4, .inr (.inl fES))), (bEG, .inl ((cs 0), 4, .inl fEG))] H → va_D A [(pa, .inr (1, [.int zSl, .ref bLG, .ref bLS, .int zLy, .int zGr, .int zTk, .int zGt, .int lt, .ref bLt, .ref bGS, .ref bGG, .ref bES, .ref bEG])), (bLG, .inl ((cs 0), 20, .inl fLG)), (bLS, .inl ((cs 0), 80, .inl fLS)), (bLt, .inl ((cs 1), 4, .inr (.inl G))), (bGS, .inl ((cs 1), 4, .inr (.inl fGS))), (bGG, .inl ((cs 0), 4, .inl fGG)), (bES, .inl ((cs 1), 4, .inr (.inl fES))), (bEG, .inl ((cs 0), 4, .inl fEG))] → va_S A s.heap H locs → lv_has ls 2 [(0, .ref pa), (1, .int (nI i))] → (∀ (H : Heap) (locs : List Loc) (ls : Array Slot), va_P (dC, dI) vq_cl [(pa, .inr (1, [.int zSl, .ref bLG, .ref bLS, .int zLy, .int zGr, .int zTk, .int zGt, .int (tkG zSl zTk fLG zLy n i lt), .ref bLt, .ref bGS, .ref bGG, .ref bES, .ref bEG])), (bLG, .inl ((cs 0), 20, .inl fLG)), (bLS, .inl ((cs 0), 80, .inl fLS)), (bLt, .inl ((cs 1), 4, .inr (.inl (tkS zSl zTk fLG fLS zLy n i G)))), (bGS, .inl ((cs 1), 4, .inr (.inl fGS))), (bGG, .inl ((cs 0), 4, .inl fGG)), (bES, .inl ((cs 1), 4, .inr (.inl fES))), (bEG, .inl ((cs 0), 4, .inl fEG))] H → va_D A [(pa, .inr (1, [.int zSl, .ref bLG, .ref bLS, .int zLy, .int zGr, .int zTk, .int zGt, .int (tkG zSl zTk fLG zLy n i lt), .ref bLt, .ref bGS, .ref bGG, .ref bES, .ref bEG])), (bLG, .inl ((cs 0), 20, .inl fLG)), (bLS, .inl ((cs 0), 80, .inl fLS)), (bLt, .inl ((cs 1), 4, .inr (.inl (tkS zSl zTk fLG fLS zLy n i G)))), (bGS, .inl ((cs 1), 4, .inr (.inl fGS))), (bGG, .inl ((cs 0), 4, .inl fGG)), (bES, .inl ((cs 1), 4, .inr (.inl fES))), (bEG, .inl ((cs 0), 4, .inl fEG))] → va_S A s.heap H locs → lv_has ls 2 [(0, .ref pa)] → W p l e R s m args below meth c H locs cells slots Q (F0 m 31 ls [])) → W p l e R s m args below meth c H locs cells slots Q (F0 m 6 ls []) := by
  have hK := hCx.1
  intro n
  induction n with
  | zero =>
    intro i lt G H locs ls hi hP hD hS hl kk
    refine lv_iload_n hx hb d_PI_takeNext_6 rfl (lv_at hl 1 rfl) ?_
    refine lv_bipush (v := 20) hx hb d_PI_takeNext_7 (by decide) ?_
    refine lv_icmp_ge (tgt := 31) hx hb d_PI_takeNext_9 (by decide) (fun c_9 => ?_) (fun c_9 => ?_)
    · skip
      exact kk H locs ls hP hD hS (lv_sub hl [0] rfl)
    · skip
      exact absurd c_9 (not_not_intro (by rw [show i = 20 by omega]; decide))
  | succ n ih =>
    intro i lt G H locs ls hi hP hD hS hl kk
    have hin : ok20 (nI i) := ⟨nI_pos (by omega), nI_lt (b := 20) (by omega) (by decide)⟩
    refine lv_iload_n hx hb d_PI_takeNext_6 rfl (lv_at hl 1 rfl) ?_
    refine lv_bipush (v := 20) hx hb d_PI_takeNext_7 (by decide) ?_
    refine lv_icmp_ge (tgt := 31) hx hb d_PI_takeNext_9 (by decide) (fun c_9 => ?_) (fun c_9 => ?_)
    · skip
      exact absurd c_9 (fun z => nI_ge (a := i) (b := 20) (by omega) (by decide) z)
    · skip
      refine lv_iload_n hx hb d_PI_takeNext_12 rfl (lv_at hl 1 rfl) ?_
      refine lv_aload_n hx hb d_PI_takeNext_13 rfl (lv_at hl 0 rfl) ?_
      refine va_get (D := (dC, dI)) (ci := 1) (v := .int zLy) (C := R_PI) (T := F_PI) (N := 13) hx hb hG i_PI hown hK hP 0 rfl rfl 3 (by decide) (hG _ vq_t248) (fun _ h9 => h9) rfl d_PI_takeNext_14 ?_
      refine lv_icmp_ge (tgt := 31) hx hb d_PI_takeNext_17 (by decide) (fun c_17 => ?_) (fun c_17 => ?_)
      · skip
        exact kk H locs ls (by rw [tkG, tkS, if_pos c_17, if_pos c_17]; exact hP) (by rw [tkG, tkS, if_pos c_17, if_pos c_17]; exact hD) hS (lv_sub hl [0] rfl)
      · skip
        refine lv_aload_n hx hb d_PI_takeNext_20 rfl (lv_at hl 0 rfl) ?_
        refine lv_iload_n hx hb d_PI_takeNext_21 rfl (lv_at hl 1 rfl) ?_
        refine mk_wv (va_runV (As := [.int (nI i)]) (rest := []) ⟨hx, hb, hml, hown, hG⟩ (c_takeOfLayer l dC dI cs _ pa bLG bLS bLt bGS bGG bES bEG zSl zLy zGr zTk zGt lt fLG fLS G (nI i) hin) (cwV 1 hG (vq_gV vq_t344 vq_t346 vq_s4 vq_t10 vq_t347) rfl rfl rfl (by decide +kernel) ⟨hRf, hRl⟩) (vq_preVw (wc := [(pa, .inr (1, [.int zSl, .ref bLG, .ref bLS, .int zLy, .int zGr, .int zTk, .int zGt, .int lt, .ref bLt, .ref bGS, .ref bGG, .ref bES, .ref bEG])), (bLG, .inl ((cs 0), 20, .inl fLG)), (bLS, .inl ((cs 0), 80, .inl fLS)), (bLt, .inl ((cs 1), 4, .inr (.inl G)))]) (va_recv hK hP (ci := 1) (q0 := 0) rfl rfl) hCx hP hD hS hA [0, 1, 2, 3] rfl rfl (by decide)) rfl rfl hl.1 rfl (lv_room (Nat.le_of_ble_eq_true rfl)) d_PI_takeNext_22 ⟨hRc, hRs⟩) hP hD hS hA [0, 1, 2, 3] [4, 5, 6, 7] rfl rfl (by decide) (by decide) (fun _ H locs w_22 hP hD hS => ?_)
        have hP : va_P (dC, dI) vq_cl [(bGS, .inl ((cs 1), 4, .inr (.inl fGS))), (bGG, .inl ((cs 0), 4, .inl fGG)), (bES, .inl ((cs 1), 4, .inr (.inl fES))), (bEG, .inl ((cs 0), 4, .inl fEG)), (pa, .inr (1, [.int zSl, .ref bLG, .ref bLS, .int zLy, .int zGr, .int zTk, .int zGt, .int (lt + (ptF zSl (fLG (nI i).toNatClampNeg) zTk)), .ref bLt, .ref bGS, .ref bGG, .ref bES, .ref bEG])), (bLG, .inl ((cs 0), 20, .inl fLG)), (bLS, .inl ((cs 0), 80, .inl fLS)), (bLt, .inl ((cs 1), 4, .inr (.inl (tol4 (ptF zSl (fLG (nI i).toNatClampNeg) zTk) fLS (nI i) G))))] H := hP
        have hD : va_D A [(bGS, .inl ((cs 1), 4, .inr (.inl fGS))), (bGG, .inl ((cs 0), 4, .inl fGG)), (bES, .inl ((cs 1), 4, .inr (.inl fES))), (bEG, .inl ((cs 0), 4, .inl fEG)), (pa, .inr (1, [.int zSl, .ref bLG, .ref bLS, .int zLy, .int zGr, .int zTk, .int zGt, .int (lt + (ptF zSl (fLG (nI i).toNatClampNeg) zTk)), .ref bLt, .ref bGS, .ref bGG, .ref bES, .ref bEG])), (bLG, .inl ((cs 0), 20, .inl fLG)), (bLS, .inl ((cs 0), 80, .inl fLS)), (bLt, .inl ((cs 1), 4, .inr (.inl (tol4 (ptF zSl (fLG (nI i).toNatClampNeg) zTk) fLS (nI i) G))))] := hD
        refine lv_iinc (v := (nI (i + 1))) (lv' := [(1, .int (nI (i + 1))), (0, .ref pa)]) hx hb d_PI_takeNext_25 hl (k := 1) rfl (nI_1 i) (by decide) rfl (fun ls hl => ?_)
        refine lv_goto (tgt := 6) hx hb d_PI_takeNext_28 (by decide) ?_
        exact ih (i + 1) (lt + (ptF zSl (fLG (nI i).toNatClampNeg) zTk)) (tol4 (ptF zSl (fLG (nI i).toNatClampNeg) zTk) fLS (nI i) G) H locs ls (by omega) (hP.sub [4, 5, 6, 7, 0, 1, 2, 3] rfl) (hD.sub [4, 5, 6, 7, 0, 1, 2, 3] (by decide) rfl) hS (lv_sub hl [1, 0] rfl) (fun H locs ls hP hD hS hl => kk H locs ls (by rw [tkG, tkS, if_neg c_17, if_neg c_17]; exact hP) (by rw [tkG, tkS, if_neg c_17, if_neg c_17]; exact hD) hS hl)
set_option maxHeartbeats 4000000 in
set_option maxRecDepth 100000 in
/-- takeNext -/
theorem c_takeNext (l : Launch) (dC : Nat → ClassId) (dI : Nat → Nat → Nat) (cs : Nat → ClassId) (sz : Nat) (pa : Nat) (bLG : Nat) (bLS : Nat) (bLt : Nat) (bGS : Nat) (bGG : Nat) (bES : Nat) (bEG : Nat) (zSl : Int32) (zLy : Int32) (zGr : Int32) (zTk : Int32) (zGt : Int32) (zLt : Int32) (fLG : Nat → Int32) (fLS : Nat → Int32) (fGG : Nat → Int32) (fEG : Nat → Int32) (fLt : Nat → Int64) (fGS : Nat → Int64) (fES : Nat → Int64) : Met l y_PI_takeNext w_PI_takeNext ({ frames := 2, cells := 0, slots := 0, locals := 45 }) (vq_Pre (dC, dI) cs [(pa, .inr (1, [.int zSl, .ref bLG, .ref bLS, .int zLy, .int zGr, .int zTk, .int zGt, .int zLt, .ref bLt, .ref bGS, .ref bGG, .ref bES, .ref bEG])), (bLG, .inl ((cs 0), 20, .inl fLG)), (bLS, .inl ((cs 0), 80, .inl fLS)), (bLt, .inl ((cs 1), 4, .inr (.inl fLt))), (bGS, .inl ((cs 1), 4, .inr (.inl fGS))), (bGG, .inl ((cs 0), 4, .inl fGG)), (bES, .inl ((cs 1), 4, .inr (.inl fES))), (bEG, .inl ((cs 0), 4, .inl fEG))] sz [.ref pa]) (va_Qv (fun (_ : Unit) => True) (vq_B (dC, dI) cs (va_A [(pa, .inr (1, [.int zSl, .ref bLG, .ref bLS, .int zLy, .int zGr, .int zTk, .int zGt, .int zLt, .ref bLt, .ref bGS, .ref bGG, .ref bES, .ref bEG])), (bLG, .inl ((cs 0), 20, .inl fLG)), (bLS, .inl ((cs 0), 80, .inl fLS)), (bLt, .inl ((cs 1), 4, .inr (.inl fLt))), (bGS, .inl ((cs 1), 4, .inr (.inl fGS))), (bGG, .inl ((cs 0), 4, .inl fGG)), (bES, .inl ((cs 1), 4, .inr (.inl fES))), (bEG, .inl ((cs 0), 4, .inl fEG))] sz) (fun _ => [(pa, .inr (1, [.int zSl, .ref bLG, .ref bLS, .int zLy, .int zGr, .int (zTk + 1), .int (zGt + (tkG zSl zTk fLG zLy 20 0 0)), .int (tkG zSl zTk fLG zLy 20 0 0), .ref bLt, .ref bGS, .ref bGG, .ref bES, .ref bEG])), (bLG, .inl ((cs 0), 20, .inl fLG)), (bLS, .inl ((cs 0), 80, .inl fLS)), (bLt, .inl ((cs 1), 4, .inr (.inl (tkS zSl zTk fLG fLS zLy 20 0 (cl4 fLt))))), (bGS, .inl ((cs 1), 4, .inr (.inl ((tnG (tkG zSl zTk fLG zLy 20 0 0) (tkS zSl zTk fLG fLS zLy 20 0 (cl4 fLt)) (fGS, fGG)).1)))), (bGG, .inl ((cs 0), 4, .inl ((tnG (tkG zSl zTk fLG zLy 20 0 0) (tkS zSl zTk fLG fLS zLy 20 0 (cl4 fLt)) (fGS, fGG)).2))), (bES, .inl ((cs 1), 4, .inr (.inl ((tnE (tkG zSl zTk fLG zLy 20 0 0) (tkS zSl zTk fLG fLS zLy 20 0 (cl4 fLt)) (fES, fEG)).1)))), (bEG, .inl ((cs 0), 4, .inl ((tnE (tkG zSl zTk fLG zLy 20 0 0) (tkS zSl zTk fLG fLS zLy 20 0 (cl4 fLt)) (fES, fEG)).2)))])) (va_A [(pa, .inr (1, [.int zSl, .ref bLG, .ref bLS, .int zLy, .int zGr, .int zTk, .int zGt, .int zLt, .ref bLt, .ref bGS, .ref bGG, .ref bES, .ref bEG])), (bLG, .inl ((cs 0), 20, .inl fLG)), (bLS, .inl ((cs 0), 80, .inl fLS)), (bLt, .inl ((cs 1), 4, .inr (.inl fLt))), (bGS, .inl ((cs 1), 4, .inr (.inl fGS))), (bGG, .inl ((cs 0), 4, .inl fGG)), (bES, .inl ((cs 1), 4, .inr (.inl fES))), (bEG, .inl ((cs 0), 4, .inl fEG))] sz)) 0 0 (va_A [(pa, .inr (1, [.int zSl, .ref bLG, .ref bLS, .int zLy, .int zGr, .int zTk, .int zGt, .int zLt, .ref bLt, .ref bGS, .ref bGG, .ref bES, .ref bEG])), (bLG, .inl ((cs 0), 20, .inl fLG)), (bLS, .inl ((cs 0), 80, .inl fLS)), (bLt, .inl ((cs 1), 4, .inr (.inl fLt))), (bGS, .inl ((cs 1), 4, .inr (.inl fGS))), (bGG, .inl ((cs 0), 4, .inl fGG)), (bES, .inl ((cs 1), 4, .inr (.inl fES))), (bEG, .inl ((cs 0), 4, .inl fEG))] sz) := by
  refine Met.ofW (cc := b_PI_takeNext) (maxL := 2) (ret := none) (by decide) rfl ?_
  intro p e s m args below meth c s₁ B hml hv
  obtain ⟨rfl, hsz, hP, hD0, hCx⟩ := hv
  have hx := B.exec
  have hb := B.bytes
  have hr := B.returns
  have hG := vq_hG (atoms_spec (ws := w_PI_takeNext) B.pre)
  have hown : s.vm.findClass R_PI = some m.cls := findClass_of_methodNamed B.named
  have hlocks := B.notSynchronized
  subst hsz
  have hK := hCx.1
  have hD := hD0.self (sz := s.heap.size)
  generalize hAe : va_A [(pa, .inr (1, [.int zSl, .ref bLG, .ref bLS, .int zLy, .int zGr, .int zTk, .int zGt, .int zLt, .ref bLt, .ref bGS, .ref bGG, .ref bES, .ref bEG])), (bLG, .inl ((cs 0), 20, .inl fLG)), (bLS, .inl ((cs 0), 80, .inl fLS)), (bLt, .inl ((cs 1), 4, .inr (.inl fLt))), (bGS, .inl ((cs 1), 4, .inr (.inl fGS))), (bGG, .inl ((cs 0), 4, .inl fGG)), (bES, .inl ((cs 1), 4, .inr (.inl fES))), (bEG, .inl ((cs 0), 4, .inl fEG))] s.heap.size = A at hD hCx ⊢
  have hA : ∀ q : Nat, s.heap.size ≤ q → A q := fun q h => by rw [← hAe]; exact Or.inr h
  have hA0 : ∀ q : Nat, s.heap.size ≤ q → va_A [] s.heap.size q := fun q h => Or.inr h
  have hS : va_S (va_A [] s.heap.size) s.heap s.heap [] := va_S.rf
  have hl := lv_entry ([.ref pa]) (n := 2) (Nat.le_of_ble_eq_true rfl)
  rw [lg_entry_eq]
  generalize (lg_sl ([.ref pa]) ++ List.replicate (2 - (lg_sl ([.ref pa])).length) Slot.unset).toArray = ls at hl ⊢
  have hl : lv_has ls 2 [(0, .ref pa)] := hl
  have hP : va_P (dC, dI) vq_cl [(pa, .inr (1, [.int zSl, .ref bLG, .ref bLS, .int zLy, .int zGr, .int zTk, .int zGt, .int zLt, .ref bLt, .ref bGS, .ref bGG, .ref bES, .ref bEG])), (bLG, .inl ((cs 0), 20, .inl fLG)), (bLS, .inl ((cs 0), 80, .inl fLS)), (bLt, .inl ((cs 1), 4, .inr (.inl fLt))), (bGS, .inl ((cs 1), 4, .inr (.inl fGS))), (bGG, .inl ((cs 0), 4, .inl fGG)), (bES, .inl ((cs 1), 4, .inr (.inl fES))), (bEG, .inl ((cs 0), 4, .inl fEG))] s.heap := hP
  refine lv_aload_n hx hb d_PI_takeNext_0 rfl (lv_at hl 0 rfl) ?_
  have hS := vq_wk hS hA
  refine mk_wv (va_runV (As := []) (rest := []) ⟨hx, hb, hml, hown, hG⟩ (c_clearLatest l dC dI cs _ pa bLG bLS bLt bGS bGG bES bEG zSl zLy zGr zTk zGt zLt fLt) (cwV 0 hG (vq_gV vq_t340 vq_t342 vq_s3 vq_t10 vq_t343) rfl rfl rfl (by decide +kernel) ⟨Nat.le_of_ble_eq_true rfl, Nat.le_of_ble_eq_true rfl⟩) (vq_preVw (wc := [(pa, .inr (1, [.int zSl, .ref bLG, .ref bLS, .int zLy, .int zGr, .int zTk, .int zGt, .int zLt, .ref bLt, .ref bGS, .ref bGG, .ref bES, .ref bEG])), (bLt, .inl ((cs 1), 4, .inr (.inl fLt)))]) (va_recv hK hP (ci := 1) (q0 := 0) rfl rfl) hCx hP hD hS hA [0, 3] rfl rfl (by decide)) rfl rfl hl.1 rfl (lv_room (Nat.le_of_ble_eq_true rfl)) d_PI_takeNext_1 ⟨Nat.le_of_ble_eq_true rfl, Nat.le_of_ble_eq_true rfl⟩) hP hD hS hA [0, 3] [1, 2, 4, 5, 6, 7] rfl rfl (by decide) (by decide) (fun _ H locs w_1 hP hD hS => ?_)
  have hP : va_P (dC, dI) vq_cl [(bLG, .inl ((cs 0), 20, .inl fLG)), (bLS, .inl ((cs 0), 80, .inl fLS)), (bGS, .inl ((cs 1), 4, .inr (.inl fGS))), (bGG, .inl ((cs 0), 4, .inl fGG)), (bES, .inl ((cs 1), 4, .inr (.inl fES))), (bEG, .inl ((cs 0), 4, .inl fEG)), (pa, .inr (1, [.int zSl, .ref bLG, .ref bLS, .int zLy, .int zGr, .int zTk, .int zGt, .int 0, .ref bLt, .ref bGS, .ref bGG, .ref bES, .ref bEG])), (bLt, .inl ((cs 1), 4, .inr (.inl (cl4 fLt))))] H := hP
  have hD : va_D A [(bLG, .inl ((cs 0), 20, .inl fLG)), (bLS, .inl ((cs 0), 80, .inl fLS)), (bGS, .inl ((cs 1), 4, .inr (.inl fGS))), (bGG, .inl ((cs 0), 4, .inl fGG)), (bES, .inl ((cs 1), 4, .inr (.inl fES))), (bEG, .inl ((cs 0), 4, .inl fEG)), (pa, .inr (1, [.int zSl, .ref bLG, .ref bLS, .int zLy, .int zGr, .int zTk, .int zGt, .int 0, .ref bLt, .ref bGS, .ref bGG, .ref bES, .ref bEG])), (bLt, .inl ((cs 1), 4, .inr (.inl (cl4 fLt))))] := hD
  refine lv_iconst (v := 0) hx hb d_PI_takeNext_4 (by decide) ?_
  refine lv_istore_n (lv' := [(1, .int 0), (0, .ref pa)]) hx hb d_PI_takeNext_5 rfl hl (by decide) rfl (fun ls hl => ?_)
  refine lp_take (fGG := fGG) (fEG := fEG) (fGS := fGS) (fES := fES) hx hb hml hG hown hCx hA (Nat.le_of_ble_eq_true rfl) (Nat.le_of_ble_eq_true rfl) (Nat.le_of_ble_eq_true rfl) (Nat.le_of_ble_eq_true rfl) 20 0 0 (cl4 fLt) H locs ls rfl (hP.sub [6, 0, 1, 7, 2, 3, 4, 5] rfl) (hD.sub [6, 0, 1, 7, 2, 3, 4, 5] (by decide) rfl) hS (lv_sub hl [1, 0] rfl) (fun H locs ls hP hD hS hl => ?_)
  refine lv_aload_n hx hb d_PI_takeNext_31 rfl (lv_at hl 0 rfl) ?_
  refine lv_dup hx hb d_PI_takeNext_32 rfl ?_
  refine va_get (D := (dC, dI)) (ci := 1) (v := .int zTk) (C := R_PI) (T := F_PI) (N := 13) hx hb hG i_PI hown hK hP 0 rfl rfl 5 (by decide) (hG _ vq_t252) (fun _ h9 => h9) rfl d_PI_takeNext_33 ?_
  refine lv_iconst (v := 1) hx hb d_PI_takeNext_36 (by decide) ?_
  refine lv_iadd hx hb d_PI_takeNext_37 ?_
  refine va_put (D := (dC, dI)) (ci := 1) (v := .int (zTk + 1)) (ty := .int) (C := R_PI) (T := F_PI) (N := 13) hx hb hG i_PI t_PI t_PI_ok n_PI hown hK hP hD hS 0 rfl rfl 5 (by decide) (hG _ vq_t252) (fun _ h9 => h9) rfl (by decide +kernel) rfl rfl (Nat.le_of_ble_eq_true rfl) d_PI_takeNext_38 (fun H locs hP hD hS => ?_)
  have hP : va_P (dC, dI) vq_cl [(pa, .inr (1, [.int zSl, .ref bLG, .ref bLS, .int zLy, .int zGr, .int (zTk + 1), .int zGt, .int (tkG zSl zTk fLG zLy 20 0 0), .ref bLt, .ref bGS, .ref bGG, .ref bES, .ref bEG])), (bLG, .inl ((cs 0), 20, .inl fLG)), (bLS, .inl ((cs 0), 80, .inl fLS)), (bLt, .inl ((cs 1), 4, .inr (.inl (tkS zSl zTk fLG fLS zLy 20 0 (cl4 fLt))))), (bGS, .inl ((cs 1), 4, .inr (.inl fGS))), (bGG, .inl ((cs 0), 4, .inl fGG)), (bES, .inl ((cs 1), 4, .inr (.inl fES))), (bEG, .inl ((cs 0), 4, .inl fEG))] H := hP
  have hD : va_D A [(pa, .inr (1, [.int zSl, .ref bLG, .ref bLS, .int zLy, .int zGr, .int (zTk + 1), .int zGt, .int (tkG zSl zTk fLG zLy 20 0 0), .ref bLt, .ref bGS, .ref bGG, .ref bES, .ref bEG])), (bLG, .inl ((cs 0), 20, .inl fLG)), (bLS, .inl ((cs 0), 80, .inl fLS)), (bLt, .inl ((cs 1), 4, .inr (.inl (tkS zSl zTk fLG fLS zLy 20 0 (cl4 fLt))))), (bGS, .inl ((cs 1), 4, .inr (.inl fGS))), (bGG, .inl ((cs 0), 4, .inl fGG)), (bES, .inl ((cs 1), 4, .inr (.inl fES))), (bEG, .inl ((cs 0), 4, .inl fEG))] := hD
  refine lv_aload_n hx hb d_PI_takeNext_41 rfl (lv_at hl 0 rfl) ?_
  refine lv_dup hx hb d_PI_takeNext_42 rfl ?_
  refine va_get (D := (dC, dI)) (ci := 1) (v := .int zGt) (C := R_PI) (T := F_PI) (N := 13) hx hb hG i_PI hown hK hP 0 rfl rfl 6 (by decide) (hG _ vq_t254) (fun _ h9 => h9) rfl d_PI_takeNext_43 ?_
  refine lv_aload_n hx hb d_PI_takeNext_46 rfl (lv_at hl 0 rfl) ?_
  refine va_get (D := (dC, dI)) (ci := 1) (v := .int (tkG zSl zTk fLG zLy 20 0 0)) (C := R_PI) (T := F_PI) (N := 13) hx hb hG i_PI hown hK hP 0 rfl rfl 7 (by decide) (hG _ vq_t256) (fun _ h9 => h9) rfl d_PI_takeNext_47 ?_
  refine lv_iadd hx hb d_PI_takeNext_50 ?_
  refine va_put (D := (dC, dI)) (ci := 1) (v := .int (zGt + (tkG zSl zTk fLG zLy 20 0 0))) (ty := .int) (C := R_PI) (T := F_PI) (N := 13) hx hb hG i_PI t_PI t_PI_ok n_PI hown hK hP hD hS 0 rfl rfl 6 (by decide) (hG _ vq_t254) (fun _ h9 => h9) rfl (by decide +kernel) rfl rfl (Nat.le_of_ble_eq_true rfl) d_PI_takeNext_51 (fun H locs hP hD hS => ?_)
  have hP : va_P (dC, dI) vq_cl [(pa, .inr (1, [.int zSl, .ref bLG, .ref bLS, .int zLy, .int zGr, .int (zTk + 1), .int (zGt + (tkG zSl zTk fLG zLy 20 0 0)), .int (tkG zSl zTk fLG zLy 20 0 0), .ref bLt, .ref bGS, .ref bGG, .ref bES, .ref bEG])), (bLG, .inl ((cs 0), 20, .inl fLG)), (bLS, .inl ((cs 0), 80, .inl fLS)), (bLt, .inl ((cs 1), 4, .inr (.inl (tkS zSl zTk fLG fLS zLy 20 0 (cl4 fLt))))), (bGS, .inl ((cs 1), 4, .inr (.inl fGS))), (bGG, .inl ((cs 0), 4, .inl fGG)), (bES, .inl ((cs 1), 4, .inr (.inl fES))), (bEG, .inl ((cs 0), 4, .inl fEG))] H := hP
  have hD : va_D A [(pa, .inr (1, [.int zSl, .ref bLG, .ref bLS, .int zLy, .int zGr, .int (zTk + 1), .int (zGt + (tkG zSl zTk fLG zLy 20 0 0)), .int (tkG zSl zTk fLG zLy 20 0 0), .ref bLt, .ref bGS, .ref bGG, .ref bES, .ref bEG])), (bLG, .inl ((cs 0), 20, .inl fLG)), (bLS, .inl ((cs 0), 80, .inl fLS)), (bLt, .inl ((cs 1), 4, .inr (.inl (tkS zSl zTk fLG fLS zLy 20 0 (cl4 fLt))))), (bGS, .inl ((cs 1), 4, .inr (.inl fGS))), (bGG, .inl ((cs 0), 4, .inl fGG)), (bES, .inl ((cs 1), 4, .inr (.inl fES))), (bEG, .inl ((cs 0), 4, .inl fEG))] := hD
  refine lv_aload_n hx hb d_PI_takeNext_54 rfl (lv_at hl 0 rfl) ?_
  refine va_get (D := (dC, dI)) (ci := 1) (v := .int (tkG zSl zTk fLG zLy 20 0 0)) (C := R_PI) (T := F_PI) (N := 13) hx hb hG i_PI hown hK hP 0 rfl rfl 7 (by decide) (hG _ vq_t256) (fun _ h9 => h9) rfl d_PI_takeNext_55 ?_
  refine lv_if_le (tgt := 84) hx hb d_PI_takeNext_58 (by decide) (fun c_58 => ?_) (fun c_58 => ?_)
  · skip
    refine W.widen (k := 0) (n := 0) (Nat.le_of_ble_eq_true rfl) (Nat.le_of_ble_eq_true rfl) ?_
    have hP9 : va_P (dC, dI) vq_cl [(pa, .inr (1, [.int zSl, .ref bLG, .ref bLS, .int zLy, .int zGr, .int (zTk + 1), .int (zGt + (tkG zSl zTk fLG zLy 20 0 0)), .int (tkG zSl zTk fLG zLy 20 0 0), .ref bLt, .ref bGS, .ref bGG, .ref bES, .ref bEG])), (bLG, .inl ((cs 0), 20, .inl fLG)), (bLS, .inl ((cs 0), 80, .inl fLS)), (bLt, .inl ((cs 1), 4, .inr (.inl (tkS zSl zTk fLG fLS zLy 20 0 (cl4 fLt))))), (bGS, .inl ((cs 1), 4, .inr (.inl fGS))), (bGG, .inl ((cs 0), 4, .inl fGG)), (bES, .inl ((cs 1), 4, .inr (.inl fES))), (bEG, .inl ((cs 0), 4, .inl fEG))] _ := hP.sub [0, 1, 2, 3, 4, 5, 6, 7] rfl
    have hD9 : va_D A [(pa, .inr (1, [.int zSl, .ref bLG, .ref bLS, .int zLy, .int zGr, .int (zTk + 1), .int (zGt + (tkG zSl zTk fLG zLy 20 0 0)), .int (tkG zSl zTk fLG zLy 20 0 0), .ref bLt, .ref bGS, .ref bGG, .ref bES, .ref bEG])), (bLG, .inl ((cs 0), 20, .inl fLG)), (bLS, .inl ((cs 0), 80, .inl fLS)), (bLt, .inl ((cs 1), 4, .inr (.inl (tkS zSl zTk fLG fLS zLy 20 0 (cl4 fLt))))), (bGS, .inl ((cs 1), 4, .inr (.inl fGS))), (bGG, .inl ((cs 0), 4, .inl fGG)), (bES, .inl ((cs 1), 4, .inr (.inl fES))), (bEG, .inl ((cs 0), 4, .inl fEG))] := hD.sub [0, 1, 2, 3, 4, 5, 6, 7] (by decide) rfl
    have e9 : ([(pa, .inr (1, [.int zSl, .ref bLG, .ref bLS, .int zLy, .int zGr, .int (zTk + 1), .int (zGt + (tkG zSl zTk fLG zLy 20 0 0)), .int (tkG zSl zTk fLG zLy 20 0 0), .ref bLt, .ref bGS, .ref bGG, .ref bES, .ref bEG])), (bLG, .inl ((cs 0), 20, .inl fLG)), (bLS, .inl ((cs 0), 80, .inl fLS)), (bLt, .inl ((cs 1), 4, .inr (.inl (tkS zSl zTk fLG fLS zLy 20 0 (cl4 fLt))))), (bGS, .inl ((cs 1), 4, .inr (.inl ((tnG (tkG zSl zTk fLG zLy 20 0 0) (tkS zSl zTk fLG fLS zLy 20 0 (cl4 fLt)) (fGS, fGG)).1)))), (bGG, .inl ((cs 0), 4, .inl ((tnG (tkG zSl zTk fLG zLy 20 0 0) (tkS zSl zTk fLG fLS zLy 20 0 (cl4 fLt)) (fGS, fGG)).2))), (bES, .inl ((cs 1), 4, .inr (.inl ((tnE (tkG zSl zTk fLG zLy 20 0 0) (tkS zSl zTk fLG fLS zLy 20 0 (cl4 fLt)) (fES, fEG)).1)))), (bEG, .inl ((cs 0), 4, .inl ((tnE (tkG zSl zTk fLG zLy 20 0 0) (tkS zSl zTk fLG fLS zLy 20 0 (cl4 fLt)) (fES, fEG)).2)))] : va_W) = [(pa, .inr (1, [.int zSl, .ref bLG, .ref bLS, .int zLy, .int zGr, .int (zTk + 1), .int (zGt + (tkG zSl zTk fLG zLy 20 0 0)), .int (tkG zSl zTk fLG zLy 20 0 0), .ref bLt, .ref bGS, .ref bGG, .ref bES, .ref bEG])), (bLG, .inl ((cs 0), 20, .inl fLG)), (bLS, .inl ((cs 0), 80, .inl fLS)), (bLt, .inl ((cs 1), 4, .inr (.inl (tkS zSl zTk fLG fLS zLy 20 0 (cl4 fLt))))), (bGS, .inl ((cs 1), 4, .inr (.inl fGS))), (bGG, .inl ((cs 0), 4, .inl fGG)), (bES, .inl ((cs 1), 4, .inr (.inl fES))), (bEG, .inl ((cs 0), 4, .inl fEG))] := by simp only [tnG, tnE, if_pos c_58]
    rw [← e9] at hP9 hD9
    exact W.vret hx hb hr (fun t ht hW => ⟨⟨(), rfl, trivial, ⟨by rw [ht]; exact hP9, hD9⟩⟩, hS.F ht⟩) hS.2.2 d_PI_takeNext_84
  · skip
    refine lv_iconst (v := 0) hx hb d_PI_takeNext_61 (by decide) ?_
    refine lv_istore_n (lv' := [(1, .int 0), (0, .ref pa)]) hx hb d_PI_takeNext_62 rfl hl (by decide) rfl (fun ls hl => ?_)
    refine lv_iload_n hx hb d_PI_takeNext_63 rfl (lv_at hl 0 rfl) ?_
    refine lv_iconst (v := 4) hx hb d_PI_takeNext_64 (by decide) ?_
    refine lv_icmp_ge (tgt := 84) hx hb d_PI_takeNext_65 (by decide) (fun c_65 => ?_) (fun c_65 => ?_)
    · skip
      exact absurd c_65 (by decide)
    · skip
      refine lv_aload_n hx hb d_PI_takeNext_68 rfl (lv_at hl 1 rfl) ?_
      refine lv_iload_n hx hb d_PI_takeNext_69 rfl (lv_at hl 0 rfl) ?_
      refine mk_wv (va_runV (As := [.int 0]) (rest := []) ⟨hx, hb, hml, hown, hG⟩ (c_noteGreatest l dC dI cs _ pa bLG bLS bLt bGS bGG bES bEG zSl zLy zGr (zTk + 1) (zGt + (tkG zSl zTk fLG zLy 20 0 0)) (tkG zSl zTk fLG zLy 20 0 0) (tkS zSl zTk fLG fLS zLy 20 0 (cl4 fLt)) fGS fGG 0 (⟨by decide, by decide⟩)) (cwV 1 hG (vq_gV vq_t352 vq_t354 vq_s6 vq_t10 vq_t355) rfl rfl rfl (by decide +kernel) ⟨Nat.le_of_ble_eq_true rfl, Nat.le_of_ble_eq_true rfl⟩) (vq_preVw (wc := [(pa, .inr (1, [.int zSl, .ref bLG, .ref bLS, .int zLy, .int zGr, .int (zTk + 1), .int (zGt + (tkG zSl zTk fLG zLy 20 0 0)), .int (tkG zSl zTk fLG zLy 20 0 0), .ref bLt, .ref bGS, .ref bGG, .ref bES, .ref bEG])), (bLt, .inl ((cs 1), 4, .inr (.inl (tkS zSl zTk fLG fLS zLy 20 0 (cl4 fLt))))), (bGS, .inl ((cs 1), 4, .inr (.inl fGS))), (bGG, .inl ((cs 0), 4, .inl fGG))]) (va_recv hK hP (ci := 1) (q0 := 0) rfl rfl) hCx hP hD hS hA [0, 3, 4, 5] rfl rfl (by decide)) rfl rfl hl.1 rfl (lv_room (Nat.le_of_ble_eq_true rfl)) d_PI_takeNext_70 ⟨Nat.le_of_ble_eq_true rfl, Nat.le_of_ble_eq_true rfl⟩) hP hD hS hA [0, 3, 4, 5] [1, 2, 6, 7] rfl rfl (by decide) (by decide) (fun _ H locs w_70 hP hD hS => ?_)
      have hP : va_P (dC, dI) vq_cl [(bLG, .inl ((cs 0), 20, .inl fLG)), (bLS, .inl ((cs 0), 80, .inl fLS)), (bES, .inl ((cs 1), 4, .inr (.inl fES))), (bEG, .inl ((cs 0), 4, .inl fEG)), (pa, .inr (1, [.int zSl, .ref bLG, .ref bLS, .int zLy, .int zGr, .int (zTk + 1), .int (zGt + (tkG zSl zTk fLG zLy 20 0 0)), .int (tkG zSl zTk fLG zLy 20 0 0), .ref bLt, .ref bGS, .ref bGG, .ref bES, .ref bEG])), (bLt, .inl ((cs 1), 4, .inr (.inl (tkS zSl zTk fLG fLS zLy 20 0 (cl4 fLt))))), (bGS, .inl ((cs 1), 4, .inr (.inl ((ngP (tkG zSl zTk fLG zLy 20 0 0) (tkS zSl zTk fLG fLS zLy 20 0 (cl4 fLt)) (fGS, fGG) 0).1)))), (bGG, .inl ((cs 0), 4, .inl ((ngP (tkG zSl zTk fLG zLy 20 0 0) (tkS zSl zTk fLG fLS zLy 20 0 (cl4 fLt)) (fGS, fGG) 0).2)))] H := hP
      have hD : va_D A [(bLG, .inl ((cs 0), 20, .inl fLG)), (bLS, .inl ((cs 0), 80, .inl fLS)), (bES, .inl ((cs 1), 4, .inr (.inl fES))), (bEG, .inl ((cs 0), 4, .inl fEG)), (pa, .inr (1, [.int zSl, .ref bLG, .ref bLS, .int zLy, .int zGr, .int (zTk + 1), .int (zGt + (tkG zSl zTk fLG zLy 20 0 0)), .int (tkG zSl zTk fLG zLy 20 0 0), .ref bLt, .ref bGS, .ref bGG, .ref bES, .ref bEG])), (bLt, .inl ((cs 1), 4, .inr (.inl (tkS zSl zTk fLG fLS zLy 20 0 (cl4 fLt))))), (bGS, .inl ((cs 1), 4, .inr (.inl ((ngP (tkG zSl zTk fLG zLy 20 0 0) (tkS zSl zTk fLG fLS zLy 20 0 (cl4 fLt)) (fGS, fGG) 0).1)))), (bGG, .inl ((cs 0), 4, .inl ((ngP (tkG zSl zTk fLG zLy 20 0 0) (tkS zSl zTk fLG fLS zLy 20 0 (cl4 fLt)) (fGS, fGG) 0).2)))] := hD
      refine lv_aload_n hx hb d_PI_takeNext_73 rfl (lv_at hl 1 rfl) ?_
      refine lv_iload_n hx hb d_PI_takeNext_74 rfl (lv_at hl 0 rfl) ?_
      refine mk_wv (va_runV (As := [.int 0]) (rest := []) ⟨hx, hb, hml, hown, hG⟩ (c_noteLeast l dC dI cs _ pa bLG bLS bLt bGS bGG bES bEG zSl zLy zGr (zTk + 1) (zGt + (tkG zSl zTk fLG zLy 20 0 0)) (tkG zSl zTk fLG zLy 20 0 0) (tkS zSl zTk fLG fLS zLy 20 0 (cl4 fLt)) fES fEG 0 (⟨by decide, by decide⟩)) (cwV 1 hG (vq_gV vq_t356 vq_t358 vq_s7 vq_t10 vq_t359) rfl rfl rfl (by decide +kernel) ⟨Nat.le_of_ble_eq_true rfl, Nat.le_of_ble_eq_true rfl⟩) (vq_preVw (wc := [(pa, .inr (1, [.int zSl, .ref bLG, .ref bLS, .int zLy, .int zGr, .int (zTk + 1), .int (zGt + (tkG zSl zTk fLG zLy 20 0 0)), .int (tkG zSl zTk fLG zLy 20 0 0), .ref bLt, .ref bGS, .ref bGG, .ref bES, .ref bEG])), (bLt, .inl ((cs 1), 4, .inr (.inl (tkS zSl zTk fLG fLS zLy 20 0 (cl4 fLt))))), (bES, .inl ((cs 1), 4, .inr (.inl fES))), (bEG, .inl ((cs 0), 4, .inl fEG))]) (va_recv hK hP (ci := 1) (q0 := 4) rfl rfl) hCx hP hD hS hA [4, 5, 2, 3] rfl rfl (by decide)) rfl rfl hl.1 rfl (lv_room (Nat.le_of_ble_eq_true rfl)) d_PI_takeNext_75 ⟨Nat.le_of_ble_eq_true rfl, Nat.le_of_ble_eq_true rfl⟩) hP hD hS hA [4, 5, 2, 3] [0, 1, 6, 7] rfl rfl (by decide) (by decide) (fun _ H locs w_75 hP hD hS => ?_)
      have hP : va_P (dC, dI) vq_cl [(bLG, .inl ((cs 0), 20, .inl fLG)), (bLS, .inl ((cs 0), 80, .inl fLS)), (bGS, .inl ((cs 1), 4, .inr (.inl ((ngP (tkG zSl zTk fLG zLy 20 0 0) (tkS zSl zTk fLG fLS zLy 20 0 (cl4 fLt)) (fGS, fGG) 0).1)))), (bGG, .inl ((cs 0), 4, .inl ((ngP (tkG zSl zTk fLG zLy 20 0 0) (tkS zSl zTk fLG fLS zLy 20 0 (cl4 fLt)) (fGS, fGG) 0).2))), (pa, .inr (1, [.int zSl, .ref bLG, .ref bLS, .int zLy, .int zGr, .int (zTk + 1), .int (zGt + (tkG zSl zTk fLG zLy 20 0 0)), .int (tkG zSl zTk fLG zLy 20 0 0), .ref bLt, .ref bGS, .ref bGG, .ref bES, .ref bEG])), (bLt, .inl ((cs 1), 4, .inr (.inl (tkS zSl zTk fLG fLS zLy 20 0 (cl4 fLt))))), (bES, .inl ((cs 1), 4, .inr (.inl ((neP (tkG zSl zTk fLG zLy 20 0 0) (tkS zSl zTk fLG fLS zLy 20 0 (cl4 fLt)) (fES, fEG) 0).1)))), (bEG, .inl ((cs 0), 4, .inl ((neP (tkG zSl zTk fLG zLy 20 0 0) (tkS zSl zTk fLG fLS zLy 20 0 (cl4 fLt)) (fES, fEG) 0).2)))] H := hP
      have hD : va_D A [(bLG, .inl ((cs 0), 20, .inl fLG)), (bLS, .inl ((cs 0), 80, .inl fLS)), (bGS, .inl ((cs 1), 4, .inr (.inl ((ngP (tkG zSl zTk fLG zLy 20 0 0) (tkS zSl zTk fLG fLS zLy 20 0 (cl4 fLt)) (fGS, fGG) 0).1)))), (bGG, .inl ((cs 0), 4, .inl ((ngP (tkG zSl zTk fLG zLy 20 0 0) (tkS zSl zTk fLG fLS zLy 20 0 (cl4 fLt)) (fGS, fGG) 0).2))), (pa, .inr (1, [.int zSl, .ref bLG, .ref bLS, .int zLy, .int zGr, .int (zTk + 1), .int (zGt + (tkG zSl zTk fLG zLy 20 0 0)), .int (tkG zSl zTk fLG zLy 20 0 0), .ref bLt, .ref bGS, .ref bGG, .ref bES, .ref bEG])), (bLt, .inl ((cs 1), 4, .inr (.inl (tkS zSl zTk fLG fLS zLy 20 0 (cl4 fLt))))), (bES, .inl ((cs 1), 4, .inr (.inl ((neP (tkG zSl zTk fLG zLy 20 0 0) (tkS zSl zTk fLG fLS zLy 20 0 (cl4 fLt)) (fES, fEG) 0).1)))), (bEG, .inl ((cs 0), 4, .inl ((neP (tkG zSl zTk fLG zLy 20 0 0) (tkS zSl zTk fLG fLS zLy 20 0 (cl4 fLt)) (fES, fEG) 0).2)))] := hD
      refine lv_iinc (v := 1) (lv' := [(1, .int 1), (0, .ref pa)]) hx hb d_PI_takeNext_78 hl (k := 0) rfl (by decide) (by decide) rfl (fun ls hl => ?_)
      refine lv_goto (tgt := 63) hx hb d_PI_takeNext_81 (by decide) ?_
      refine lv_iload_n hx hb d_PI_takeNext_63 rfl (lv_at hl 0 rfl) ?_
      refine lv_iconst (v := 4) hx hb d_PI_takeNext_64 (by decide) ?_
      refine lv_icmp_ge (tgt := 84) hx hb d_PI_takeNext_65 (by decide) (fun c_65 => ?_) (fun c_65 => ?_)
      · skip
        exact absurd c_65 (by decide)
      · skip
        refine lv_aload_n hx hb d_PI_takeNext_68 rfl (lv_at hl 1 rfl) ?_
        refine lv_iload_n hx hb d_PI_takeNext_69 rfl (lv_at hl 0 rfl) ?_
        refine mk_wv (va_runV (As := [.int 1]) (rest := []) ⟨hx, hb, hml, hown, hG⟩ (c_noteGreatest l dC dI cs _ pa bLG bLS bLt bGS bGG bES bEG zSl zLy zGr (zTk + 1) (zGt + (tkG zSl zTk fLG zLy 20 0 0)) (tkG zSl zTk fLG zLy 20 0 0) (tkS zSl zTk fLG fLS zLy 20 0 (cl4 fLt)) ((ngP (tkG zSl zTk fLG zLy 20 0 0) (tkS zSl zTk fLG fLS zLy 20 0 (cl4 fLt)) (fGS, fGG) 0).1) ((ngP (tkG zSl zTk fLG zLy 20 0 0) (tkS zSl zTk fLG fLS zLy 20 0 (cl4 fLt)) (fGS, fGG) 0).2) 1 (⟨by decide, by decide⟩)) (cwV 1 hG (vq_gV vq_t352 vq_t354 vq_s6 vq_t10 vq_t355) rfl rfl rfl (by decide +kernel) ⟨Nat.le_of_ble_eq_true rfl, Nat.le_of_ble_eq_true rfl⟩) (vq_preVw (wc := [(pa, .inr (1, [.int zSl, .ref bLG, .ref bLS, .int zLy, .int zGr, .int (zTk + 1), .int (zGt + (tkG zSl zTk fLG zLy 20 0 0)), .int (tkG zSl zTk fLG zLy 20 0 0), .ref bLt, .ref bGS, .ref bGG, .ref bES, .ref bEG])), (bLt, .inl ((cs 1), 4, .inr (.inl (tkS zSl zTk fLG fLS zLy 20 0 (cl4 fLt))))), (bGS, .inl ((cs 1), 4, .inr (.inl ((ngP (tkG zSl zTk fLG zLy 20 0 0) (tkS zSl zTk fLG fLS zLy 20 0 (cl4 fLt)) (fGS, fGG) 0).1)))), (bGG, .inl ((cs 0), 4, .inl ((ngP (tkG zSl zTk fLG zLy 20 0 0) (tkS zSl zTk fLG fLS zLy 20 0 (cl4 fLt)) (fGS, fGG) 0).2)))]) (va_recv hK hP (ci := 1) (q0 := 4) rfl rfl) hCx hP hD hS hA [4, 5, 2, 3] rfl rfl (by decide)) rfl rfl hl.1 rfl (lv_room (Nat.le_of_ble_eq_true rfl)) d_PI_takeNext_70 ⟨Nat.le_of_ble_eq_true rfl, Nat.le_of_ble_eq_true rfl⟩) hP hD hS hA [4, 5, 2, 3] [0, 1, 6, 7] rfl rfl (by decide) (by decide) (fun _ H locs w_70 hP hD hS => ?_)
        have hP : va_P (dC, dI) vq_cl [(bLG, .inl ((cs 0), 20, .inl fLG)), (bLS, .inl ((cs 0), 80, .inl fLS)), (bES, .inl ((cs 1), 4, .inr (.inl ((neP (tkG zSl zTk fLG zLy 20 0 0) (tkS zSl zTk fLG fLS zLy 20 0 (cl4 fLt)) (fES, fEG) 0).1)))), (bEG, .inl ((cs 0), 4, .inl ((neP (tkG zSl zTk fLG zLy 20 0 0) (tkS zSl zTk fLG fLS zLy 20 0 (cl4 fLt)) (fES, fEG) 0).2))), (pa, .inr (1, [.int zSl, .ref bLG, .ref bLS, .int zLy, .int zGr, .int (zTk + 1), .int (zGt + (tkG zSl zTk fLG zLy 20 0 0)), .int (tkG zSl zTk fLG zLy 20 0 0), .ref bLt, .ref bGS, .ref bGG, .ref bES, .ref bEG])), (bLt, .inl ((cs 1), 4, .inr (.inl (tkS zSl zTk fLG fLS zLy 20 0 (cl4 fLt))))), (bGS, .inl ((cs 1), 4, .inr (.inl ((ngP (tkG zSl zTk fLG zLy 20 0 0) (tkS zSl zTk fLG fLS zLy 20 0 (cl4 fLt)) (ngP (tkG zSl zTk fLG zLy 20 0 0) (tkS zSl zTk fLG fLS zLy 20 0 (cl4 fLt)) (fGS, fGG) 0) 1).1)))), (bGG, .inl ((cs 0), 4, .inl ((ngP (tkG zSl zTk fLG zLy 20 0 0) (tkS zSl zTk fLG fLS zLy 20 0 (cl4 fLt)) (ngP (tkG zSl zTk fLG zLy 20 0 0) (tkS zSl zTk fLG fLS zLy 20 0 (cl4 fLt)) (fGS, fGG) 0) 1).2)))] H := hP
        have hD : va_D A [(bLG, .inl ((cs 0), 20, .inl fLG)), (bLS, .inl ((cs 0), 80, .inl fLS)), (bES, .inl ((cs 1), 4, .inr (.inl ((neP (tkG zSl zTk fLG zLy 20 0 0) (tkS zSl zTk fLG fLS zLy 20 0 (cl4 fLt)) (fES, fEG) 0).1)))), (bEG, .inl ((cs 0), 4, .inl ((neP (tkG zSl zTk fLG zLy 20 0 0) (tkS zSl zTk fLG fLS zLy 20 0 (cl4 fLt)) (fES, fEG) 0).2))), (pa, .inr (1, [.int zSl, .ref bLG, .ref bLS, .int zLy, .int zGr, .int (zTk + 1), .int (zGt + (tkG zSl zTk fLG zLy 20 0 0)), .int (tkG zSl zTk fLG zLy 20 0 0), .ref bLt, .ref bGS, .ref bGG, .ref bES, .ref bEG])), (bLt, .inl ((cs 1), 4, .inr (.inl (tkS zSl zTk fLG fLS zLy 20 0 (cl4 fLt))))), (bGS, .inl ((cs 1), 4, .inr (.inl ((ngP (tkG zSl zTk fLG zLy 20 0 0) (tkS zSl zTk fLG fLS zLy 20 0 (cl4 fLt)) (ngP (tkG zSl zTk fLG zLy 20 0 0) (tkS zSl zTk fLG fLS zLy 20 0 (cl4 fLt)) (fGS, fGG) 0) 1).1)))), (bGG, .inl ((cs 0), 4, .inl ((ngP (tkG zSl zTk fLG zLy 20 0 0) (tkS zSl zTk fLG fLS zLy 20 0 (cl4 fLt)) (ngP (tkG zSl zTk fLG zLy 20 0 0) (tkS zSl zTk fLG fLS zLy 20 0 (cl4 fLt)) (fGS, fGG) 0) 1).2)))] := hD
        refine lv_aload_n hx hb d_PI_takeNext_73 rfl (lv_at hl 1 rfl) ?_
        refine lv_iload_n hx hb d_PI_takeNext_74 rfl (lv_at hl 0 rfl) ?_
        refine mk_wv (va_runV (As := [.int 1]) (rest := []) ⟨hx, hb, hml, hown, hG⟩ (c_noteLeast l dC dI cs _ pa bLG bLS bLt bGS bGG bES bEG zSl zLy zGr (zTk + 1) (zGt + (tkG zSl zTk fLG zLy 20 0 0)) (tkG zSl zTk fLG zLy 20 0 0) (tkS zSl zTk fLG fLS zLy 20 0 (cl4 fLt)) ((neP (tkG zSl zTk fLG zLy 20 0 0) (tkS zSl zTk fLG fLS zLy 20 0 (cl4 fLt)) (fES, fEG) 0).1) ((neP (tkG zSl zTk fLG zLy 20 0 0) (tkS zSl zTk fLG fLS zLy 20 0 (cl4 fLt)) (fES, fEG) 0).2) 1 (⟨by decide, by decide⟩)) (cwV 1 hG (vq_gV vq_t356 vq_t358 vq_s7 vq_t10 vq_t359) rfl rfl rfl (by decide +kernel) ⟨Nat.le_of_ble_eq_true rfl, Nat.le_of_ble_eq_true rfl⟩) (vq_preVw (wc := [(pa, .inr (1, [.int zSl, .ref bLG, .ref bLS, .int zLy, .int zGr, .int (zTk + 1), .int (zGt + (tkG zSl zTk fLG zLy 20 0 0)), .int (tkG zSl zTk fLG zLy 20 0 0), .ref bLt, .ref bGS, .ref bGG, .ref bES, .ref bEG])), (bLt, .inl ((cs 1), 4, .inr (.inl (tkS zSl zTk fLG fLS zLy 20 0 (cl4 fLt))))), (bES, .inl ((cs 1), 4, .inr (.inl ((neP (tkG zSl zTk fLG zLy 20 0 0) (tkS zSl zTk fLG fLS zLy 20 0 (cl4 fLt)) (fES, fEG) 0).1)))), (bEG, .inl ((cs 0), 4, .inl ((neP (tkG zSl zTk fLG zLy 20 0 0) (tkS zSl zTk fLG fLS zLy 20 0 (cl4 fLt)) (fES, fEG) 0).2)))]) (va_recv hK hP (ci := 1) (q0 := 4) rfl rfl) hCx hP hD hS hA [4, 5, 2, 3] rfl rfl (by decide)) rfl rfl hl.1 rfl (lv_room (Nat.le_of_ble_eq_true rfl)) d_PI_takeNext_75 ⟨Nat.le_of_ble_eq_true rfl, Nat.le_of_ble_eq_true rfl⟩) hP hD hS hA [4, 5, 2, 3] [0, 1, 6, 7] rfl rfl (by decide) (by decide) (fun _ H locs w_75 hP hD hS => ?_)
        have hP : va_P (dC, dI) vq_cl [(bLG, .inl ((cs 0), 20, .inl fLG)), (bLS, .inl ((cs 0), 80, .inl fLS)), (bGS, .inl ((cs 1), 4, .inr (.inl ((ngP (tkG zSl zTk fLG zLy 20 0 0) (tkS zSl zTk fLG fLS zLy 20 0 (cl4 fLt)) (ngP (tkG zSl zTk fLG zLy 20 0 0) (tkS zSl zTk fLG fLS zLy 20 0 (cl4 fLt)) (fGS, fGG) 0) 1).1)))), (bGG, .inl ((cs 0), 4, .inl ((ngP (tkG zSl zTk fLG zLy 20 0 0) (tkS zSl zTk fLG fLS zLy 20 0 (cl4 fLt)) (ngP (tkG zSl zTk fLG zLy 20 0 0) (tkS zSl zTk fLG fLS zLy 20 0 (cl4 fLt)) (fGS, fGG) 0) 1).2))), (pa, .inr (1, [.int zSl, .ref bLG, .ref bLS, .int zLy, .int zGr, .int (zTk + 1), .int (zGt + (tkG zSl zTk fLG zLy 20 0 0)), .int (tkG zSl zTk fLG zLy 20 0 0), .ref bLt, .ref bGS, .ref bGG, .ref bES, .ref bEG])), (bLt, .inl ((cs 1), 4, .inr (.inl (tkS zSl zTk fLG fLS zLy 20 0 (cl4 fLt))))), (bES, .inl ((cs 1), 4, .inr (.inl ((neP (tkG zSl zTk fLG zLy 20 0 0) (tkS zSl zTk fLG fLS zLy 20 0 (cl4 fLt)) (neP (tkG zSl zTk fLG zLy 20 0 0) (tkS zSl zTk fLG fLS zLy 20 0 (cl4 fLt)) (fES, fEG) 0) 1).1)))), (bEG, .inl ((cs 0), 4, .inl ((neP (tkG zSl zTk fLG zLy 20 0 0) (tkS zSl zTk fLG fLS zLy 20 0 (cl4 fLt)) (neP (tkG zSl zTk fLG zLy 20 0 0) (tkS zSl zTk fLG fLS zLy 20 0 (cl4 fLt)) (fES, fEG) 0) 1).2)))] H := hP
        have hD : va_D A [(bLG, .inl ((cs 0), 20, .inl fLG)), (bLS, .inl ((cs 0), 80, .inl fLS)), (bGS, .inl ((cs 1), 4, .inr (.inl ((ngP (tkG zSl zTk fLG zLy 20 0 0) (tkS zSl zTk fLG fLS zLy 20 0 (cl4 fLt)) (ngP (tkG zSl zTk fLG zLy 20 0 0) (tkS zSl zTk fLG fLS zLy 20 0 (cl4 fLt)) (fGS, fGG) 0) 1).1)))), (bGG, .inl ((cs 0), 4, .inl ((ngP (tkG zSl zTk fLG zLy 20 0 0) (tkS zSl zTk fLG fLS zLy 20 0 (cl4 fLt)) (ngP (tkG zSl zTk fLG zLy 20 0 0) (tkS zSl zTk fLG fLS zLy 20 0 (cl4 fLt)) (fGS, fGG) 0) 1).2))), (pa, .inr (1, [.int zSl, .ref bLG, .ref bLS, .int zLy, .int zGr, .int (zTk + 1), .int (zGt + (tkG zSl zTk fLG zLy 20 0 0)), .int (tkG zSl zTk fLG zLy 20 0 0), .ref bLt, .ref bGS, .ref bGG, .ref bES, .ref bEG])), (bLt, .inl ((cs 1), 4, .inr (.inl (tkS zSl zTk fLG fLS zLy 20 0 (cl4 fLt))))), (bES, .inl ((cs 1), 4, .inr (.inl ((neP (tkG zSl zTk fLG zLy 20 0 0) (tkS zSl zTk fLG fLS zLy 20 0 (cl4 fLt)) (neP (tkG zSl zTk fLG zLy 20 0 0) (tkS zSl zTk fLG fLS zLy 20 0 (cl4 fLt)) (fES, fEG) 0) 1).1)))), (bEG, .inl ((cs 0), 4, .inl ((neP (tkG zSl zTk fLG zLy 20 0 0) (tkS zSl zTk fLG fLS zLy 20 0 (cl4 fLt)) (neP (tkG zSl zTk fLG zLy 20 0 0) (tkS zSl zTk fLG fLS zLy 20 0 (cl4 fLt)) (fES, fEG) 0) 1).2)))] := hD
        refine lv_iinc (v := 2) (lv' := [(1, .int 2), (0, .ref pa)]) hx hb d_PI_takeNext_78 hl (k := 0) rfl (by decide) (by decide) rfl (fun ls hl => ?_)
        refine lv_goto (tgt := 63) hx hb d_PI_takeNext_81 (by decide) ?_
        refine lv_iload_n hx hb d_PI_takeNext_63 rfl (lv_at hl 0 rfl) ?_
        refine lv_iconst (v := 4) hx hb d_PI_takeNext_64 (by decide) ?_
        refine lv_icmp_ge (tgt := 84) hx hb d_PI_takeNext_65 (by decide) (fun c_65 => ?_) (fun c_65 => ?_)
        · skip
          exact absurd c_65 (by decide)
        · skip
          refine lv_aload_n hx hb d_PI_takeNext_68 rfl (lv_at hl 1 rfl) ?_
          refine lv_iload_n hx hb d_PI_takeNext_69 rfl (lv_at hl 0 rfl) ?_
          refine mk_wv (va_runV (As := [.int 2]) (rest := []) ⟨hx, hb, hml, hown, hG⟩ (c_noteGreatest l dC dI cs _ pa bLG bLS bLt bGS bGG bES bEG zSl zLy zGr (zTk + 1) (zGt + (tkG zSl zTk fLG zLy 20 0 0)) (tkG zSl zTk fLG zLy 20 0 0) (tkS zSl zTk fLG fLS zLy 20 0 (cl4 fLt)) ((ngP (tkG zSl zTk fLG zLy 20 0 0) (tkS zSl zTk fLG fLS zLy 20 0 (cl4 fLt)) (ngP (tkG zSl zTk fLG zLy 20 0 0) (tkS zSl zTk fLG fLS zLy 20 0 (cl4 fLt)) (fGS, fGG) 0) 1).1) ((ngP (tkG zSl zTk fLG zLy 20 0 0) (tkS zSl zTk fLG fLS zLy 20 0 (cl4 fLt)) (ngP (tkG zSl zTk fLG zLy 20 0 0) (tkS zSl zTk fLG fLS zLy 20 0 (cl4 fLt)) (fGS, fGG) 0) 1).2) 2 (⟨by decide, by decide⟩)) (cwV 1 hG (vq_gV vq_t352 vq_t354 vq_s6 vq_t10 vq_t355) rfl rfl rfl (by decide +kernel) ⟨Nat.le_of_ble_eq_true rfl, Nat.le_of_ble_eq_true rfl⟩) (vq_preVw (wc := [(pa, .inr (1, [.int zSl, .ref bLG, .ref bLS, .int zLy, .int zGr, .int (zTk + 1), .int (zGt + (tkG zSl zTk fLG zLy 20 0 0)), .int (tkG zSl zTk fLG zLy 20 0 0), .ref bLt, .ref bGS, .ref bGG, .ref bES, .ref bEG])), (bLt, .inl ((cs 1), 4, .inr (.inl (tkS zSl zTk fLG fLS zLy 20 0 (cl4 fLt))))), (bGS, .inl ((cs 1), 4, .inr (.inl ((ngP (tkG zSl zTk fLG zLy 20 0 0) (tkS zSl zTk fLG fLS zLy 20 0 (cl4 fLt)) (ngP (tkG zSl zTk fLG zLy 20 0 0) (tkS zSl zTk fLG fLS zLy 20 0 (cl4 fLt)) (fGS, fGG) 0) 1).1)))), (bGG, .inl ((cs 0), 4, .inl ((ngP (tkG zSl zTk fLG zLy 20 0 0) (tkS zSl zTk fLG fLS zLy 20 0 (cl4 fLt)) (ngP (tkG zSl zTk fLG zLy 20 0 0) (tkS zSl zTk fLG fLS zLy 20 0 (cl4 fLt)) (fGS, fGG) 0) 1).2)))]) (va_recv hK hP (ci := 1) (q0 := 4) rfl rfl) hCx hP hD hS hA [4, 5, 2, 3] rfl rfl (by decide)) rfl rfl hl.1 rfl (lv_room (Nat.le_of_ble_eq_true rfl)) d_PI_takeNext_70 ⟨Nat.le_of_ble_eq_true rfl, Nat.le_of_ble_eq_true rfl⟩) hP hD hS hA [4, 5, 2, 3] [0, 1, 6, 7] rfl rfl (by decide) (by decide) (fun _ H locs w_70 hP hD hS => ?_)
          have hP : va_P (dC, dI) vq_cl [(bLG, .inl ((cs 0), 20, .inl fLG)), (bLS, .inl ((cs 0), 80, .inl fLS)), (bES, .inl ((cs 1), 4, .inr (.inl ((neP (tkG zSl zTk fLG zLy 20 0 0) (tkS zSl zTk fLG fLS zLy 20 0 (cl4 fLt)) (neP (tkG zSl zTk fLG zLy 20 0 0) (tkS zSl zTk fLG fLS zLy 20 0 (cl4 fLt)) (fES, fEG) 0) 1).1)))), (bEG, .inl ((cs 0), 4, .inl ((neP (tkG zSl zTk fLG zLy 20 0 0) (tkS zSl zTk fLG fLS zLy 20 0 (cl4 fLt)) (neP (tkG zSl zTk fLG zLy 20 0 0) (tkS zSl zTk fLG fLS zLy 20 0 (cl4 fLt)) (fES, fEG) 0) 1).2))), (pa, .inr (1, [.int zSl, .ref bLG, .ref bLS, .int zLy, .int zGr, .int (zTk + 1), .int (zGt + (tkG zSl zTk fLG zLy 20 0 0)), .int (tkG zSl zTk fLG zLy 20 0 0), .ref bLt, .ref bGS, .ref bGG, .ref bES, .ref bEG])), (bLt, .inl ((cs 1), 4, .inr (.inl (tkS zSl zTk fLG fLS zLy 20 0 (cl4 fLt))))), (bGS, .inl ((cs 1), 4, .inr (.inl ((ngP (tkG zSl zTk fLG zLy 20 0 0) (tkS zSl zTk fLG fLS zLy 20 0 (cl4 fLt)) (ngP (tkG zSl zTk fLG zLy 20 0 0) (tkS zSl zTk fLG fLS zLy 20 0 (cl4 fLt)) (ngP (tkG zSl zTk fLG zLy 20 0 0) (tkS zSl zTk fLG fLS zLy 20 0 (cl4 fLt)) (fGS, fGG) 0) 1) 2).1)))), (bGG, .inl ((cs 0), 4, .inl ((ngP (tkG zSl zTk fLG zLy 20 0 0) (tkS zSl zTk fLG fLS zLy 20 0 (cl4 fLt)) (ngP (tkG zSl zTk fLG zLy 20 0 0) (tkS zSl zTk fLG fLS zLy 20 0 (cl4 fLt)) (ngP (tkG zSl zTk fLG zLy 20 0 0) (tkS zSl zTk fLG fLS zLy 20 0 (cl4 fLt)) (fGS, fGG) 0) 1) 2).2)))] H := hP
          have hD : va_D A [(bLG, .inl ((cs 0), 20, .inl fLG)), (bLS, .inl ((cs 0), 80, .inl fLS)), (bES, .inl ((cs 1), 4, .inr (.inl ((neP (tkG zSl zTk fLG zLy 20 0 0) (tkS zSl zTk fLG fLS zLy 20 0 (cl4 fLt)) (neP (tkG zSl zTk fLG zLy 20 0 0) (tkS zSl zTk fLG fLS zLy 20 0 (cl4 fLt)) (fES, fEG) 0) 1).1)))), (bEG, .inl ((cs 0), 4, .inl ((neP (tkG zSl zTk fLG zLy 20 0 0) (tkS zSl zTk fLG fLS zLy 20 0 (cl4 fLt)) (neP (tkG zSl zTk fLG zLy 20 0 0) (tkS zSl zTk fLG fLS zLy 20 0 (cl4 fLt)) (fES, fEG) 0) 1).2))), (pa, .inr (1, [.int zSl, .ref bLG, .ref bLS, .int zLy, .int zGr, .int (zTk + 1), .int (zGt + (tkG zSl zTk fLG zLy 20 0 0)), .int (tkG zSl zTk fLG zLy 20 0 0), .ref bLt, .ref bGS, .ref bGG, .ref bES, .ref bEG])), (bLt, .inl ((cs 1), 4, .inr (.inl (tkS zSl zTk fLG fLS zLy 20 0 (cl4 fLt))))), (bGS, .inl ((cs 1), 4, .inr (.inl ((ngP (tkG zSl zTk fLG zLy 20 0 0) (tkS zSl zTk fLG fLS zLy 20 0 (cl4 fLt)) (ngP (tkG zSl zTk fLG zLy 20 0 0) (tkS zSl zTk fLG fLS zLy 20 0 (cl4 fLt)) (ngP (tkG zSl zTk fLG zLy 20 0 0) (tkS zSl zTk fLG fLS zLy 20 0 (cl4 fLt)) (fGS, fGG) 0) 1) 2).1)))), (bGG, .inl ((cs 0), 4, .inl ((ngP (tkG zSl zTk fLG zLy 20 0 0) (tkS zSl zTk fLG fLS zLy 20 0 (cl4 fLt)) (ngP (tkG zSl zTk fLG zLy 20 0 0) (tkS zSl zTk fLG fLS zLy 20 0 (cl4 fLt)) (ngP (tkG zSl zTk fLG zLy 20 0 0) (tkS zSl zTk fLG fLS zLy 20 0 (cl4 fLt)) (fGS, fGG) 0) 1) 2).2)))] := hD
          refine lv_aload_n hx hb d_PI_takeNext_73 rfl (lv_at hl 1 rfl) ?_
          refine lv_iload_n hx hb d_PI_takeNext_74 rfl (lv_at hl 0 rfl) ?_
          refine mk_wv (va_runV (As := [.int 2]) (rest := []) ⟨hx, hb, hml, hown, hG⟩ (c_noteLeast l dC dI cs _ pa bLG bLS bLt bGS bGG bES bEG zSl zLy zGr (zTk + 1) (zGt + (tkG zSl zTk fLG zLy 20 0 0)) (tkG zSl zTk fLG zLy 20 0 0) (tkS zSl zTk fLG fLS zLy 20 0 (cl4 fLt)) ((neP (tkG zSl zTk fLG zLy 20 0 0) (tkS zSl zTk fLG fLS zLy 20 0 (cl4 fLt)) (neP (tkG zSl zTk fLG zLy 20 0 0) (tkS zSl zTk fLG fLS zLy 20 0 (cl4 fLt)) (fES, fEG) 0) 1).1) ((neP (tkG zSl zTk fLG zLy 20 0 0) (tkS zSl zTk fLG fLS zLy 20 0 (cl4 fLt)) (neP (tkG zSl zTk fLG zLy 20 0 0) (tkS zSl zTk fLG fLS zLy 20 0 (cl4 fLt)) (fES, fEG) 0) 1).2) 2 (⟨by decide, by decide⟩)) (cwV 1 hG (vq_gV vq_t356 vq_t358 vq_s7 vq_t10 vq_t359) rfl rfl rfl (by decide +kernel) ⟨Nat.le_of_ble_eq_true rfl, Nat.le_of_ble_eq_true rfl⟩) (vq_preVw (wc := [(pa, .inr (1, [.int zSl, .ref bLG, .ref bLS, .int zLy, .int zGr, .int (zTk + 1), .int (zGt + (tkG zSl zTk fLG zLy 20 0 0)), .int (tkG zSl zTk fLG zLy 20 0 0), .ref bLt, .ref bGS, .ref bGG, .ref bES, .ref bEG])), (bLt, .inl ((cs 1), 4, .inr (.inl (tkS zSl zTk fLG fLS zLy 20 0 (cl4 fLt))))), (bES, .inl ((cs 1), 4, .inr (.inl ((neP (tkG zSl zTk fLG zLy 20 0 0) (tkS zSl zTk fLG fLS zLy 20 0 (cl4 fLt)) (neP (tkG zSl zTk fLG zLy 20 0 0) (tkS zSl zTk fLG fLS zLy 20 0 (cl4 fLt)) (fES, fEG) 0) 1).1)))), (bEG, .inl ((cs 0), 4, .inl ((neP (tkG zSl zTk fLG zLy 20 0 0) (tkS zSl zTk fLG fLS zLy 20 0 (cl4 fLt)) (neP (tkG zSl zTk fLG zLy 20 0 0) (tkS zSl zTk fLG fLS zLy 20 0 (cl4 fLt)) (fES, fEG) 0) 1).2)))]) (va_recv hK hP (ci := 1) (q0 := 4) rfl rfl) hCx hP hD hS hA [4, 5, 2, 3] rfl rfl (by decide)) rfl rfl hl.1 rfl (lv_room (Nat.le_of_ble_eq_true rfl)) d_PI_takeNext_75 ⟨Nat.le_of_ble_eq_true rfl, Nat.le_of_ble_eq_true rfl⟩) hP hD hS hA [4, 5, 2, 3] [0, 1, 6, 7] rfl rfl (by decide) (by decide) (fun _ H locs w_75 hP hD hS => ?_)
          have hP : va_P (dC, dI) vq_cl [(bLG, .inl ((cs 0), 20, .inl fLG)), (bLS, .inl ((cs 0), 80, .inl fLS)), (bGS, .inl ((cs 1), 4, .inr (.inl ((ngP (tkG zSl zTk fLG zLy 20 0 0) (tkS zSl zTk fLG fLS zLy 20 0 (cl4 fLt)) (ngP (tkG zSl zTk fLG zLy 20 0 0) (tkS zSl zTk fLG fLS zLy 20 0 (cl4 fLt)) (ngP (tkG zSl zTk fLG zLy 20 0 0) (tkS zSl zTk fLG fLS zLy 20 0 (cl4 fLt)) (fGS, fGG) 0) 1) 2).1)))), (bGG, .inl ((cs 0), 4, .inl ((ngP (tkG zSl zTk fLG zLy 20 0 0) (tkS zSl zTk fLG fLS zLy 20 0 (cl4 fLt)) (ngP (tkG zSl zTk fLG zLy 20 0 0) (tkS zSl zTk fLG fLS zLy 20 0 (cl4 fLt)) (ngP (tkG zSl zTk fLG zLy 20 0 0) (tkS zSl zTk fLG fLS zLy 20 0 (cl4 fLt)) (fGS, fGG) 0) 1) 2).2))), (pa, .inr (1, [.int zSl, .ref bLG, .ref bLS, .int zLy, .int zGr, .int (zTk + 1), .int (zGt + (tkG zSl zTk fLG zLy 20 0 0)), .int (tkG zSl zTk fLG zLy 20 0 0), .ref bLt, .ref bGS, .ref bGG, .ref bES, .ref bEG])), (bLt, .inl ((cs 1), 4, .inr (.inl (tkS zSl zTk fLG fLS zLy 20 0 (cl4 fLt))))), (bES, .inl ((cs 1), 4, .inr (.inl ((neP (tkG zSl zTk fLG zLy 20 0 0) (tkS zSl zTk fLG fLS zLy 20 0 (cl4 fLt)) (neP (tkG zSl zTk fLG zLy 20 0 0) (tkS zSl zTk fLG fLS zLy 20 0 (cl4 fLt)) (neP (tkG zSl zTk fLG zLy 20 0 0) (tkS zSl zTk fLG fLS zLy 20 0 (cl4 fLt)) (fES, fEG) 0) 1) 2).1)))), (bEG, .inl ((cs 0), 4, .inl ((neP (tkG zSl zTk fLG zLy 20 0 0) (tkS zSl zTk fLG fLS zLy 20 0 (cl4 fLt)) (neP (tkG zSl zTk fLG zLy 20 0 0) (tkS zSl zTk fLG fLS zLy 20 0 (cl4 fLt)) (neP (tkG zSl zTk fLG zLy 20 0 0) (tkS zSl zTk fLG fLS zLy 20 0 (cl4 fLt)) (fES, fEG) 0) 1) 2).2)))] H := hP
          have hD : va_D A [(bLG, .inl ((cs 0), 20, .inl fLG)), (bLS, .inl ((cs 0), 80, .inl fLS)), (bGS, .inl ((cs 1), 4, .inr (.inl ((ngP (tkG zSl zTk fLG zLy 20 0 0) (tkS zSl zTk fLG fLS zLy 20 0 (cl4 fLt)) (ngP (tkG zSl zTk fLG zLy 20 0 0) (tkS zSl zTk fLG fLS zLy 20 0 (cl4 fLt)) (ngP (tkG zSl zTk fLG zLy 20 0 0) (tkS zSl zTk fLG fLS zLy 20 0 (cl4 fLt)) (fGS, fGG) 0) 1) 2).1)))), (bGG, .inl ((cs 0), 4, .inl ((ngP (tkG zSl zTk fLG zLy 20 0 0) (tkS zSl zTk fLG fLS zLy 20 0 (cl4 fLt)) (ngP (tkG zSl zTk fLG zLy 20 0 0) (tkS zSl zTk fLG fLS zLy 20 0 (cl4 fLt)) (ngP (tkG zSl zTk fLG zLy 20 0 0) (tkS zSl zTk fLG fLS zLy 20 0 (cl4 fLt)) (fGS, fGG) 0) 1) 2).2))), (pa, .inr (1, [.int zSl, .ref bLG, .ref bLS, .int zLy, .int zGr, .int (zTk + 1), .int (zGt + (tkG zSl zTk fLG zLy 20 0 0)), .int (tkG zSl zTk fLG zLy 20 0 0), .ref bLt, .ref bGS, .ref bGG, .ref bES, .ref bEG])), (bLt, .inl ((cs 1), 4, .inr (.inl (tkS zSl zTk fLG fLS zLy 20 0 (cl4 fLt))))), (bES, .inl ((cs 1), 4, .inr (.inl ((neP (tkG zSl zTk fLG zLy 20 0 0) (tkS zSl zTk fLG fLS zLy 20 0 (cl4 fLt)) (neP (tkG zSl zTk fLG zLy 20 0 0) (tkS zSl zTk fLG fLS zLy 20 0 (cl4 fLt)) (neP (tkG zSl zTk fLG zLy 20 0 0) (tkS zSl zTk fLG fLS zLy 20 0 (cl4 fLt)) (fES, fEG) 0) 1) 2).1)))), (bEG, .inl ((cs 0), 4, .inl ((neP (tkG zSl zTk fLG zLy 20 0 0) (tkS zSl zTk fLG fLS zLy 20 0 (cl4 fLt)) (neP (tkG zSl zTk fLG zLy 20 0 0) (tkS zSl zTk fLG fLS zLy 20 0 (cl4 fLt)) (neP (tkG zSl zTk fLG zLy 20 0 0) (tkS zSl zTk fLG fLS zLy 20 0 (cl4 fLt)) (fES, fEG) 0) 1) 2).2)))] := hD
          refine lv_iinc (v := 3) (lv' := [(1, .int 3), (0, .ref pa)]) hx hb d_PI_takeNext_78 hl (k := 0) rfl (by decide) (by decide) rfl (fun ls hl => ?_)
          refine lv_goto (tgt := 63) hx hb d_PI_takeNext_81 (by decide) ?_
          refine lv_iload_n hx hb d_PI_takeNext_63 rfl (lv_at hl 0 rfl) ?_
          refine lv_iconst (v := 4) hx hb d_PI_takeNext_64 (by decide) ?_
          refine lv_icmp_ge (tgt := 84) hx hb d_PI_takeNext_65 (by decide) (fun c_65 => ?_) (fun c_65 => ?_)
          · skip
            exact absurd c_65 (by decide)
          · skip
            refine lv_aload_n hx hb d_PI_takeNext_68 rfl (lv_at hl 1 rfl) ?_
            refine lv_iload_n hx hb d_PI_takeNext_69 rfl (lv_at hl 0 rfl) ?_
            refine mk_wv (va_runV (As := [.int 3]) (rest := []) ⟨hx, hb, hml, hown, hG⟩ (c_noteGreatest l dC dI cs _ pa bLG bLS bLt bGS bGG bES bEG zSl zLy zGr (zTk + 1) (zGt + (tkG zSl zTk fLG zLy 20 0 0)) (tkG zSl zTk fLG zLy 20 0 0) (tkS zSl zTk fLG fLS zLy 20 0 (cl4 fLt)) ((ngP (tkG zSl zTk fLG zLy 20 0 0) (tkS zSl zTk fLG fLS zLy 20 0 (cl4 fLt)) (ngP (tkG zSl zTk fLG zLy 20 0 0) (tkS zSl zTk fLG fLS zLy 20 0 (cl4 fLt)) (ngP (tkG zSl zTk fLG zLy 20 0 0) (tkS zSl zTk fLG fLS zLy 20 0 (cl4 fLt)) (fGS, fGG) 0) 1) 2).1) ((ngP (tkG zSl zTk fLG zLy 20 0 0) (tkS zSl zTk fLG fLS zLy 20 0 (cl4 fLt)) (ngP (tkG zSl zTk fLG zLy 20 0 0) (tkS zSl zTk fLG fLS zLy 20 0 (cl4 fLt)) (ngP (tkG zSl zTk fLG zLy 20 0 0) (tkS zSl zTk fLG fLS zLy 20 0 (cl4 fLt)) (fGS, fGG) 0) 1) 2).2) 3 (⟨by decide, by decide⟩)) (cwV 1 hG (vq_gV vq_t352 vq_t354 vq_s6 vq_t10 vq_t355) rfl rfl rfl (by decide +kernel) ⟨Nat.le_of_ble_eq_true rfl, Nat.le_of_ble_eq_true rfl⟩) (vq_preVw (wc := [(pa, .inr (1, [.int zSl, .ref bLG, .ref bLS, .int zLy, .int zGr, .int (zTk + 1), .int (zGt + (tkG zSl zTk fLG zLy 20 0 0)), .int (tkG zSl zTk fLG zLy 20 0 0), .ref bLt, .ref bGS, .ref bGG, .ref bES, .ref bEG])), (bLt, .inl ((cs 1), 4, .inr (.inl (tkS zSl zTk fLG fLS zLy 20 0 (cl4 fLt))))), (bGS, .inl ((cs 1), 4, .inr (.inl ((ngP (tkG zSl zTk fLG zLy 20 0 0) (tkS zSl zTk fLG fLS zLy 20 0 (cl4 fLt)) (ngP (tkG zSl zTk fLG zLy 20 0 0) (tkS zSl zTk fLG fLS zLy 20 0 (cl4 fLt)) (ngP (tkG zSl zTk fLG zLy 20 0 0) (tkS zSl zTk fLG fLS zLy 20 0 (cl4 fLt)) (fGS, fGG) 0) 1) 2).1)))), (bGG, .inl ((cs 0), 4, .inl ((ngP (tkG zSl zTk fLG zLy 20 0 0) (tkS zSl zTk fLG fLS zLy 20 0 (cl4 fLt)) (ngP (tkG zSl zTk fLG zLy 20 0 0) (tkS zSl zTk fLG fLS zLy 20 0 (cl4 fLt)) (ngP (tkG zSl zTk fLG zLy 20 0 0) (tkS zSl zTk fLG fLS zLy 20 0 (cl4 fLt)) (fGS, fGG) 0) 1) 2).2)))]) (va_recv hK hP (ci := 1) (q0 := 4) rfl rfl) hCx hP hD hS hA [4, 5, 2, 3] rfl rfl (by decide)) rfl rfl hl.1 rfl (lv_room (Nat.le_of_ble_eq_true rfl)) d_PI_takeNext_70 ⟨Nat.le_of_ble_eq_true rfl, Nat.le_of_ble_eq_true rfl⟩) hP hD hS hA [4, 5, 2, 3] [0, 1, 6, 7] rfl rfl (by decide) (by decide) (fun _ H locs w_70 hP hD hS => ?_)
            have hP : va_P (dC, dI) vq_cl [(bLG, .inl ((cs 0), 20, .inl fLG)), (bLS, .inl ((cs 0), 80, .inl fLS)), (bES, .inl ((cs 1), 4, .inr (.inl ((neP (tkG zSl zTk fLG zLy 20 0 0) (tkS zSl zTk fLG fLS zLy 20 0 (cl4 fLt)) (neP (tkG zSl zTk fLG zLy 20 0 0) (tkS zSl zTk fLG fLS zLy 20 0 (cl4 fLt)) (neP (tkG zSl zTk fLG zLy 20 0 0) (tkS zSl zTk fLG fLS zLy 20 0 (cl4 fLt)) (fES, fEG) 0) 1) 2).1)))), (bEG, .inl ((cs 0), 4, .inl ((neP (tkG zSl zTk fLG zLy 20 0 0) (tkS zSl zTk fLG fLS zLy 20 0 (cl4 fLt)) (neP (tkG zSl zTk fLG zLy 20 0 0) (tkS zSl zTk fLG fLS zLy 20 0 (cl4 fLt)) (neP (tkG zSl zTk fLG zLy 20 0 0) (tkS zSl zTk fLG fLS zLy 20 0 (cl4 fLt)) (fES, fEG) 0) 1) 2).2))), (pa, .inr (1, [.int zSl, .ref bLG, .ref bLS, .int zLy, .int zGr, .int (zTk + 1), .int (zGt + (tkG zSl zTk fLG zLy 20 0 0)), .int (tkG zSl zTk fLG zLy 20 0 0), .ref bLt, .ref bGS, .ref bGG, .ref bES, .ref bEG])), (bLt, .inl ((cs 1), 4, .inr (.inl (tkS zSl zTk fLG fLS zLy 20 0 (cl4 fLt))))), (bGS, .inl ((cs 1), 4, .inr (.inl ((ngP (tkG zSl zTk fLG zLy 20 0 0) (tkS zSl zTk fLG fLS zLy 20 0 (cl4 fLt)) (ngP (tkG zSl zTk fLG zLy 20 0 0) (tkS zSl zTk fLG fLS zLy 20 0 (cl4 fLt)) (ngP (tkG zSl zTk fLG zLy 20 0 0) (tkS zSl zTk fLG fLS zLy 20 0 (cl4 fLt)) (ngP (tkG zSl zTk fLG zLy 20 0 0) (tkS zSl zTk fLG fLS zLy 20 0 (cl4 fLt)) (fGS, fGG) 0) 1) 2) 3).1)))), (bGG, .inl ((cs 0), 4, .inl ((ngP (tkG zSl zTk fLG zLy 20 0 0) (tkS zSl zTk fLG fLS zLy 20 0 (cl4 fLt)) (ngP (tkG zSl zTk fLG zLy 20 0 0) (tkS zSl zTk fLG fLS zLy 20 0 (cl4 fLt)) (ngP (tkG zSl zTk fLG zLy 20 0 0) (tkS zSl zTk fLG fLS zLy 20 0 (cl4 fLt)) (ngP (tkG zSl zTk fLG zLy 20 0 0) (tkS zSl zTk fLG fLS zLy 20 0 (cl4 fLt)) (fGS, fGG) 0) 1) 2) 3).2)))] H := hP
            have hD : va_D A [(bLG, .inl ((cs 0), 20, .inl fLG)), (bLS, .inl ((cs 0), 80, .inl fLS)), (bES, .inl ((cs 1), 4, .inr (.inl ((neP (tkG zSl zTk fLG zLy 20 0 0) (tkS zSl zTk fLG fLS zLy 20 0 (cl4 fLt)) (neP (tkG zSl zTk fLG zLy 20 0 0) (tkS zSl zTk fLG fLS zLy 20 0 (cl4 fLt)) (neP (tkG zSl zTk fLG zLy 20 0 0) (tkS zSl zTk fLG fLS zLy 20 0 (cl4 fLt)) (fES, fEG) 0) 1) 2).1)))), (bEG, .inl ((cs 0), 4, .inl ((neP (tkG zSl zTk fLG zLy 20 0 0) (tkS zSl zTk fLG fLS zLy 20 0 (cl4 fLt)) (neP (tkG zSl zTk fLG zLy 20 0 0) (tkS zSl zTk fLG fLS zLy 20 0 (cl4 fLt)) (neP (tkG zSl zTk fLG zLy 20 0 0) (tkS zSl zTk fLG fLS zLy 20 0 (cl4 fLt)) (fES, fEG) 0) 1) 2).2))), (pa, .inr (1, [.int zSl, .ref bLG, .ref bLS, .int zLy, .int zGr, .int (zTk + 1), .int (zGt + (tkG zSl zTk fLG zLy 20 0 0)), .int (tkG zSl zTk fLG zLy 20 0 0), .ref bLt, .ref bGS, .ref bGG, .ref bES, .ref bEG])), (bLt, .inl ((cs 1), 4, .inr (.inl (tkS zSl zTk fLG fLS zLy 20 0 (cl4 fLt))))), (bGS, .inl ((cs 1), 4, .inr (.inl ((ngP (tkG zSl zTk fLG zLy 20 0 0) (tkS zSl zTk fLG fLS zLy 20 0 (cl4 fLt)) (ngP (tkG zSl zTk fLG zLy 20 0 0) (tkS zSl zTk fLG fLS zLy 20 0 (cl4 fLt)) (ngP (tkG zSl zTk fLG zLy 20 0 0) (tkS zSl zTk fLG fLS zLy 20 0 (cl4 fLt)) (ngP (tkG zSl zTk fLG zLy 20 0 0) (tkS zSl zTk fLG fLS zLy 20 0 (cl4 fLt)) (fGS, fGG) 0) 1) 2) 3).1)))), (bGG, .inl ((cs 0), 4, .inl ((ngP (tkG zSl zTk fLG zLy 20 0 0) (tkS zSl zTk fLG fLS zLy 20 0 (cl4 fLt)) (ngP (tkG zSl zTk fLG zLy 20 0 0) (tkS zSl zTk fLG fLS zLy 20 0 (cl4 fLt)) (ngP (tkG zSl zTk fLG zLy 20 0 0) (tkS zSl zTk fLG fLS zLy 20 0 (cl4 fLt)) (ngP (tkG zSl zTk fLG zLy 20 0 0) (tkS zSl zTk fLG fLS zLy 20 0 (cl4 fLt)) (fGS, fGG) 0) 1) 2) 3).2)))] := hD
            refine lv_aload_n hx hb d_PI_takeNext_73 rfl (lv_at hl 1 rfl) ?_
            refine lv_iload_n hx hb d_PI_takeNext_74 rfl (lv_at hl 0 rfl) ?_
            refine mk_wv (va_runV (As := [.int 3]) (rest := []) ⟨hx, hb, hml, hown, hG⟩ (c_noteLeast l dC dI cs _ pa bLG bLS bLt bGS bGG bES bEG zSl zLy zGr (zTk + 1) (zGt + (tkG zSl zTk fLG zLy 20 0 0)) (tkG zSl zTk fLG zLy 20 0 0) (tkS zSl zTk fLG fLS zLy 20 0 (cl4 fLt)) ((neP (tkG zSl zTk fLG zLy 20 0 0) (tkS zSl zTk fLG fLS zLy 20 0 (cl4 fLt)) (neP (tkG zSl zTk fLG zLy 20 0 0) (tkS zSl zTk fLG fLS zLy 20 0 (cl4 fLt)) (neP (tkG zSl zTk fLG zLy 20 0 0) (tkS zSl zTk fLG fLS zLy 20 0 (cl4 fLt)) (fES, fEG) 0) 1) 2).1) ((neP (tkG zSl zTk fLG zLy 20 0 0) (tkS zSl zTk fLG fLS zLy 20 0 (cl4 fLt)) (neP (tkG zSl zTk fLG zLy 20 0 0) (tkS zSl zTk fLG fLS zLy 20 0 (cl4 fLt)) (neP (tkG zSl zTk fLG zLy 20 0 0) (tkS zSl zTk fLG fLS zLy 20 0 (cl4 fLt)) (fES, fEG) 0) 1) 2).2) 3 (⟨by decide, by decide⟩)) (cwV 1 hG (vq_gV vq_t356 vq_t358 vq_s7 vq_t10 vq_t359) rfl rfl rfl (by decide +kernel) ⟨Nat.le_of_ble_eq_true rfl, Nat.le_of_ble_eq_true rfl⟩) (vq_preVw (wc := [(pa, .inr (1, [.int zSl, .ref bLG, .ref bLS, .int zLy, .int zGr, .int (zTk + 1), .int (zGt + (tkG zSl zTk fLG zLy 20 0 0)), .int (tkG zSl zTk fLG zLy 20 0 0), .ref bLt, .ref bGS, .ref bGG, .ref bES, .ref bEG])), (bLt, .inl ((cs 1), 4, .inr (.inl (tkS zSl zTk fLG fLS zLy 20 0 (cl4 fLt))))), (bES, .inl ((cs 1), 4, .inr (.inl ((neP (tkG zSl zTk fLG zLy 20 0 0) (tkS zSl zTk fLG fLS zLy 20 0 (cl4 fLt)) (neP (tkG zSl zTk fLG zLy 20 0 0) (tkS zSl zTk fLG fLS zLy 20 0 (cl4 fLt)) (neP (tkG zSl zTk fLG zLy 20 0 0) (tkS zSl zTk fLG fLS zLy 20 0 (cl4 fLt)) (fES, fEG) 0) 1) 2).1)))), (bEG, .inl ((cs 0), 4, .inl ((neP (tkG zSl zTk fLG zLy 20 0 0) (tkS zSl zTk fLG fLS zLy 20 0 (cl4 fLt)) (neP (tkG zSl zTk fLG zLy 20 0 0) (tkS zSl zTk fLG fLS zLy 20 0 (cl4 fLt)) (neP (tkG zSl zTk fLG zLy 20 0 0) (tkS zSl zTk fLG fLS zLy 20 0 (cl4 fLt)) (fES, fEG) 0) 1) 2).2)))]) (va_recv hK hP (ci := 1) (q0 := 4) rfl rfl) hCx hP hD hS hA [4, 5, 2, 3] rfl rfl (by decide)) rfl rfl hl.1 rfl (lv_room (Nat.le_of_ble_eq_true rfl)) d_PI_takeNext_75 ⟨Nat.le_of_ble_eq_true rfl, Nat.le_of_ble_eq_true rfl⟩) hP hD hS hA [4, 5, 2, 3] [0, 1, 6, 7] rfl rfl (by decide) (by decide) (fun _ H locs w_75 hP hD hS => ?_)
            have hP : va_P (dC, dI) vq_cl [(bLG, .inl ((cs 0), 20, .inl fLG)), (bLS, .inl ((cs 0), 80, .inl fLS)), (bGS, .inl ((cs 1), 4, .inr (.inl ((ngP (tkG zSl zTk fLG zLy 20 0 0) (tkS zSl zTk fLG fLS zLy 20 0 (cl4 fLt)) (ngP (tkG zSl zTk fLG zLy 20 0 0) (tkS zSl zTk fLG fLS zLy 20 0 (cl4 fLt)) (ngP (tkG zSl zTk fLG zLy 20 0 0) (tkS zSl zTk fLG fLS zLy 20 0 (cl4 fLt)) (ngP (tkG zSl zTk fLG zLy 20 0 0) (tkS zSl zTk fLG fLS zLy 20 0 (cl4 fLt)) (fGS, fGG) 0) 1) 2) 3).1)))), (bGG, .inl ((cs 0), 4, .inl ((ngP (tkG zSl zTk fLG zLy 20 0 0) (tkS zSl zTk fLG fLS zLy 20 0 (cl4 fLt)) (ngP (tkG zSl zTk fLG zLy 20 0 0) (tkS zSl zTk fLG fLS zLy 20 0 (cl4 fLt)) (ngP (tkG zSl zTk fLG zLy 20 0 0) (tkS zSl zTk fLG fLS zLy 20 0 (cl4 fLt)) (ngP (tkG zSl zTk fLG zLy 20 0 0) (tkS zSl zTk fLG fLS zLy 20 0 (cl4 fLt)) (fGS, fGG) 0) 1) 2) 3).2))), (pa, .inr (1, [.int zSl, .ref bLG, .ref bLS, .int zLy, .int zGr, .int (zTk + 1), .int (zGt + (tkG zSl zTk fLG zLy 20 0 0)), .int (tkG zSl zTk fLG zLy 20 0 0), .ref bLt, .ref bGS, .ref bGG, .ref bES, .ref bEG])), (bLt, .inl ((cs 1), 4, .inr (.inl (tkS zSl zTk fLG fLS zLy 20 0 (cl4 fLt))))), (bES, .inl ((cs 1), 4, .inr (.inl ((neP (tkG zSl zTk fLG zLy 20 0 0) (tkS zSl zTk fLG fLS zLy 20 0 (cl4 fLt)) (neP (tkG zSl zTk fLG zLy 20 0 0) (tkS zSl zTk fLG fLS zLy 20 0 (cl4 fLt)) (neP (tkG zSl zTk fLG zLy 20 0 0) (tkS zSl zTk fLG fLS zLy 20 0 (cl4 fLt)) (neP (tkG zSl zTk fLG zLy 20 0 0) (tkS zSl zTk fLG fLS zLy 20 0 (cl4 fLt)) (fES, fEG) 0) 1) 2) 3).1)))), (bEG, .inl ((cs 0), 4, .inl ((neP (tkG zSl zTk fLG zLy 20 0 0) (tkS zSl zTk fLG fLS zLy 20 0 (cl4 fLt)) (neP (tkG zSl zTk fLG zLy 20 0 0) (tkS zSl zTk fLG fLS zLy 20 0 (cl4 fLt)) (neP (tkG zSl zTk fLG zLy 20 0 0) (tkS zSl zTk fLG fLS zLy 20 0 (cl4 fLt)) (neP (tkG zSl zTk fLG zLy 20 0 0) (tkS zSl zTk fLG fLS zLy 20 0 (cl4 fLt)) (fES, fEG) 0) 1) 2) 3).2)))] H := hP
            have hD : va_D A [(bLG, .inl ((cs 0), 20, .inl fLG)), (bLS, .inl ((cs 0), 80, .inl fLS)), (bGS, .inl ((cs 1), 4, .inr (.inl ((ngP (tkG zSl zTk fLG zLy 20 0 0) (tkS zSl zTk fLG fLS zLy 20 0 (cl4 fLt)) (ngP (tkG zSl zTk fLG zLy 20 0 0) (tkS zSl zTk fLG fLS zLy 20 0 (cl4 fLt)) (ngP (tkG zSl zTk fLG zLy 20 0 0) (tkS zSl zTk fLG fLS zLy 20 0 (cl4 fLt)) (ngP (tkG zSl zTk fLG zLy 20 0 0) (tkS zSl zTk fLG fLS zLy 20 0 (cl4 fLt)) (fGS, fGG) 0) 1) 2) 3).1)))), (bGG, .inl ((cs 0), 4, .inl ((ngP (tkG zSl zTk fLG zLy 20 0 0) (tkS zSl zTk fLG fLS zLy 20 0 (cl4 fLt)) (ngP (tkG zSl zTk fLG zLy 20 0 0) (tkS zSl zTk fLG fLS zLy 20 0 (cl4 fLt)) (ngP (tkG zSl zTk fLG zLy 20 0 0) (tkS zSl zTk fLG fLS zLy 20 0 (cl4 fLt)) (ngP (tkG zSl zTk fLG zLy 20 0 0) (tkS zSl zTk fLG fLS zLy 20 0 (cl4 fLt)) (fGS, fGG) 0) 1) 2) 3).2))), (pa, .inr (1, [.int zSl, .ref bLG, .ref bLS, .int zLy, .int zGr, .int (zTk + 1), .int (zGt + (tkG zSl zTk fLG zLy 20 0 0)), .int (tkG zSl zTk fLG zLy 20 0 0), .ref bLt, .ref bGS, .ref bGG, .ref bES, .ref bEG])), (bLt, .inl ((cs 1), 4, .inr (.inl (tkS zSl zTk fLG fLS zLy 20 0 (cl4 fLt))))), (bES, .inl ((cs 1), 4, .inr (.inl ((neP (tkG zSl zTk fLG zLy 20 0 0) (tkS zSl zTk fLG fLS zLy 20 0 (cl4 fLt)) (neP (tkG zSl zTk fLG zLy 20 0 0) (tkS zSl zTk fLG fLS zLy 20 0 (cl4 fLt)) (neP (tkG zSl zTk fLG zLy 20 0 0) (tkS zSl zTk fLG fLS zLy 20 0 (cl4 fLt)) (neP (tkG zSl zTk fLG zLy 20 0 0) (tkS zSl zTk fLG fLS zLy 20 0 (cl4 fLt)) (fES, fEG) 0) 1) 2) 3).1)))), (bEG, .inl ((cs 0), 4, .inl ((neP (tkG zSl zTk fLG zLy 20 0 0) (tkS zSl zTk fLG fLS zLy 20 0 (cl4 fLt)) (neP (tkG zSl zTk fLG zLy 20 0 0) (tkS zSl zTk fLG fLS zLy 20 0 (cl4 fLt)) (neP (tkG zSl zTk fLG zLy 20 0 0) (tkS zSl zTk fLG fLS zLy 20 0 (cl4 fLt)) (neP (tkG zSl zTk fLG zLy 20 0 0) (tkS zSl zTk fLG fLS zLy 20 0 (cl4 fLt)) (fES, fEG) 0) 1) 2) 3).2)))] := hD
            refine lv_iinc (v := 4) (lv' := [(1, .int 4), (0, .ref pa)]) hx hb d_PI_takeNext_78 hl (k := 0) rfl (by decide) (by decide) rfl (fun ls hl => ?_)
            refine lv_goto (tgt := 63) hx hb d_PI_takeNext_81 (by decide) ?_
            refine lv_iload_n hx hb d_PI_takeNext_63 rfl (lv_at hl 0 rfl) ?_
            refine lv_iconst (v := 4) hx hb d_PI_takeNext_64 (by decide) ?_
            refine lv_icmp_ge (tgt := 84) hx hb d_PI_takeNext_65 (by decide) (fun c_65 => ?_) (fun c_65 => ?_)
            · skip
              refine W.widen (k := 0) (n := 0) (Nat.le_of_ble_eq_true rfl) (Nat.le_of_ble_eq_true rfl) ?_
              have hP9 : va_P (dC, dI) vq_cl [(pa, .inr (1, [.int zSl, .ref bLG, .ref bLS, .int zLy, .int zGr, .int (zTk + 1), .int (zGt + (tkG zSl zTk fLG zLy 20 0 0)), .int (tkG zSl zTk fLG zLy 20 0 0), .ref bLt, .ref bGS, .ref bGG, .ref bES, .ref bEG])), (bLG, .inl ((cs 0), 20, .inl fLG)), (bLS, .inl ((cs 0), 80, .inl fLS)), (bLt, .inl ((cs 1), 4, .inr (.inl (tkS zSl zTk fLG fLS zLy 20 0 (cl4 fLt))))), (bGS, .inl ((cs 1), 4, .inr (.inl ((ngP (tkG zSl zTk fLG zLy 20 0 0) (tkS zSl zTk fLG fLS zLy 20 0 (cl4 fLt)) (ngP (tkG zSl zTk fLG zLy 20 0 0) (tkS zSl zTk fLG fLS zLy 20 0 (cl4 fLt)) (ngP (tkG zSl zTk fLG zLy 20 0 0) (tkS zSl zTk fLG fLS zLy 20 0 (cl4 fLt)) (ngP (tkG zSl zTk fLG zLy 20 0 0) (tkS zSl zTk fLG fLS zLy 20 0 (cl4 fLt)) (fGS, fGG) 0) 1) 2) 3).1)))), (bGG, .inl ((cs 0), 4, .inl ((ngP (tkG zSl zTk fLG zLy 20 0 0) (tkS zSl zTk fLG fLS zLy 20 0 (cl4 fLt)) (ngP (tkG zSl zTk fLG zLy 20 0 0) (tkS zSl zTk fLG fLS zLy 20 0 (cl4 fLt)) (ngP (tkG zSl zTk fLG zLy 20 0 0) (tkS zSl zTk fLG fLS zLy 20 0 (cl4 fLt)) (ngP (tkG zSl zTk fLG zLy 20 0 0) (tkS zSl zTk fLG fLS zLy 20 0 (cl4 fLt)) (fGS, fGG) 0) 1) 2) 3).2))), (bES, .inl ((cs 1), 4, .inr (.inl ((neP (tkG zSl zTk fLG zLy 20 0 0) (tkS zSl zTk fLG fLS zLy 20 0 (cl4 fLt)) (neP (tkG zSl zTk fLG zLy 20 0 0) (tkS zSl zTk fLG fLS zLy 20 0 (cl4 fLt)) (neP (tkG zSl zTk fLG zLy 20 0 0) (tkS zSl zTk fLG fLS zLy 20 0 (cl4 fLt)) (neP (tkG zSl zTk fLG zLy 20 0 0) (tkS zSl zTk fLG fLS zLy 20 0 (cl4 fLt)) (fES, fEG) 0) 1) 2) 3).1)))), (bEG, .inl ((cs 0), 4, .inl ((neP (tkG zSl zTk fLG zLy 20 0 0) (tkS zSl zTk fLG fLS zLy 20 0 (cl4 fLt)) (neP (tkG zSl zTk fLG zLy 20 0 0) (tkS zSl zTk fLG fLS zLy 20 0 (cl4 fLt)) (neP (tkG zSl zTk fLG zLy 20 0 0) (tkS zSl zTk fLG fLS zLy 20 0 (cl4 fLt)) (neP (tkG zSl zTk fLG zLy 20 0 0) (tkS zSl zTk fLG fLS zLy 20 0 (cl4 fLt)) (fES, fEG) 0) 1) 2) 3).2)))] _ := hP.sub [4, 0, 1, 5, 2, 3, 6, 7] rfl
              have hD9 : va_D A [(pa, .inr (1, [.int zSl, .ref bLG, .ref bLS, .int zLy, .int zGr, .int (zTk + 1), .int (zGt + (tkG zSl zTk fLG zLy 20 0 0)), .int (tkG zSl zTk fLG zLy 20 0 0), .ref bLt, .ref bGS, .ref bGG, .ref bES, .ref bEG])), (bLG, .inl ((cs 0), 20, .inl fLG)), (bLS, .inl ((cs 0), 80, .inl fLS)), (bLt, .inl ((cs 1), 4, .inr (.inl (tkS zSl zTk fLG fLS zLy 20 0 (cl4 fLt))))), (bGS, .inl ((cs 1), 4, .inr (.inl ((ngP (tkG zSl zTk fLG zLy 20 0 0) (tkS zSl zTk fLG fLS zLy 20 0 (cl4 fLt)) (ngP (tkG zSl zTk fLG zLy 20 0 0) (tkS zSl zTk fLG fLS zLy 20 0 (cl4 fLt)) (ngP (tkG zSl zTk fLG zLy 20 0 0) (tkS zSl zTk fLG fLS zLy 20 0 (cl4 fLt)) (ngP (tkG zSl zTk fLG zLy 20 0 0) (tkS zSl zTk fLG fLS zLy 20 0 (cl4 fLt)) (fGS, fGG) 0) 1) 2) 3).1)))), (bGG, .inl ((cs 0), 4, .inl ((ngP (tkG zSl zTk fLG zLy 20 0 0) (tkS zSl zTk fLG fLS zLy 20 0 (cl4 fLt)) (ngP (tkG zSl zTk fLG zLy 20 0 0) (tkS zSl zTk fLG fLS zLy 20 0 (cl4 fLt)) (ngP (tkG zSl zTk fLG zLy 20 0 0) (tkS zSl zTk fLG fLS zLy 20 0 (cl4 fLt)) (ngP (tkG zSl zTk fLG zLy 20 0 0) (tkS zSl zTk fLG fLS zLy 20 0 (cl4 fLt)) (fGS, fGG) 0) 1) 2) 3).2))), (bES, .inl ((cs 1), 4, .inr (.inl ((neP (tkG zSl zTk fLG zLy 20 0 0) (tkS zSl zTk fLG fLS zLy 20 0 (cl4 fLt)) (neP (tkG zSl zTk fLG zLy 20 0 0) (tkS zSl zTk fLG fLS zLy 20 0 (cl4 fLt)) (neP (tkG zSl zTk fLG zLy 20 0 0) (tkS zSl zTk fLG fLS zLy 20 0 (cl4 fLt)) (neP (tkG zSl zTk fLG zLy 20 0 0) (tkS zSl zTk fLG fLS zLy 20 0 (cl4 fLt)) (fES, fEG) 0) 1) 2) 3).1)))), (bEG, .inl ((cs 0), 4, .inl ((neP (tkG zSl zTk fLG zLy 20 0 0) (tkS zSl zTk fLG fLS zLy 20 0 (cl4 fLt)) (neP (tkG zSl zTk fLG zLy 20 0 0) (tkS zSl zTk fLG fLS zLy 20 0 (cl4 fLt)) (neP (tkG zSl zTk fLG zLy 20 0 0) (tkS zSl zTk fLG fLS zLy 20 0 (cl4 fLt)) (neP (tkG zSl zTk fLG zLy 20 0 0) (tkS zSl zTk fLG fLS zLy 20 0 (cl4 fLt)) (fES, fEG) 0) 1) 2) 3).2)))] := hD.sub [4, 0, 1, 5, 2, 3, 6, 7] (by decide) rfl
              have e9 : ([(pa, .inr (1, [.int zSl, .ref bLG, .ref bLS, .int zLy, .int zGr, .int (zTk + 1), .int (zGt + (tkG zSl zTk fLG zLy 20 0 0)), .int (tkG zSl zTk fLG zLy 20 0 0), .ref bLt, .ref bGS, .ref bGG, .ref bES, .ref bEG])), (bLG, .inl ((cs 0), 20, .inl fLG)), (bLS, .inl ((cs 0), 80, .inl fLS)), (bLt, .inl ((cs 1), 4, .inr (.inl (tkS zSl zTk fLG fLS zLy 20 0 (cl4 fLt))))), (bGS, .inl ((cs 1), 4, .inr (.inl ((tnG (tkG zSl zTk fLG zLy 20 0 0) (tkS zSl zTk fLG fLS zLy 20 0 (cl4 fLt)) (fGS, fGG)).1)))), (bGG, .inl ((cs 0), 4, .inl ((tnG (tkG zSl zTk fLG zLy 20 0 0) (tkS zSl zTk fLG fLS zLy 20 0 (cl4 fLt)) (fGS, fGG)).2))), (bES, .inl ((cs 1), 4, .inr (.inl ((tnE (tkG zSl zTk fLG zLy 20 0 0) (tkS zSl zTk fLG fLS zLy 20 0 (cl4 fLt)) (fES, fEG)).1)))), (bEG, .inl ((cs 0), 4, .inl ((tnE (tkG zSl zTk fLG zLy 20 0 0) (tkS zSl zTk fLG fLS zLy 20 0 (cl4 fLt)) (fES, fEG)).2)))] : va_W) = [(pa, .inr (1, [.int zSl, .ref bLG, .ref bLS, .int zLy, .int zGr, .int (zTk + 1), .int (zGt + (tkG zSl zTk fLG zLy 20 0 0)), .int (tkG zSl zTk fLG zLy 20 0 0), .ref bLt, .ref bGS, .ref bGG, .ref bES, .ref bEG])), (bLG, .inl ((cs 0), 20, .inl fLG)), (bLS, .inl ((cs 0), 80, .inl fLS)), (bLt, .inl ((cs 1), 4, .inr (.inl (tkS zSl zTk fLG fLS zLy 20 0 (cl4 fLt))))), (bGS, .inl ((cs 1), 4, .inr (.inl ((ngP (tkG zSl zTk fLG zLy 20 0 0) (tkS zSl zTk fLG fLS zLy 20 0 (cl4 fLt)) (ngP (tkG zSl zTk fLG zLy 20 0 0) (tkS zSl zTk fLG fLS zLy 20 0 (cl4 fLt)) (ngP (tkG zSl zTk fLG zLy 20 0 0) (tkS zSl zTk fLG fLS zLy 20 0 (cl4 fLt)) (ngP (tkG zSl zTk fLG zLy 20 0 0) (tkS zSl zTk fLG fLS zLy 20 0 (cl4 fLt)) (fGS, fGG) 0) 1) 2) 3).1)))), (bGG, .inl ((cs 0), 4, .inl ((ngP (tkG zSl zTk fLG zLy 20 0 0) (tkS zSl zTk fLG fLS zLy 20 0 (cl4 fLt)) (ngP (tkG zSl zTk fLG zLy 20 0 0) (tkS zSl zTk fLG fLS zLy 20 0 (cl4 fLt)) (ngP (tkG zSl zTk fLG zLy 20 0 0) (tkS zSl zTk fLG fLS zLy 20 0 (cl4 fLt)) (ngP (tkG zSl zTk fLG zLy 20 0 0) (tkS zSl zTk fLG fLS zLy 20 0 (cl4 fLt)) (fGS, fGG) 0) 1) 2) 3).2))), (bES, .inl ((cs 1), 4, .inr (.inl ((neP (tkG zSl zTk fLG zLy 20 0 0) (tkS zSl zTk fLG fLS zLy 20 0 (cl4 fLt)) (neP (tkG zSl zTk fLG zLy 20 0 0) (tkS zSl zTk fLG fLS zLy 20 0 (cl4 fLt)) (neP (tkG zSl zTk fLG zLy 20 0 0) (tkS zSl zTk fLG fLS zLy 20 0 (cl4 fLt)) (neP (tkG zSl zTk fLG zLy 20 0 0) (tkS zSl zTk fLG fLS zLy 20 0 (cl4 fLt)) (fES, fEG) 0) 1) 2) 3).1)))), (bEG, .inl ((cs 0), 4, .inl ((neP (tkG zSl zTk fLG zLy 20 0 0) (tkS zSl zTk fLG fLS zLy 20 0 (cl4 fLt)) (neP (tkG zSl zTk fLG zLy 20 0 0) (tkS zSl zTk fLG fLS zLy 20 0 (cl4 fLt)) (neP (tkG zSl zTk fLG zLy 20 0 0) (tkS zSl zTk fLG fLS zLy 20 0 (cl4 fLt)) (neP (tkG zSl zTk fLG zLy 20 0 0) (tkS zSl zTk fLG fLS zLy 20 0 (cl4 fLt)) (fES, fEG) 0) 1) 2) 3).2)))] := by simp only [tnG, tnE, if_neg c_58]
              rw [← e9] at hP9 hD9
              exact W.vret hx hb hr (fun t ht hW => ⟨⟨(), rfl, trivial, ⟨by rw [ht]; exact hP9, hD9⟩⟩, hS.F ht⟩) hS.2.2 d_PI_takeNext_84
            · skip
              exact absurd c_65 (by decide)
end
section
set_option maxHeartbeats 4000000 in
set_option maxRecDepth 100000 in
/-- BlendRows() -/
theorem c_BR_init (l : Launch) (dC : Nat → ClassId) (dI : Nat → Nat → Nat) (cs : Nat → ClassId) (sz : Nat) (h0 : Nat) : Met l y_BR_init w_BR_init ({ frames := 2, cells := 8, slots := 177, locals := 32 }) (vq_Pre (dC, dI) cs [(h0, .inr (0, [.null, .null, .null, .null, .null, .null, .int 0, .null, .int 0, .null, .int 0]))] sz [.ref h0]) (va_Qv (fun (_ : Nat × Nat × Nat × Nat × Nat × Nat × Nat × Nat) => True) (vq_B (dC, dI) cs (va_A [(h0, .inr (0, [.null, .null, .null, .null, .null, .null, .int 0, .null, .int 0, .null, .int 0]))] sz) (fun u => [(h0, .inr (0, [.ref u.1, .ref u.2.1, .ref u.2.2.1, .ref u.2.2.2.1, .ref u.2.2.2.2.1, .ref u.2.2.2.2.2.1, .int 0, .ref u.2.2.2.2.2.2.1, .int 0, .ref u.2.2.2.2.2.2.2, .int 0])), (u.1, .inl ((cs 0), 8, .inl (fun _ => 0))), (u.2.1, .inl ((cs 0), 32, .inl (fun _ => 0))), (u.2.2.1, .inl ((cs 0), 8, .inl (fun _ => 0))), (u.2.2.2.1, .inl ((cs 0), 40, .inl (fun _ => 0))), (u.2.2.2.2.1, .inl ((cs 0), 40, .inl (fun _ => 0))), (u.2.2.2.2.2.1, .inl ((cs 0), 40, .inl (fun _ => 0))), (u.2.2.2.2.2.2.1, .inl ((cs 2), 4, .inr (.inr (.inr (.inr (fun _ => none)))))), (u.2.2.2.2.2.2.2, .inr (2, [.int 0, .long 0, .long 0, .long 0, .long 0]))])) (va_A [(h0, .inr (0, [.null, .null, .null, .null, .null, .null, .int 0, .null, .int 0, .null, .int 0]))] sz)) 8 177 (va_A [(h0, .inr (0, [.null, .null, .null, .null, .null, .null, .int 0, .null, .int 0, .null, .int 0]))] sz) := by
  refine Met.ofW (cc := b_BR_init) (maxL := 1) (ret := none) (by decide) rfl ?_
  intro p e s m args below meth c s₁ B hml hv
  obtain ⟨rfl, hsz, hP, hD0, hCx⟩ := hv
  have hx := B.exec
  have hb := B.bytes
  have hr := B.returns
  have hG := vq_hG (atoms_spec (ws := w_BR_init) B.pre)
  have hown : s.vm.findClass R_BR = some m.cls := findClass_of_methodNamed B.named
  have hlocks := B.notSynchronized
  have hin : meth.name = "<init>" := (name_of_methodNamed B.named B.method).1
  subst hsz
  have hK := hCx.1
  have hD := hD0.self (sz := s.heap.size)
  generalize hAe : va_A [(h0, .inr (0, [.null, .null, .null, .null, .null, .null, .int 0, .null, .int 0, .null, .int 0]))] s.heap.size = A at hD hCx ⊢
  have hA : ∀ q : Nat, s.heap.size ≤ q → A q := fun q h => by rw [← hAe]; exact Or.inr h
  have hA0 : ∀ q : Nat, s.heap.size ≤ q → va_A [] s.heap.size q := fun q h => Or.inr h
  have hS : va_S (va_A [] s.heap.size) s.heap s.heap [] := va_S.rf
  have hl := lv_entry ([.ref h0]) (n := 1) (Nat.le_of_ble_eq_true rfl)
  rw [lg_entry_eq]
  generalize (lg_sl ([.ref h0]) ++ List.replicate (1 - (lg_sl ([.ref h0])).length) Slot.unset).toArray = ls at hl ⊢
  have hl : lv_has ls 1 [(0, .ref h0)] := hl
  have hP : va_P (dC, dI) vq_cl [(h0, .inr (0, [.null, .null, .null, .null, .null, .null, .int 0, .null, .int 0, .null, .int 0]))] s.heap := hP
  refine lv_aload_n hx hb d_BR_init_0 rfl (lv_at hl 0 rfl) ?_
  refine W.objInit hx hb hown (hG _ vq_t18) (hG _ wOI_inst) (hG _ wOI_code) rfl (by rw [hml]; exact hl.1) rfl d_BR_init_1 (Nat.le_of_ble_eq_true rfl) (Nat.le_of_ble_eq_true rfl) ?_
  refine W.eq (g2 := F0 m 4 ls []) rfl ?_
  refine lv_aload_n hx hb d_BR_init_4 rfl (lv_at hl 0 rfl) ?_
  refine lv_bipush (v := 8) hx hb d_BR_init_5 (by decide) ?_
  have hS := vq_wk hS hA
  refine vq_newI (N := 8) hx hb hG hCx hP hD hS hA (by decide) rfl (by decide) (Nat.le_of_ble_eq_true rfl) (Nat.le_of_ble_eq_true rfl) d_BR_init_7 (fun q7 H hP hD hS => ?_)
  have hP : va_P (dC, dI) vq_cl [(h0, .inr (0, [.null, .null, .null, .null, .null, .null, .int 0, .null, .int 0, .null, .int 0])), (q7, .inl ((cs 0), 8, .inl (fun _ => 0)))] H := hP
  have hD : va_D A [(h0, .inr (0, [.null, .null, .null, .null, .null, .null, .int 0, .null, .int 0, .null, .int 0])), (q7, .inl ((cs 0), 8, .inl (fun _ => 0)))] := hD
  refine W.widen (k := 1) (n := 8) (Nat.le_of_ble_eq_true rfl) (Nat.le_of_ble_eq_true rfl) ?_
  refine va_putF (D := (dC, dI)) (ci := 0) (v := .ref q7) (ty := (.array .int)) (C := R_BR) (T := F_BR) (N := 11) hx hb hG i_BR t_BR t_BR_ok n_BR hown hK hP hD hS 0 rfl rfl 0 (by decide) (hG _ vq_t47) (fun _ h9 => h9) rfl hin rfl (by decide +kernel) rfl rfl (Nat.le_of_ble_eq_true rfl) d_BR_init_9 (fun H locs hP hD hS => ?_)
  have hP : va_P (dC, dI) vq_cl [(h0, .inr (0, [.ref q7, .null, .null, .null, .null, .null, .int 0, .null, .int 0, .null, .int 0])), (q7, .inl ((cs 0), 8, .inl (fun _ => 0)))] H := hP
  have hD : va_D A [(h0, .inr (0, [.ref q7, .null, .null, .null, .null, .null, .int 0, .null, .int 0, .null, .int 0])), (q7, .inl ((cs 0), 8, .inl (fun _ => 0)))] := hD
  refine lv_aload_n hx hb d_BR_init_12 rfl (lv_at hl 0 rfl) ?_
  refine lv_bipush (v := 32) hx hb d_BR_init_13 (by decide) ?_
  refine vq_newI (N := 32) hx hb hG hCx hP hD hS hA (by decide) rfl (by decide) (Nat.le_of_ble_eq_true rfl) (Nat.le_of_ble_eq_true rfl) d_BR_init_15 (fun q15 H hP hD hS => ?_)
  have hP : va_P (dC, dI) vq_cl [(h0, .inr (0, [.ref q7, .null, .null, .null, .null, .null, .int 0, .null, .int 0, .null, .int 0])), (q7, .inl ((cs 0), 8, .inl (fun _ => 0))), (q15, .inl ((cs 0), 32, .inl (fun _ => 0)))] H := hP
  have hD : va_D A [(h0, .inr (0, [.ref q7, .null, .null, .null, .null, .null, .int 0, .null, .int 0, .null, .int 0])), (q7, .inl ((cs 0), 8, .inl (fun _ => 0))), (q15, .inl ((cs 0), 32, .inl (fun _ => 0)))] := hD
  refine W.widen (k := 2) (n := 40) (Nat.le_of_ble_eq_true rfl) (Nat.le_of_ble_eq_true rfl) ?_
  refine va_putF (D := (dC, dI)) (ci := 0) (v := .ref q15) (ty := (.array .int)) (C := R_BR) (T := F_BR) (N := 11) hx hb hG i_BR t_BR t_BR_ok n_BR hown hK hP hD hS 0 rfl rfl 1 (by decide) (hG _ vq_t48) (fun _ h9 => h9) rfl hin rfl (by decide +kernel) rfl rfl (Nat.le_of_ble_eq_true rfl) d_BR_init_17 (fun H locs hP hD hS => ?_)
  have hP : va_P (dC, dI) vq_cl [(h0, .inr (0, [.ref q7, .ref q15, .null, .null, .null, .null, .int 0, .null, .int 0, .null, .int 0])), (q7, .inl ((cs 0), 8, .inl (fun _ => 0))), (q15, .inl ((cs 0), 32, .inl (fun _ => 0)))] H := hP
  have hD : va_D A [(h0, .inr (0, [.ref q7, .ref q15, .null, .null, .null, .null, .int 0, .null, .int 0, .null, .int 0])), (q7, .inl ((cs 0), 8, .inl (fun _ => 0))), (q15, .inl ((cs 0), 32, .inl (fun _ => 0)))] := hD
  refine lv_aload_n hx hb d_BR_init_20 rfl (lv_at hl 0 rfl) ?_
  refine lv_bipush (v := 8) hx hb d_BR_init_21 (by decide) ?_
  refine vq_newI (N := 8) hx hb hG hCx hP hD hS hA (by decide) rfl (by decide) (Nat.le_of_ble_eq_true rfl) (Nat.le_of_ble_eq_true rfl) d_BR_init_23 (fun q23 H hP hD hS => ?_)
  have hP : va_P (dC, dI) vq_cl [(h0, .inr (0, [.ref q7, .ref q15, .null, .null, .null, .null, .int 0, .null, .int 0, .null, .int 0])), (q7, .inl ((cs 0), 8, .inl (fun _ => 0))), (q15, .inl ((cs 0), 32, .inl (fun _ => 0))), (q23, .inl ((cs 0), 8, .inl (fun _ => 0)))] H := hP
  have hD : va_D A [(h0, .inr (0, [.ref q7, .ref q15, .null, .null, .null, .null, .int 0, .null, .int 0, .null, .int 0])), (q7, .inl ((cs 0), 8, .inl (fun _ => 0))), (q15, .inl ((cs 0), 32, .inl (fun _ => 0))), (q23, .inl ((cs 0), 8, .inl (fun _ => 0)))] := hD
  refine W.widen (k := 3) (n := 48) (Nat.le_of_ble_eq_true rfl) (Nat.le_of_ble_eq_true rfl) ?_
  refine va_putF (D := (dC, dI)) (ci := 0) (v := .ref q23) (ty := (.array .int)) (C := R_BR) (T := F_BR) (N := 11) hx hb hG i_BR t_BR t_BR_ok n_BR hown hK hP hD hS 0 rfl rfl 2 (by decide) (hG _ vq_t49) (fun _ h9 => h9) rfl hin rfl (by decide +kernel) rfl rfl (Nat.le_of_ble_eq_true rfl) d_BR_init_25 (fun H locs hP hD hS => ?_)
  have hP : va_P (dC, dI) vq_cl [(h0, .inr (0, [.ref q7, .ref q15, .ref q23, .null, .null, .null, .int 0, .null, .int 0, .null, .int 0])), (q7, .inl ((cs 0), 8, .inl (fun _ => 0))), (q15, .inl ((cs 0), 32, .inl (fun _ => 0))), (q23, .inl ((cs 0), 8, .inl (fun _ => 0)))] H := hP
  have hD : va_D A [(h0, .inr (0, [.ref q7, .ref q15, .ref q23, .null, .null, .null, .int 0, .null, .int 0, .null, .int 0])), (q7, .inl ((cs 0), 8, .inl (fun _ => 0))), (q15, .inl ((cs 0), 32, .inl (fun _ => 0))), (q23, .inl ((cs 0), 8, .inl (fun _ => 0)))] := hD
  refine lv_aload_n hx hb d_BR_init_28 rfl (lv_at hl 0 rfl) ?_
  refine lv_bipush (v := 40) hx hb d_BR_init_29 (by decide) ?_
  refine vq_newI (N := 40) hx hb hG hCx hP hD hS hA (by decide) rfl (by decide) (Nat.le_of_ble_eq_true rfl) (Nat.le_of_ble_eq_true rfl) d_BR_init_31 (fun q31 H hP hD hS => ?_)
  have hP : va_P (dC, dI) vq_cl [(h0, .inr (0, [.ref q7, .ref q15, .ref q23, .null, .null, .null, .int 0, .null, .int 0, .null, .int 0])), (q7, .inl ((cs 0), 8, .inl (fun _ => 0))), (q15, .inl ((cs 0), 32, .inl (fun _ => 0))), (q23, .inl ((cs 0), 8, .inl (fun _ => 0))), (q31, .inl ((cs 0), 40, .inl (fun _ => 0)))] H := hP
  have hD : va_D A [(h0, .inr (0, [.ref q7, .ref q15, .ref q23, .null, .null, .null, .int 0, .null, .int 0, .null, .int 0])), (q7, .inl ((cs 0), 8, .inl (fun _ => 0))), (q15, .inl ((cs 0), 32, .inl (fun _ => 0))), (q23, .inl ((cs 0), 8, .inl (fun _ => 0))), (q31, .inl ((cs 0), 40, .inl (fun _ => 0)))] := hD
  refine W.widen (k := 4) (n := 88) (Nat.le_of_ble_eq_true rfl) (Nat.le_of_ble_eq_true rfl) ?_
  refine va_putF (D := (dC, dI)) (ci := 0) (v := .ref q31) (ty := (.array .int)) (C := R_BR) (T := F_BR) (N := 11) hx hb hG i_BR t_BR t_BR_ok n_BR hown hK hP hD hS 0 rfl rfl 3 (by decide) (hG _ vq_t50) (fun _ h9 => h9) rfl hin rfl (by decide +kernel) rfl rfl (Nat.le_of_ble_eq_true rfl) d_BR_init_33 (fun H locs hP hD hS => ?_)
  have hP : va_P (dC, dI) vq_cl [(h0, .inr (0, [.ref q7, .ref q15, .ref q23, .ref q31, .null, .null, .int 0, .null, .int 0, .null, .int 0])), (q7, .inl ((cs 0), 8, .inl (fun _ => 0))), (q15, .inl ((cs 0), 32, .inl (fun _ => 0))), (q23, .inl ((cs 0), 8, .inl (fun _ => 0))), (q31, .inl ((cs 0), 40, .inl (fun _ => 0)))] H := hP
  have hD : va_D A [(h0, .inr (0, [.ref q7, .ref q15, .ref q23, .ref q31, .null, .null, .int 0, .null, .int 0, .null, .int 0])), (q7, .inl ((cs 0), 8, .inl (fun _ => 0))), (q15, .inl ((cs 0), 32, .inl (fun _ => 0))), (q23, .inl ((cs 0), 8, .inl (fun _ => 0))), (q31, .inl ((cs 0), 40, .inl (fun _ => 0)))] := hD
  refine lv_aload_n hx hb d_BR_init_36 rfl (lv_at hl 0 rfl) ?_
  refine lv_bipush (v := 40) hx hb d_BR_init_37 (by decide) ?_
  refine vq_newI (N := 40) hx hb hG hCx hP hD hS hA (by decide) rfl (by decide) (Nat.le_of_ble_eq_true rfl) (Nat.le_of_ble_eq_true rfl) d_BR_init_39 (fun q39 H hP hD hS => ?_)
  have hP : va_P (dC, dI) vq_cl [(h0, .inr (0, [.ref q7, .ref q15, .ref q23, .ref q31, .null, .null, .int 0, .null, .int 0, .null, .int 0])), (q7, .inl ((cs 0), 8, .inl (fun _ => 0))), (q15, .inl ((cs 0), 32, .inl (fun _ => 0))), (q23, .inl ((cs 0), 8, .inl (fun _ => 0))), (q31, .inl ((cs 0), 40, .inl (fun _ => 0))), (q39, .inl ((cs 0), 40, .inl (fun _ => 0)))] H := hP
  have hD : va_D A [(h0, .inr (0, [.ref q7, .ref q15, .ref q23, .ref q31, .null, .null, .int 0, .null, .int 0, .null, .int 0])), (q7, .inl ((cs 0), 8, .inl (fun _ => 0))), (q15, .inl ((cs 0), 32, .inl (fun _ => 0))), (q23, .inl ((cs 0), 8, .inl (fun _ => 0))), (q31, .inl ((cs 0), 40, .inl (fun _ => 0))), (q39, .inl ((cs 0), 40, .inl (fun _ => 0)))] := hD
  refine W.widen (k := 5) (n := 128) (Nat.le_of_ble_eq_true rfl) (Nat.le_of_ble_eq_true rfl) ?_
  refine va_putF (D := (dC, dI)) (ci := 0) (v := .ref q39) (ty := (.array .int)) (C := R_BR) (T := F_BR) (N := 11) hx hb hG i_BR t_BR t_BR_ok n_BR hown hK hP hD hS 0 rfl rfl 4 (by decide) (hG _ vq_t51) (fun _ h9 => h9) rfl hin rfl (by decide +kernel) rfl rfl (Nat.le_of_ble_eq_true rfl) d_BR_init_41 (fun H locs hP hD hS => ?_)
  have hP : va_P (dC, dI) vq_cl [(h0, .inr (0, [.ref q7, .ref q15, .ref q23, .ref q31, .ref q39, .null, .int 0, .null, .int 0, .null, .int 0])), (q7, .inl ((cs 0), 8, .inl (fun _ => 0))), (q15, .inl ((cs 0), 32, .inl (fun _ => 0))), (q23, .inl ((cs 0), 8, .inl (fun _ => 0))), (q31, .inl ((cs 0), 40, .inl (fun _ => 0))), (q39, .inl ((cs 0), 40, .inl (fun _ => 0)))] H := hP
  have hD : va_D A [(h0, .inr (0, [.ref q7, .ref q15, .ref q23, .ref q31, .ref q39, .null, .int 0, .null, .int 0, .null, .int 0])), (q7, .inl ((cs 0), 8, .inl (fun _ => 0))), (q15, .inl ((cs 0), 32, .inl (fun _ => 0))), (q23, .inl ((cs 0), 8, .inl (fun _ => 0))), (q31, .inl ((cs 0), 40, .inl (fun _ => 0))), (q39, .inl ((cs 0), 40, .inl (fun _ => 0)))] := hD
  refine lv_aload_n hx hb d_BR_init_44 rfl (lv_at hl 0 rfl) ?_
  refine lv_bipush (v := 40) hx hb d_BR_init_45 (by decide) ?_
  refine vq_newI (N := 40) hx hb hG hCx hP hD hS hA (by decide) rfl (by decide) (Nat.le_of_ble_eq_true rfl) (Nat.le_of_ble_eq_true rfl) d_BR_init_47 (fun q47 H hP hD hS => ?_)
  have hP : va_P (dC, dI) vq_cl [(h0, .inr (0, [.ref q7, .ref q15, .ref q23, .ref q31, .ref q39, .null, .int 0, .null, .int 0, .null, .int 0])), (q7, .inl ((cs 0), 8, .inl (fun _ => 0))), (q15, .inl ((cs 0), 32, .inl (fun _ => 0))), (q23, .inl ((cs 0), 8, .inl (fun _ => 0))), (q31, .inl ((cs 0), 40, .inl (fun _ => 0))), (q39, .inl ((cs 0), 40, .inl (fun _ => 0))), (q47, .inl ((cs 0), 40, .inl (fun _ => 0)))] H := hP
  have hD : va_D A [(h0, .inr (0, [.ref q7, .ref q15, .ref q23, .ref q31, .ref q39, .null, .int 0, .null, .int 0, .null, .int 0])), (q7, .inl ((cs 0), 8, .inl (fun _ => 0))), (q15, .inl ((cs 0), 32, .inl (fun _ => 0))), (q23, .inl ((cs 0), 8, .inl (fun _ => 0))), (q31, .inl ((cs 0), 40, .inl (fun _ => 0))), (q39, .inl ((cs 0), 40, .inl (fun _ => 0))), (q47, .inl ((cs 0), 40, .inl (fun _ => 0)))] := hD
  refine W.widen (k := 6) (n := 168) (Nat.le_of_ble_eq_true rfl) (Nat.le_of_ble_eq_true rfl) ?_
  refine va_putF (D := (dC, dI)) (ci := 0) (v := .ref q47) (ty := (.array .int)) (C := R_BR) (T := F_BR) (N := 11) hx hb hG i_BR t_BR t_BR_ok n_BR hown hK hP hD hS 0 rfl rfl 5 (by decide) (hG _ vq_t52) (fun _ h9 => h9) rfl hin rfl (by decide +kernel) rfl rfl (Nat.le_of_ble_eq_true rfl) d_BR_init_49 (fun H locs hP hD hS => ?_)
  have hP : va_P (dC, dI) vq_cl [(h0, .inr (0, [.ref q7, .ref q15, .ref q23, .ref q31, .ref q39, .ref q47, .int 0, .null, .int 0, .null, .int 0])), (q7, .inl ((cs 0), 8, .inl (fun _ => 0))), (q15, .inl ((cs 0), 32, .inl (fun _ => 0))), (q23, .inl ((cs 0), 8, .inl (fun _ => 0))), (q31, .inl ((cs 0), 40, .inl (fun _ => 0))), (q39, .inl ((cs 0), 40, .inl (fun _ => 0))), (q47, .inl ((cs 0), 40, .inl (fun _ => 0)))] H := hP
  have hD : va_D A [(h0, .inr (0, [.ref q7, .ref q15, .ref q23, .ref q31, .ref q39, .ref q47, .int 0, .null, .int 0, .null, .int 0])), (q7, .inl ((cs 0), 8, .inl (fun _ => 0))), (q15, .inl ((cs 0), 32, .inl (fun _ => 0))), (q23, .inl ((cs 0), 8, .inl (fun _ => 0))), (q31, .inl ((cs 0), 40, .inl (fun _ => 0))), (q39, .inl ((cs 0), 40, .inl (fun _ => 0))), (q47, .inl ((cs 0), 40, .inl (fun _ => 0)))] := hD
  refine lv_aload_n hx hb d_BR_init_52 rfl (lv_at hl 0 rfl) ?_
  refine lv_iconst (v := 4) hx hb d_BR_init_53 (by decide) ?_
  refine vq_newR (N := 4) 2 hx hb hown (hG _ vq_t21) hCx (by decide) rfl hP hD hS hA (by decide) rfl (by decide) (Nat.le_of_ble_eq_true rfl) (Nat.le_of_ble_eq_true rfl) d_BR_init_54 (fun q54 H hP hD hS => ?_)
  have hP : va_P (dC, dI) vq_cl [(h0, .inr (0, [.ref q7, .ref q15, .ref q23, .ref q31, .ref q39, .ref q47, .int 0, .null, .int 0, .null, .int 0])), (q7, .inl ((cs 0), 8, .inl (fun _ => 0))), (q15, .inl ((cs 0), 32, .inl (fun _ => 0))), (q23, .inl ((cs 0), 8, .inl (fun _ => 0))), (q31, .inl ((cs 0), 40, .inl (fun _ => 0))), (q39, .inl ((cs 0), 40, .inl (fun _ => 0))), (q47, .inl ((cs 0), 40, .inl (fun _ => 0))), (q54, .inl ((cs 2), 4, .inr (.inr (.inr (.inr (fun _ => none))))))] H := hP
  have hD : va_D A [(h0, .inr (0, [.ref q7, .ref q15, .ref q23, .ref q31, .ref q39, .ref q47, .int 0, .null, .int 0, .null, .int 0])), (q7, .inl ((cs 0), 8, .inl (fun _ => 0))), (q15, .inl ((cs 0), 32, .inl (fun _ => 0))), (q23, .inl ((cs 0), 8, .inl (fun _ => 0))), (q31, .inl ((cs 0), 40, .inl (fun _ => 0))), (q39, .inl ((cs 0), 40, .inl (fun _ => 0))), (q47, .inl ((cs 0), 40, .inl (fun _ => 0))), (q54, .inl ((cs 2), 4, .inr (.inr (.inr (.inr (fun _ => none))))))] := hD
  refine W.widen (k := 7) (n := 172) (Nat.le_of_ble_eq_true rfl) (Nat.le_of_ble_eq_true rfl) ?_
  refine va_putF (D := (dC, dI)) (ci := 0) (v := .ref q54) (ty := (.array (.object "BlendRows$Pile"))) (C := R_BR) (T := F_BR) (N := 11) hx hb hG i_BR t_BR t_BR_ok n_BR hown hK hP hD hS 0 rfl rfl 7 (by decide) (hG _ vq_t54) (fun _ h9 => h9) rfl hin rfl (by decide +kernel) rfl rfl (Nat.le_of_ble_eq_true rfl) d_BR_init_57 (fun H locs hP hD hS => ?_)
  have hP : va_P (dC, dI) vq_cl [(h0, .inr (0, [.ref q7, .ref q15, .ref q23, .ref q31, .ref q39, .ref q47, .int 0, .ref q54, .int 0, .null, .int 0])), (q7, .inl ((cs 0), 8, .inl (fun _ => 0))), (q15, .inl ((cs 0), 32, .inl (fun _ => 0))), (q23, .inl ((cs 0), 8, .inl (fun _ => 0))), (q31, .inl ((cs 0), 40, .inl (fun _ => 0))), (q39, .inl ((cs 0), 40, .inl (fun _ => 0))), (q47, .inl ((cs 0), 40, .inl (fun _ => 0))), (q54, .inl ((cs 2), 4, .inr (.inr (.inr (.inr (fun _ => none))))))] H := hP
  have hD : va_D A [(h0, .inr (0, [.ref q7, .ref q15, .ref q23, .ref q31, .ref q39, .ref q47, .int 0, .ref q54, .int 0, .null, .int 0])), (q7, .inl ((cs 0), 8, .inl (fun _ => 0))), (q15, .inl ((cs 0), 32, .inl (fun _ => 0))), (q23, .inl ((cs 0), 8, .inl (fun _ => 0))), (q31, .inl ((cs 0), 40, .inl (fun _ => 0))), (q39, .inl ((cs 0), 40, .inl (fun _ => 0))), (q47, .inl ((cs 0), 40, .inl (fun _ => 0))), (q54, .inl ((cs 2), 4, .inr (.inr (.inr (.inr (fun _ => none))))))] := hD
  refine lv_aload_n hx hb d_BR_init_60 rfl (lv_at hl 0 rfl) ?_
  refine va_new (ci := 2) (fs := [.int 0, .long 0, .long 0, .long 0, .long 0]) (C := R_LI) (T := F_LI) (N := 5) hx hb hG i_LI t_LI t_LI_ok hown (hG _ vq_t23) (hG _ vq_t24) (hG _ vq_t2) hK hP hD hS hA rfl (fun j hj => by rcases (show j = 0 ∨ j = 1 ∨ j = 2 ∨ j = 3 ∨ j = 4 by omega) with rfl | rfl | rfl | rfl | rfl <;> rfl) (Nat.le_of_ble_eq_true rfl) (Nat.le_of_ble_eq_true rfl) d_BR_init_61 (fun q61 H hP hD hS => ?_)
  have hP : va_P (dC, dI) vq_cl [(h0, .inr (0, [.ref q7, .ref q15, .ref q23, .ref q31, .ref q39, .ref q47, .int 0, .ref q54, .int 0, .null, .int 0])), (q7, .inl ((cs 0), 8, .inl (fun _ => 0))), (q15, .inl ((cs 0), 32, .inl (fun _ => 0))), (q23, .inl ((cs 0), 8, .inl (fun _ => 0))), (q31, .inl ((cs 0), 40, .inl (fun _ => 0))), (q39, .inl ((cs 0), 40, .inl (fun _ => 0))), (q47, .inl ((cs 0), 40, .inl (fun _ => 0))), (q54, .inl ((cs 2), 4, .inr (.inr (.inr (.inr (fun _ => none)))))), (q61, .inr (2, [.int 0, .long 0, .long 0, .long 0, .long 0]))] H := hP
  have hD : va_D A [(h0, .inr (0, [.ref q7, .ref q15, .ref q23, .ref q31, .ref q39, .ref q47, .int 0, .ref q54, .int 0, .null, .int 0])), (q7, .inl ((cs 0), 8, .inl (fun _ => 0))), (q15, .inl ((cs 0), 32, .inl (fun _ => 0))), (q23, .inl ((cs 0), 8, .inl (fun _ => 0))), (q31, .inl ((cs 0), 40, .inl (fun _ => 0))), (q39, .inl ((cs 0), 40, .inl (fun _ => 0))), (q47, .inl ((cs 0), 40, .inl (fun _ => 0))), (q54, .inl ((cs 2), 4, .inr (.inr (.inr (.inr (fun _ => none)))))), (q61, .inr (2, [.int 0, .long 0, .long 0, .long 0, .long 0]))] := hD
  refine W.widen (k := 8) (n := 177) (Nat.le_of_ble_eq_true rfl) (Nat.le_of_ble_eq_true rfl) ?_
  refine lv_dup hx hb d_BR_init_64 rfl ?_
  refine mk_wv (va_runIN (As := []) (rest := [.ref q61, .ref h0]) ⟨hx, hb, hml, hown, hG⟩ (c_Line_init l dC dI cs _ q61 0 0 0 0 0) ⟨va_cnB 0 hG (vq_gI vq_t27) rfl rfl rfl (hCx.2.2.1 _ vq_nm0) (hG _ vq_t2) (by decide +kernel) ⟨Nat.le_of_ble_eq_true rfl, Nat.le_of_ble_eq_true rfl⟩, rfl, hG _ vq_t26⟩ (vq_preSw (wc := [(q61, .inr (2, [.int 0, .long 0, .long 0, .long 0, .long 0]))]) hCx hP hD hS hA [8] rfl rfl (by decide)) rfl rfl hl.1 rfl (lv_room (Nat.le_of_ble_eq_true rfl)) d_BR_init_65 ⟨Nat.le_of_ble_eq_true rfl, Nat.le_of_ble_eq_true rfl⟩) hP hD hS hA [8] [0, 1, 2, 3, 4, 5, 6, 7] rfl rfl (by decide) (by decide) (fun _ H locs w_65 hP hD hS => ?_)
  have hP : va_P (dC, dI) vq_cl [(h0, .inr (0, [.ref q7, .ref q15, .ref q23, .ref q31, .ref q39, .ref q47, .int 0, .ref q54, .int 0, .null, .int 0])), (q7, .inl ((cs 0), 8, .inl (fun _ => 0))), (q15, .inl ((cs 0), 32, .inl (fun _ => 0))), (q23, .inl ((cs 0), 8, .inl (fun _ => 0))), (q31, .inl ((cs 0), 40, .inl (fun _ => 0))), (q39, .inl ((cs 0), 40, .inl (fun _ => 0))), (q47, .inl ((cs 0), 40, .inl (fun _ => 0))), (q54, .inl ((cs 2), 4, .inr (.inr (.inr (.inr (fun _ => none)))))), (q61, .inr (2, [.int 0, .long 0, .long 0, .long 0, .long 0]))] H := hP
  have hD : va_D A [(h0, .inr (0, [.ref q7, .ref q15, .ref q23, .ref q31, .ref q39, .ref q47, .int 0, .ref q54, .int 0, .null, .int 0])), (q7, .inl ((cs 0), 8, .inl (fun _ => 0))), (q15, .inl ((cs 0), 32, .inl (fun _ => 0))), (q23, .inl ((cs 0), 8, .inl (fun _ => 0))), (q31, .inl ((cs 0), 40, .inl (fun _ => 0))), (q39, .inl ((cs 0), 40, .inl (fun _ => 0))), (q47, .inl ((cs 0), 40, .inl (fun _ => 0))), (q54, .inl ((cs 2), 4, .inr (.inr (.inr (.inr (fun _ => none)))))), (q61, .inr (2, [.int 0, .long 0, .long 0, .long 0, .long 0]))] := hD
  refine va_putF (D := (dC, dI)) (ci := 0) (v := .ref q61) (ty := (.object "BlendRows$Line")) (C := R_BR) (T := F_BR) (N := 11) hx hb hG i_BR t_BR t_BR_ok n_BR hown hK hP hD hS 0 rfl rfl 9 (by decide) (hG _ vq_t56) (fun _ h9 => h9) rfl hin rfl (by decide +kernel) rfl rfl (Nat.le_of_ble_eq_true rfl) d_BR_init_68 (fun H locs hP hD hS => ?_)
  have hP : va_P (dC, dI) vq_cl [(h0, .inr (0, [.ref q7, .ref q15, .ref q23, .ref q31, .ref q39, .ref q47, .int 0, .ref q54, .int 0, .ref q61, .int 0])), (q7, .inl ((cs 0), 8, .inl (fun _ => 0))), (q15, .inl ((cs 0), 32, .inl (fun _ => 0))), (q23, .inl ((cs 0), 8, .inl (fun _ => 0))), (q31, .inl ((cs 0), 40, .inl (fun _ => 0))), (q39, .inl ((cs 0), 40, .inl (fun _ => 0))), (q47, .inl ((cs 0), 40, .inl (fun _ => 0))), (q54, .inl ((cs 2), 4, .inr (.inr (.inr (.inr (fun _ => none)))))), (q61, .inr (2, [.int 0, .long 0, .long 0, .long 0, .long 0]))] H := hP
  have hD : va_D A [(h0, .inr (0, [.ref q7, .ref q15, .ref q23, .ref q31, .ref q39, .ref q47, .int 0, .ref q54, .int 0, .ref q61, .int 0])), (q7, .inl ((cs 0), 8, .inl (fun _ => 0))), (q15, .inl ((cs 0), 32, .inl (fun _ => 0))), (q23, .inl ((cs 0), 8, .inl (fun _ => 0))), (q31, .inl ((cs 0), 40, .inl (fun _ => 0))), (q39, .inl ((cs 0), 40, .inl (fun _ => 0))), (q47, .inl ((cs 0), 40, .inl (fun _ => 0))), (q54, .inl ((cs 2), 4, .inr (.inr (.inr (.inr (fun _ => none)))))), (q61, .inr (2, [.int 0, .long 0, .long 0, .long 0, .long 0]))] := hD
  refine W.widen (k := 8) (n := 177) (Nat.le_of_ble_eq_true rfl) (Nat.le_of_ble_eq_true rfl) ?_
  have hP9 : va_P (dC, dI) vq_cl [(h0, .inr (0, [.ref q7, .ref q15, .ref q23, .ref q31, .ref q39, .ref q47, .int 0, .ref q54, .int 0, .ref q61, .int 0])), (q7, .inl ((cs 0), 8, .inl (fun _ => 0))), (q15, .inl ((cs 0), 32, .inl (fun _ => 0))), (q23, .inl ((cs 0), 8, .inl (fun _ => 0))), (q31, .inl ((cs 0), 40, .inl (fun _ => 0))), (q39, .inl ((cs 0), 40, .inl (fun _ => 0))), (q47, .inl ((cs 0), 40, .inl (fun _ => 0))), (q54, .inl ((cs 2), 4, .inr (.inr (.inr (.inr (fun _ => none)))))), (q61, .inr (2, [.int 0, .long 0, .long 0, .long 0, .long 0]))] _ := hP.sub [0, 1, 2, 3, 4, 5, 6, 7, 8] rfl
  have hD9 : va_D A [(h0, .inr (0, [.ref q7, .ref q15, .ref q23, .ref q31, .ref q39, .ref q47, .int 0, .ref q54, .int 0, .ref q61, .int 0])), (q7, .inl ((cs 0), 8, .inl (fun _ => 0))), (q15, .inl ((cs 0), 32, .inl (fun _ => 0))), (q23, .inl ((cs 0), 8, .inl (fun _ => 0))), (q31, .inl ((cs 0), 40, .inl (fun _ => 0))), (q39, .inl ((cs 0), 40, .inl (fun _ => 0))), (q47, .inl ((cs 0), 40, .inl (fun _ => 0))), (q54, .inl ((cs 2), 4, .inr (.inr (.inr (.inr (fun _ => none)))))), (q61, .inr (2, [.int 0, .long 0, .long 0, .long 0, .long 0]))] := hD.sub [0, 1, 2, 3, 4, 5, 6, 7, 8] (by decide) rfl
  exact W.vret hx hb hr (fun t ht hW => ⟨⟨(q7, q15, q23, q31, q39, q47, q54, q61), rfl, trivial, ⟨by rw [ht]; exact hP9, hD9⟩⟩, hS.F ht⟩) hS.2.2 d_BR_init_71
set_option maxHeartbeats 4000000 in
set_option maxRecDepth 100000 in
/-- moisture -/
theorem c_moisture (l : Launch) (hlT : l.stackTraces = false) (dC : Nat → ClassId) (dI : Nat → Nat → Nat) (cs : Nat → ClassId) (sz : Nat) (h0 : Nat) (aMo : Nat) (aSh : Nat) (aLa : Nat) (aDy : Nat) (aMa : Nat) (aKi : Nat) (aPi : Nat) (aLn : Nat) (zCn : Int32) (zPc : Int32) (zTo : Int32) (fMo : Nat → Int32) (x : Int32) (y : Int32) : vx_Met l y_BR_moisture w_BR_moisture ({ frames := 7, cells := 2, slots := 12, locals := 104 }) (vq_Pre (dC, dI) cs [(h0, .inr (0, [.ref aMo, .ref aSh, .ref aLa, .ref aDy, .ref aMa, .ref aKi, .int zCn, .ref aPi, .int zPc, .ref aLn, .int zTo])), (aMo, .inl ((cs 0), 8, .inl fMo))] sz [.ref h0, .int x, .int y]) (va_Qv (fun (_ : Unit) => X_moisture x y = none) (vq_B (dC, dI) cs (va_A [(h0, .inr (0, [.ref aMo, .ref aSh, .ref aLa, .ref aDy, .ref aMa, .ref aKi, .int zCn, .ref aPi, .int zPc, .ref aLn, .int zTo])), (aMo, .inl ((cs 0), 8, .inl fMo))] sz) (fun _ => [(h0, .inr (0, [.ref aMo, .ref aSh, .ref aLa, .ref aDy, .ref aMa, .ref aKi, .int zCn, .ref aPi, .int zPc, .ref aLn, .int zTo])), (aMo, .inl ((cs 0), 8, .inl (upd fMo x.toNatClampNeg y)))])) (va_A [(h0, .inr (0, [.ref aMo, .ref aSh, .ref aLa, .ref aDy, .ref aMa, .ref aKi, .int zCn, .ref aPi, .int zPc, .ref aLn, .int zTo])), (aMo, .inl ((cs 0), 8, .inl fMo))] sz)) (vq_X (fun E => X_moisture x y = some E) sz) 2 12 (va_A [(h0, .inr (0, [.ref aMo, .ref aSh, .ref aLa, .ref aDy, .ref aMa, .ref aKi, .int zCn, .ref aPi, .int zPc, .ref aLn, .int zTo])), (aMo, .inl ((cs 0), 8, .inl fMo))] sz) := by
  refine vx_ofW (cc := b_BR_moisture) (maxL := 3) (ret := none) (by decide) rfl ?_
  intro p e s m args below meth c s₁ B hml htb hv
  obtain ⟨rfl, hsz, hP, hD0, hCx⟩ := hv
  have hx := B.exec
  have hb := B.bytes
  have hr := B.returns
  have hG := vq_hG (atoms_spec (ws := w_BR_moisture) B.pre)
  have hown : s.vm.findClass R_BR = some m.cls := findClass_of_methodNamed B.named
  have hlocks := B.notSynchronized
  subst hsz
  have hK := hCx.1
  have hD := hD0.self (sz := s.heap.size)
  generalize hAe : va_A [(h0, .inr (0, [.ref aMo, .ref aSh, .ref aLa, .ref aDy, .ref aMa, .ref aKi, .int zCn, .ref aPi, .int zPc, .ref aLn, .int zTo])), (aMo, .inl ((cs 0), 8, .inl fMo))] s.heap.size = A at hD hCx ⊢
  have hA : ∀ q : Nat, s.heap.size ≤ q → A q := fun q h => by rw [← hAe]; exact Or.inr h
  have hA0 : ∀ q : Nat, s.heap.size ≤ q → va_A [] s.heap.size q := fun q h => Or.inr h
  have hS : va_S (va_A [] s.heap.size) s.heap s.heap [] := va_S.rf
  have hl := lv_entry ([.ref h0, .int x, .int y]) (n := 3) (Nat.le_of_ble_eq_true rfl)
  rw [lg_entry_eq]
  generalize (lg_sl ([.ref h0, .int x, .int y]) ++ List.replicate (3 - (lg_sl ([.ref h0, .int x, .int y])).length) Slot.unset).toArray = ls at hl ⊢
  have hl : lv_has ls 3 [(0, .ref h0), (1, .int x), (2, .int y)] := hl
  have hP : va_P (dC, dI) vq_cl [(h0, .inr (0, [.ref aMo, .ref aSh, .ref aLa, .ref aDy, .ref aMa, .ref aKi, .int zCn, .ref aPi, .int zPc, .ref aLn, .int zTo])), (aMo, .inl ((cs 0), 8, .inl fMo))] s.heap := hP
  refine lv_iload_n hx hb d_BR_moisture_0 rfl (lv_at hl 1 rfl) ?_
  refine mx_rv (vx_runS (As := [.int x]) (rest := []) ⟨hx, hb, hml, hown, hG⟩ (c_needMaterial l hlT dC dI cs _ x) (cwS 1 hG (vq_gS vq_t90 vq_t91 vq_t1 vq_t92) rfl rfl rfl (by decide +kernel) ⟨Nat.le_of_ble_eq_true rfl, Nat.le_of_ble_eq_true rfl⟩) (vq_preSr (wc := []) hCx hP (vq_wk hS hA) hA [] rfl) rfl rfl hl.1 rfl (lv_room (Nat.le_of_ble_eq_true rfl)) d_BR_moisture_1 ⟨Nat.le_of_ble_eq_true rfl, Nat.le_of_ble_eq_true rfl⟩) hP hS hA0 (fun E ce q9 H locs x_1 hP hS h91 h92 h93 => vx_out (fun x h => (htb x h).elim) hlocks h91 h92 h93 (fun t ht hvm => vq_Xof (by obtain ⟨rfl, y9⟩ := x_1; simp only [X_moisture, if_neg y9]) (hS.F ht)) (vq_wk hS hA).2.2 (Nat.le_of_ble_eq_true rfl) (Nat.le_of_ble_eq_true rfl)) (fun H locs w_1 hP hS => ?_)
  refine W.widen (k := 1) (n := 6) (Nat.le_of_ble_eq_true rfl) (Nat.le_of_ble_eq_true rfl) ?_
  refine lv_iload_n hx hb d_BR_moisture_4 rfl (lv_at hl 2 rfl) ?_
  refine lv_iconst (v := 0) hx hb d_BR_moisture_5 (by decide) ?_
  refine lv_sipush (v := 900) hx hb d_BR_moisture_6 (by decide) ?_
  refine mx_rv (vx_runS (As := [.int y, .int 0, .int 900]) (rest := []) ⟨hx, hb, hml, hown, hG⟩ (c_needRange l hlT dC dI cs _ y 0 900) (cwS 3 hG (vq_gS vq_t162 vq_t163 vq_t1 vq_t164) rfl rfl rfl (by decide +kernel) ⟨Nat.le_of_ble_eq_true rfl, Nat.le_of_ble_eq_true rfl⟩) (vq_preSr (wc := []) hCx hP (vq_wk hS hA) hA [] rfl) rfl rfl hl.1 rfl (lv_room (Nat.le_of_ble_eq_true rfl)) d_BR_moisture_9 ⟨Nat.le_of_ble_eq_true rfl, Nat.le_of_ble_eq_true rfl⟩) hP hS hA0 (fun E ce q9 H locs x_9 hP hS h91 h92 h93 => vx_out (fun x h => (htb x h).elim) hlocks h91 h92 h93 (fun t ht hvm => vq_Xof (by obtain ⟨rfl, y9⟩ := x_9; simp only [X_moisture, if_pos w_1, if_neg y9]) (hS.F ht)) (vq_wk hS hA).2.2 (Nat.le_of_ble_eq_true rfl) (Nat.le_of_ble_eq_true rfl)) (fun H locs w_9 hP hS => ?_)
  refine W.widen (k := 2) (n := 12) (Nat.le_of_ble_eq_true rfl) (Nat.le_of_ble_eq_true rfl) ?_
  refine lv_aload_n hx hb d_BR_moisture_12 rfl (lv_at hl 0 rfl) ?_
  refine va_get (D := (dC, dI)) (ci := 0) (v := .ref aMo) (C := R_BR) (T := F_BR) (N := 11) hx hb hG i_BR hown hK hP 0 rfl rfl 0 (by decide) (hG _ vq_t47) (fun _ h9 => h9) rfl d_BR_moisture_13 ?_
  refine lv_iload_n hx hb d_BR_moisture_16 rfl (lv_at hl 1 rfl) ?_
  refine lv_iload_n hx hb d_BR_moisture_17 rfl (lv_at hl 2 rfl) ?_
  have hS := vq_wk hS hA
  refine va_iast (D := (dC, dI)) hx hb hK hP hD hS 1 0 rfl rfl (vq_in 8 rfl w_1.1 w_1.2) d_BR_moisture_18 (fun H locs hP hD hS => ?_)
  have hP : va_P (dC, dI) vq_cl [(h0, .inr (0, [.ref aMo, .ref aSh, .ref aLa, .ref aDy, .ref aMa, .ref aKi, .int zCn, .ref aPi, .int zPc, .ref aLn, .int zTo])), (aMo, .inl ((cs 0), 8, .inl (upd fMo x.toNatClampNeg y)))] H := hP
  have hD : va_D A [(h0, .inr (0, [.ref aMo, .ref aSh, .ref aLa, .ref aDy, .ref aMa, .ref aKi, .int zCn, .ref aPi, .int zPc, .ref aLn, .int zTo])), (aMo, .inl ((cs 0), 8, .inl (upd fMo x.toNatClampNeg y)))] := hD
  refine vx_ret ?_
  refine W.widen (k := 2) (n := 12) (Nat.le_of_ble_eq_true rfl) (Nat.le_of_ble_eq_true rfl) ?_
  have hP9 : va_P (dC, dI) vq_cl [(h0, .inr (0, [.ref aMo, .ref aSh, .ref aLa, .ref aDy, .ref aMa, .ref aKi, .int zCn, .ref aPi, .int zPc, .ref aLn, .int zTo])), (aMo, .inl ((cs 0), 8, .inl (upd fMo x.toNatClampNeg y)))] _ := hP.sub [0, 1] rfl
  have hD9 : va_D A [(h0, .inr (0, [.ref aMo, .ref aSh, .ref aLa, .ref aDy, .ref aMa, .ref aKi, .int zCn, .ref aPi, .int zPc, .ref aLn, .int zTo])), (aMo, .inl ((cs 0), 8, .inl (upd fMo x.toNatClampNeg y)))] := hD.sub [0, 1] (by decide) rfl
  exact W.vret hx hb hr (fun t ht hW => ⟨⟨(), rfl, by simp only [X_moisture, if_pos w_1, if_pos w_9], ⟨by rw [ht]; exact hP9, hD9⟩⟩, hS.F ht⟩) hS.2.2 d_BR_moisture_19
set_option maxHeartbeats 4000000 in
set_option maxRecDepth 100000 in
/-- element -/
theorem c_element (l : Launch) (hlT : l.stackTraces = false) (dC : Nat → ClassId) (dI : Nat → Nat → Nat) (cs : Nat → ClassId) (sz : Nat) (h0 : Nat) (aMo : Nat) (aSh : Nat) (aLa : Nat) (aDy : Nat) (aMa : Nat) (aKi : Nat) (aPi : Nat) (aLn : Nat) (zCn : Int32) (zPc : Int32) (zTo : Int32) (fSh : Nat → Int32) (x : Int32) (k : Int32) (y : Int32) : vx_Met l y_BR_element w_BR_element ({ frames := 7, cells := 3, slots := 18, locals := 104 }) (vq_Pre (dC, dI) cs [(h0, .inr (0, [.ref aMo, .ref aSh, .ref aLa, .ref aDy, .ref aMa, .ref aKi, .int zCn, .ref aPi, .int zPc, .ref aLn, .int zTo])), (aSh, .inl ((cs 0), 32, .inl fSh))] sz [.ref h0, .int x, .int k, .int y]) (va_Qv (fun (_ : Unit) => X_element x k y = none) (vq_B (dC, dI) cs (va_A [(h0, .inr (0, [.ref aMo, .ref aSh, .ref aLa, .ref aDy, .ref aMa, .ref aKi, .int zCn, .ref aPi, .int zPc, .ref aLn, .int zTo])), (aSh, .inl ((cs 0), 32, .inl fSh))] sz) (fun _ => [(h0, .inr (0, [.ref aMo, .ref aSh, .ref aLa, .ref aDy, .ref aMa, .ref aKi, .int zCn, .ref aPi, .int zPc, .ref aLn, .int zTo])), (aSh, .inl ((cs 0), 32, .inl (upd fSh ((x * 4) + k).toNatClampNeg y)))])) (va_A [(h0, .inr (0, [.ref aMo, .ref aSh, .ref aLa, .ref aDy, .ref aMa, .ref aKi, .int zCn, .ref aPi, .int zPc, .ref aLn, .int zTo])), (aSh, .inl ((cs 0), 32, .inl fSh))] sz)) (vq_X (fun E => X_element x k y = some E) sz) 3 18 (va_A [(h0, .inr (0, [.ref aMo, .ref aSh, .ref aLa, .ref aDy, .ref aMa, .ref aKi, .int zCn, .ref aPi, .int zPc, .ref aLn, .int zTo])), (aSh, .inl ((cs 0), 32, .inl fSh))] sz) := by
  refine vx_ofW (cc := b_BR_element) (maxL := 4) (ret := none) (by decide) rfl ?_
  intro p e s m args below meth c s₁ B hml htb hv
  obtain ⟨rfl, hsz, hP, hD0, hCx⟩ := hv
  have hx := B.exec
  have hb := B.bytes
  have hr := B.returns
  have hG := vq_hG (atoms_spec (ws := w_BR_element) B.pre)
  have hown : s.vm.findClass R_BR = some m.cls := findClass_of_methodNamed B.named
  have hlocks := B.notSynchronized
  subst hsz
  have hK := hCx.1
  have hD := hD0.self (sz := s.heap.size)
  generalize hAe : va_A [(h0, .inr (0, [.ref aMo, .ref aSh, .ref aLa, .ref aDy, .ref aMa, .ref aKi, .int zCn, .ref aPi, .int zPc, .ref aLn, .int zTo])), (aSh, .inl ((cs 0), 32, .inl fSh))] s.heap.size = A at hD hCx ⊢
  have hA : ∀ q : Nat, s.heap.size ≤ q → A q := fun q h => by rw [← hAe]; exact Or.inr h
  have hA0 : ∀ q : Nat, s.heap.size ≤ q → va_A [] s.heap.size q := fun q h => Or.inr h
  have hS : va_S (va_A [] s.heap.size) s.heap s.heap [] := va_S.rf
  have hl := lv_entry ([.ref h0, .int x, .int k, .int y]) (n := 4) (Nat.le_of_ble_eq_true rfl)
  rw [lg_entry_eq]
  generalize (lg_sl ([.ref h0, .int x, .int k, .int y]) ++ List.replicate (4 - (lg_sl ([.ref h0, .int x, .int k, .int y])).length) Slot.unset).toArray = ls at hl ⊢
  have hl : lv_has ls 4 [(0, .ref h0), (1, .int x), (2, .int k), (3, .int y)] := hl
  have hP : va_P (dC, dI) vq_cl [(h0, .inr (0, [.ref aMo, .ref aSh, .ref aLa, .ref aDy, .ref aMa, .ref aKi, .int zCn, .ref aPi, .int zPc, .ref aLn, .int zTo])), (aSh, .inl ((cs 0), 32, .inl fSh))] s.heap := hP
  refine lv_iload_n hx hb d_BR_element_0 rfl (lv_at hl 1 rfl) ?_
  refine mx_rv (vx_runS (As := [.int x]) (rest := []) ⟨hx, hb, hml, hown, hG⟩ (c_needMaterial l hlT dC dI cs _ x) (cwS 1 hG (vq_gS vq_t90 vq_t91 vq_t1 vq_t92) rfl rfl rfl (by decide +kernel) ⟨Nat.le_of_ble_eq_true rfl, Nat.le_of_ble_eq_true rfl⟩) (vq_preSr (wc := []) hCx hP (vq_wk hS hA) hA [] rfl) rfl rfl hl.1 rfl (lv_room (Nat.le_of_ble_eq_true rfl)) d_BR_element_1 ⟨Nat.le_of_ble_eq_true rfl, Nat.le_of_ble_eq_true rfl⟩) hP hS hA0 (fun E ce q9 H locs x_1 hP hS h91 h92 h93 => vx_out (fun x h => (htb x h).elim) hlocks h91 h92 h93 (fun t ht hvm => vq_Xof (by obtain ⟨rfl, y9⟩ := x_1; simp only [X_element, if_neg y9]) (hS.F ht)) (vq_wk hS hA).2.2 (Nat.le_of_ble_eq_true rfl) (Nat.le_of_ble_eq_true rfl)) (fun H locs w_1 hP hS => ?_)
  refine W.widen (k := 1) (n := 6) (Nat.le_of_ble_eq_true rfl) (Nat.le_of_ble_eq_true rfl) ?_
  refine lv_iload_n hx hb d_BR_element_4 rfl (lv_at hl 2 rfl) ?_
  refine mx_rv (vx_runS (As := [.int k]) (rest := []) ⟨hx, hb, hml, hown, hG⟩ (c_needElement l hlT dC dI cs _ k) (cwS 1 hG (vq_gS vq_t188 vq_t189 vq_t1 vq_t190) rfl rfl rfl (by decide +kernel) ⟨Nat.le_of_ble_eq_true rfl, Nat.le_of_ble_eq_true rfl⟩) (vq_preSr (wc := []) hCx hP (vq_wk hS hA) hA [] rfl) rfl rfl hl.1 rfl (lv_room (Nat.le_of_ble_eq_true rfl)) d_BR_element_5 ⟨Nat.le_of_ble_eq_true rfl, Nat.le_of_ble_eq_true rfl⟩) hP hS hA0 (fun E ce q9 H locs x_5 hP hS h91 h92 h93 => vx_out (fun x h => (htb x h).elim) hlocks h91 h92 h93 (fun t ht hvm => vq_Xof (by obtain ⟨rfl, y9⟩ := x_5; simp only [X_element, if_pos w_1, if_neg y9]) (hS.F ht)) (vq_wk hS hA).2.2 (Nat.le_of_ble_eq_true rfl) (Nat.le_of_ble_eq_true rfl)) (fun H locs w_5 hP hS => ?_)
  refine W.widen (k := 2) (n := 12) (Nat.le_of_ble_eq_true rfl) (Nat.le_of_ble_eq_true rfl) ?_
  refine lv_iload_n hx hb d_BR_element_8 rfl (lv_at hl 3 rfl) ?_
  refine lv_iconst (v := 0) hx hb d_BR_element_9 (by decide) ?_
  refine lv_sipush (v := 10000) hx hb d_BR_element_10 (by decide) ?_
  refine mx_rv (vx_runS (As := [.int y, .int 0, .int 10000]) (rest := []) ⟨hx, hb, hml, hown, hG⟩ (c_needRange l hlT dC dI cs _ y 0 10000) (cwS 3 hG (vq_gS vq_t162 vq_t163 vq_t1 vq_t164) rfl rfl rfl (by decide +kernel) ⟨Nat.le_of_ble_eq_true rfl, Nat.le_of_ble_eq_true rfl⟩) (vq_preSr (wc := []) hCx hP (vq_wk hS hA) hA [] rfl) rfl rfl hl.1 rfl (lv_room (Nat.le_of_ble_eq_true rfl)) d_BR_element_13 ⟨Nat.le_of_ble_eq_true rfl, Nat.le_of_ble_eq_true rfl⟩) hP hS hA0 (fun E ce q9 H locs x_13 hP hS h91 h92 h93 => vx_out (fun x h => (htb x h).elim) hlocks h91 h92 h93 (fun t ht hvm => vq_Xof (by obtain ⟨rfl, y9⟩ := x_13; simp only [X_element, if_pos w_1, if_pos w_5, if_neg y9]) (hS.F ht)) (vq_wk hS hA).2.2 (Nat.le_of_ble_eq_true rfl) (Nat.le_of_ble_eq_true rfl)) (fun H locs w_13 hP hS => ?_)
  refine W.widen (k := 3) (n := 18) (Nat.le_of_ble_eq_true rfl) (Nat.le_of_ble_eq_true rfl) ?_
  refine lv_aload_n hx hb d_BR_element_16 rfl (lv_at hl 0 rfl) ?_
  refine va_get (D := (dC, dI)) (ci := 0) (v := .ref aSh) (C := R_BR) (T := F_BR) (N := 11) hx hb hG i_BR hown hK hP 0 rfl rfl 1 (by decide) (hG _ vq_t48) (fun _ h9 => h9) rfl d_BR_element_17 ?_
  refine lv_iload_n hx hb d_BR_element_20 rfl (lv_at hl 1 rfl) ?_
  refine lv_iconst (v := 4) hx hb d_BR_element_21 (by decide) ?_
  refine lv_imul hx hb d_BR_element_22 ?_
  refine lv_iload_n hx hb d_BR_element_23 rfl (lv_at hl 2 rfl) ?_
  refine lv_iadd hx hb d_BR_element_24 ?_
  refine lv_iload_n hx hb d_BR_element_25 rfl (lv_at hl 3 rfl) ?_
  have hS := vq_wk hS hA
  refine va_iast (D := (dC, dI)) hx hb hK hP hD hS 1 0 rfl rfl (vq_ixE w_1 w_5) d_BR_element_26 (fun H locs hP hD hS => ?_)
  have hP : va_P (dC, dI) vq_cl [(h0, .inr (0, [.ref aMo, .ref aSh, .ref aLa, .ref aDy, .ref aMa, .ref aKi, .int zCn, .ref aPi, .int zPc, .ref aLn, .int zTo])), (aSh, .inl ((cs 0), 32, .inl (upd fSh ((x * 4) + k).toNatClampNeg y)))] H := hP
  have hD : va_D A [(h0, .inr (0, [.ref aMo, .ref aSh, .ref aLa, .ref aDy, .ref aMa, .ref aKi, .int zCn, .ref aPi, .int zPc, .ref aLn, .int zTo])), (aSh, .inl ((cs 0), 32, .inl (upd fSh ((x * 4) + k).toNatClampNeg y)))] := hD
  refine vx_ret ?_
  refine W.widen (k := 3) (n := 18) (Nat.le_of_ble_eq_true rfl) (Nat.le_of_ble_eq_true rfl) ?_
  have hP9 : va_P (dC, dI) vq_cl [(h0, .inr (0, [.ref aMo, .ref aSh, .ref aLa, .ref aDy, .ref aMa, .ref aKi, .int zCn, .ref aPi, .int zPc, .ref aLn, .int zTo])), (aSh, .inl ((cs 0), 32, .inl (upd fSh ((x * 4) + k).toNatClampNeg y)))] _ := hP.sub [0, 1] rfl
  have hD9 : va_D A [(h0, .inr (0, [.ref aMo, .ref aSh, .ref aLa, .ref aDy, .ref aMa, .ref aKi, .int zCn, .ref aPi, .int zPc, .ref aLn, .int zTo])), (aSh, .inl ((cs 0), 32, .inl (upd fSh ((x * 4) + k).toNatClampNeg y)))] := hD.sub [0, 1] (by decide) rfl
  exact W.vret hx hb hr (fun t ht hW => ⟨⟨(), rfl, by simp only [X_element, if_pos w_1, if_pos w_5, if_pos w_13], ⟨by rw [ht]; exact hP9, hD9⟩⟩, hS.F ht⟩) hS.2.2 d_BR_element_27
set_option maxHeartbeats 4000000 in
set_option maxRecDepth 100000 in
/-- ship -/
theorem c_ship (l : Launch) (hlT : l.stackTraces = false) (dC : Nat → ClassId) (dI : Nat → Nat → Nat) (cs : Nat → ClassId) (sz : Nat) (h0 : Nat) (aMo : Nat) (aSh : Nat) (aLa : Nat) (aDy : Nat) (aMa : Nat) (aKi : Nat) (aPi : Nat) (aLn : Nat) (zCn : Int32) (zPc : Int32) (zTo : Int32) (fDy : Nat → Int32) (fMa : Nat → Int32) (fKi : Nat → Int32) (day : Int32) (x : Int32) (kg : Int32) (lo : Int32) (hn : ¬ zCn < 0) : vx_Met l y_BR_ship w_BR_ship ({ frames := 7, cells := 4, slots := 24, locals := 104 }) (vq_Pre (dC, dI) cs [(h0, .inr (0, [.ref aMo, .ref aSh, .ref aLa, .ref aDy, .ref aMa, .ref aKi, .int zCn, .ref aPi, .int zPc, .ref aLn, .int zTo])), (aDy, .inl ((cs 0), 40, .inl fDy)), (aMa, .inl ((cs 0), 40, .inl fMa)), (aKi, .inl ((cs 0), 40, .inl fKi))] sz [.ref h0, .int day, .int x, .int kg, .int lo]) (va_Qi (fun (r : Int32) (_ : Unit) => r = zCn ∧ X_ship zCn zTo day x kg lo = none) (vq_B (dC, dI) cs (va_A [(h0, .inr (0, [.ref aMo, .ref aSh, .ref aLa, .ref aDy, .ref aMa, .ref aKi, .int zCn, .ref aPi, .int zPc, .ref aLn, .int zTo])), (aDy, .inl ((cs 0), 40, .inl fDy)), (aMa, .inl ((cs 0), 40, .inl fMa)), (aKi, .inl ((cs 0), 40, .inl fKi))] sz) (fun _ => [(h0, .inr (0, [.ref aMo, .ref aSh, .ref aLa, .ref aDy, .ref aMa, .ref aKi, .int (zCn + 1), .ref aPi, .int zPc, .ref aLn, .int zTo])), (aDy, .inl ((cs 0), 40, .inl (upd fDy zCn.toNatClampNeg day))), (aMa, .inl ((cs 0), 40, .inl (upd fMa zCn.toNatClampNeg x))), (aKi, .inl ((cs 0), 40, .inl (upd fKi zCn.toNatClampNeg (kg - ((((kg * lo) + 1000) - 1) / 1000)))))])) (va_A [(h0, .inr (0, [.ref aMo, .ref aSh, .ref aLa, .ref aDy, .ref aMa, .ref aKi, .int zCn, .ref aPi, .int zPc, .ref aLn, .int zTo])), (aDy, .inl ((cs 0), 40, .inl fDy)), (aMa, .inl ((cs 0), 40, .inl fMa)), (aKi, .inl ((cs 0), 40, .inl fKi))] sz)) (vq_X (fun E => X_ship zCn zTo day x kg lo = some E) sz) 4 24 (va_A [(h0, .inr (0, [.ref aMo, .ref aSh, .ref aLa, .ref aDy, .ref aMa, .ref aKi, .int zCn, .ref aPi, .int zPc, .ref aLn, .int zTo])), (aDy, .inl ((cs 0), 40, .inl fDy)), (aMa, .inl ((cs 0), 40, .inl fMa)), (aKi, .inl ((cs 0), 40, .inl fKi))] sz) := by
  refine vx_ofW (cc := b_BR_ship) (maxL := 6) (ret := (some .int)) (by decide) rfl ?_
  intro p e s m args below meth c s₁ B hml htb hv
  obtain ⟨rfl, hsz, hP, hD0, hCx⟩ := hv
  have hx := B.exec
  have hb := B.bytes
  have hr := B.returns
  have hG := vq_hG (atoms_spec (ws := w_BR_ship) B.pre)
  have hown : s.vm.findClass R_BR = some m.cls := findClass_of_methodNamed B.named
  have hlocks := B.notSynchronized
  subst hsz
  have hK := hCx.1
  have hD := hD0.self (sz := s.heap.size)
  generalize hAe : va_A [(h0, .inr (0, [.ref aMo, .ref aSh, .ref aLa, .ref aDy, .ref aMa, .ref aKi, .int zCn, .ref aPi, .int zPc, .ref aLn, .int zTo])), (aDy, .inl ((cs 0), 40, .inl fDy)), (aMa, .inl ((cs 0), 40, .inl fMa)), (aKi, .inl ((cs 0), 40, .inl fKi))] s.heap.size = A at hD hCx ⊢
  have hA : ∀ q : Nat, s.heap.size ≤ q → A q := fun q h => by rw [← hAe]; exact Or.inr h
  have hA0 : ∀ q : Nat, s.heap.size ≤ q → va_A [] s.heap.size q := fun q h => Or.inr h
  have hS : va_S (va_A [] s.heap.size) s.heap s.heap [] := va_S.rf
  have hl := lv_entry ([.ref h0, .int day, .int x, .int kg, .int lo]) (n := 6) (Nat.le_of_ble_eq_true rfl)
  rw [lg_entry_eq]
  generalize (lg_sl ([.ref h0, .int day, .int x, .int kg, .int lo]) ++ List.replicate (6 - (lg_sl ([.ref h0, .int day, .int x, .int kg, .int lo])).length) Slot.unset).toArray = ls at hl ⊢
  have hl : lv_has ls 6 [(0, .ref h0), (1, .int day), (2, .int x), (3, .int kg), (4, .int lo)] := hl
  have hP : va_P (dC, dI) vq_cl [(h0, .inr (0, [.ref aMo, .ref aSh, .ref aLa, .ref aDy, .ref aMa, .ref aKi, .int zCn, .ref aPi, .int zPc, .ref aLn, .int zTo])), (aDy, .inl ((cs 0), 40, .inl fDy)), (aMa, .inl ((cs 0), 40, .inl fMa)), (aKi, .inl ((cs 0), 40, .inl fKi))] s.heap := hP
  refine lv_iload_n hx hb d_BR_ship_0 rfl (lv_at hl 2 rfl) ?_
  refine mx_rv (vx_runS (As := [.int x]) (rest := []) ⟨hx, hb, hml, hown, hG⟩ (c_needMaterial l hlT dC dI cs _ x) (cwS 1 hG (vq_gS vq_t90 vq_t91 vq_t1 vq_t92) rfl rfl rfl (by decide +kernel) ⟨Nat.le_of_ble_eq_true rfl, Nat.le_of_ble_eq_true rfl⟩) (vq_preSr (wc := []) hCx hP (vq_wk hS hA) hA [] rfl) rfl rfl hl.1 rfl (lv_room (Nat.le_of_ble_eq_true rfl)) d_BR_ship_1 ⟨Nat.le_of_ble_eq_true rfl, Nat.le_of_ble_eq_true rfl⟩) hP hS hA0 (fun E ce q9 H locs x_1 hP hS h91 h92 h93 => vx_out (fun x h => (htb x h).elim) hlocks h91 h92 h93 (fun t ht hvm => vq_Xof (by obtain ⟨rfl, y9⟩ := x_1; simp only [X_ship, if_neg y9]) (hS.F ht)) (vq_wk hS hA).2.2 (Nat.le_of_ble_eq_true rfl) (Nat.le_of_ble_eq_true rfl)) (fun H locs w_1 hP hS => ?_)
  refine W.widen (k := 1) (n := 6) (Nat.le_of_ble_eq_true rfl) (Nat.le_of_ble_eq_true rfl) ?_
  refine lv_aload_n hx hb d_BR_ship_4 rfl (lv_at hl 0 rfl) ?_
  refine va_get (D := (dC, dI)) (ci := 0) (v := .int zCn) (C := R_BR) (T := F_BR) (N := 11) hx hb hG i_BR hown hK hP 0 rfl rfl 6 (by decide) (hG _ vq_t53) (fun _ h9 => h9) rfl d_BR_ship_5 ?_
  refine lv_bipush (v := 40) hx hb d_BR_ship_8 (by decide) ?_
  refine lv_icmp_lt (tgt := 23) hx hb d_BR_ship_10 (by decide) (fun c_10 => ?_) (fun c_10 => ?_)
  · skip
    refine lv_iload_n hx hb d_BR_ship_23 rfl (lv_at hl 1 rfl) ?_
    refine lv_aload_n hx hb d_BR_ship_24 rfl (lv_at hl 0 rfl) ?_
    refine va_get (D := (dC, dI)) (ci := 0) (v := .int zTo) (C := R_BR) (T := F_BR) (N := 11) hx hb hG i_BR hown hK hP 0 rfl rfl 10 (by decide) (hG _ vq_t57) (fun _ h9 => h9) rfl d_BR_ship_25 ?_
    refine lv_sipush (v := 9999) hx hb d_BR_ship_28 (by decide) ?_
    refine mx_rv (vx_runS (As := [.int day, .int zTo, .int 9999]) (rest := []) ⟨hx, hb, hml, hown, hG⟩ (c_needRange l hlT dC dI cs _ day zTo 9999) (cwS 3 hG (vq_gS vq_t162 vq_t163 vq_t1 vq_t164) rfl rfl rfl (by decide +kernel) ⟨Nat.le_of_ble_eq_true rfl, Nat.le_of_ble_eq_true rfl⟩) (vq_preSr (wc := []) hCx hP (vq_wk hS hA) hA [] rfl) rfl rfl hl.1 rfl (lv_room (Nat.le_of_ble_eq_true rfl)) d_BR_ship_31 ⟨Nat.le_of_ble_eq_true rfl, Nat.le_of_ble_eq_true rfl⟩) hP hS hA0 (fun E ce q9 H locs x_31 hP hS h91 h92 h93 => vx_out (fun x h => (htb x h).elim) hlocks h91 h92 h93 (fun t ht hvm => vq_Xof (by obtain ⟨rfl, y9⟩ := x_31; simp only [X_ship, if_pos w_1, if_pos c_10, if_neg y9]) (hS.F ht)) (vq_wk hS hA).2.2 (Nat.le_of_ble_eq_true rfl) (Nat.le_of_ble_eq_true rfl)) (fun H locs w_31 hP hS => ?_)
    refine W.widen (k := 2) (n := 12) (Nat.le_of_ble_eq_true rfl) (Nat.le_of_ble_eq_true rfl) ?_
    refine lv_iload_n hx hb d_BR_ship_34 rfl (lv_at hl 3 rfl) ?_
    refine lv_iconst (v := 1) hx hb d_BR_ship_35 (by decide) ?_
    refine lv_sipush (v := 1000) hx hb d_BR_ship_36 (by decide) ?_
    refine mx_rv (vx_runS (As := [.int kg, .int 1, .int 1000]) (rest := []) ⟨hx, hb, hml, hown, hG⟩ (c_needRange l hlT dC dI cs _ kg 1 1000) (cwS 3 hG (vq_gS vq_t162 vq_t163 vq_t1 vq_t164) rfl rfl rfl (by decide +kernel) ⟨Nat.le_of_ble_eq_true rfl, Nat.le_of_ble_eq_true rfl⟩) (vq_preSr (wc := []) hCx hP (vq_wk hS hA) hA [] rfl) rfl rfl hl.1 rfl (lv_room (Nat.le_of_ble_eq_true rfl)) d_BR_ship_39 ⟨Nat.le_of_ble_eq_true rfl, Nat.le_of_ble_eq_true rfl⟩) hP hS hA0 (fun E ce q9 H locs x_39 hP hS h91 h92 h93 => vx_out (fun x h => (htb x h).elim) hlocks h91 h92 h93 (fun t ht hvm => vq_Xof (by obtain ⟨rfl, y9⟩ := x_39; simp only [X_ship, if_pos w_1, if_pos c_10, if_pos w_31, if_neg y9]) (hS.F ht)) (vq_wk hS hA).2.2 (Nat.le_of_ble_eq_true rfl) (Nat.le_of_ble_eq_true rfl)) (fun H locs w_39 hP hS => ?_)
    refine W.widen (k := 3) (n := 18) (Nat.le_of_ble_eq_true rfl) (Nat.le_of_ble_eq_true rfl) ?_
    refine lv_iload hx hb d_BR_ship_42 (lv_at hl 4 rfl) ?_
    refine lv_iconst (v := 0) hx hb d_BR_ship_44 (by decide) ?_
    refine lv_sipush (v := 999) hx hb d_BR_ship_45 (by decide) ?_
    refine mx_rv (vx_runS (As := [.int lo, .int 0, .int 999]) (rest := []) ⟨hx, hb, hml, hown, hG⟩ (c_needRange l hlT dC dI cs _ lo 0 999) (cwS 3 hG (vq_gS vq_t162 vq_t163 vq_t1 vq_t164) rfl rfl rfl (by decide +kernel) ⟨Nat.le_of_ble_eq_true rfl, Nat.le_of_ble_eq_true rfl⟩) (vq_preSr (wc := []) hCx hP (vq_wk hS hA) hA [] rfl) rfl rfl hl.1 rfl (lv_room (Nat.le_of_ble_eq_true rfl)) d_BR_ship_48 ⟨Nat.le_of_ble_eq_true rfl, Nat.le_of_ble_eq_true rfl⟩) hP hS hA0 (fun E ce q9 H locs x_48 hP hS h91 h92 h93 => vx_out (fun x h => (htb x h).elim) hlocks h91 h92 h93 (fun t ht hvm => vq_Xof (by obtain ⟨rfl, y9⟩ := x_48; simp only [X_ship, if_pos w_1, if_pos c_10, if_pos w_31, if_pos w_39, if_neg y9]) (hS.F ht)) (vq_wk hS hA).2.2 (Nat.le_of_ble_eq_true rfl) (Nat.le_of_ble_eq_true rfl)) (fun H locs w_48 hP hS => ?_)
    refine W.widen (k := 4) (n := 24) (Nat.le_of_ble_eq_true rfl) (Nat.le_of_ble_eq_true rfl) ?_
    refine lv_aload_n hx hb d_BR_ship_51 rfl (lv_at hl 0 rfl) ?_
    refine va_get (D := (dC, dI)) (ci := 0) (v := .int zCn) (C := R_BR) (T := F_BR) (N := 11) hx hb hG i_BR hown hK hP 0 rfl rfl 6 (by decide) (hG _ vq_t53) (fun _ h9 => h9) rfl d_BR_ship_52 ?_
    refine lv_istore (lv' := [(5, .int zCn), (0, .ref h0), (1, .int day), (2, .int x), (3, .int kg), (4, .int lo)]) hx hb d_BR_ship_55 hl (by decide) rfl (fun ls hl => ?_)
    refine lv_aload_n hx hb d_BR_ship_57 rfl (lv_at hl 1 rfl) ?_
    refine va_get (D := (dC, dI)) (ci := 0) (v := .ref aDy) (C := R_BR) (T := F_BR) (N := 11) hx hb hG i_BR hown hK hP 0 rfl rfl 3 (by decide) (hG _ vq_t50) (fun _ h9 => h9) rfl d_BR_ship_58 ?_
    refine lv_iload hx hb d_BR_ship_61 (lv_at hl 0 rfl) ?_
    refine lv_iload_n hx hb d_BR_ship_63 rfl (lv_at hl 2 rfl) ?_
    have hS := vq_wk hS hA
    refine va_iast (D := (dC, dI)) hx hb hK hP hD hS 1 0 rfl rfl (vq_in 40 rfl hn c_10) d_BR_ship_64 (fun H locs hP hD hS => ?_)
    have hP : va_P (dC, dI) vq_cl [(h0, .inr (0, [.ref aMo, .ref aSh, .ref aLa, .ref aDy, .ref aMa, .ref aKi, .int zCn, .ref aPi, .int zPc, .ref aLn, .int zTo])), (aDy, .inl ((cs 0), 40, .inl (upd fDy zCn.toNatClampNeg day))), (aMa, .inl ((cs 0), 40, .inl fMa)), (aKi, .inl ((cs 0), 40, .inl fKi))] H := hP
    have hD : va_D A [(h0, .inr (0, [.ref aMo, .ref aSh, .ref aLa, .ref aDy, .ref aMa, .ref aKi, .int zCn, .ref aPi, .int zPc, .ref aLn, .int zTo])), (aDy, .inl ((cs 0), 40, .inl (upd fDy zCn.toNatClampNeg day))), (aMa, .inl ((cs 0), 40, .inl fMa)), (aKi, .inl ((cs 0), 40, .inl fKi))] := hD
    refine lv_aload_n hx hb d_BR_ship_65 rfl (lv_at hl 1 rfl) ?_
    refine va_get (D := (dC, dI)) (ci := 0) (v := .ref aMa) (C := R_BR) (T := F_BR) (N := 11) hx hb hG i_BR hown hK hP 0 rfl rfl 4 (by decide) (hG _ vq_t51) (fun _ h9 => h9) rfl d_BR_ship_66 ?_
    refine lv_iload hx hb d_BR_ship_69 (lv_at hl 0 rfl) ?_
    refine lv_iload_n hx hb d_BR_ship_71 rfl (lv_at hl 3 rfl) ?_
    refine va_iast (D := (dC, dI)) hx hb hK hP hD hS 2 0 rfl rfl (vq_in 40 rfl hn c_10) d_BR_ship_72 (fun H locs hP hD hS => ?_)
    have hP : va_P (dC, dI) vq_cl [(h0, .inr (0, [.ref aMo, .ref aSh, .ref aLa, .ref aDy, .ref aMa, .ref aKi, .int zCn, .ref aPi, .int zPc, .ref aLn, .int zTo])), (aDy, .inl ((cs 0), 40, .inl (upd fDy zCn.toNatClampNeg day))), (aMa, .inl ((cs 0), 40, .inl (upd fMa zCn.toNatClampNeg x))), (aKi, .inl ((cs 0), 40, .inl fKi))] H := hP
    have hD : va_D A [(h0, .inr (0, [.ref aMo, .ref aSh, .ref aLa, .ref aDy, .ref aMa, .ref aKi, .int zCn, .ref aPi, .int zPc, .ref aLn, .int zTo])), (aDy, .inl ((cs 0), 40, .inl (upd fDy zCn.toNatClampNeg day))), (aMa, .inl ((cs 0), 40, .inl (upd fMa zCn.toNatClampNeg x))), (aKi, .inl ((cs 0), 40, .inl fKi))] := hD
    refine lv_aload_n hx hb d_BR_ship_73 rfl (lv_at hl 1 rfl) ?_
    refine va_get (D := (dC, dI)) (ci := 0) (v := .ref aKi) (C := R_BR) (T := F_BR) (N := 11) hx hb hG i_BR hown hK hP 0 rfl rfl 5 (by decide) (hG _ vq_t52) (fun _ h9 => h9) rfl d_BR_ship_74 ?_
    refine lv_iload hx hb d_BR_ship_77 (lv_at hl 0 rfl) ?_
    refine lv_iload_n hx hb d_BR_ship_79 rfl (lv_at hl 4 rfl) ?_
    refine lv_iload_n hx hb d_BR_ship_80 rfl (lv_at hl 4 rfl) ?_
    refine lv_iload hx hb d_BR_ship_81 (lv_at hl 5 rfl) ?_
    refine mk_ri (va_runS (As := [.int kg, .int lo]) (rest := [.int kg, .int zCn, .ref aKi]) ⟨hx, hb, hml, hown, hG⟩ (c_lostKilos l dC dI cs _ kg lo) (cwS 2 hG (vq_gS vq_t216 vq_t217 vq_t1 vq_t218) rfl rfl rfl (by decide +kernel) ⟨Nat.le_of_ble_eq_true rfl, Nat.le_of_ble_eq_true rfl⟩) (vq_preSr (wc := []) hCx hP hS hA [] rfl) rfl rfl hl.1 rfl (lv_room (Nat.le_of_ble_eq_true rfl)) d_BR_ship_83 ⟨Nat.le_of_ble_eq_true rfl, Nat.le_of_ble_eq_true rfl⟩) hP hS hA (fun r_83 H locs w_83 hP hS => ?_)
    subst w_83
    refine lv_isub hx hb d_BR_ship_86 ?_
    refine va_iast (D := (dC, dI)) hx hb hK hP hD hS 3 0 rfl rfl (vq_in 40 rfl hn c_10) d_BR_ship_87 (fun H locs hP hD hS => ?_)
    have hP : va_P (dC, dI) vq_cl [(h0, .inr (0, [.ref aMo, .ref aSh, .ref aLa, .ref aDy, .ref aMa, .ref aKi, .int zCn, .ref aPi, .int zPc, .ref aLn, .int zTo])), (aDy, .inl ((cs 0), 40, .inl (upd fDy zCn.toNatClampNeg day))), (aMa, .inl ((cs 0), 40, .inl (upd fMa zCn.toNatClampNeg x))), (aKi, .inl ((cs 0), 40, .inl (upd fKi zCn.toNatClampNeg (kg - ((((kg * lo) + 1000) - 1) / 1000)))))] H := hP
    have hD : va_D A [(h0, .inr (0, [.ref aMo, .ref aSh, .ref aLa, .ref aDy, .ref aMa, .ref aKi, .int zCn, .ref aPi, .int zPc, .ref aLn, .int zTo])), (aDy, .inl ((cs 0), 40, .inl (upd fDy zCn.toNatClampNeg day))), (aMa, .inl ((cs 0), 40, .inl (upd fMa zCn.toNatClampNeg x))), (aKi, .inl ((cs 0), 40, .inl (upd fKi zCn.toNatClampNeg (kg - ((((kg * lo) + 1000) - 1) / 1000)))))] := hD
    refine lv_aload_n hx hb d_BR_ship_88 rfl (lv_at hl 1 rfl) ?_
    refine lv_iload hx hb d_BR_ship_89 (lv_at hl 0 rfl) ?_
    refine lv_iconst (v := 1) hx hb d_BR_ship_91 (by decide) ?_
    refine lv_iadd hx hb d_BR_ship_92 ?_
    refine va_put (D := (dC, dI)) (ci := 0) (v := .int (zCn + 1)) (ty := .int) (C := R_BR) (T := F_BR) (N := 11) hx hb hG i_BR t_BR t_BR_ok n_BR hown hK hP hD hS 0 rfl rfl 6 (by decide) (hG _ vq_t53) (fun _ h9 => h9) rfl (by decide +kernel) rfl rfl (Nat.le_of_ble_eq_true rfl) d_BR_ship_93 (fun H locs hP hD hS => ?_)
    have hP : va_P (dC, dI) vq_cl [(h0, .inr (0, [.ref aMo, .ref aSh, .ref aLa, .ref aDy, .ref aMa, .ref aKi, .int (zCn + 1), .ref aPi, .int zPc, .ref aLn, .int zTo])), (aDy, .inl ((cs 0), 40, .inl (upd fDy zCn.toNatClampNeg day))), (aMa, .inl ((cs 0), 40, .inl (upd fMa zCn.toNatClampNeg x))), (aKi, .inl ((cs 0), 40, .inl (upd fKi zCn.toNatClampNeg (kg - ((((kg * lo) + 1000) - 1) / 1000)))))] H := hP
    have hD : va_D A [(h0, .inr (0, [.ref aMo, .ref aSh, .ref aLa, .ref aDy, .ref aMa, .ref aKi, .int (zCn + 1), .ref aPi, .int zPc, .ref aLn, .int zTo])), (aDy, .inl ((cs 0), 40, .inl (upd fDy zCn.toNatClampNeg day))), (aMa, .inl ((cs 0), 40, .inl (upd fMa zCn.toNatClampNeg x))), (aKi, .inl ((cs 0), 40, .inl (upd fKi zCn.toNatClampNeg (kg - ((((kg * lo) + 1000) - 1) / 1000)))))] := hD
    refine lv_iload hx hb d_BR_ship_96 (lv_at hl 0 rfl) ?_
    refine vx_ret ?_
    refine W.widen (k := 4) (n := 24) (Nat.le_of_ble_eq_true rfl) (Nat.le_of_ble_eq_true rfl) ?_
    have hP9 : va_P (dC, dI) vq_cl [(h0, .inr (0, [.ref aMo, .ref aSh, .ref aLa, .ref aDy, .ref aMa, .ref aKi, .int (zCn + 1), .ref aPi, .int zPc, .ref aLn, .int zTo])), (aDy, .inl ((cs 0), 40, .inl (upd fDy zCn.toNatClampNeg day))), (aMa, .inl ((cs 0), 40, .inl (upd fMa zCn.toNatClampNeg x))), (aKi, .inl ((cs 0), 40, .inl (upd fKi zCn.toNatClampNeg (kg - ((((kg * lo) + 1000) - 1) / 1000)))))] _ := hP.sub [0, 1, 2, 3] rfl
    have hD9 : va_D A [(h0, .inr (0, [.ref aMo, .ref aSh, .ref aLa, .ref aDy, .ref aMa, .ref aKi, .int (zCn + 1), .ref aPi, .int zPc, .ref aLn, .int zTo])), (aDy, .inl ((cs 0), 40, .inl (upd fDy zCn.toNatClampNeg day))), (aMa, .inl ((cs 0), 40, .inl (upd fMa zCn.toNatClampNeg x))), (aKi, .inl ((cs 0), 40, .inl (upd fKi zCn.toNatClampNeg (kg - ((((kg * lo) + 1000) - 1) / 1000)))))] := hD.sub [0, 1, 2, 3] (by decide) rfl
    exact W.iret (v := zCn) hx hb hr (fun t ht hW => ⟨⟨zCn, (), rfl, ⟨rfl, by simp only [X_ship, if_pos w_1, if_pos c_10, if_pos w_31, if_pos w_39, if_pos w_48]⟩, ⟨by rw [ht]; exact hP9, hD9⟩⟩, hS.F ht⟩) hS.2.2 d_BR_ship_98
  · skip
    exact vq_thr hx hb hlT hown hG hCx hA vq_tw6 hS (by rw [hml]; exact hl.1) d_BR_ship_13 d_BR_ship_16 d_BR_ship_17 d_BR_ship_19 d_BR_ship_22 htb hlocks (Nat.le_of_ble_eq_true rfl) (Nat.le_of_ble_eq_true rfl) (Nat.le_of_ble_eq_true rfl) (Nat.le_of_ble_eq_true rfl) (by simp only [X_ship, if_pos w_1, if_neg c_10]) (Nat.le_of_ble_eq_true rfl) (Nat.le_of_ble_eq_true rfl)
set_option maxHeartbeats 4000000 in
set_option maxRecDepth 100000 in
/-- stock -/
theorem c_stock (l : Launch) (hlT : l.stackTraces = false) (dC : Nat → ClassId) (dI : Nat → Nat → Nat) (cs : Nat → ClassId) (sz : Nat) (h0 : Nat) (aMo : Nat) (aSh : Nat) (aLa : Nat) (aDy : Nat) (aMa : Nat) (aKi : Nat) (aPi : Nat) (aLn : Nat) (zCn : Int32) (zPc : Int32) (zTo : Int32) (fLa : Nat → Int32) (fDy : Nat → Int32) (fMa : Nat → Int32) (fKi : Nat → Int32) (x : Int32) : vx_Met l y_BR_stock w_BR_stock ({ frames := 7, cells := 1, slots := 6, locals := 102 }) (vq_PreR (dC, dI) cs [(h0, .inr (0, [.ref aMo, .ref aSh, .ref aLa, .ref aDy, .ref aMa, .ref aKi, .int zCn, .ref aPi, .int zPc, .ref aLn, .int zTo])), (aLa, .inl ((cs 0), 8, .inl fLa)), (aDy, .inl ((cs 0), 40, .inl fDy)), (aMa, .inl ((cs 0), 40, .inl fMa)), (aKi, .inl ((cs 0), 40, .inl fKi))] sz [.ref h0, .int x]) (va_Qi (fun (r : Int32) (_ : Unit) => r = stockF fLa fDy fMa fKi zCn zTo x ∧ X_stock x = none) (fun _ _ => True) (va_A [] sz)) (vq_X (fun E => X_stock x = some E) sz) 1 6 (va_A [] sz) := by
  refine vx_ofW (cc := b_BR_stock) (maxL := 2) (ret := (some .int)) (by decide) rfl ?_
  intro p e s m args below meth c s₁ B hml htb hv
  obtain ⟨rfl, hsz, hP, hCx⟩ := hv
  have hx := B.exec
  have hb := B.bytes
  have hr := B.returns
  have hG := vq_hG (atoms_spec (ws := w_BR_stock) B.pre)
  have hown : s.vm.findClass R_BR = some m.cls := findClass_of_methodNamed B.named
  have hlocks := B.notSynchronized
  subst hsz
  have hK := hCx.1
  have hA : ∀ q : Nat, s.heap.size ≤ q → va_A [] s.heap.size q := fun q h => Or.inr h
  have hA0 : ∀ q : Nat, s.heap.size ≤ q → va_A [] s.heap.size q := fun q h => Or.inr h
  have hS : va_S (va_A [] s.heap.size) s.heap s.heap [] := va_S.rf
  have hl := lv_entry ([.ref h0, .int x]) (n := 2) (Nat.le_of_ble_eq_true rfl)
  rw [lg_entry_eq]
  generalize (lg_sl ([.ref h0, .int x]) ++ List.replicate (2 - (lg_sl ([.ref h0, .int x])).length) Slot.unset).toArray = ls at hl ⊢
  have hl : lv_has ls 2 [(0, .ref h0), (1, .int x)] := hl
  have hP : va_P (dC, dI) vq_cl [(h0, .inr (0, [.ref aMo, .ref aSh, .ref aLa, .ref aDy, .ref aMa, .ref aKi, .int zCn, .ref aPi, .int zPc, .ref aLn, .int zTo])), (aLa, .inl ((cs 0), 8, .inl fLa)), (aDy, .inl ((cs 0), 40, .inl fDy)), (aMa, .inl ((cs 0), 40, .inl fMa)), (aKi, .inl ((cs 0), 40, .inl fKi))] s.heap := hP
  refine lv_iload_n hx hb d_BR_stock_0 rfl (lv_at hl 1 rfl) ?_
  refine mx_rv (vx_runS (As := [.int x]) (rest := []) ⟨hx, hb, hml, hown, hG⟩ (c_needMaterial l hlT dC dI cs _ x) (cwS 1 hG (vq_gS vq_t90 vq_t91 vq_t1 vq_t92) rfl rfl rfl (by decide +kernel) ⟨Nat.le_of_ble_eq_true rfl, Nat.le_of_ble_eq_true rfl⟩) (vq_preSr (wc := []) hCx hP (vq_wk hS hA) hA [] rfl) rfl rfl hl.1 rfl (lv_room (Nat.le_of_ble_eq_true rfl)) d_BR_stock_1 ⟨Nat.le_of_ble_eq_true rfl, Nat.le_of_ble_eq_true rfl⟩) hP hS hA0 (fun E ce q9 H locs x_1 hP hS h91 h92 h93 => vx_out (fun x h => (htb x h).elim) hlocks h91 h92 h93 (fun t ht hvm => vq_Xof (by obtain ⟨rfl, y9⟩ := x_1; simp only [X_stock, if_neg y9]) (hS.F ht)) (vq_wk hS hA).2.2 (Nat.le_of_ble_eq_true rfl) (Nat.le_of_ble_eq_true rfl)) (fun H locs w_1 hP hS => ?_)
  refine W.widen (k := 1) (n := 6) (Nat.le_of_ble_eq_true rfl) (Nat.le_of_ble_eq_true rfl) ?_
  refine lv_aload_n hx hb d_BR_stock_4 rfl (lv_at hl 0 rfl) ?_
  refine lv_iload_n hx hb d_BR_stock_5 rfl (lv_at hl 1 rfl) ?_
  refine mk_ri (va_runV (As := [.int x]) (rest := []) ⟨hx, hb, hml, hown, hG⟩ (c_stockOf l dC dI cs _ h0 aMo aSh aLa aDy aMa aKi aPi aLn zCn zPc zTo fLa fDy fMa fKi x w_1) (cwV 1 hG (vq_gV vq_t226 vq_t228 vq_s1 vq_t1 vq_t229) rfl rfl rfl (by decide +kernel) ⟨Nat.le_of_ble_eq_true rfl, Nat.le_of_ble_eq_true rfl⟩) (vq_preVr (wc := [(h0, .inr (0, [.ref aMo, .ref aSh, .ref aLa, .ref aDy, .ref aMa, .ref aKi, .int zCn, .ref aPi, .int zPc, .ref aLn, .int zTo])), (aLa, .inl ((cs 0), 8, .inl fLa)), (aDy, .inl ((cs 0), 40, .inl fDy)), (aMa, .inl ((cs 0), 40, .inl fMa)), (aKi, .inl ((cs 0), 40, .inl fKi))]) (va_recv hK hP (ci := 0) (q0 := 0) rfl rfl) hCx hP (vq_wk hS hA) hA [0, 1, 2, 3, 4] rfl) rfl rfl hl.1 rfl (lv_room (Nat.le_of_ble_eq_true rfl)) d_BR_stock_6 ⟨Nat.le_of_ble_eq_true rfl, Nat.le_of_ble_eq_true rfl⟩) hP hS hA0 (fun r_6 H locs w_6 hP hS => ?_)
  subst w_6
  refine vx_ret ?_
  refine W.widen (k := 1) (n := 6) (Nat.le_of_ble_eq_true rfl) (Nat.le_of_ble_eq_true rfl) ?_
  exact W.iret (v := stockF fLa fDy fMa fKi zCn zTo x) hx hb hr (fun t ht hW => ⟨⟨stockF fLa fDy fMa fKi zCn zTo x, (), rfl, ⟨rfl, by simp only [X_stock, if_pos w_1]⟩, trivial⟩, hS.F ht⟩) hS.2.2 d_BR_stock_9
set_option maxHeartbeats 4000000 in
set_option maxRecDepth 100000 in
/-- pile -/
theorem c_pile (l : Launch) (hlT : l.stackTraces = false) (dC : Nat → ClassId) (dI : Nat → Nat → Nat) (cs : Nat → ClassId) (sz : Nat) (h0 : Nat) (aMo : Nat) (aSh : Nat) (aLa : Nat) (aDy : Nat) (aMa : Nat) (aKi : Nat) (aPi : Nat) (aLn : Nat) (zCn : Int32) (zPc : Int32) (zTo : Int32) (fPi : Nat → Option Nat) (x : Int32) (hn : ¬ zPc < 0) : vx_Met l y_BR_pile w_BR_pile ({ frames := 7, cells := 9, slots := 139, locals := 104 }) (vq_Pre (dC, dI) cs [(h0, .inr (0, [.ref aMo, .ref aSh, .ref aLa, .ref aDy, .ref aMa, .ref aKi, .int zCn, .ref aPi, .int zPc, .ref aLn, .int zTo])), (aPi, .inl ((cs 2), 4, .inr (.inr (.inr (.inr fPi)))))] sz [.ref h0, .int x]) (va_Qi (fun (r : Int32) (_ : Nat × Nat × Nat × Nat × Nat × Nat × Nat × Nat) => r = zPc ∧ X_pile zPc x = none) (vq_B (dC, dI) cs (va_A [(h0, .inr (0, [.ref aMo, .ref aSh, .ref aLa, .ref aDy, .ref aMa, .ref aKi, .int zCn, .ref aPi, .int zPc, .ref aLn, .int zTo])), (aPi, .inl ((cs 2), 4, .inr (.inr (.inr (.inr fPi)))))] sz) (fun u => [(h0, .inr (0, [.ref aMo, .ref aSh, .ref aLa, .ref aDy, .ref aMa, .ref aKi, .int zCn, .ref aPi, .int (zPc + 1), .ref aLn, .int zTo])), (aPi, .inl ((cs 2), 4, .inr (.inr (.inr (.inr (va_up fPi zPc.toNatClampNeg (some u.1))))))), (u.1, .inr (1, [.int x, .ref u.2.1, .ref u.2.2.1, .int 0, .int 0, .int 0, .int 0, .int 0, .ref u.2.2.2.1, .ref u.2.2.2.2.1, .ref u.2.2.2.2.2.1, .ref u.2.2.2.2.2.2.1, .ref u.2.2.2.2.2.2.2])), (u.2.1, .inl ((cs 0), 20, .inl (fun _ => 0))), (u.2.2.1, .inl ((cs 0), 80, .inl (fun _ => 0))), (u.2.2.2.1, .inl ((cs 1), 4, .inr (.inl (fun _ => 0)))), (u.2.2.2.2.1, .inl ((cs 1), 4, .inr (.inl (fun _ => 0)))), (u.2.2.2.2.2.1, .inl ((cs 0), 4, .inl (fun _ => 0))), (u.2.2.2.2.2.2.1, .inl ((cs 1), 4, .inr (.inl (fun _ => 0)))), (u.2.2.2.2.2.2.2, .inl ((cs 0), 4, .inl (fun _ => 0)))])) (va_A [(h0, .inr (0, [.ref aMo, .ref aSh, .ref aLa, .ref aDy, .ref aMa, .ref aKi, .int zCn, .ref aPi, .int zPc, .ref aLn, .int zTo])), (aPi, .inl ((cs 2), 4, .inr (.inr (.inr (.inr fPi)))))] sz)) (vq_X (fun E => X_pile zPc x = some E) sz) 9 139 (va_A [(h0, .inr (0, [.ref aMo, .ref aSh, .ref aLa, .ref aDy, .ref aMa, .ref aKi, .int zCn, .ref aPi, .int zPc, .ref aLn, .int zTo])), (aPi, .inl ((cs 2), 4, .inr (.inr (.inr (.inr fPi)))))] sz) := by
  refine vx_ofW (cc := b_BR_pile) (maxL := 3) (ret := (some .int)) (by decide) rfl ?_
  intro p e s m args below meth c s₁ B hml htb hv
  obtain ⟨rfl, hsz, hP, hD0, hCx⟩ := hv
  have hx := B.exec
  have hb := B.bytes
  have hr := B.returns
  have hG := vq_hG (atoms_spec (ws := w_BR_pile) B.pre)
  have hown : s.vm.findClass R_BR = some m.cls := findClass_of_methodNamed B.named
  have hlocks := B.notSynchronized
  subst hsz
  have hK := hCx.1
  have hD := hD0.self (sz := s.heap.size)
  generalize hAe : va_A [(h0, .inr (0, [.ref aMo, .ref aSh, .ref aLa, .ref aDy, .ref aMa, .ref aKi, .int zCn, .ref aPi, .int zPc, .ref aLn, .int zTo])), (aPi, .inl ((cs 2), 4, .inr (.inr (.inr (.inr fPi)))))] s.heap.size = A at hD hCx ⊢
  have hA : ∀ q : Nat, s.heap.size ≤ q → A q := fun q h => by rw [← hAe]; exact Or.inr h
  have hA0 : ∀ q : Nat, s.heap.size ≤ q → va_A [] s.heap.size q := fun q h => Or.inr h
  have hS : va_S (va_A [] s.heap.size) s.heap s.heap [] := va_S.rf
  have hl := lv_entry ([.ref h0, .int x]) (n := 3) (Nat.le_of_ble_eq_true rfl)
  rw [lg_entry_eq]
  generalize (lg_sl ([.ref h0, .int x]) ++ List.replicate (3 - (lg_sl ([.ref h0, .int x])).length) Slot.unset).toArray = ls at hl ⊢
  have hl : lv_has ls 3 [(0, .ref h0), (1, .int x)] := hl
  have hP : va_P (dC, dI) vq_cl [(h0, .inr (0, [.ref aMo, .ref aSh, .ref aLa, .ref aDy, .ref aMa, .ref aKi, .int zCn, .ref aPi, .int zPc, .ref aLn, .int zTo])), (aPi, .inl ((cs 2), 4, .inr (.inr (.inr (.inr fPi)))))] s.heap := hP
  refine lv_aload_n hx hb d_BR_pile_0 rfl (lv_at hl 0 rfl) ?_
  refine va_get (D := (dC, dI)) (ci := 0) (v := .int zPc) (C := R_BR) (T := F_BR) (N := 11) hx hb hG i_BR hown hK hP 0 rfl rfl 8 (by decide) (hG _ vq_t55) (fun _ h9 => h9) rfl d_BR_pile_1 ?_
  refine lv_iconst (v := 4) hx hb d_BR_pile_4 (by decide) ?_
  refine lv_icmp_lt (tgt := 18) hx hb d_BR_pile_5 (by decide) (fun c_5 => ?_) (fun c_5 => ?_)
  · skip
    refine lv_iload_n hx hb d_BR_pile_18 rfl (lv_at hl 1 rfl) ?_
    refine lv_iconst (v := 1) hx hb d_BR_pile_19 (by decide) ?_
    refine lv_ldc (v := 65536) hx hb hown (hG _ vq_t238) d_BR_pile_20 ?_
    refine mx_rv (vx_runS (As := [.int x, .int 1, .int 65536]) (rest := []) ⟨hx, hb, hml, hown, hG⟩ (c_needRange l hlT dC dI cs _ x 1 65536) (cwS 3 hG (vq_gS vq_t162 vq_t163 vq_t1 vq_t164) rfl rfl rfl (by decide +kernel) ⟨Nat.le_of_ble_eq_true rfl, Nat.le_of_ble_eq_true rfl⟩) (vq_preSr (wc := []) hCx hP (vq_wk hS hA) hA [] rfl) rfl rfl hl.1 rfl (lv_room (Nat.le_of_ble_eq_true rfl)) d_BR_pile_22 ⟨Nat.le_of_ble_eq_true rfl, Nat.le_of_ble_eq_true rfl⟩) hP hS hA0 (fun E ce q9 H locs x_22 hP hS h91 h92 h93 => vx_out (fun x h => (htb x h).elim) hlocks h91 h92 h93 (fun t ht hvm => vq_Xof (by obtain ⟨rfl, y9⟩ := x_22; simp only [X_pile, if_pos c_5, if_neg y9]) (hS.F ht)) (vq_wk hS hA).2.2 (Nat.le_of_ble_eq_true rfl) (Nat.le_of_ble_eq_true rfl)) (fun H locs w_22 hP hS => ?_)
    refine W.widen (k := 1) (n := 6) (Nat.le_of_ble_eq_true rfl) (Nat.le_of_ble_eq_true rfl) ?_
    refine lv_aload_n hx hb d_BR_pile_25 rfl (lv_at hl 0 rfl) ?_
    refine va_get (D := (dC, dI)) (ci := 0) (v := .int zPc) (C := R_BR) (T := F_BR) (N := 11) hx hb hG i_BR hown hK hP 0 rfl rfl 8 (by decide) (hG _ vq_t55) (fun _ h9 => h9) rfl d_BR_pile_26 ?_
    refine lv_istore_n (lv' := [(2, .int zPc), (0, .ref h0), (1, .int x)]) hx hb d_BR_pile_29 rfl hl (by decide) rfl (fun ls hl => ?_)
    refine lv_aload_n hx hb d_BR_pile_30 rfl (lv_at hl 1 rfl) ?_
    refine va_get (D := (dC, dI)) (ci := 0) (v := .ref aPi) (C := R_BR) (T := F_BR) (N := 11) hx hb hG i_BR hown hK hP 0 rfl rfl 7 (by decide) (hG _ vq_t54) (fun _ h9 => h9) rfl d_BR_pile_31 ?_
    refine lv_iload_n hx hb d_BR_pile_34 rfl (lv_at hl 0 rfl) ?_
    have hS := vq_wk hS hA
    refine va_new (ci := 1) (fs := [.int 0, .null, .null, .int 0, .int 0, .int 0, .int 0, .int 0, .null, .null, .null, .null, .null]) (C := R_PI) (T := F_PI) (N := 13) hx hb hG i_PI t_PI t_PI_ok hown (hG _ vq_t21) (hG _ vq_t239) (hG _ vq_t10) hK hP hD hS hA rfl (fun j hj => by rcases (show j = 0 ∨ j = 1 ∨ j = 2 ∨ j = 3 ∨ j = 4 ∨ j = 5 ∨ j = 6 ∨ j = 7 ∨ j = 8 ∨ j = 9 ∨ j = 10 ∨ j = 11 ∨ j = 12 by omega) with rfl | rfl | rfl | rfl | rfl | rfl | rfl | rfl | rfl | rfl | rfl | rfl | rfl <;> rfl) (Nat.le_of_ble_eq_true rfl) (Nat.le_of_ble_eq_true rfl) d_BR_pile_35 (fun q35 H hP hD hS => ?_)
    have hP : va_P (dC, dI) vq_cl [(h0, .inr (0, [.ref aMo, .ref aSh, .ref aLa, .ref aDy, .ref aMa, .ref aKi, .int zCn, .ref aPi, .int zPc, .ref aLn, .int zTo])), (aPi, .inl ((cs 2), 4, .inr (.inr (.inr (.inr fPi))))), (q35, .inr (1, [.int 0, .null, .null, .int 0, .int 0, .int 0, .int 0, .int 0, .null, .null, .null, .null, .null]))] H := hP
    have hD : va_D A [(h0, .inr (0, [.ref aMo, .ref aSh, .ref aLa, .ref aDy, .ref aMa, .ref aKi, .int zCn, .ref aPi, .int zPc, .ref aLn, .int zTo])), (aPi, .inl ((cs 2), 4, .inr (.inr (.inr (.inr fPi))))), (q35, .inr (1, [.int 0, .null, .null, .int 0, .int 0, .int 0, .int 0, .int 0, .null, .null, .null, .null, .null]))] := hD
    refine W.widen (k := 2) (n := 19) (Nat.le_of_ble_eq_true rfl) (Nat.le_of_ble_eq_true rfl) ?_
    refine lv_dup hx hb d_BR_pile_38 rfl ?_
    refine lv_iload_n hx hb d_BR_pile_39 rfl (lv_at hl 2 rfl) ?_
    refine mk_wv (va_runI (As := [.int x]) (rest := [.ref q35, .int zPc, .ref aPi]) ⟨hx, hb, hml, hown, hG⟩ (c_Pile_init l dC dI cs _ q35 x) (cwI 1 hG (vq_gI vq_t242) rfl rfl rfl (hG _ vq_t10) (hG _ vq_t240) (hG _ vq_t241) rfl (by decide +kernel) ⟨Nat.le_of_ble_eq_true rfl, Nat.le_of_ble_eq_true rfl⟩) (vq_preSw (wc := [(q35, .inr (1, [.int 0, .null, .null, .int 0, .int 0, .int 0, .int 0, .int 0, .null, .null, .null, .null, .null]))]) hCx hP hD hS hA [2] rfl rfl (by decide)) rfl rfl hl.1 rfl (lv_room (Nat.le_of_ble_eq_true rfl)) d_BR_pile_40 ⟨Nat.le_of_ble_eq_true rfl, Nat.le_of_ble_eq_true rfl⟩) hP hD hS hA [2] [0, 1] rfl rfl (by decide) (by decide) (fun u_40 H locs w_40 hP hD hS => ?_)
    obtain ⟨bLG_40, bLS_40, bLt_40, bGS_40, bGG_40, bES_40, bEG_40⟩ := u_40
    have hP : va_P (dC, dI) vq_cl [(h0, .inr (0, [.ref aMo, .ref aSh, .ref aLa, .ref aDy, .ref aMa, .ref aKi, .int zCn, .ref aPi, .int zPc, .ref aLn, .int zTo])), (aPi, .inl ((cs 2), 4, .inr (.inr (.inr (.inr fPi))))), (q35, .inr (1, [.int x, .ref bLG_40, .ref bLS_40, .int 0, .int 0, .int 0, .int 0, .int 0, .ref bLt_40, .ref bGS_40, .ref bGG_40, .ref bES_40, .ref bEG_40])), (bLG_40, .inl ((cs 0), 20, .inl (fun _ => 0))), (bLS_40, .inl ((cs 0), 80, .inl (fun _ => 0))), (bLt_40, .inl ((cs 1), 4, .inr (.inl (fun _ => 0)))), (bGS_40, .inl ((cs 1), 4, .inr (.inl (fun _ => 0)))), (bGG_40, .inl ((cs 0), 4, .inl (fun _ => 0))), (bES_40, .inl ((cs 1), 4, .inr (.inl (fun _ => 0)))), (bEG_40, .inl ((cs 0), 4, .inl (fun _ => 0)))] H := hP
    have hD : va_D A [(h0, .inr (0, [.ref aMo, .ref aSh, .ref aLa, .ref aDy, .ref aMa, .ref aKi, .int zCn, .ref aPi, .int zPc, .ref aLn, .int zTo])), (aPi, .inl ((cs 2), 4, .inr (.inr (.inr (.inr fPi))))), (q35, .inr (1, [.int x, .ref bLG_40, .ref bLS_40, .int 0, .int 0, .int 0, .int 0, .int 0, .ref bLt_40, .ref bGS_40, .ref bGG_40, .ref bES_40, .ref bEG_40])), (bLG_40, .inl ((cs 0), 20, .inl (fun _ => 0))), (bLS_40, .inl ((cs 0), 80, .inl (fun _ => 0))), (bLt_40, .inl ((cs 1), 4, .inr (.inl (fun _ => 0)))), (bGS_40, .inl ((cs 1), 4, .inr (.inl (fun _ => 0)))), (bGG_40, .inl ((cs 0), 4, .inl (fun _ => 0))), (bES_40, .inl ((cs 1), 4, .inr (.inl (fun _ => 0)))), (bEG_40, .inl ((cs 0), 4, .inl (fun _ => 0)))] := hD
    refine W.widen (k := 9) (n := 139) (Nat.le_of_ble_eq_true rfl) (Nat.le_of_ble_eq_true rfl) ?_
    refine va_astq (D := (dC, dI)) hx hb hK hP hD hS 1 2 2 1 rfl rfl rfl rfl (vq_in 4 rfl hn c_5) d_BR_pile_43 (fun H locs hP hD hS => ?_)
    have hP : va_P (dC, dI) vq_cl [(h0, .inr (0, [.ref aMo, .ref aSh, .ref aLa, .ref aDy, .ref aMa, .ref aKi, .int zCn, .ref aPi, .int zPc, .ref aLn, .int zTo])), (aPi, .inl ((cs 2), 4, .inr (.inr (.inr (.inr (va_up fPi zPc.toNatClampNeg (some q35))))))), (q35, .inr (1, [.int x, .ref bLG_40, .ref bLS_40, .int 0, .int 0, .int 0, .int 0, .int 0, .ref bLt_40, .ref bGS_40, .ref bGG_40, .ref bES_40, .ref bEG_40])), (bLG_40, .inl ((cs 0), 20, .inl (fun _ => 0))), (bLS_40, .inl ((cs 0), 80, .inl (fun _ => 0))), (bLt_40, .inl ((cs 1), 4, .inr (.inl (fun _ => 0)))), (bGS_40, .inl ((cs 1), 4, .inr (.inl (fun _ => 0)))), (bGG_40, .inl ((cs 0), 4, .inl (fun _ => 0))), (bES_40, .inl ((cs 1), 4, .inr (.inl (fun _ => 0)))), (bEG_40, .inl ((cs 0), 4, .inl (fun _ => 0)))] H := hP
    have hD : va_D A [(h0, .inr (0, [.ref aMo, .ref aSh, .ref aLa, .ref aDy, .ref aMa, .ref aKi, .int zCn, .ref aPi, .int zPc, .ref aLn, .int zTo])), (aPi, .inl ((cs 2), 4, .inr (.inr (.inr (.inr (va_up fPi zPc.toNatClampNeg (some q35))))))), (q35, .inr (1, [.int x, .ref bLG_40, .ref bLS_40, .int 0, .int 0, .int 0, .int 0, .int 0, .ref bLt_40, .ref bGS_40, .ref bGG_40, .ref bES_40, .ref bEG_40])), (bLG_40, .inl ((cs 0), 20, .inl (fun _ => 0))), (bLS_40, .inl ((cs 0), 80, .inl (fun _ => 0))), (bLt_40, .inl ((cs 1), 4, .inr (.inl (fun _ => 0)))), (bGS_40, .inl ((cs 1), 4, .inr (.inl (fun _ => 0)))), (bGG_40, .inl ((cs 0), 4, .inl (fun _ => 0))), (bES_40, .inl ((cs 1), 4, .inr (.inl (fun _ => 0)))), (bEG_40, .inl ((cs 0), 4, .inl (fun _ => 0)))] := hD
    refine lv_aload_n hx hb d_BR_pile_44 rfl (lv_at hl 1 rfl) ?_
    refine lv_iload_n hx hb d_BR_pile_45 rfl (lv_at hl 0 rfl) ?_
    refine lv_iconst (v := 1) hx hb d_BR_pile_46 (by decide) ?_
    refine lv_iadd hx hb d_BR_pile_47 ?_
    refine va_put (D := (dC, dI)) (ci := 0) (v := .int (zPc + 1)) (ty := .int) (C := R_BR) (T := F_BR) (N := 11) hx hb hG i_BR t_BR t_BR_ok n_BR hown hK hP hD hS 0 rfl rfl 8 (by decide) (hG _ vq_t55) (fun _ h9 => h9) rfl (by decide +kernel) rfl rfl (Nat.le_of_ble_eq_true rfl) d_BR_pile_48 (fun H locs hP hD hS => ?_)
    have hP : va_P (dC, dI) vq_cl [(h0, .inr (0, [.ref aMo, .ref aSh, .ref aLa, .ref aDy, .ref aMa, .ref aKi, .int zCn, .ref aPi, .int (zPc + 1), .ref aLn, .int zTo])), (aPi, .inl ((cs 2), 4, .inr (.inr (.inr (.inr (va_up fPi zPc.toNatClampNeg (some q35))))))), (q35, .inr (1, [.int x, .ref bLG_40, .ref bLS_40, .int 0, .int 0, .int 0, .int 0, .int 0, .ref bLt_40, .ref bGS_40, .ref bGG_40, .ref bES_40, .ref bEG_40])), (bLG_40, .inl ((cs 0), 20, .inl (fun _ => 0))), (bLS_40, .inl ((cs 0), 80, .inl (fun _ => 0))), (bLt_40, .inl ((cs 1), 4, .inr (.inl (fun _ => 0)))), (bGS_40, .inl ((cs 1), 4, .inr (.inl (fun _ => 0)))), (bGG_40, .inl ((cs 0), 4, .inl (fun _ => 0))), (bES_40, .inl ((cs 1), 4, .inr (.inl (fun _ => 0)))), (bEG_40, .inl ((cs 0), 4, .inl (fun _ => 0)))] H := hP
    have hD : va_D A [(h0, .inr (0, [.ref aMo, .ref aSh, .ref aLa, .ref aDy, .ref aMa, .ref aKi, .int zCn, .ref aPi, .int (zPc + 1), .ref aLn, .int zTo])), (aPi, .inl ((cs 2), 4, .inr (.inr (.inr (.inr (va_up fPi zPc.toNatClampNeg (some q35))))))), (q35, .inr (1, [.int x, .ref bLG_40, .ref bLS_40, .int 0, .int 0, .int 0, .int 0, .int 0, .ref bLt_40, .ref bGS_40, .ref bGG_40, .ref bES_40, .ref bEG_40])), (bLG_40, .inl ((cs 0), 20, .inl (fun _ => 0))), (bLS_40, .inl ((cs 0), 80, .inl (fun _ => 0))), (bLt_40, .inl ((cs 1), 4, .inr (.inl (fun _ => 0)))), (bGS_40, .inl ((cs 1), 4, .inr (.inl (fun _ => 0)))), (bGG_40, .inl ((cs 0), 4, .inl (fun _ => 0))), (bES_40, .inl ((cs 1), 4, .inr (.inl (fun _ => 0)))), (bEG_40, .inl ((cs 0), 4, .inl (fun _ => 0)))] := hD
    refine lv_iload_n hx hb d_BR_pile_51 rfl (lv_at hl 0 rfl) ?_
    refine vx_ret ?_
    refine W.widen (k := 9) (n := 139) (Nat.le_of_ble_eq_true rfl) (Nat.le_of_ble_eq_true rfl) ?_
    have hP9 : va_P (dC, dI) vq_cl [(h0, .inr (0, [.ref aMo, .ref aSh, .ref aLa, .ref aDy, .ref aMa, .ref aKi, .int zCn, .ref aPi, .int (zPc + 1), .ref aLn, .int zTo])), (aPi, .inl ((cs 2), 4, .inr (.inr (.inr (.inr (va_up fPi zPc.toNatClampNeg (some q35))))))), (q35, .inr (1, [.int x, .ref bLG_40, .ref bLS_40, .int 0, .int 0, .int 0, .int 0, .int 0, .ref bLt_40, .ref bGS_40, .ref bGG_40, .ref bES_40, .ref bEG_40])), (bLG_40, .inl ((cs 0), 20, .inl (fun _ => 0))), (bLS_40, .inl ((cs 0), 80, .inl (fun _ => 0))), (bLt_40, .inl ((cs 1), 4, .inr (.inl (fun _ => 0)))), (bGS_40, .inl ((cs 1), 4, .inr (.inl (fun _ => 0)))), (bGG_40, .inl ((cs 0), 4, .inl (fun _ => 0))), (bES_40, .inl ((cs 1), 4, .inr (.inl (fun _ => 0)))), (bEG_40, .inl ((cs 0), 4, .inl (fun _ => 0)))] _ := hP.sub [0, 1, 2, 3, 4, 5, 6, 7, 8, 9] rfl
    have hD9 : va_D A [(h0, .inr (0, [.ref aMo, .ref aSh, .ref aLa, .ref aDy, .ref aMa, .ref aKi, .int zCn, .ref aPi, .int (zPc + 1), .ref aLn, .int zTo])), (aPi, .inl ((cs 2), 4, .inr (.inr (.inr (.inr (va_up fPi zPc.toNatClampNeg (some q35))))))), (q35, .inr (1, [.int x, .ref bLG_40, .ref bLS_40, .int 0, .int 0, .int 0, .int 0, .int 0, .ref bLt_40, .ref bGS_40, .ref bGG_40, .ref bES_40, .ref bEG_40])), (bLG_40, .inl ((cs 0), 20, .inl (fun _ => 0))), (bLS_40, .inl ((cs 0), 80, .inl (fun _ => 0))), (bLt_40, .inl ((cs 1), 4, .inr (.inl (fun _ => 0)))), (bGS_40, .inl ((cs 1), 4, .inr (.inl (fun _ => 0)))), (bGG_40, .inl ((cs 0), 4, .inl (fun _ => 0))), (bES_40, .inl ((cs 1), 4, .inr (.inl (fun _ => 0)))), (bEG_40, .inl ((cs 0), 4, .inl (fun _ => 0)))] := hD.sub [0, 1, 2, 3, 4, 5, 6, 7, 8, 9] (by decide) rfl
    exact W.iret (v := zPc) hx hb hr (fun t ht hW => ⟨⟨zPc, (q35, bLG_40, bLS_40, bLt_40, bGS_40, bGG_40, bES_40, bEG_40), rfl, ⟨rfl, by simp only [X_pile, if_pos c_5, if_pos w_22]⟩, ⟨by rw [ht]; exact hP9, hD9⟩⟩, hS.F ht⟩) hS.2.2 d_BR_pile_52
  · skip
    exact vq_thr hx hb hlT hown hG hCx hA vq_tw7 hS (by rw [hml]; exact hl.1) d_BR_pile_8 d_BR_pile_11 d_BR_pile_12 d_BR_pile_14 d_BR_pile_17 htb hlocks (Nat.le_of_ble_eq_true rfl) (Nat.le_of_ble_eq_true rfl) (Nat.le_of_ble_eq_true rfl) (Nat.le_of_ble_eq_true rfl) (by simp only [X_pile, if_neg c_5]) (Nat.le_of_ble_eq_true rfl) (Nat.le_of_ble_eq_true rfl)
set_option maxHeartbeats 4000000 in
set_option maxRecDepth 100000 in
/-- lay, no such pile -/
theorem c_lay_bad (l : Launch) (hlT : l.stackTraces = false) (dC : Nat → ClassId) (dI : Nat → Nat → Nat) (cs : Nat → ClassId) (sz : Nat) (h0 : Nat) (aMo : Nat) (aSh : Nat) (aLa : Nat) (aDy : Nat) (aMa : Nat) (aKi : Nat) (aPi : Nat) (aLn : Nat) (zCn : Int32) (zPc : Int32) (zTo : Int32) (fPi : Nat → Option Nat) (x : Int32) (y : Int32) (kg : Int32) (hi : okP x → fPi x.toNatClampNeg = none) : vx_Met l y_BR_lay w_BR_lay ({ frames := 7, cells := 1, slots := 6, locals := 103 }) (vq_PreR (dC, dI) cs [(h0, .inr (0, [.ref aMo, .ref aSh, .ref aLa, .ref aDy, .ref aMa, .ref aKi, .int zCn, .ref aPi, .int zPc, .ref aLn, .int zTo])), (aPi, .inl ((cs 2), 4, .inr (.inr (.inr (.inr fPi)))))] sz [.ref h0, .int x, .int y, .int kg]) (va_Qv (fun (_ : Unit) => False) (fun _ _ => True) (va_A [] sz)) (vq_X (fun E => E = xI) sz) 1 6 (va_A [] sz) := by
  refine vx_ofW (cc := b_BR_lay) (maxL := 5) (ret := (some .int)) (by decide) rfl ?_
  intro p e s m args below meth c s₁ B hml htb hv
  obtain ⟨rfl, hsz, hP, hCx⟩ := hv
  have hx := B.exec
  have hb := B.bytes
  have hr := B.returns
  have hG := vq_hG (atoms_spec (ws := w_BR_lay) B.pre)
  have hown : s.vm.findClass R_BR = some m.cls := findClass_of_methodNamed B.named
  have hlocks := B.notSynchronized
  subst hsz
  have hK := hCx.1
  have hA : ∀ q : Nat, s.heap.size ≤ q → va_A [] s.heap.size q := fun q h => Or.inr h
  have hA0 : ∀ q : Nat, s.heap.size ≤ q → va_A [] s.heap.size q := fun q h => Or.inr h
  have hS : va_S (va_A [] s.heap.size) s.heap s.heap [] := va_S.rf
  have hl := lv_entry ([.ref h0, .int x, .int y, .int kg]) (n := 5) (Nat.le_of_ble_eq_true rfl)
  rw [lg_entry_eq]
  generalize (lg_sl ([.ref h0, .int x, .int y, .int kg]) ++ List.replicate (5 - (lg_sl ([.ref h0, .int x, .int y, .int kg])).length) Slot.unset).toArray = ls at hl ⊢
  have hl : lv_has ls 5 [(0, .ref h0), (1, .int x), (2, .int y), (3, .int kg)] := hl
  have hP : va_P (dC, dI) vq_cl [(h0, .inr (0, [.ref aMo, .ref aSh, .ref aLa, .ref aDy, .ref aMa, .ref aKi, .int zCn, .ref aPi, .int zPc, .ref aLn, .int zTo])), (aPi, .inl ((cs 2), 4, .inr (.inr (.inr (.inr fPi)))))] s.heap := hP
  refine lv_aload_n hx hb d_BR_lay_0 rfl (lv_at hl 0 rfl) ?_
  refine lv_iload_n hx hb d_BR_lay_1 rfl (lv_at hl 1 rfl) ?_
  refine mx_rv (vx_runV (As := [.int x]) (rest := []) ⟨hx, hb, hml, hown, hG⟩ (c_needPile_bad l hlT dC dI cs _ h0 aMo aSh aLa aDy aMa aKi aPi aLn zCn zPc zTo fPi x hi) (cwV 1 hG (vq_gV vq_t300 vq_t302 vq_s2 vq_t1 vq_t303) rfl rfl rfl (by decide +kernel) ⟨Nat.le_of_ble_eq_true rfl, Nat.le_of_ble_eq_true rfl⟩) (vq_preVr (wc := [(h0, .inr (0, [.ref aMo, .ref aSh, .ref aLa, .ref aDy, .ref aMa, .ref aKi, .int zCn, .ref aPi, .int zPc, .ref aLn, .int zTo])), (aPi, .inl ((cs 2), 4, .inr (.inr (.inr (.inr fPi)))))]) (va_recv hK hP (ci := 0) (q0 := 0) rfl rfl) hCx hP (vq_wk hS hA) hA [0, 1] rfl) rfl rfl hl.1 rfl (lv_room (Nat.le_of_ble_eq_true rfl)) d_BR_lay_2 ⟨Nat.le_of_ble_eq_true rfl, Nat.le_of_ble_eq_true rfl⟩) hP hS hA0 (fun E ce q9 H locs x_2 hP hS h91 h92 h93 => vx_out (fun x h => (htb x h).elim) hlocks h91 h92 h93 (fun t ht hvm => vq_Xof x_2 (hS.F ht)) (vq_wk hS hA).2.2 (Nat.le_of_ble_eq_true rfl) (Nat.le_of_ble_eq_true rfl)) (fun H locs w_2 hP hS => ?_)
  exact w_2.elim
set_option maxHeartbeats 4000000 in
set_option maxRecDepth 100000 in
/-- lay -/
theorem c_lay (l : Launch) (hlT : l.stackTraces = false) (dC : Nat → ClassId) (dI : Nat → Nat → Nat) (cs : Nat → ClassId) (sz : Nat) (h0 : Nat) (aMo : Nat) (aSh : Nat) (aLa : Nat) (aDy : Nat) (aMa : Nat) (aKi : Nat) (aPi : Nat) (aLn : Nat) (zCn : Int32) (zPc : Int32) (zTo : Int32) (fPi : Nat → Option Nat) (pa : Nat) (bLG : Nat) (bLS : Nat) (bLt : Nat) (bGS : Nat) (bGG : Nat) (bES : Nat) (bEG : Nat) (zSl : Int32) (zLy : Int32) (zGr : Int32) (zTk : Int32) (zGt : Int32) (zLt : Int32) (fMo : Nat → Int32) (fSh : Nat → Int32) (fLa : Nat → Int32) (fDy : Nat → Int32) (fMa : Nat → Int32) (fKi : Nat → Int32) (fLG : Nat → Int32) (fLS : Nat → Int32) (x : Int32) (y : Int32) (kg : Int32) (hi : okP x) (hf : fPi x.toNatClampNeg = some pa) (hy : ¬ zLy < 0) : vx_Met l y_BR_lay w_BR_lay ({ frames := 7, cells := 3, slots := 18, locals := 104 }) (vq_Pre (dC, dI) cs [(h0, .inr (0, [.ref aMo, .ref aSh, .ref aLa, .ref aDy, .ref aMa, .ref aKi, .int zCn, .ref aPi, .int zPc, .ref aLn, .int zTo])), (aPi, .inl ((cs 2), 4, .inr (.inr (.inr (.inr fPi))))), (aMo, .inl ((cs 0), 8, .inl fMo)), (aSh, .inl ((cs 0), 32, .inl fSh)), (aLa, .inl ((cs 0), 8, .inl fLa)), (aDy, .inl ((cs 0), 40, .inl fDy)), (aMa, .inl ((cs 0), 40, .inl fMa)), (aKi, .inl ((cs 0), 40, .inl fKi)), (pa, .inr (1, [.int zSl, .ref bLG, .ref bLS, .int zLy, .int zGr, .int zTk, .int zGt, .int zLt, .ref bLt, .ref bGS, .ref bGG, .ref bES, .ref bEG])), (bLG, .inl ((cs 0), 20, .inl fLG)), (bLS, .inl ((cs 0), 80, .inl fLS))] sz [.ref h0, .int x, .int y, .int kg]) (va_Qi (fun (r : Int32) (_ : Unit) => r = (zGr + (kg * (1000 - (fMo y.toNatClampNeg)))) ∧ X_lay y kg zTk zLy (stockF fLa fDy fMa fKi zCn zTo y) = none) (vq_B (dC, dI) cs (va_A [(h0, .inr (0, [.ref aMo, .ref aSh, .ref aLa, .ref aDy, .ref aMa, .ref aKi, .int zCn, .ref aPi, .int zPc, .ref aLn, .int zTo])), (aPi, .inl ((cs 2), 4, .inr (.inr (.inr (.inr fPi))))), (aMo, .inl ((cs 0), 8, .inl fMo)), (aSh, .inl ((cs 0), 32, .inl fSh)), (aLa, .inl ((cs 0), 8, .inl fLa)), (aDy, .inl ((cs 0), 40, .inl fDy)), (aMa, .inl ((cs 0), 40, .inl fMa)), (aKi, .inl ((cs 0), 40, .inl fKi)), (pa, .inr (1, [.int zSl, .ref bLG, .ref bLS, .int zLy, .int zGr, .int zTk, .int zGt, .int zLt, .ref bLt, .ref bGS, .ref bGG, .ref bES, .ref bEG])), (bLG, .inl ((cs 0), 20, .inl fLG)), (bLS, .inl ((cs 0), 80, .inl fLS))] sz) (fun _ => [(h0, .inr (0, [.ref aMo, .ref aSh, .ref aLa, .ref aDy, .ref aMa, .ref aKi, .int zCn, .ref aPi, .int zPc, .ref aLn, .int zTo])), (aPi, .inl ((cs 2), 4, .inr (.inr (.inr (.inr fPi))))), (aMo, .inl ((cs 0), 8, .inl fMo)), (aSh, .inl ((cs 0), 32, .inl fSh)), (aLa, .inl ((cs 0), 8, .inl (upd fLa y.toNatClampNeg ((fLa y.toNatClampNeg) + kg)))), (aDy, .inl ((cs 0), 40, .inl fDy)), (aMa, .inl ((cs 0), 40, .inl fMa)), (aKi, .inl ((cs 0), 40, .inl fKi)), (pa, .inr (1, [.int zSl, .ref bLG, .ref bLS, .int (zLy + 1), .int (zGr + (kg * (1000 - (fMo y.toNatClampNeg)))), .int zTk, .int zGt, .int zLt, .ref bLt, .ref bGS, .ref bGG, .ref bES, .ref bEG])), (bLG, .inl ((cs 0), 20, .inl (upd fLG zLy.toNatClampNeg (kg * (1000 - (fMo y.toNatClampNeg)))))), (bLS, .inl ((cs 0), 80, .inl (al4 fLS zLy fSh y)))])) (va_A [(h0, .inr (0, [.ref aMo, .ref aSh, .ref aLa, .ref aDy, .ref aMa, .ref aKi, .int zCn, .ref aPi, .int zPc, .ref aLn, .int zTo])), (aPi, .inl ((cs 2), 4, .inr (.inr (.inr (.inr fPi))))), (aMo, .inl ((cs 0), 8, .inl fMo)), (aSh, .inl ((cs 0), 32, .inl fSh)), (aLa, .inl ((cs 0), 8, .inl fLa)), (aDy, .inl ((cs 0), 40, .inl fDy)), (aMa, .inl ((cs 0), 40, .inl fMa)), (aKi, .inl ((cs 0), 40, .inl fKi)), (pa, .inr (1, [.int zSl, .ref bLG, .ref bLS, .int zLy, .int zGr, .int zTk, .int zGt, .int zLt, .ref bLt, .ref bGS, .ref bGG, .ref bES, .ref bEG])), (bLG, .inl ((cs 0), 20, .inl fLG)), (bLS, .inl ((cs 0), 80, .inl fLS))] sz)) (vq_X (fun E => X_lay y kg zTk zLy (stockF fLa fDy fMa fKi zCn zTo y) = some E) sz) 3 18 (va_A [(h0, .inr (0, [.ref aMo, .ref aSh, .ref aLa, .ref aDy, .ref aMa, .ref aKi, .int zCn, .ref aPi, .int zPc, .ref aLn, .int zTo])), (aPi, .inl ((cs 2), 4, .inr (.inr (.inr (.inr fPi))))), (aMo, .inl ((cs 0), 8, .inl fMo)), (aSh, .inl ((cs 0), 32, .inl fSh)), (aLa, .inl ((cs 0), 8, .inl fLa)), (aDy, .inl ((cs 0), 40, .inl fDy)), (aMa, .inl ((cs 0), 40, .inl fMa)), (aKi, .inl ((cs 0), 40, .inl fKi)), (pa, .inr (1, [.int zSl, .ref bLG, .ref bLS, .int zLy, .int zGr, .int zTk, .int zGt, .int zLt, .ref bLt, .ref bGS, .ref bGG, .ref bES, .ref bEG])), (bLG, .inl ((cs 0), 20, .inl fLG)), (bLS, .inl ((cs 0), 80, .inl fLS))] sz) := by
  refine vx_ofW (cc := b_BR_lay) (maxL := 5) (ret := (some .int)) (by decide) rfl ?_
  intro p e s m args below meth c s₁ B hml htb hv
  obtain ⟨rfl, hsz, hP, hD0, hCx⟩ := hv
  have hx := B.exec
  have hb := B.bytes
  have hr := B.returns
  have hG := vq_hG (atoms_spec (ws := w_BR_lay) B.pre)
  have hown : s.vm.findClass R_BR = some m.cls := findClass_of_methodNamed B.named
  have hlocks := B.notSynchronized
  subst hsz
  have hK := hCx.1
  have hD := hD0.self (sz := s.heap.size)
  generalize hAe : va_A [(h0, .inr (0, [.ref aMo, .ref aSh, .ref aLa, .ref aDy, .ref aMa, .ref aKi, .int zCn, .ref aPi, .int zPc, .ref aLn, .int zTo])), (aPi, .inl ((cs 2), 4, .inr (.inr (.inr (.inr fPi))))), (aMo, .inl ((cs 0), 8, .inl fMo)), (aSh, .inl ((cs 0), 32, .inl fSh)), (aLa, .inl ((cs 0), 8, .inl fLa)), (aDy, .inl ((cs 0), 40, .inl fDy)), (aMa, .inl ((cs 0), 40, .inl fMa)), (aKi, .inl ((cs 0), 40, .inl fKi)), (pa, .inr (1, [.int zSl, .ref bLG, .ref bLS, .int zLy, .int zGr, .int zTk, .int zGt, .int zLt, .ref bLt, .ref bGS, .ref bGG, .ref bES, .ref bEG])), (bLG, .inl ((cs 0), 20, .inl fLG)), (bLS, .inl ((cs 0), 80, .inl fLS))] s.heap.size = A at hD hCx ⊢
  have hA : ∀ q : Nat, s.heap.size ≤ q → A q := fun q h => by rw [← hAe]; exact Or.inr h
  have hA0 : ∀ q : Nat, s.heap.size ≤ q → va_A [] s.heap.size q := fun q h => Or.inr h
  have hS : va_S (va_A [] s.heap.size) s.heap s.heap [] := va_S.rf
  have hl := lv_entry ([.ref h0, .int x, .int y, .int kg]) (n := 5) (Nat.le_of_ble_eq_true rfl)
  rw [lg_entry_eq]
  generalize (lg_sl ([.ref h0, .int x, .int y, .int kg]) ++ List.replicate (5 - (lg_sl ([.ref h0, .int x, .int y, .int kg])).length) Slot.unset).toArray = ls at hl ⊢
  have hl : lv_has ls 5 [(0, .ref h0), (1, .int x), (2, .int y), (3, .int kg)] := hl
  have hP : va_P (dC, dI) vq_cl [(h0, .inr (0, [.ref aMo, .ref aSh, .ref aLa, .ref aDy, .ref aMa, .ref aKi, .int zCn, .ref aPi, .int zPc, .ref aLn, .int zTo])), (aPi, .inl ((cs 2), 4, .inr (.inr (.inr (.inr fPi))))), (aMo, .inl ((cs 0), 8, .inl fMo)), (aSh, .inl ((cs 0), 32, .inl fSh)), (aLa, .inl ((cs 0), 8, .inl fLa)), (aDy, .inl ((cs 0), 40, .inl fDy)), (aMa, .inl ((cs 0), 40, .inl fMa)), (aKi, .inl ((cs 0), 40, .inl fKi)), (pa, .inr (1, [.int zSl, .ref bLG, .ref bLS, .int zLy, .int zGr, .int zTk, .int zGt, .int zLt, .ref bLt, .ref bGS, .ref bGG, .ref bES, .ref bEG])), (bLG, .inl ((cs 0), 20, .inl fLG)), (bLS, .inl ((cs 0), 80, .inl fLS))] s.heap := hP
  refine lv_aload_n hx hb d_BR_lay_0 rfl (lv_at hl 0 rfl) ?_
  refine lv_iload_n hx hb d_BR_lay_1 rfl (lv_at hl 1 rfl) ?_
  refine mk_rr (va_runV (As := [.int x]) (rest := []) ⟨hx, hb, hml, hown, hG⟩ (c_needPile_ok l dC dI cs _ h0 aMo aSh aLa aDy aMa aKi aPi aLn zCn zPc zTo fPi x pa hi hf) (cwV 1 hG (vq_gV vq_t300 vq_t302 vq_s2 vq_t1 vq_t303) rfl rfl rfl (by decide +kernel) ⟨Nat.le_of_ble_eq_true rfl, Nat.le_of_ble_eq_true rfl⟩) (vq_preVr (wc := [(h0, .inr (0, [.ref aMo, .ref aSh, .ref aLa, .ref aDy, .ref aMa, .ref aKi, .int zCn, .ref aPi, .int zPc, .ref aLn, .int zTo])), (aPi, .inl ((cs 2), 4, .inr (.inr (.inr (.inr fPi)))))]) (va_recv hK hP (ci := 0) (q0 := 0) rfl rfl) hCx hP (vq_wk hS hA) hA [0, 1] rfl) rfl rfl hl.1 rfl (lv_room (Nat.le_of_ble_eq_true rfl)) d_BR_lay_2 ⟨Nat.le_of_ble_eq_true rfl, Nat.le_of_ble_eq_true rfl⟩) hP hS hA0 (fun r_2 H locs w_2 hP hS => ?_)
  rw [w_2]
  refine lv_astore (lv' := [(4, .ref pa), (0, .ref h0), (1, .int x), (2, .int y), (3, .int kg)]) hx hb d_BR_lay_5 hl (by decide) rfl (fun ls hl => ?_)
  refine lv_iload_n hx hb d_BR_lay_7 rfl (lv_at hl 3 rfl) ?_
  refine mx_rv (vx_runS (As := [.int y]) (rest := []) ⟨hx, hb, hml, hown, hG⟩ (c_needMaterial l hlT dC dI cs _ y) (cwS 1 hG (vq_gS vq_t90 vq_t91 vq_t1 vq_t92) rfl rfl rfl (by decide +kernel) ⟨Nat.le_of_ble_eq_true rfl, Nat.le_of_ble_eq_true rfl⟩) (vq_preSr (wc := []) hCx hP (vq_wk hS hA) hA [] rfl) rfl rfl hl.1 rfl (lv_room (Nat.le_of_ble_eq_true rfl)) d_BR_lay_8 ⟨Nat.le_of_ble_eq_true rfl, Nat.le_of_ble_eq_true rfl⟩) hP hS hA0 (fun E ce q9 H locs x_8 hP hS h91 h92 h93 => vx_out (fun x h => (htb x h).elim) hlocks h91 h92 h93 (fun t ht hvm => vq_Xof (by obtain ⟨rfl, y9⟩ := x_8; simp only [X_lay, if_neg y9]) (hS.F ht)) (vq_wk hS hA).2.2 (Nat.le_of_ble_eq_true rfl) (Nat.le_of_ble_eq_true rfl)) (fun H locs w_8 hP hS => ?_)
  refine W.widen (k := 1) (n := 6) (Nat.le_of_ble_eq_true rfl) (Nat.le_of_ble_eq_true rfl) ?_
  refine lv_aload hx hb d_BR_lay_11 (lv_at hl 0 rfl) ?_
  refine va_getN (D := (dC, dI)) (ci := 1) (v := .int zTk) (C := R_PI) (T := F_PI) (N := 13) hx hb hG i_PI hown hK hP 8 rfl rfl 5 (by decide) (va_Nw.use rfl (hCx.2.1 _ vq_nf0)) (fun _ h9 => h9) rfl d_BR_lay_13 ?_
  refine lv_if_le (tgt := 29) hx hb d_BR_lay_16 (by decide) (fun c_16 => ?_) (fun c_16 => ?_)
  · skip
    refine lv_iload_n hx hb d_BR_lay_29 rfl (lv_at hl 4 rfl) ?_
    refine lv_iconst (v := 1) hx hb d_BR_lay_30 (by decide) ?_
    refine lv_sipush (v := 1000) hx hb d_BR_lay_31 (by decide) ?_
    refine mx_rv (vx_runS (As := [.int kg, .int 1, .int 1000]) (rest := []) ⟨hx, hb, hml, hown, hG⟩ (c_needRange l hlT dC dI cs _ kg 1 1000) (cwS 3 hG (vq_gS vq_t162 vq_t163 vq_t1 vq_t164) rfl rfl rfl (by decide +kernel) ⟨Nat.le_of_ble_eq_true rfl, Nat.le_of_ble_eq_true rfl⟩) (vq_preSr (wc := []) hCx hP (vq_wk hS hA) hA [] rfl) rfl rfl hl.1 rfl (lv_room (Nat.le_of_ble_eq_true rfl)) d_BR_lay_34 ⟨Nat.le_of_ble_eq_true rfl, Nat.le_of_ble_eq_true rfl⟩) hP hS hA0 (fun E ce q9 H locs x_34 hP hS h91 h92 h93 => vx_out (fun x h => (htb x h).elim) hlocks h91 h92 h93 (fun t ht hvm => vq_Xof (by obtain ⟨rfl, y9⟩ := x_34; simp only [X_lay, if_pos w_8, if_pos c_16, if_neg y9]) (hS.F ht)) (vq_wk hS hA).2.2 (Nat.le_of_ble_eq_true rfl) (Nat.le_of_ble_eq_true rfl)) (fun H locs w_34 hP hS => ?_)
    refine W.widen (k := 2) (n := 12) (Nat.le_of_ble_eq_true rfl) (Nat.le_of_ble_eq_true rfl) ?_
    refine lv_aload hx hb d_BR_lay_37 (lv_at hl 0 rfl) ?_
    refine va_getN (D := (dC, dI)) (ci := 1) (v := .int zLy) (C := R_PI) (T := F_PI) (N := 13) hx hb hG i_PI hown hK hP 8 rfl rfl 3 (by decide) (va_Nw.use rfl (hCx.2.1 _ vq_nf1)) (fun _ h9 => h9) rfl d_BR_lay_39 ?_
    refine lv_bipush (v := 20) hx hb d_BR_lay_42 (by decide) ?_
    refine lv_icmp_lt (tgt := 57) hx hb d_BR_lay_44 (by decide) (fun c_44 => ?_) (fun c_44 => ?_)
    · skip
      refine lv_aload_n hx hb d_BR_lay_57 rfl (lv_at hl 1 rfl) ?_
      refine lv_iload_n hx hb d_BR_lay_58 rfl (lv_at hl 3 rfl) ?_
      refine mk_ri (va_runV (As := [.int y]) (rest := []) ⟨hx, hb, hml, hown, hG⟩ (c_stockOf l dC dI cs _ h0 aMo aSh aLa aDy aMa aKi aPi aLn zCn zPc zTo fLa fDy fMa fKi y w_8) (cwV 1 hG (vq_gV vq_t226 vq_t228 vq_s1 vq_t1 vq_t229) rfl rfl rfl (by decide +kernel) ⟨Nat.le_of_ble_eq_true rfl, Nat.le_of_ble_eq_true rfl⟩) (vq_preVr (wc := [(h0, .inr (0, [.ref aMo, .ref aSh, .ref aLa, .ref aDy, .ref aMa, .ref aKi, .int zCn, .ref aPi, .int zPc, .ref aLn, .int zTo])), (aLa, .inl ((cs 0), 8, .inl fLa)), (aDy, .inl ((cs 0), 40, .inl fDy)), (aMa, .inl ((cs 0), 40, .inl fMa)), (aKi, .inl ((cs 0), 40, .inl fKi))]) (va_recv hK hP (ci := 0) (q0 := 0) rfl rfl) hCx hP (vq_wk hS hA) hA [0, 4, 5, 6, 7] rfl) rfl rfl hl.1 rfl (lv_room (Nat.le_of_ble_eq_true rfl)) d_BR_lay_59 ⟨Nat.le_of_ble_eq_true rfl, Nat.le_of_ble_eq_true rfl⟩) hP hS hA0 (fun r_59 H locs w_59 hP hS => ?_)
      subst w_59
      refine lv_iload_n hx hb d_BR_lay_62 rfl (lv_at hl 4 rfl) ?_
      refine lv_icmp_ge (tgt := 76) hx hb d_BR_lay_63 (by decide) (fun c_63 => ?_) (fun c_63 => ?_)
      · skip
        refine lv_aload hx hb d_BR_lay_76 (lv_at hl 0 rfl) ?_
        refine lv_iload_n hx hb d_BR_lay_78 rfl (lv_at hl 4 rfl) ?_
        refine lv_sipush (v := 1000) hx hb d_BR_lay_79 (by decide) ?_
        refine lv_aload_n hx hb d_BR_lay_82 rfl (lv_at hl 1 rfl) ?_
        refine va_get (D := (dC, dI)) (ci := 0) (v := .ref aMo) (C := R_BR) (T := F_BR) (N := 11) hx hb hG i_BR hown hK hP 0 rfl rfl 0 (by decide) (hG _ vq_t47) (fun _ h9 => h9) rfl d_BR_lay_83 ?_
        refine lv_iload_n hx hb d_BR_lay_86 rfl (lv_at hl 3 rfl) ?_
        refine va_iald (D := (dC, dI)) hx hb hK hP 2 0 rfl rfl (vq_in 8 rfl w_8.1 w_8.2) d_BR_lay_87 ?_
        refine lv_isub hx hb d_BR_lay_88 ?_
        refine lv_imul hx hb d_BR_lay_89 ?_
        refine lv_aload_n hx hb d_BR_lay_90 rfl (lv_at hl 1 rfl) ?_
        refine va_get (D := (dC, dI)) (ci := 0) (v := .ref aSh) (C := R_BR) (T := F_BR) (N := 11) hx hb hG i_BR hown hK hP 0 rfl rfl 1 (by decide) (hG _ vq_t48) (fun _ h9 => h9) rfl d_BR_lay_91 ?_
        refine lv_iload_n hx hb d_BR_lay_94 rfl (lv_at hl 3 rfl) ?_
        have hS := vq_wk hS hA
        refine mk_wv (va_runV (As := [.int (kg * (1000 - (fMo y.toNatClampNeg))), .ref aSh, .int y]) (rest := []) ⟨hx, hb, hml, hown, hG⟩ (c_addLayer l dC dI cs _ pa bLG bLS bLt bGS bGG bES bEG zSl zLy zGr zTk zGt zLt fLG fLS fSh aSh (kg * (1000 - (fMo y.toNatClampNeg))) y (⟨hy, c_44⟩) w_8) (cwV 3 hG (vq_gV vq_t323 vq_t324 vq_t325 vq_t10 vq_t326) rfl rfl rfl (by decide +kernel) ⟨Nat.le_of_ble_eq_true rfl, Nat.le_of_ble_eq_true rfl⟩) (vq_preVw (wc := [(pa, .inr (1, [.int zSl, .ref bLG, .ref bLS, .int zLy, .int zGr, .int zTk, .int zGt, .int zLt, .ref bLt, .ref bGS, .ref bGG, .ref bES, .ref bEG])), (bLG, .inl ((cs 0), 20, .inl fLG)), (bLS, .inl ((cs 0), 80, .inl fLS)), (aSh, .inl ((cs 0), 32, .inl fSh))]) (va_recv hK hP (ci := 1) (q0 := 8) rfl rfl) hCx hP hD hS hA [8, 9, 10, 3] rfl rfl (by decide)) rfl rfl hl.1 rfl (lv_room (Nat.le_of_ble_eq_true rfl)) d_BR_lay_95 ⟨Nat.le_of_ble_eq_true rfl, Nat.le_of_ble_eq_true rfl⟩) hP hD hS hA [8, 9, 10, 3] [0, 1, 2, 4, 5, 6, 7] rfl rfl (by decide) (by decide) (fun _ H locs w_95 hP hD hS => ?_)
        have hP : va_P (dC, dI) vq_cl [(h0, .inr (0, [.ref aMo, .ref aSh, .ref aLa, .ref aDy, .ref aMa, .ref aKi, .int zCn, .ref aPi, .int zPc, .ref aLn, .int zTo])), (aPi, .inl ((cs 2), 4, .inr (.inr (.inr (.inr fPi))))), (aMo, .inl ((cs 0), 8, .inl fMo)), (aLa, .inl ((cs 0), 8, .inl fLa)), (aDy, .inl ((cs 0), 40, .inl fDy)), (aMa, .inl ((cs 0), 40, .inl fMa)), (aKi, .inl ((cs 0), 40, .inl fKi)), (pa, .inr (1, [.int zSl, .ref bLG, .ref bLS, .int (zLy + 1), .int (zGr + (kg * (1000 - (fMo y.toNatClampNeg)))), .int zTk, .int zGt, .int zLt, .ref bLt, .ref bGS, .ref bGG, .ref bES, .ref bEG])), (bLG, .inl ((cs 0), 20, .inl (upd fLG zLy.toNatClampNeg (kg * (1000 - (fMo y.toNatClampNeg)))))), (bLS, .inl ((cs 0), 80, .inl (al4 fLS zLy fSh y))), (aSh, .inl ((cs 0), 32, .inl fSh))] H := hP
        have hD : va_D A [(h0, .inr (0, [.ref aMo, .ref aSh, .ref aLa, .ref aDy, .ref aMa, .ref aKi, .int zCn, .ref aPi, .int zPc, .ref aLn, .int zTo])), (aPi, .inl ((cs 2), 4, .inr (.inr (.inr (.inr fPi))))), (aMo, .inl ((cs 0), 8, .inl fMo)), (aLa, .inl ((cs 0), 8, .inl fLa)), (aDy, .inl ((cs 0), 40, .inl fDy)), (aMa, .inl ((cs 0), 40, .inl fMa)), (aKi, .inl ((cs 0), 40, .inl fKi)), (pa, .inr (1, [.int zSl, .ref bLG, .ref bLS, .int (zLy + 1), .int (zGr + (kg * (1000 - (fMo y.toNatClampNeg)))), .int zTk, .int zGt, .int zLt, .ref bLt, .ref bGS, .ref bGG, .ref bES, .ref bEG])), (bLG, .inl ((cs 0), 20, .inl (upd fLG zLy.toNatClampNeg (kg * (1000 - (fMo y.toNatClampNeg)))))), (bLS, .inl ((cs 0), 80, .inl (al4 fLS zLy fSh y))), (aSh, .inl ((cs 0), 32, .inl fSh))] := hD
        refine lv_aload_n hx hb d_BR_lay_98 rfl (lv_at hl 1 rfl) ?_
        refine va_get (D := (dC, dI)) (ci := 0) (v := .ref aLa) (C := R_BR) (T := F_BR) (N := 11) hx hb hG i_BR hown hK hP 0 rfl rfl 2 (by decide) (hG _ vq_t49) (fun _ h9 => h9) rfl d_BR_lay_99 ?_
        refine lv_iload_n hx hb d_BR_lay_102 rfl (lv_at hl 3 rfl) ?_
        refine lv_dup2_11 hx hb d_BR_lay_103 rfl rfl ?_
        refine va_iald (D := (dC, dI)) hx hb hK hP 3 0 rfl rfl (vq_in 8 rfl w_8.1 w_8.2) d_BR_lay_104 ?_
        refine lv_iload_n hx hb d_BR_lay_105 rfl (lv_at hl 4 rfl) ?_
        refine lv_iadd hx hb d_BR_lay_106 ?_
        refine va_iast (D := (dC, dI)) hx hb hK hP hD hS 3 0 rfl rfl (vq_in 8 rfl w_8.1 w_8.2) d_BR_lay_107 (fun H locs hP hD hS => ?_)
        have hP : va_P (dC, dI) vq_cl [(h0, .inr (0, [.ref aMo, .ref aSh, .ref aLa, .ref aDy, .ref aMa, .ref aKi, .int zCn, .ref aPi, .int zPc, .ref aLn, .int zTo])), (aPi, .inl ((cs 2), 4, .inr (.inr (.inr (.inr fPi))))), (aMo, .inl ((cs 0), 8, .inl fMo)), (aLa, .inl ((cs 0), 8, .inl (upd fLa y.toNatClampNeg ((fLa y.toNatClampNeg) + kg)))), (aDy, .inl ((cs 0), 40, .inl fDy)), (aMa, .inl ((cs 0), 40, .inl fMa)), (aKi, .inl ((cs 0), 40, .inl fKi)), (pa, .inr (1, [.int zSl, .ref bLG, .ref bLS, .int (zLy + 1), .int (zGr + (kg * (1000 - (fMo y.toNatClampNeg)))), .int zTk, .int zGt, .int zLt, .ref bLt, .ref bGS, .ref bGG, .ref bES, .ref bEG])), (bLG, .inl ((cs 0), 20, .inl (upd fLG zLy.toNatClampNeg (kg * (1000 - (fMo y.toNatClampNeg)))))), (bLS, .inl ((cs 0), 80, .inl (al4 fLS zLy fSh y))), (aSh, .inl ((cs 0), 32, .inl fSh))] H := hP
        have hD : va_D A [(h0, .inr (0, [.ref aMo, .ref aSh, .ref aLa, .ref aDy, .ref aMa, .ref aKi, .int zCn, .ref aPi, .int zPc, .ref aLn, .int zTo])), (aPi, .inl ((cs 2), 4, .inr (.inr (.inr (.inr fPi))))), (aMo, .inl ((cs 0), 8, .inl fMo)), (aLa, .inl ((cs 0), 8, .inl (upd fLa y.toNatClampNeg ((fLa y.toNatClampNeg) + kg)))), (aDy, .inl ((cs 0), 40, .inl fDy)), (aMa, .inl ((cs 0), 40, .inl fMa)), (aKi, .inl ((cs 0), 40, .inl fKi)), (pa, .inr (1, [.int zSl, .ref bLG, .ref bLS, .int (zLy + 1), .int (zGr + (kg * (1000 - (fMo y.toNatClampNeg)))), .int zTk, .int zGt, .int zLt, .ref bLt, .ref bGS, .ref bGG, .ref bES, .ref bEG])), (bLG, .inl ((cs 0), 20, .inl (upd fLG zLy.toNatClampNeg (kg * (1000 - (fMo y.toNatClampNeg)))))), (bLS, .inl ((cs 0), 80, .inl (al4 fLS zLy fSh y))), (aSh, .inl ((cs 0), 32, .inl fSh))] := hD
        refine lv_aload hx hb d_BR_lay_108 (lv_at hl 0 rfl) ?_
        refine va_getN (D := (dC, dI)) (ci := 1) (v := .int (zGr + (kg * (1000 - (fMo y.toNatClampNeg))))) (C := R_PI) (T := F_PI) (N := 13) hx hb hG i_PI hown hK hP 7 rfl rfl 4 (by decide) (va_Nw.use rfl (hCx.2.1 _ vq_nf2)) (fun _ h9 => h9) rfl d_BR_lay_110 ?_
        refine vx_ret ?_
        refine W.widen (k := 3) (n := 18) (Nat.le_of_ble_eq_true rfl) (Nat.le_of_ble_eq_true rfl) ?_
        have hP9 : va_P (dC, dI) vq_cl [(h0, .inr (0, [.ref aMo, .ref aSh, .ref aLa, .ref aDy, .ref aMa, .ref aKi, .int zCn, .ref aPi, .int zPc, .ref aLn, .int zTo])), (aPi, .inl ((cs 2), 4, .inr (.inr (.inr (.inr fPi))))), (aMo, .inl ((cs 0), 8, .inl fMo)), (aSh, .inl ((cs 0), 32, .inl fSh)), (aLa, .inl ((cs 0), 8, .inl (upd fLa y.toNatClampNeg ((fLa y.toNatClampNeg) + kg)))), (aDy, .inl ((cs 0), 40, .inl fDy)), (aMa, .inl ((cs 0), 40, .inl fMa)), (aKi, .inl ((cs 0), 40, .inl fKi)), (pa, .inr (1, [.int zSl, .ref bLG, .ref bLS, .int (zLy + 1), .int (zGr + (kg * (1000 - (fMo y.toNatClampNeg)))), .int zTk, .int zGt, .int zLt, .ref bLt, .ref bGS, .ref bGG, .ref bES, .ref bEG])), (bLG, .inl ((cs 0), 20, .inl (upd fLG zLy.toNatClampNeg (kg * (1000 - (fMo y.toNatClampNeg)))))), (bLS, .inl ((cs 0), 80, .inl (al4 fLS zLy fSh y)))] _ := hP.sub [0, 1, 2, 10, 3, 4, 5, 6, 7, 8, 9] rfl
        have hD9 : va_D A [(h0, .inr (0, [.ref aMo, .ref aSh, .ref aLa, .ref aDy, .ref aMa, .ref aKi, .int zCn, .ref aPi, .int zPc, .ref aLn, .int zTo])), (aPi, .inl ((cs 2), 4, .inr (.inr (.inr (.inr fPi))))), (aMo, .inl ((cs 0), 8, .inl fMo)), (aSh, .inl ((cs 0), 32, .inl fSh)), (aLa, .inl ((cs 0), 8, .inl (upd fLa y.toNatClampNeg ((fLa y.toNatClampNeg) + kg)))), (aDy, .inl ((cs 0), 40, .inl fDy)), (aMa, .inl ((cs 0), 40, .inl fMa)), (aKi, .inl ((cs 0), 40, .inl fKi)), (pa, .inr (1, [.int zSl, .ref bLG, .ref bLS, .int (zLy + 1), .int (zGr + (kg * (1000 - (fMo y.toNatClampNeg)))), .int zTk, .int zGt, .int zLt, .ref bLt, .ref bGS, .ref bGG, .ref bES, .ref bEG])), (bLG, .inl ((cs 0), 20, .inl (upd fLG zLy.toNatClampNeg (kg * (1000 - (fMo y.toNatClampNeg)))))), (bLS, .inl ((cs 0), 80, .inl (al4 fLS zLy fSh y)))] := hD.sub [0, 1, 2, 10, 3, 4, 5, 6, 7, 8, 9] (by decide) rfl
        exact W.iret (v := (zGr + (kg * (1000 - (fMo y.toNatClampNeg))))) hx hb hr (fun t ht hW => ⟨⟨(zGr + (kg * (1000 - (fMo y.toNatClampNeg)))), (), rfl, ⟨rfl, by simp only [X_lay, if_pos w_8, if_pos c_16, if_pos w_34, if_pos c_44, if_pos c_63]⟩, ⟨by rw [ht]; exact hP9, hD9⟩⟩, hS.F ht⟩) hS.2.2 d_BR_lay_113
      · skip
        exact vq_thr hx hb hlT hown hG hCx hA vq_tw8 hS (by rw [hml]; exact hl.1) d_BR_lay_66 d_BR_lay_69 d_BR_lay_70 d_BR_lay_72 d_BR_lay_75 htb hlocks (Nat.le_of_ble_eq_true rfl) (Nat.le_of_ble_eq_true rfl) (Nat.le_of_ble_eq_true rfl) (Nat.le_of_ble_eq_true rfl) (by simp only [X_lay, if_pos w_8, if_pos c_16, if_pos w_34, if_pos c_44, if_neg c_63]) (Nat.le_of_ble_eq_true rfl) (Nat.le_of_ble_eq_true rfl)
    · skip
      exact vq_thr hx hb hlT hown hG hCx hA vq_tw9 hS (by rw [hml]; exact hl.1) d_BR_lay_47 d_BR_lay_50 d_BR_lay_51 d_BR_lay_53 d_BR_lay_56 htb hlocks (Nat.le_of_ble_eq_true rfl) (Nat.le_of_ble_eq_true rfl) (Nat.le_of_ble_eq_true rfl) (Nat.le_of_ble_eq_true rfl) (by simp only [X_lay, if_pos w_8, if_pos c_16, if_pos w_34, if_neg c_44]) (Nat.le_of_ble_eq_true rfl) (Nat.le_of_ble_eq_true rfl)
  · skip
    exact vq_thr hx hb hlT hown hG hCx hA vq_tw10 hS (by rw [hml]; exact hl.1) d_BR_lay_19 d_BR_lay_22 d_BR_lay_23 d_BR_lay_25 d_BR_lay_28 htb hlocks (Nat.le_of_ble_eq_true rfl) (Nat.le_of_ble_eq_true rfl) (Nat.le_of_ble_eq_true rfl) (Nat.le_of_ble_eq_true rfl) (by simp only [X_lay, if_pos w_8, if_neg c_16]) (Nat.le_of_ble_eq_true rfl) (Nat.le_of_ble_eq_true rfl)
set_option maxHeartbeats 4000000 in
set_option maxRecDepth 100000 in
/-- slice, no such pile -/
theorem c_slice_bad (l : Launch) (hlT : l.stackTraces = false) (dC : Nat → ClassId) (dI : Nat → Nat → Nat) (cs : Nat → ClassId) (sz : Nat) (h0 : Nat) (aMo : Nat) (aSh : Nat) (aLa : Nat) (aDy : Nat) (aMa : Nat) (aKi : Nat) (aPi : Nat) (aLn : Nat) (zCn : Int32) (zPc : Int32) (zTo : Int32) (fPi : Nat → Option Nat) (x : Int32) (hi : okP x → fPi x.toNatClampNeg = none) : vx_Met l y_BR_slice w_BR_slice ({ frames := 7, cells := 1, slots := 6, locals := 103 }) (vq_PreR (dC, dI) cs [(h0, .inr (0, [.ref aMo, .ref aSh, .ref aLa, .ref aDy, .ref aMa, .ref aKi, .int zCn, .ref aPi, .int zPc, .ref aLn, .int zTo])), (aPi, .inl ((cs 2), 4, .inr (.inr (.inr (.inr fPi)))))] sz [.ref h0, .int x]) (va_Qv (fun (_ : Unit) => False) (fun _ _ => True) (va_A [] sz)) (vq_X (fun E => E = xI) sz) 1 6 (va_A [] sz) := by
  refine vx_ofW (cc := b_BR_slice) (maxL := 3) (ret := (some .int)) (by decide) rfl ?_
  intro p e s m args below meth c s₁ B hml htb hv
  obtain ⟨rfl, hsz, hP, hCx⟩ := hv
  have hx := B.exec
  have hb := B.bytes
  have hr := B.returns
  have hG := vq_hG (atoms_spec (ws := w_BR_slice) B.pre)
  have hown : s.vm.findClass R_BR = some m.cls := findClass_of_methodNamed B.named
  have hlocks := B.notSynchronized
  subst hsz
  have hK := hCx.1
  have hA : ∀ q : Nat, s.heap.size ≤ q → va_A [] s.heap.size q := fun q h => Or.inr h
  have hA0 : ∀ q : Nat, s.heap.size ≤ q → va_A [] s.heap.size q := fun q h => Or.inr h
  have hS : va_S (va_A [] s.heap.size) s.heap s.heap [] := va_S.rf
  have hl := lv_entry ([.ref h0, .int x]) (n := 3) (Nat.le_of_ble_eq_true rfl)
  rw [lg_entry_eq]
  generalize (lg_sl ([.ref h0, .int x]) ++ List.replicate (3 - (lg_sl ([.ref h0, .int x])).length) Slot.unset).toArray = ls at hl ⊢
  have hl : lv_has ls 3 [(0, .ref h0), (1, .int x)] := hl
  have hP : va_P (dC, dI) vq_cl [(h0, .inr (0, [.ref aMo, .ref aSh, .ref aLa, .ref aDy, .ref aMa, .ref aKi, .int zCn, .ref aPi, .int zPc, .ref aLn, .int zTo])), (aPi, .inl ((cs 2), 4, .inr (.inr (.inr (.inr fPi)))))] s.heap := hP
  refine lv_aload_n hx hb d_BR_slice_0 rfl (lv_at hl 0 rfl) ?_
  refine lv_iload_n hx hb d_BR_slice_1 rfl (lv_at hl 1 rfl) ?_
  refine mx_rv (vx_runV (As := [.int x]) (rest := []) ⟨hx, hb, hml, hown, hG⟩ (c_needPile_bad l hlT dC dI cs _ h0 aMo aSh aLa aDy aMa aKi aPi aLn zCn zPc zTo fPi x hi) (cwV 1 hG (vq_gV vq_t300 vq_t302 vq_s2 vq_t1 vq_t303) rfl rfl rfl (by decide +kernel) ⟨Nat.le_of_ble_eq_true rfl, Nat.le_of_ble_eq_true rfl⟩) (vq_preVr (wc := [(h0, .inr (0, [.ref aMo, .ref aSh, .ref aLa, .ref aDy, .ref aMa, .ref aKi, .int zCn, .ref aPi, .int zPc, .ref aLn, .int zTo])), (aPi, .inl ((cs 2), 4, .inr (.inr (.inr (.inr fPi)))))]) (va_recv hK hP (ci := 0) (q0 := 0) rfl rfl) hCx hP (vq_wk hS hA) hA [0, 1] rfl) rfl rfl hl.1 rfl (lv_room (Nat.le_of_ble_eq_true rfl)) d_BR_slice_2 ⟨Nat.le_of_ble_eq_true rfl, Nat.le_of_ble_eq_true rfl⟩) hP hS hA0 (fun E ce q9 H locs x_2 hP hS h91 h92 h93 => vx_out (fun x h => (htb x h).elim) hlocks h91 h92 h93 (fun t ht hvm => vq_Xof x_2 (hS.F ht)) (vq_wk hS hA).2.2 (Nat.le_of_ble_eq_true rfl) (Nat.le_of_ble_eq_true rfl)) (fun H locs w_2 hP hS => ?_)
  exact w_2.elim
set_option maxHeartbeats 4000000 in
set_option maxRecDepth 100000 in
/-- slice -/
theorem c_slice (l : Launch) (hlT : l.stackTraces = false) (dC : Nat → ClassId) (dI : Nat → Nat → Nat) (cs : Nat → ClassId) (sz : Nat) (h0 : Nat) (aMo : Nat) (aSh : Nat) (aLa : Nat) (aDy : Nat) (aMa : Nat) (aKi : Nat) (aPi : Nat) (aLn : Nat) (zCn : Int32) (zPc : Int32) (zTo : Int32) (fPi : Nat → Option Nat) (pa : Nat) (bLG : Nat) (bLS : Nat) (bLt : Nat) (bGS : Nat) (bGG : Nat) (bES : Nat) (bEG : Nat) (zSl : Int32) (zLy : Int32) (zGr : Int32) (zTk : Int32) (zGt : Int32) (zLt : Int32) (fLG : Nat → Int32) (fLS : Nat → Int32) (fGG : Nat → Int32) (fEG : Nat → Int32) (fLt : Nat → Int64) (fGS : Nat → Int64) (fES : Nat → Int64) (x : Int32) (hi : okP x) (hf : fPi x.toNatClampNeg = some pa) : vx_Met l y_BR_slice w_BR_slice ({ frames := 6, cells := 1, slots := 6, locals := 82 }) (vq_Pre (dC, dI) cs [(h0, .inr (0, [.ref aMo, .ref aSh, .ref aLa, .ref aDy, .ref aMa, .ref aKi, .int zCn, .ref aPi, .int zPc, .ref aLn, .int zTo])), (aPi, .inl ((cs 2), 4, .inr (.inr (.inr (.inr fPi))))), (pa, .inr (1, [.int zSl, .ref bLG, .ref bLS, .int zLy, .int zGr, .int zTk, .int zGt, .int zLt, .ref bLt, .ref bGS, .ref bGG, .ref bES, .ref bEG])), (bLG, .inl ((cs 0), 20, .inl fLG)), (bLS, .inl ((cs 0), 80, .inl fLS)), (bLt, .inl ((cs 1), 4, .inr (.inl fLt))), (bGS, .inl ((cs 1), 4, .inr (.inl fGS))), (bGG, .inl ((cs 0), 4, .inl fGG)), (bES, .inl ((cs 1), 4, .inr (.inl fES))), (bEG, .inl ((cs 0), 4, .inl fEG))] sz [.ref h0, .int x]) (va_Qi (fun (r : Int32) (_ : Unit) => r = (tkG zSl zTk fLG zLy 20 0 0) ∧ X_slice zLy zTk zSl = none) (vq_B (dC, dI) cs (va_A [(h0, .inr (0, [.ref aMo, .ref aSh, .ref aLa, .ref aDy, .ref aMa, .ref aKi, .int zCn, .ref aPi, .int zPc, .ref aLn, .int zTo])), (aPi, .inl ((cs 2), 4, .inr (.inr (.inr (.inr fPi))))), (pa, .inr (1, [.int zSl, .ref bLG, .ref bLS, .int zLy, .int zGr, .int zTk, .int zGt, .int zLt, .ref bLt, .ref bGS, .ref bGG, .ref bES, .ref bEG])), (bLG, .inl ((cs 0), 20, .inl fLG)), (bLS, .inl ((cs 0), 80, .inl fLS)), (bLt, .inl ((cs 1), 4, .inr (.inl fLt))), (bGS, .inl ((cs 1), 4, .inr (.inl fGS))), (bGG, .inl ((cs 0), 4, .inl fGG)), (bES, .inl ((cs 1), 4, .inr (.inl fES))), (bEG, .inl ((cs 0), 4, .inl fEG))] sz) (fun _ => [(h0, .inr (0, [.ref aMo, .ref aSh, .ref aLa, .ref aDy, .ref aMa, .ref aKi, .int zCn, .ref aPi, .int zPc, .ref aLn, .int zTo])), (aPi, .inl ((cs 2), 4, .inr (.inr (.inr (.inr fPi))))), (pa, .inr (1, [.int zSl, .ref bLG, .ref bLS, .int zLy, .int zGr, .int (zTk + 1), .int (zGt + (tkG zSl zTk fLG zLy 20 0 0)), .int (tkG zSl zTk fLG zLy 20 0 0), .ref bLt, .ref bGS, .ref bGG, .ref bES, .ref bEG])), (bLG, .inl ((cs 0), 20, .inl fLG)), (bLS, .inl ((cs 0), 80, .inl fLS)), (bLt, .inl ((cs 1), 4, .inr (.inl (tkS zSl zTk fLG fLS zLy 20 0 (cl4 fLt))))), (bGS, .inl ((cs 1), 4, .inr (.inl ((tnG (tkG zSl zTk fLG zLy 20 0 0) (tkS zSl zTk fLG fLS zLy 20 0 (cl4 fLt)) (fGS, fGG)).1)))), (bGG, .inl ((cs 0), 4, .inl ((tnG (tkG zSl zTk fLG zLy 20 0 0) (tkS zSl zTk fLG fLS zLy 20 0 (cl4 fLt)) (fGS, fGG)).2))), (bES, .inl ((cs 1), 4, .inr (.inl ((tnE (tkG zSl zTk fLG zLy 20 0 0) (tkS zSl zTk fLG fLS zLy 20 0 (cl4 fLt)) (fES, fEG)).1)))), (bEG, .inl ((cs 0), 4, .inl ((tnE (tkG zSl zTk fLG zLy 20 0 0) (tkS zSl zTk fLG fLS zLy 20 0 (cl4 fLt)) (fES, fEG)).2)))])) (va_A [(h0, .inr (0, [.ref aMo, .ref aSh, .ref aLa, .ref aDy, .ref aMa, .ref aKi, .int zCn, .ref aPi, .int zPc, .ref aLn, .int zTo])), (aPi, .inl ((cs 2), 4, .inr (.inr (.inr (.inr fPi))))), (pa, .inr (1, [.int zSl, .ref bLG, .ref bLS, .int zLy, .int zGr, .int zTk, .int zGt, .int zLt, .ref bLt, .ref bGS, .ref bGG, .ref bES, .ref bEG])), (bLG, .inl ((cs 0), 20, .inl fLG)), (bLS, .inl ((cs 0), 80, .inl fLS)), (bLt, .inl ((cs 1), 4, .inr (.inl fLt))), (bGS, .inl ((cs 1), 4, .inr (.inl fGS))), (bGG, .inl ((cs 0), 4, .inl fGG)), (bES, .inl ((cs 1), 4, .inr (.inl fES))), (bEG, .inl ((cs 0), 4, .inl fEG))] sz)) (vq_X (fun E => X_slice zLy zTk zSl = some E) sz) 1 6 (va_A [(h0, .inr (0, [.ref aMo, .ref aSh, .ref aLa, .ref aDy, .ref aMa, .ref aKi, .int zCn, .ref aPi, .int zPc, .ref aLn, .int zTo])), (aPi, .inl ((cs 2), 4, .inr (.inr (.inr (.inr fPi))))), (pa, .inr (1, [.int zSl, .ref bLG, .ref bLS, .int zLy, .int zGr, .int zTk, .int zGt, .int zLt, .ref bLt, .ref bGS, .ref bGG, .ref bES, .ref bEG])), (bLG, .inl ((cs 0), 20, .inl fLG)), (bLS, .inl ((cs 0), 80, .inl fLS)), (bLt, .inl ((cs 1), 4, .inr (.inl fLt))), (bGS, .inl ((cs 1), 4, .inr (.inl fGS))), (bGG, .inl ((cs 0), 4, .inl fGG)), (bES, .inl ((cs 1), 4, .inr (.inl fES))), (bEG, .inl ((cs 0), 4, .inl fEG))] sz) := by
  refine vx_ofW (cc := b_BR_slice) (maxL := 3) (ret := (some .int)) (by decide) rfl ?_
  intro p e s m args below meth c s₁ B hml htb hv
  obtain ⟨rfl, hsz, hP, hD0, hCx⟩ := hv
  have hx := B.exec
  have hb := B.bytes
  have hr := B.returns
  have hG := vq_hG (atoms_spec (ws := w_BR_slice) B.pre)
  have hown : s.vm.findClass R_BR = some m.cls := findClass_of_methodNamed B.named
  have hlocks := B.notSynchronized
  subst hsz
  have hK := hCx.1
  have hD := hD0.self (sz := s.heap.size)
  generalize hAe : va_A [(h0, .inr (0, [.ref aMo, .ref aSh, .ref aLa, .ref aDy, .ref aMa, .ref aKi, .int zCn, .ref aPi, .int zPc, .ref aLn, .int zTo])), (aPi, .inl ((cs 2), 4, .inr (.inr (.inr (.inr fPi))))), (pa, .inr (1, [.int zSl, .ref bLG, .ref bLS, .int zLy, .int zGr, .int zTk, .int zGt, .int zLt, .ref bLt, .ref bGS, .ref bGG, .ref bES, .ref bEG])), (bLG, .inl ((cs 0), 20, .inl fLG)), (bLS, .inl ((cs 0), 80, .inl fLS)), (bLt, .inl ((cs 1), 4, .inr (.inl fLt))), (bGS, .inl ((cs 1), 4, .inr (.inl fGS))), (bGG, .inl ((cs 0), 4, .inl fGG)), (bES, .inl ((cs 1), 4, .inr (.inl fES))), (bEG, .inl ((cs 0), 4, .inl fEG))] s.heap.size = A at hD hCx ⊢
  have hA : ∀ q : Nat, s.heap.size ≤ q → A q := fun q h => by rw [← hAe]; exact Or.inr h
  have hA0 : ∀ q : Nat, s.heap.size ≤ q → va_A [] s.heap.size q := fun q h => Or.inr h
  have hS : va_S (va_A [] s.heap.size) s.heap s.heap [] := va_S.rf
  have hl := lv_entry ([.ref h0, .int x]) (n := 3) (Nat.le_of_ble_eq_true rfl)
  rw [lg_entry_eq]
  generalize (lg_sl ([.ref h0, .int x]) ++ List.replicate (3 - (lg_sl ([.ref h0, .int x])).length) Slot.unset).toArray = ls at hl ⊢
  have hl : lv_has ls 3 [(0, .ref h0), (1, .int x)] := hl
  have hP : va_P (dC, dI) vq_cl [(h0, .inr (0, [.ref aMo, .ref aSh, .ref aLa, .ref aDy, .ref aMa, .ref aKi, .int zCn, .ref aPi, .int zPc, .ref aLn, .int zTo])), (aPi, .inl ((cs 2), 4, .inr (.inr (.inr (.inr fPi))))), (pa, .inr (1, [.int zSl, .ref bLG, .ref bLS, .int zLy, .int zGr, .int zTk, .int zGt, .int zLt, .ref bLt, .ref bGS, .ref bGG, .ref bES, .ref bEG])), (bLG, .inl ((cs 0), 20, .inl fLG)), (bLS, .inl ((cs 0), 80, .inl fLS)), (bLt, .inl ((cs 1), 4, .inr (.inl fLt))), (bGS, .inl ((cs 1), 4, .inr (.inl fGS))), (bGG, .inl ((cs 0), 4, .inl fGG)), (bES, .inl ((cs 1), 4, .inr (.inl fES))), (bEG, .inl ((cs 0), 4, .inl fEG))] s.heap := hP
  refine lv_aload_n hx hb d_BR_slice_0 rfl (lv_at hl 0 rfl) ?_
  refine lv_iload_n hx hb d_BR_slice_1 rfl (lv_at hl 1 rfl) ?_
  refine mk_rr (va_runV (As := [.int x]) (rest := []) ⟨hx, hb, hml, hown, hG⟩ (c_needPile_ok l dC dI cs _ h0 aMo aSh aLa aDy aMa aKi aPi aLn zCn zPc zTo fPi x pa hi hf) (cwV 1 hG (vq_gV vq_t300 vq_t302 vq_s2 vq_t1 vq_t303) rfl rfl rfl (by decide +kernel) ⟨Nat.le_of_ble_eq_true rfl, Nat.le_of_ble_eq_true rfl⟩) (vq_preVr (wc := [(h0, .inr (0, [.ref aMo, .ref aSh, .ref aLa, .ref aDy, .ref aMa, .ref aKi, .int zCn, .ref aPi, .int zPc, .ref aLn, .int zTo])), (aPi, .inl ((cs 2), 4, .inr (.inr (.inr (.inr fPi)))))]) (va_recv hK hP (ci := 0) (q0 := 0) rfl rfl) hCx hP (vq_wk hS hA) hA [0, 1] rfl) rfl rfl hl.1 rfl (lv_room (Nat.le_of_ble_eq_true rfl)) d_BR_slice_2 ⟨Nat.le_of_ble_eq_true rfl, Nat.le_of_ble_eq_true rfl⟩) hP hS hA0 (fun r_2 H locs w_2 hP hS => ?_)
  rw [w_2]
  refine lv_astore_n (lv' := [(2, .ref pa), (0, .ref h0), (1, .int x)]) hx hb d_BR_slice_5 rfl hl (by decide) rfl (fun ls hl => ?_)
  refine lv_aload_n hx hb d_BR_slice_6 rfl (lv_at hl 0 rfl) ?_
  refine va_getN (D := (dC, dI)) (ci := 1) (v := .int zLy) (C := R_PI) (T := F_PI) (N := 13) hx hb hG i_PI hown hK hP 2 rfl rfl 3 (by decide) (va_Nw.use rfl (hCx.2.1 _ vq_nf1)) (fun _ h9 => h9) rfl d_BR_slice_7 ?_
  refine lv_if_ne (tgt := 23) hx hb d_BR_slice_10 (by decide) (fun c_10 => ?_) (fun c_10 => ?_)
  · skip
    refine lv_aload_n hx hb d_BR_slice_23 rfl (lv_at hl 0 rfl) ?_
    refine va_getN (D := (dC, dI)) (ci := 1) (v := .int zTk) (C := R_PI) (T := F_PI) (N := 13) hx hb hG i_PI hown hK hP 2 rfl rfl 5 (by decide) (va_Nw.use rfl (hCx.2.1 _ vq_nf0)) (fun _ h9 => h9) rfl d_BR_slice_24 ?_
    refine lv_aload_n hx hb d_BR_slice_27 rfl (lv_at hl 0 rfl) ?_
    refine va_getN (D := (dC, dI)) (ci := 1) (v := .int zSl) (C := R_PI) (T := F_PI) (N := 13) hx hb hG i_PI hown hK hP 2 rfl rfl 0 (by decide) (va_Nw.use rfl (hCx.2.1 _ vq_nf3)) (fun _ h9 => h9) rfl d_BR_slice_28 ?_
    refine lv_icmp_lt (tgt := 44) hx hb d_BR_slice_31 (by decide) (fun c_31 => ?_) (fun c_31 => ?_)
    · skip
      refine lv_aload_n hx hb d_BR_slice_44 rfl (lv_at hl 0 rfl) ?_
      have hS := vq_wk hS hA
      refine mk_wv (va_runV (As := []) (rest := []) ⟨hx, hb, hml, hown, hG⟩ (c_takeNext l dC dI cs _ pa bLG bLS bLt bGS bGG bES bEG zSl zLy zGr zTk zGt zLt fLG fLS fGG fEG fLt fGS fES) (cwV 0 hG (vq_gV vq_t336 vq_t337 vq_t338 vq_t10 vq_t339) rfl rfl rfl (by decide +kernel) ⟨Nat.le_of_ble_eq_true rfl, Nat.le_of_ble_eq_true rfl⟩) (vq_preVw (wc := [(pa, .inr (1, [.int zSl, .ref bLG, .ref bLS, .int zLy, .int zGr, .int zTk, .int zGt, .int zLt, .ref bLt, .ref bGS, .ref bGG, .ref bES, .ref bEG])), (bLG, .inl ((cs 0), 20, .inl fLG)), (bLS, .inl ((cs 0), 80, .inl fLS)), (bLt, .inl ((cs 1), 4, .inr (.inl fLt))), (bGS, .inl ((cs 1), 4, .inr (.inl fGS))), (bGG, .inl ((cs 0), 4, .inl fGG)), (bES, .inl ((cs 1), 4, .inr (.inl fES))), (bEG, .inl ((cs 0), 4, .inl fEG))]) (va_recv hK hP (ci := 1) (q0 := 2) rfl rfl) hCx hP hD hS hA [2, 3, 4, 5, 6, 7, 8, 9] rfl rfl (by decide)) rfl rfl hl.1 rfl (lv_room (Nat.le_of_ble_eq_true rfl)) d_BR_slice_45 ⟨Nat.le_of_ble_eq_true rfl, Nat.le_of_ble_eq_true rfl⟩) hP hD hS hA [2, 3, 4, 5, 6, 7, 8, 9] [0, 1] rfl rfl (by decide) (by decide) (fun _ H locs w_45 hP hD hS => ?_)
      have hP : va_P (dC, dI) vq_cl [(h0, .inr (0, [.ref aMo, .ref aSh, .ref aLa, .ref aDy, .ref aMa, .ref aKi, .int zCn, .ref aPi, .int zPc, .ref aLn, .int zTo])), (aPi, .inl ((cs 2), 4, .inr (.inr (.inr (.inr fPi))))), (pa, .inr (1, [.int zSl, .ref bLG, .ref bLS, .int zLy, .int zGr, .int (zTk + 1), .int (zGt + (tkG zSl zTk fLG zLy 20 0 0)), .int (tkG zSl zTk fLG zLy 20 0 0), .ref bLt, .ref bGS, .ref bGG, .ref bES, .ref bEG])), (bLG, .inl ((cs 0), 20, .inl fLG)), (bLS, .inl ((cs 0), 80, .inl fLS)), (bLt, .inl ((cs 1), 4, .inr (.inl (tkS zSl zTk fLG fLS zLy 20 0 (cl4 fLt))))), (bGS, .inl ((cs 1), 4, .inr (.inl ((tnG (tkG zSl zTk fLG zLy 20 0 0) (tkS zSl zTk fLG fLS zLy 20 0 (cl4 fLt)) (fGS, fGG)).1)))), (bGG, .inl ((cs 0), 4, .inl ((tnG (tkG zSl zTk fLG zLy 20 0 0) (tkS zSl zTk fLG fLS zLy 20 0 (cl4 fLt)) (fGS, fGG)).2))), (bES, .inl ((cs 1), 4, .inr (.inl ((tnE (tkG zSl zTk fLG zLy 20 0 0) (tkS zSl zTk fLG fLS zLy 20 0 (cl4 fLt)) (fES, fEG)).1)))), (bEG, .inl ((cs 0), 4, .inl ((tnE (tkG zSl zTk fLG zLy 20 0 0) (tkS zSl zTk fLG fLS zLy 20 0 (cl4 fLt)) (fES, fEG)).2)))] H := hP
      have hD : va_D A [(h0, .inr (0, [.ref aMo, .ref aSh, .ref aLa, .ref aDy, .ref aMa, .ref aKi, .int zCn, .ref aPi, .int zPc, .ref aLn, .int zTo])), (aPi, .inl ((cs 2), 4, .inr (.inr (.inr (.inr fPi))))), (pa, .inr (1, [.int zSl, .ref bLG, .ref bLS, .int zLy, .int zGr, .int (zTk + 1), .int (zGt + (tkG zSl zTk fLG zLy 20 0 0)), .int (tkG zSl zTk fLG zLy 20 0 0), .ref bLt, .ref bGS, .ref bGG, .ref bES, .ref bEG])), (bLG, .inl ((cs 0), 20, .inl fLG)), (bLS, .inl ((cs 0), 80, .inl fLS)), (bLt, .inl ((cs 1), 4, .inr (.inl (tkS zSl zTk fLG fLS zLy 20 0 (cl4 fLt))))), (bGS, .inl ((cs 1), 4, .inr (.inl ((tnG (tkG zSl zTk fLG zLy 20 0 0) (tkS zSl zTk fLG fLS zLy 20 0 (cl4 fLt)) (fGS, fGG)).1)))), (bGG, .inl ((cs 0), 4, .inl ((tnG (tkG zSl zTk fLG zLy 20 0 0) (tkS zSl zTk fLG fLS zLy 20 0 (cl4 fLt)) (fGS, fGG)).2))), (bES, .inl ((cs 1), 4, .inr (.inl ((tnE (tkG zSl zTk fLG zLy 20 0 0) (tkS zSl zTk fLG fLS zLy 20 0 (cl4 fLt)) (fES, fEG)).1)))), (bEG, .inl ((cs 0), 4, .inl ((tnE (tkG zSl zTk fLG zLy 20 0 0) (tkS zSl zTk fLG fLS zLy 20 0 (cl4 fLt)) (fES, fEG)).2)))] := hD
      refine lv_aload_n hx hb d_BR_slice_48 rfl (lv_at hl 0 rfl) ?_
      refine va_getN (D := (dC, dI)) (ci := 1) (v := .int (tkG zSl zTk fLG zLy 20 0 0)) (C := R_PI) (T := F_PI) (N := 13) hx hb hG i_PI hown hK hP 2 rfl rfl 7 (by decide) (va_Nw.use rfl (hCx.2.1 _ vq_nf4)) (fun _ h9 => h9) rfl d_BR_slice_49 ?_
      refine vx_ret ?_
      refine W.widen (k := 1) (n := 6) (Nat.le_of_ble_eq_true rfl) (Nat.le_of_ble_eq_true rfl) ?_
      have hP9 : va_P (dC, dI) vq_cl [(h0, .inr (0, [.ref aMo, .ref aSh, .ref aLa, .ref aDy, .ref aMa, .ref aKi, .int zCn, .ref aPi, .int zPc, .ref aLn, .int zTo])), (aPi, .inl ((cs 2), 4, .inr (.inr (.inr (.inr fPi))))), (pa, .inr (1, [.int zSl, .ref bLG, .ref bLS, .int zLy, .int zGr, .int (zTk + 1), .int (zGt + (tkG zSl zTk fLG zLy 20 0 0)), .int (tkG zSl zTk fLG zLy 20 0 0), .ref bLt, .ref bGS, .ref bGG, .ref bES, .ref bEG])), (bLG, .inl ((cs 0), 20, .inl fLG)), (bLS, .inl ((cs 0), 80, .inl fLS)), (bLt, .inl ((cs 1), 4, .inr (.inl (tkS zSl zTk fLG fLS zLy 20 0 (cl4 fLt))))), (bGS, .inl ((cs 1), 4, .inr (.inl ((tnG (tkG zSl zTk fLG zLy 20 0 0) (tkS zSl zTk fLG fLS zLy 20 0 (cl4 fLt)) (fGS, fGG)).1)))), (bGG, .inl ((cs 0), 4, .inl ((tnG (tkG zSl zTk fLG zLy 20 0 0) (tkS zSl zTk fLG fLS zLy 20 0 (cl4 fLt)) (fGS, fGG)).2))), (bES, .inl ((cs 1), 4, .inr (.inl ((tnE (tkG zSl zTk fLG zLy 20 0 0) (tkS zSl zTk fLG fLS zLy 20 0 (cl4 fLt)) (fES, fEG)).1)))), (bEG, .inl ((cs 0), 4, .inl ((tnE (tkG zSl zTk fLG zLy 20 0 0) (tkS zSl zTk fLG fLS zLy 20 0 (cl4 fLt)) (fES, fEG)).2)))] _ := hP.sub [0, 1, 2, 3, 4, 5, 6, 7, 8, 9] rfl
      have hD9 : va_D A [(h0, .inr (0, [.ref aMo, .ref aSh, .ref aLa, .ref aDy, .ref aMa, .ref aKi, .int zCn, .ref aPi, .int zPc, .ref aLn, .int zTo])), (aPi, .inl ((cs 2), 4, .inr (.inr (.inr (.inr fPi))))), (pa, .inr (1, [.int zSl, .ref bLG, .ref bLS, .int zLy, .int zGr, .int (zTk + 1), .int (zGt + (tkG zSl zTk fLG zLy 20 0 0)), .int (tkG zSl zTk fLG zLy 20 0 0), .ref bLt, .ref bGS, .ref bGG, .ref bES, .ref bEG])), (bLG, .inl ((cs 0), 20, .inl fLG)), (bLS, .inl ((cs 0), 80, .inl fLS)), (bLt, .inl ((cs 1), 4, .inr (.inl (tkS zSl zTk fLG fLS zLy 20 0 (cl4 fLt))))), (bGS, .inl ((cs 1), 4, .inr (.inl ((tnG (tkG zSl zTk fLG zLy 20 0 0) (tkS zSl zTk fLG fLS zLy 20 0 (cl4 fLt)) (fGS, fGG)).1)))), (bGG, .inl ((cs 0), 4, .inl ((tnG (tkG zSl zTk fLG zLy 20 0 0) (tkS zSl zTk fLG fLS zLy 20 0 (cl4 fLt)) (fGS, fGG)).2))), (bES, .inl ((cs 1), 4, .inr (.inl ((tnE (tkG zSl zTk fLG zLy 20 0 0) (tkS zSl zTk fLG fLS zLy 20 0 (cl4 fLt)) (fES, fEG)).1)))), (bEG, .inl ((cs 0), 4, .inl ((tnE (tkG zSl zTk fLG zLy 20 0 0) (tkS zSl zTk fLG fLS zLy 20 0 (cl4 fLt)) (fES, fEG)).2)))] := hD.sub [0, 1, 2, 3, 4, 5, 6, 7, 8, 9] (by decide) rfl
      exact W.iret (v := (tkG zSl zTk fLG zLy 20 0 0)) hx hb hr (fun t ht hW => ⟨⟨(tkG zSl zTk fLG zLy 20 0 0), (), rfl, ⟨rfl, by simp only [X_slice, if_neg c_10, if_pos c_31]⟩, ⟨by rw [ht]; exact hP9, hD9⟩⟩, hS.F ht⟩) hS.2.2 d_BR_slice_52
    · skip
      exact vq_thr hx hb hlT hown hG hCx hA vq_tw11 hS (by rw [hml]; exact hl.1) d_BR_slice_34 d_BR_slice_37 d_BR_slice_38 d_BR_slice_40 d_BR_slice_43 htb hlocks (Nat.le_of_ble_eq_true rfl) (Nat.le_of_ble_eq_true rfl) (Nat.le_of_ble_eq_true rfl) (Nat.le_of_ble_eq_true rfl) (by simp only [X_slice, if_neg c_10, if_neg c_31]) (Nat.le_of_ble_eq_true rfl) (Nat.le_of_ble_eq_true rfl)
  · skip
    exact vq_thr hx hb hlT hown hG hCx hA vq_tw12 hS (by rw [hml]; exact hl.1) d_BR_slice_13 d_BR_slice_16 d_BR_slice_17 d_BR_slice_19 d_BR_slice_22 htb hlocks (Nat.le_of_ble_eq_true rfl) (Nat.le_of_ble_eq_true rfl) (Nat.le_of_ble_eq_true rfl) (Nat.le_of_ble_eq_true rfl) (by simp only [X_slice, if_pos c_10]) (Nat.le_of_ble_eq_true rfl) (Nat.le_of_ble_eq_true rfl)
set_option maxHeartbeats 4000000 in
set_option maxRecDepth 100000 in
/-- share, no such pile -/
theorem c_share_bad (l : Launch) (hlT : l.stackTraces = false) (dC : Nat → ClassId) (dI : Nat → Nat → Nat) (cs : Nat → ClassId) (sz : Nat) (h0 : Nat) (aMo : Nat) (aSh : Nat) (aLa : Nat) (aDy : Nat) (aMa : Nat) (aKi : Nat) (aPi : Nat) (aLn : Nat) (zCn : Int32) (zPc : Int32) (zTo : Int32) (fPi : Nat → Option Nat) (x : Int32) (k : Int32) (q : Int32) (hi : okP x → fPi x.toNatClampNeg = none) : vx_Met l y_BR_share w_BR_share ({ frames := 7, cells := 1, slots := 6, locals := 103 }) (vq_PreR (dC, dI) cs [(h0, .inr (0, [.ref aMo, .ref aSh, .ref aLa, .ref aDy, .ref aMa, .ref aKi, .int zCn, .ref aPi, .int zPc, .ref aLn, .int zTo])), (aPi, .inl ((cs 2), 4, .inr (.inr (.inr (.inr fPi)))))] sz [.ref h0, .int x, .int k, .int q]) (va_Qv (fun (_ : Unit) => False) (fun _ _ => True) (va_A [] sz)) (vq_X (fun E => E = xI) sz) 1 6 (va_A [] sz) := by
  refine vx_ofW (cc := b_BR_share) (maxL := 5) (ret := (some .long)) (by decide) rfl ?_
  intro p e s m args below meth c s₁ B hml htb hv
  obtain ⟨rfl, hsz, hP, hCx⟩ := hv
  have hx := B.exec
  have hb := B.bytes
  have hr := B.returns
  have hG := vq_hG (atoms_spec (ws := w_BR_share) B.pre)
  have hown : s.vm.findClass R_BR = some m.cls := findClass_of_methodNamed B.named
  have hlocks := B.notSynchronized
  subst hsz
  have hK := hCx.1
  have hA : ∀ q : Nat, s.heap.size ≤ q → va_A [] s.heap.size q := fun q h => Or.inr h
  have hA0 : ∀ q : Nat, s.heap.size ≤ q → va_A [] s.heap.size q := fun q h => Or.inr h
  have hS : va_S (va_A [] s.heap.size) s.heap s.heap [] := va_S.rf
  have hl := lv_entry ([.ref h0, .int x, .int k, .int q]) (n := 5) (Nat.le_of_ble_eq_true rfl)
  rw [lg_entry_eq]
  generalize (lg_sl ([.ref h0, .int x, .int k, .int q]) ++ List.replicate (5 - (lg_sl ([.ref h0, .int x, .int k, .int q])).length) Slot.unset).toArray = ls at hl ⊢
  have hl : lv_has ls 5 [(0, .ref h0), (1, .int x), (2, .int k), (3, .int q)] := hl
  have hP : va_P (dC, dI) vq_cl [(h0, .inr (0, [.ref aMo, .ref aSh, .ref aLa, .ref aDy, .ref aMa, .ref aKi, .int zCn, .ref aPi, .int zPc, .ref aLn, .int zTo])), (aPi, .inl ((cs 2), 4, .inr (.inr (.inr (.inr fPi)))))] s.heap := hP
  refine lv_aload_n hx hb d_BR_share_0 rfl (lv_at hl 0 rfl) ?_
  refine lv_iload_n hx hb d_BR_share_1 rfl (lv_at hl 1 rfl) ?_
  refine mx_rv (vx_runV (As := [.int x]) (rest := []) ⟨hx, hb, hml, hown, hG⟩ (c_needPile_bad l hlT dC dI cs _ h0 aMo aSh aLa aDy aMa aKi aPi aLn zCn zPc zTo fPi x hi) (cwV 1 hG (vq_gV vq_t300 vq_t302 vq_s2 vq_t1 vq_t303) rfl rfl rfl (by decide +kernel) ⟨Nat.le_of_ble_eq_true rfl, Nat.le_of_ble_eq_true rfl⟩) (vq_preVr (wc := [(h0, .inr (0, [.ref aMo, .ref aSh, .ref aLa, .ref aDy, .ref aMa, .ref aKi, .int zCn, .ref aPi, .int zPc, .ref aLn, .int zTo])), (aPi, .inl ((cs 2), 4, .inr (.inr (.inr (.inr fPi)))))]) (va_recv hK hP (ci := 0) (q0 := 0) rfl rfl) hCx hP (vq_wk hS hA) hA [0, 1] rfl) rfl rfl hl.1 rfl (lv_room (Nat.le_of_ble_eq_true rfl)) d_BR_share_2 ⟨Nat.le_of_ble_eq_true rfl, Nat.le_of_ble_eq_true rfl⟩) hP hS hA0 (fun E ce q9 H locs x_2 hP hS h91 h92 h93 => vx_out (fun x h => (htb x h).elim) hlocks h91 h92 h93 (fun t ht hvm => vq_Xof x_2 (hS.F ht)) (vq_wk hS hA).2.2 (Nat.le_of_ble_eq_true rfl) (Nat.le_of_ble_eq_true rfl)) (fun H locs w_2 hP hS => ?_)
  exact w_2.elim
set_option maxHeartbeats 4000000 in
set_option maxRecDepth 100000 in
/-- share -/
theorem c_share (l : Launch) (hlT : l.stackTraces = false) (dC : Nat → ClassId) (dI : Nat → Nat → Nat) (cs : Nat → ClassId) (sz : Nat) (h0 : Nat) (aMo : Nat) (aSh : Nat) (aLa : Nat) (aDy : Nat) (aMa : Nat) (aKi : Nat) (aPi : Nat) (aLn : Nat) (zCn : Int32) (zPc : Int32) (zTo : Int32) (fPi : Nat → Option Nat) (pa : Nat) (bLG : Nat) (bLS : Nat) (bLt : Nat) (bGS : Nat) (bGG : Nat) (bES : Nat) (bEG : Nat) (zSl : Int32) (zLy : Int32) (zGr : Int32) (zTk : Int32) (zGt : Int32) (zLt : Int32) (fLt : Nat → Int64) (x : Int32) (k : Int32) (q : Int32) (hi : okP x) (hf : fPi x.toNatClampNeg = some pa) : vx_Met l y_BR_share w_BR_share ({ frames := 7, cells := 4, slots := 24, locals := 102 }) (vq_PreR (dC, dI) cs [(h0, .inr (0, [.ref aMo, .ref aSh, .ref aLa, .ref aDy, .ref aMa, .ref aKi, .int zCn, .ref aPi, .int zPc, .ref aLn, .int zTo])), (aPi, .inl ((cs 2), 4, .inr (.inr (.inr (.inr fPi))))), (pa, .inr (1, [.int zSl, .ref bLG, .ref bLS, .int zLy, .int zGr, .int zTk, .int zGt, .int zLt, .ref bLt, .ref bGS, .ref bGG, .ref bES, .ref bEG])), (bLt, .inl ((cs 1), 4, .inr (.inl fLt)))] sz [.ref h0, .int x, .int k, .int q]) (va_Ql (fun (r : Int64) (_ : Unit) => r = lowF (fLt k.toNatClampNeg) (zLt.toInt64) q ∧ X_share k q zTk zLt = none) (fun _ _ => True) (va_A [] sz)) (vq_X (fun E => X_share k q zTk zLt = some E) sz) 4 24 (va_A [] sz) := by
  refine vx_ofW (cc := b_BR_share) (maxL := 5) (ret := (some .long)) (by decide) rfl ?_
  intro p e s m args below meth c s₁ B hml htb hv
  obtain ⟨rfl, hsz, hP, hCx⟩ := hv
  have hx := B.exec
  have hb := B.bytes
  have hr := B.returns
  have hG := vq_hG (atoms_spec (ws := w_BR_share) B.pre)
  have hown : s.vm.findClass R_BR = some m.cls := findClass_of_methodNamed B.named
  have hlocks := B.notSynchronized
  subst hsz
  have hK := hCx.1
  have hA : ∀ q : Nat, s.heap.size ≤ q → va_A [] s.heap.size q := fun q h => Or.inr h
  have hA0 : ∀ q : Nat, s.heap.size ≤ q → va_A [] s.heap.size q := fun q h => Or.inr h
  have hS : va_S (va_A [] s.heap.size) s.heap s.heap [] := va_S.rf
  have hl := lv_entry ([.ref h0, .int x, .int k, .int q]) (n := 5) (Nat.le_of_ble_eq_true rfl)
  rw [lg_entry_eq]
  generalize (lg_sl ([.ref h0, .int x, .int k, .int q]) ++ List.replicate (5 - (lg_sl ([.ref h0, .int x, .int k, .int q])).length) Slot.unset).toArray = ls at hl ⊢
  have hl : lv_has ls 5 [(0, .ref h0), (1, .int x), (2, .int k), (3, .int q)] := hl
  have hP : va_P (dC, dI) vq_cl [(h0, .inr (0, [.ref aMo, .ref aSh, .ref aLa, .ref aDy, .ref aMa, .ref aKi, .int zCn, .ref aPi, .int zPc, .ref aLn, .int zTo])), (aPi, .inl ((cs 2), 4, .inr (.inr (.inr (.inr fPi))))), (pa, .inr (1, [.int zSl, .ref bLG, .ref bLS, .int zLy, .int zGr, .int zTk, .int zGt, .int zLt, .ref bLt, .ref bGS, .ref bGG, .ref bES, .ref bEG])), (bLt, .inl ((cs 1), 4, .inr (.inl fLt)))] s.heap := hP
  refine lv_aload_n hx hb d_BR_share_0 rfl (lv_at hl 0 rfl) ?_
  refine lv_iload_n hx hb d_BR_share_1 rfl (lv_at hl 1 rfl) ?_
  refine mk_rr (va_runV (As := [.int x]) (rest := []) ⟨hx, hb, hml, hown, hG⟩ (c_needPile_ok l dC dI cs _ h0 aMo aSh aLa aDy aMa aKi aPi aLn zCn zPc zTo fPi x pa hi hf) (cwV 1 hG (vq_gV vq_t300 vq_t302 vq_s2 vq_t1 vq_t303) rfl rfl rfl (by decide +kernel) ⟨Nat.le_of_ble_eq_true rfl, Nat.le_of_ble_eq_true rfl⟩) (vq_preVr (wc := [(h0, .inr (0, [.ref aMo, .ref aSh, .ref aLa, .ref aDy, .ref aMa, .ref aKi, .int zCn, .ref aPi, .int zPc, .ref aLn, .int zTo])), (aPi, .inl ((cs 2), 4, .inr (.inr (.inr (.inr fPi)))))]) (va_recv hK hP (ci := 0) (q0 := 0) rfl rfl) hCx hP (vq_wk hS hA) hA [0, 1] rfl) rfl rfl hl.1 rfl (lv_room (Nat.le_of_ble_eq_true rfl)) d_BR_share_2 ⟨Nat.le_of_ble_eq_true rfl, Nat.le_of_ble_eq_true rfl⟩) hP hS hA0 (fun r_2 H locs w_2 hP hS => ?_)
  rw [w_2]
  refine lv_astore (lv' := [(4, .ref pa), (0, .ref h0), (1, .int x), (2, .int k), (3, .int q)]) hx hb d_BR_share_5 hl (by decide) rfl (fun ls hl => ?_)
  refine lv_iload_n hx hb d_BR_share_7 rfl (lv_at hl 3 rfl) ?_
  refine mx_rv (vx_runS (As := [.int k]) (rest := []) ⟨hx, hb, hml, hown, hG⟩ (c_needElement l hlT dC dI cs _ k) (cwS 1 hG (vq_gS vq_t188 vq_t189 vq_t1 vq_t190) rfl rfl rfl (by decide +kernel) ⟨Nat.le_of_ble_eq_true rfl, Nat.le_of_ble_eq_true rfl⟩) (vq_preSr (wc := []) hCx hP (vq_wk hS hA) hA [] rfl) rfl rfl hl.1 rfl (lv_room (Nat.le_of_ble_eq_true rfl)) d_BR_share_8 ⟨Nat.le_of_ble_eq_true rfl, Nat.le_of_ble_eq_true rfl⟩) hP hS hA0 (fun E ce q9 H locs x_8 hP hS h91 h92 h93 => vx_out (fun x h => (htb x h).elim) hlocks h91 h92 h93 (fun t ht hvm => vq_Xof (by obtain ⟨rfl, y9⟩ := x_8; simp only [X_share, if_neg y9]) (hS.F ht)) (vq_wk hS hA).2.2 (Nat.le_of_ble_eq_true rfl) (Nat.le_of_ble_eq_true rfl)) (fun H locs w_8 hP hS => ?_)
  refine W.widen (k := 1) (n := 6) (Nat.le_of_ble_eq_true rfl) (Nat.le_of_ble_eq_true rfl) ?_
  refine lv_iload_n hx hb d_BR_share_11 rfl (lv_at hl 4 rfl) ?_
  refine mx_rv (vx_runS (As := [.int q]) (rest := []) ⟨hx, hb, hml, hown, hG⟩ (c_needPart l hlT dC dI cs _ q) (cwS 1 hG (vq_gS vq_t367 vq_t368 vq_t1 vq_t369) rfl rfl rfl (by decide +kernel) ⟨Nat.le_of_ble_eq_true rfl, Nat.le_of_ble_eq_true rfl⟩) (vq_preSr (wc := []) hCx hP (vq_wk hS hA) hA [] rfl) rfl rfl hl.1 rfl (lv_room (Nat.le_of_ble_eq_true rfl)) d_BR_share_12 ⟨Nat.le_of_ble_eq_true rfl, Nat.le_of_ble_eq_true rfl⟩) hP hS hA0 (fun E ce q9 H locs x_12 hP hS h91 h92 h93 => vx_out (fun x h => (htb x h).elim) hlocks h91 h92 h93 (fun t ht hvm => vq_Xof (by obtain ⟨rfl, y9⟩ := x_12; simp only [X_share, if_pos w_8, if_neg y9]) (hS.F ht)) (vq_wk hS hA).2.2 (Nat.le_of_ble_eq_true rfl) (Nat.le_of_ble_eq_true rfl)) (fun H locs w_12 hP hS => ?_)
  refine W.widen (k := 2) (n := 12) (Nat.le_of_ble_eq_true rfl) (Nat.le_of_ble_eq_true rfl) ?_
  refine lv_aload hx hb d_BR_share_15 (lv_at hl 0 rfl) ?_
  refine mx_rv (vx_runS (As := [.ref pa]) (rest := []) ⟨hx, hb, hml, hown, hG⟩ (c_needTaken l hlT dC dI cs _ pa bLG bLS bLt bGS bGG bES bEG zSl zLy zGr zTk zGt zLt) (cwS 1 hG (vq_gS vq_t371 vq_t372 vq_t1 vq_t373) rfl rfl rfl (by decide +kernel) ⟨Nat.le_of_ble_eq_true rfl, Nat.le_of_ble_eq_true rfl⟩) (vq_preSr (wc := [(pa, .inr (1, [.int zSl, .ref bLG, .ref bLS, .int zLy, .int zGr, .int zTk, .int zGt, .int zLt, .ref bLt, .ref bGS, .ref bGG, .ref bES, .ref bEG]))]) hCx hP (vq_wk hS hA) hA [2] rfl) rfl rfl hl.1 rfl (lv_room (Nat.le_of_ble_eq_true rfl)) d_BR_share_17 ⟨Nat.le_of_ble_eq_true rfl, Nat.le_of_ble_eq_true rfl⟩) hP hS hA0 (fun E ce q9 H locs x_17 hP hS h91 h92 h93 => vx_out (fun x h => (htb x h).elim) hlocks h91 h92 h93 (fun t ht hvm => vq_Xof (by obtain ⟨rfl, y9⟩ := x_17; simp only [X_share, if_pos w_8, if_pos w_12, if_neg y9]) (hS.F ht)) (vq_wk hS hA).2.2 (Nat.le_of_ble_eq_true rfl) (Nat.le_of_ble_eq_true rfl)) (fun H locs w_17 hP hS => ?_)
  refine W.widen (k := 3) (n := 18) (Nat.le_of_ble_eq_true rfl) (Nat.le_of_ble_eq_true rfl) ?_
  refine lv_aload hx hb d_BR_share_20 (lv_at hl 0 rfl) ?_
  refine va_getN (D := (dC, dI)) (ci := 1) (v := .int zLt) (C := R_PI) (T := F_PI) (N := 13) hx hb hG i_PI hown hK hP 2 rfl rfl 7 (by decide) (va_Nw.use rfl (hCx.2.1 _ vq_nf4)) (fun _ h9 => h9) rfl d_BR_share_22 ?_
  refine lv_if_ne (tgt := 38) hx hb d_BR_share_25 (by decide) (fun c_25 => ?_) (fun c_25 => ?_)
  · skip
    refine lv_aload hx hb d_BR_share_38 (lv_at hl 0 rfl) ?_
    refine va_getN (D := (dC, dI)) (ci := 1) (v := .ref bLt) (C := R_PI) (T := F_PI) (N := 13) hx hb hG i_PI hown hK hP 2 rfl rfl 8 (by decide) (va_Nw.use rfl (hCx.2.1 _ vq_nf5)) (fun _ h9 => h9) rfl d_BR_share_40 ?_
    refine lv_iload_n hx hb d_BR_share_43 rfl (lv_at hl 3 rfl) ?_
    refine va_lald (D := (dC, dI)) hx hb hK hP 3 1 rfl rfl (vq_in 4 rfl w_8.1 w_8.2) d_BR_share_44 ?_
    refine lv_aload hx hb d_BR_share_45 (lv_at hl 0 rfl) ?_
    refine va_getN (D := (dC, dI)) (ci := 1) (v := .int zLt) (C := R_PI) (T := F_PI) (N := 13) hx hb hG i_PI hown hK hP 2 rfl rfl 7 (by decide) (va_Nw.use rfl (hCx.2.1 _ vq_nf4)) (fun _ h9 => h9) rfl d_BR_share_47 ?_
    refine lv_i2l hx hb d_BR_share_50 rfl ?_
    refine lv_iload_n hx hb d_BR_share_51 rfl (lv_at hl 4 rfl) ?_
    refine mk_rl (va_runS (As := [.long (fLt k.toNatClampNeg), .long zLt.toInt64, .int q]) (rest := []) ⟨hx, hb, hml, hown, hG⟩ (c_lowestTerms l dC dI cs _ (fLt k.toNatClampNeg) zLt.toInt64 q) (cwS 3 hG (vq_gS vq_t376 vq_t377 vq_t1 vq_t378) rfl rfl rfl (by decide +kernel) ⟨Nat.le_of_ble_eq_true rfl, Nat.le_of_ble_eq_true rfl⟩) (vq_preSr (wc := []) hCx hP (vq_wk hS hA) hA [] rfl) rfl rfl hl.1 rfl (lv_room (Nat.le_of_ble_eq_true rfl)) d_BR_share_52 ⟨Nat.le_of_ble_eq_true rfl, Nat.le_of_ble_eq_true rfl⟩) hP hS hA0 (fun r_52 H locs w_52 hP hS => ?_)
    subst w_52
    refine vx_ret ?_
    refine W.widen (k := 4) (n := 24) (Nat.le_of_ble_eq_true rfl) (Nat.le_of_ble_eq_true rfl) ?_
    exact W.lret (v := lowF (fLt k.toNatClampNeg) zLt.toInt64 q) hx hb hr (fun t ht hW => ⟨⟨lowF (fLt k.toNatClampNeg) zLt.toInt64 q, (), rfl, ⟨by rfl, by simp only [X_share, if_pos w_8, if_pos w_12, if_pos w_17, if_neg c_25]⟩, trivial⟩, hS.F ht⟩) hS.2.2 d_BR_share_55
  · skip
    exact vq_thr hx hb hlT hown hG hCx hA vq_tw13 hS (by rw [hml]; exact hl.1) d_BR_share_28 d_BR_share_31 d_BR_share_32 d_BR_share_34 d_BR_share_37 htb hlocks (Nat.le_of_ble_eq_true rfl) (Nat.le_of_ble_eq_true rfl) (Nat.le_of_ble_eq_true rfl) (Nat.le_of_ble_eq_true rfl) (by simp only [X_share, if_pos w_8, if_pos w_12, if_pos w_17, if_pos c_25]) (Nat.le_of_ble_eq_true rfl) (Nat.le_of_ble_eq_true rfl)
set_option maxHeartbeats 4000000 in
set_option maxRecDepth 100000 in
/-- basicity, no such pile -/
theorem c_basicity_bad (l : Launch) (hlT : l.stackTraces = false) (dC : Nat → ClassId) (dI : Nat → Nat → Nat) (cs : Nat → ClassId) (sz : Nat) (h0 : Nat) (aMo : Nat) (aSh : Nat) (aLa : Nat) (aDy : Nat) (aMa : Nat) (aKi : Nat) (aPi : Nat) (aLn : Nat) (zCn : Int32) (zPc : Int32) (zTo : Int32) (fPi : Nat → Option Nat) (x : Int32) (q : Int32) (hi : okP x → fPi x.toNatClampNeg = none) : vx_Met l y_BR_basicity w_BR_basicity ({ frames := 7, cells := 1, slots := 6, locals := 103 }) (vq_PreR (dC, dI) cs [(h0, .inr (0, [.ref aMo, .ref aSh, .ref aLa, .ref aDy, .ref aMa, .ref aKi, .int zCn, .ref aPi, .int zPc, .ref aLn, .int zTo])), (aPi, .inl ((cs 2), 4, .inr (.inr (.inr (.inr fPi)))))] sz [.ref h0, .int x, .int q]) (va_Qv (fun (_ : Unit) => False) (fun _ _ => True) (va_A [] sz)) (vq_X (fun E => E = xI) sz) 1 6 (va_A [] sz) := by
  refine vx_ofW (cc := b_BR_basicity) (maxL := 4) (ret := (some .long)) (by decide) rfl ?_
  intro p e s m args below meth c s₁ B hml htb hv
  obtain ⟨rfl, hsz, hP, hCx⟩ := hv
  have hx := B.exec
  have hb := B.bytes
  have hr := B.returns
  have hG := vq_hG (atoms_spec (ws := w_BR_basicity) B.pre)
  have hown : s.vm.findClass R_BR = some m.cls := findClass_of_methodNamed B.named
  have hlocks := B.notSynchronized
  subst hsz
  have hK := hCx.1
  have hA : ∀ q : Nat, s.heap.size ≤ q → va_A [] s.heap.size q := fun q h => Or.inr h
  have hA0 : ∀ q : Nat, s.heap.size ≤ q → va_A [] s.heap.size q := fun q h => Or.inr h
  have hS : va_S (va_A [] s.heap.size) s.heap s.heap [] := va_S.rf
  have hl := lv_entry ([.ref h0, .int x, .int q]) (n := 4) (Nat.le_of_ble_eq_true rfl)
  rw [lg_entry_eq]
  generalize (lg_sl ([.ref h0, .int x, .int q]) ++ List.replicate (4 - (lg_sl ([.ref h0, .int x, .int q])).length) Slot.unset).toArray = ls at hl ⊢
  have hl : lv_has ls 4 [(0, .ref h0), (1, .int x), (2, .int q)] := hl
  have hP : va_P (dC, dI) vq_cl [(h0, .inr (0, [.ref aMo, .ref aSh, .ref aLa, .ref aDy, .ref aMa, .ref aKi, .int zCn, .ref aPi, .int zPc, .ref aLn, .int zTo])), (aPi, .inl ((cs 2), 4, .inr (.inr (.inr (.inr fPi)))))] s.heap := hP
  refine lv_aload_n hx hb d_BR_basicity_0 rfl (lv_at hl 0 rfl) ?_
  refine lv_iload_n hx hb d_BR_basicity_1 rfl (lv_at hl 1 rfl) ?_
  refine mx_rv (vx_runV (As := [.int x]) (rest := []) ⟨hx, hb, hml, hown, hG⟩ (c_needPile_bad l hlT dC dI cs _ h0 aMo aSh aLa aDy aMa aKi aPi aLn zCn zPc zTo fPi x hi) (cwV 1 hG (vq_gV vq_t300 vq_t302 vq_s2 vq_t1 vq_t303) rfl rfl rfl (by decide +kernel) ⟨Nat.le_of_ble_eq_true rfl, Nat.le_of_ble_eq_true rfl⟩) (vq_preVr (wc := [(h0, .inr (0, [.ref aMo, .ref aSh, .ref aLa, .ref aDy, .ref aMa, .ref aKi, .int zCn, .ref aPi, .int zPc, .ref aLn, .int zTo])), (aPi, .inl ((cs 2), 4, .inr (.inr (.inr (.inr fPi)))))]) (va_recv hK hP (ci := 0) (q0 := 0) rfl rfl) hCx hP (vq_wk hS hA) hA [0, 1] rfl) rfl rfl hl.1 rfl (lv_room (Nat.le_of_ble_eq_true rfl)) d_BR_basicity_2 ⟨Nat.le_of_ble_eq_true rfl, Nat.le_of_ble_eq_true rfl⟩) hP hS hA0 (fun E ce q9 H locs x_2 hP hS h91 h92 h93 => vx_out (fun x h => (htb x h).elim) hlocks h91 h92 h93 (fun t ht hvm => vq_Xof x_2 (hS.F ht)) (vq_wk hS hA).2.2 (Nat.le_of_ble_eq_true rfl) (Nat.le_of_ble_eq_true rfl)) (fun H locs w_2 hP hS => ?_)
  exact w_2.elim
set_option maxHeartbeats 4000000 in
set_option maxRecDepth 100000 in
/-- basicity -/
theorem c_basicity (l : Launch) (hlT : l.stackTraces = false) (dC : Nat → ClassId) (dI : Nat → Nat → Nat) (cs : Nat → ClassId) (sz : Nat) (h0 : Nat) (aMo : Nat) (aSh : Nat) (aLa : Nat) (aDy : Nat) (aMa : Nat) (aKi : Nat) (aPi : Nat) (aLn : Nat) (zCn : Int32) (zPc : Int32) (zTo : Int32) (fPi : Nat → Option Nat) (pa : Nat) (bLG : Nat) (bLS : Nat) (bLt : Nat) (bGS : Nat) (bGG : Nat) (bES : Nat) (bEG : Nat) (zSl : Int32) (zLy : Int32) (zGr : Int32) (zTk : Int32) (zGt : Int32) (zLt : Int32) (fLt : Nat → Int64) (x : Int32) (q : Int32) (hi : okP x) (hf : fPi x.toNatClampNeg = some pa) : vx_Met l y_BR_basicity w_BR_basicity ({ frames := 7, cells := 3, slots := 18, locals := 102 }) (vq_PreR (dC, dI) cs [(h0, .inr (0, [.ref aMo, .ref aSh, .ref aLa, .ref aDy, .ref aMa, .ref aKi, .int zCn, .ref aPi, .int zPc, .ref aLn, .int zTo])), (aPi, .inl ((cs 2), 4, .inr (.inr (.inr (.inr fPi))))), (pa, .inr (1, [.int zSl, .ref bLG, .ref bLS, .int zLy, .int zGr, .int zTk, .int zGt, .int zLt, .ref bLt, .ref bGS, .ref bGG, .ref bES, .ref bEG])), (bLt, .inl ((cs 1), 4, .inr (.inl fLt)))] sz [.ref h0, .int x, .int q]) (va_Ql (fun (r : Int64) (_ : Unit) => r = lowF (fLt (0 : Int32).toNatClampNeg) (fLt (1 : Int32).toNatClampNeg) q ∧ X_basicity q zTk (fLt (1 : Int32).toNatClampNeg) = none) (fun _ _ => True) (va_A [] sz)) (vq_X (fun E => X_basicity q zTk (fLt (1 : Int32).toNatClampNeg) = some E) sz) 3 18 (va_A [] sz) := by
  refine vx_ofW (cc := b_BR_basicity) (maxL := 4) (ret := (some .long)) (by decide) rfl ?_
  intro p e s m args below meth c s₁ B hml htb hv
  obtain ⟨rfl, hsz, hP, hCx⟩ := hv
  have hx := B.exec
  have hb := B.bytes
  have hr := B.returns
  have hG := vq_hG (atoms_spec (ws := w_BR_basicity) B.pre)
  have hown : s.vm.findClass R_BR = some m.cls := findClass_of_methodNamed B.named
  have hlocks := B.notSynchronized
  subst hsz
  have hK := hCx.1
  have hA : ∀ q : Nat, s.heap.size ≤ q → va_A [] s.heap.size q := fun q h => Or.inr h
  have hA0 : ∀ q : Nat, s.heap.size ≤ q → va_A [] s.heap.size q := fun q h => Or.inr h
  have hS : va_S (va_A [] s.heap.size) s.heap s.heap [] := va_S.rf
  have hl := lv_entry ([.ref h0, .int x, .int q]) (n := 4) (Nat.le_of_ble_eq_true rfl)
  rw [lg_entry_eq]
  generalize (lg_sl ([.ref h0, .int x, .int q]) ++ List.replicate (4 - (lg_sl ([.ref h0, .int x, .int q])).length) Slot.unset).toArray = ls at hl ⊢
  have hl : lv_has ls 4 [(0, .ref h0), (1, .int x), (2, .int q)] := hl
  have hP : va_P (dC, dI) vq_cl [(h0, .inr (0, [.ref aMo, .ref aSh, .ref aLa, .ref aDy, .ref aMa, .ref aKi, .int zCn, .ref aPi, .int zPc, .ref aLn, .int zTo])), (aPi, .inl ((cs 2), 4, .inr (.inr (.inr (.inr fPi))))), (pa, .inr (1, [.int zSl, .ref bLG, .ref bLS, .int zLy, .int zGr, .int zTk, .int zGt, .int zLt, .ref bLt, .ref bGS, .ref bGG, .ref bES, .ref bEG])), (bLt, .inl ((cs 1), 4, .inr (.inl fLt)))] s.heap := hP
  refine lv_aload_n hx hb d_BR_basicity_0 rfl (lv_at hl 0 rfl) ?_
  refine lv_iload_n hx hb d_BR_basicity_1 rfl (lv_at hl 1 rfl) ?_
  refine mk_rr (va_runV (As := [.int x]) (rest := []) ⟨hx, hb, hml, hown, hG⟩ (c_needPile_ok l dC dI cs _ h0 aMo aSh aLa aDy aMa aKi aPi aLn zCn zPc zTo fPi x pa hi hf) (cwV 1 hG (vq_gV vq_t300 vq_t302 vq_s2 vq_t1 vq_t303) rfl rfl rfl (by decide +kernel) ⟨Nat.le_of_ble_eq_true rfl, Nat.le_of_ble_eq_true rfl⟩) (vq_preVr (wc := [(h0, .inr (0, [.ref aMo, .ref aSh, .ref aLa, .ref aDy, .ref aMa, .ref aKi, .int zCn, .ref aPi, .int zPc, .ref aLn, .int zTo])), (aPi, .inl ((cs 2), 4, .inr (.inr (.inr (.inr fPi)))))]) (va_recv hK hP (ci := 0) (q0 := 0) rfl rfl) hCx hP (vq_wk hS hA) hA [0, 1] rfl) rfl rfl hl.1 rfl (lv_room (Nat.le_of_ble_eq_true rfl)) d_BR_basicity_2 ⟨Nat.le_of_ble_eq_true rfl, Nat.le_of_ble_eq_true rfl⟩) hP hS hA0 (fun r_2 H locs w_2 hP hS => ?_)
  rw [w_2]
  refine lv_astore_n (lv' := [(3, .ref pa), (0, .ref h0), (1, .int x), (2, .int q)]) hx hb d_BR_basicity_5 rfl hl (by decide) rfl (fun ls hl => ?_)
  refine lv_iload_n hx hb d_BR_basicity_6 rfl (lv_at hl 3 rfl) ?_
  refine mx_rv (vx_runS (As := [.int q]) (rest := []) ⟨hx, hb, hml, hown, hG⟩ (c_needPart l hlT dC dI cs _ q) (cwS 1 hG (vq_gS vq_t367 vq_t368 vq_t1 vq_t369) rfl rfl rfl (by decide +kernel) ⟨Nat.le_of_ble_eq_true rfl, Nat.le_of_ble_eq_true rfl⟩) (vq_preSr (wc := []) hCx hP (vq_wk hS hA) hA [] rfl) rfl rfl hl.1 rfl (lv_room (Nat.le_of_ble_eq_true rfl)) d_BR_basicity_7 ⟨Nat.le_of_ble_eq_true rfl, Nat.le_of_ble_eq_true rfl⟩) hP hS hA0 (fun E ce q9 H locs x_7 hP hS h91 h92 h93 => vx_out (fun x h => (htb x h).elim) hlocks h91 h92 h93 (fun t ht hvm => vq_Xof (by obtain ⟨rfl, y9⟩ := x_7; simp only [X_basicity, if_neg y9]) (hS.F ht)) (vq_wk hS hA).2.2 (Nat.le_of_ble_eq_true rfl) (Nat.le_of_ble_eq_true rfl)) (fun H locs w_7 hP hS => ?_)
  refine W.widen (k := 1) (n := 6) (Nat.le_of_ble_eq_true rfl) (Nat.le_of_ble_eq_true rfl) ?_
  refine lv_aload_n hx hb d_BR_basicity_10 rfl (lv_at hl 0 rfl) ?_
  refine mx_rv (vx_runS (As := [.ref pa]) (rest := []) ⟨hx, hb, hml, hown, hG⟩ (c_needTaken l hlT dC dI cs _ pa bLG bLS bLt bGS bGG bES bEG zSl zLy zGr zTk zGt zLt) (cwS 1 hG (vq_gS vq_t371 vq_t372 vq_t1 vq_t373) rfl rfl rfl (by decide +kernel) ⟨Nat.le_of_ble_eq_true rfl, Nat.le_of_ble_eq_true rfl⟩) (vq_preSr (wc := [(pa, .inr (1, [.int zSl, .ref bLG, .ref bLS, .int zLy, .int zGr, .int zTk, .int zGt, .int zLt, .ref bLt, .ref bGS, .ref bGG, .ref bES, .ref bEG]))]) hCx hP (vq_wk hS hA) hA [2] rfl) rfl rfl hl.1 rfl (lv_room (Nat.le_of_ble_eq_true rfl)) d_BR_basicity_11 ⟨Nat.le_of_ble_eq_true rfl, Nat.le_of_ble_eq_true rfl⟩) hP hS hA0 (fun E ce q9 H locs x_11 hP hS h91 h92 h93 => vx_out (fun x h => (htb x h).elim) hlocks h91 h92 h93 (fun t ht hvm => vq_Xof (by obtain ⟨rfl, y9⟩ := x_11; simp only [X_basicity, if_pos w_7, if_neg y9]) (hS.F ht)) (vq_wk hS hA).2.2 (Nat.le_of_ble_eq_true rfl) (Nat.le_of_ble_eq_true rfl)) (fun H locs w_11 hP hS => ?_)
  refine W.widen (k := 2) (n := 12) (Nat.le_of_ble_eq_true rfl) (Nat.le_of_ble_eq_true rfl) ?_
  refine lv_aload_n hx hb d_BR_basicity_14 rfl (lv_at hl 0 rfl) ?_
  refine va_getN (D := (dC, dI)) (ci := 1) (v := .ref bLt) (C := R_PI) (T := F_PI) (N := 13) hx hb hG i_PI hown hK hP 2 rfl rfl 8 (by decide) (va_Nw.use rfl (hCx.2.1 _ vq_nf5)) (fun _ h9 => h9) rfl d_BR_basicity_15 ?_
  refine lv_iconst (v := 1) hx hb d_BR_basicity_18 (by decide) ?_
  refine va_lald (D := (dC, dI)) hx hb hK hP 3 1 rfl rfl (vq_in 4 rfl (by decide) (by decide)) d_BR_basicity_19 ?_
  refine lv_lconst (v := 0) hx hb d_BR_basicity_20 (by decide) ?_
  refine W.lcmp hx hb d_BR_basicity_21 ?_
  refine lv_if_ne (tgt := 35) hx hb d_BR_basicity_22 (by decide) (fun c_22 => ?_) (fun c_22 => ?_)
  · skip
    have c_22 := (not_congr (lg_cmp_eq (fLt (1 : Int32).toNatClampNeg) 0)).mp c_22
    refine lv_aload_n hx hb d_BR_basicity_35 rfl (lv_at hl 0 rfl) ?_
    refine va_getN (D := (dC, dI)) (ci := 1) (v := .ref bLt) (C := R_PI) (T := F_PI) (N := 13) hx hb hG i_PI hown hK hP 2 rfl rfl 8 (by decide) (va_Nw.use rfl (hCx.2.1 _ vq_nf5)) (fun _ h9 => h9) rfl d_BR_basicity_36 ?_
    refine lv_iconst (v := 0) hx hb d_BR_basicity_39 (by decide) ?_
    refine va_lald (D := (dC, dI)) hx hb hK hP 3 1 rfl rfl (vq_in 4 rfl (by decide) (by decide)) d_BR_basicity_40 ?_
    refine lv_aload_n hx hb d_BR_basicity_41 rfl (lv_at hl 0 rfl) ?_
    refine va_getN (D := (dC, dI)) (ci := 1) (v := .ref bLt) (C := R_PI) (T := F_PI) (N := 13) hx hb hG i_PI hown hK hP 2 rfl rfl 8 (by decide) (va_Nw.use rfl (hCx.2.1 _ vq_nf5)) (fun _ h9 => h9) rfl d_BR_basicity_42 ?_
    refine lv_iconst (v := 1) hx hb d_BR_basicity_45 (by decide) ?_
    refine va_lald (D := (dC, dI)) hx hb hK hP 3 1 rfl rfl (vq_in 4 rfl (by decide) (by decide)) d_BR_basicity_46 ?_
    refine lv_iload_n hx hb d_BR_basicity_47 rfl (lv_at hl 3 rfl) ?_
    refine mk_rl (va_runS (As := [.long (fLt (0 : Int32).toNatClampNeg), .long (fLt (1 : Int32).toNatClampNeg), .int q]) (rest := []) ⟨hx, hb, hml, hown, hG⟩ (c_lowestTerms l dC dI cs _ (fLt (0 : Int32).toNatClampNeg) (fLt (1 : Int32).toNatClampNeg) q) (cwS 3 hG (vq_gS vq_t376 vq_t377 vq_t1 vq_t378) rfl rfl rfl (by decide +kernel) ⟨Nat.le_of_ble_eq_true rfl, Nat.le_of_ble_eq_true rfl⟩) (vq_preSr (wc := []) hCx hP (vq_wk hS hA) hA [] rfl) rfl rfl hl.1 rfl (lv_room (Nat.le_of_ble_eq_true rfl)) d_BR_basicity_48 ⟨Nat.le_of_ble_eq_true rfl, Nat.le_of_ble_eq_true rfl⟩) hP hS hA0 (fun r_48 H locs w_48 hP hS => ?_)
    subst w_48
    refine vx_ret ?_
    refine W.widen (k := 3) (n := 18) (Nat.le_of_ble_eq_true rfl) (Nat.le_of_ble_eq_true rfl) ?_
    exact W.lret (v := lowF (fLt (0 : Int32).toNatClampNeg) (fLt (1 : Int32).toNatClampNeg) q) hx hb hr (fun t ht hW => ⟨⟨lowF (fLt (0 : Int32).toNatClampNeg) (fLt (1 : Int32).toNatClampNeg) q, (), rfl, ⟨rfl, by simp only [X_basicity, if_pos w_7, if_pos w_11, if_neg c_22]⟩, trivial⟩, hS.F ht⟩) hS.2.2 d_BR_basicity_51
  · skip
    have c_22 := (lg_cmp_eq (fLt (1 : Int32).toNatClampNeg) 0).mp c_22
    exact vq_thr hx hb hlT hown hG hCx hA vq_tw14 hS (by rw [hml]; exact hl.1) d_BR_basicity_25 d_BR_basicity_28 d_BR_basicity_29 d_BR_basicity_31 d_BR_basicity_34 htb hlocks (Nat.le_of_ble_eq_true rfl) (Nat.le_of_ble_eq_true rfl) (Nat.le_of_ble_eq_true rfl) (Nat.le_of_ble_eq_true rfl) (by simp only [X_basicity, if_pos w_7, if_pos w_11, if_pos c_22]) (Nat.le_of_ble_eq_true rfl) (Nat.le_of_ble_eq_true rfl)
set_option maxHeartbeats 4000000 in
set_option maxRecDepth 100000 in
/-- spread, no such pile -/
theorem c_spread_bad (l : Launch) (hlT : l.stackTraces = false) (dC : Nat → ClassId) (dI : Nat → Nat → Nat) (cs : Nat → ClassId) (sz : Nat) (h0 : Nat) (aMo : Nat) (aSh : Nat) (aLa : Nat) (aDy : Nat) (aMa : Nat) (aKi : Nat) (aPi : Nat) (aLn : Nat) (zCn : Int32) (zPc : Int32) (zTo : Int32) (fPi : Nat → Option Nat) (x : Int32) (k : Int32) (q : Int32) (hi : okP x → fPi x.toNatClampNeg = none) : vx_Met l y_BR_spread w_BR_spread ({ frames := 7, cells := 1, slots := 6, locals := 103 }) (vq_PreR (dC, dI) cs [(h0, .inr (0, [.ref aMo, .ref aSh, .ref aLa, .ref aDy, .ref aMa, .ref aKi, .int zCn, .ref aPi, .int zPc, .ref aLn, .int zTo])), (aPi, .inl ((cs 2), 4, .inr (.inr (.inr (.inr fPi)))))] sz [.ref h0, .int x, .int k, .int q]) (va_Qv (fun (_ : Unit) => False) (fun _ _ => True) (va_A [] sz)) (vq_X (fun E => E = xI) sz) 1 6 (va_A [] sz) := by
  refine vx_ofW (cc := b_BR_spread) (maxL := 5) (ret := (some .long)) (by decide) rfl ?_
  intro p e s m args below meth c s₁ B hml htb hv
  obtain ⟨rfl, hsz, hP, hCx⟩ := hv
  have hx := B.exec
  have hb := B.bytes
  have hr := B.returns
  have hG := vq_hG (atoms_spec (ws := w_BR_spread) B.pre)
  have hown : s.vm.findClass R_BR = some m.cls := findClass_of_methodNamed B.named
  have hlocks := B.notSynchronized
  subst hsz
  have hK := hCx.1
  have hA : ∀ q : Nat, s.heap.size ≤ q → va_A [] s.heap.size q := fun q h => Or.inr h
  have hA0 : ∀ q : Nat, s.heap.size ≤ q → va_A [] s.heap.size q := fun q h => Or.inr h
  have hS : va_S (va_A [] s.heap.size) s.heap s.heap [] := va_S.rf
  have hl := lv_entry ([.ref h0, .int x, .int k, .int q]) (n := 5) (Nat.le_of_ble_eq_true rfl)
  rw [lg_entry_eq]
  generalize (lg_sl ([.ref h0, .int x, .int k, .int q]) ++ List.replicate (5 - (lg_sl ([.ref h0, .int x, .int k, .int q])).length) Slot.unset).toArray = ls at hl ⊢
  have hl : lv_has ls 5 [(0, .ref h0), (1, .int x), (2, .int k), (3, .int q)] := hl
  have hP : va_P (dC, dI) vq_cl [(h0, .inr (0, [.ref aMo, .ref aSh, .ref aLa, .ref aDy, .ref aMa, .ref aKi, .int zCn, .ref aPi, .int zPc, .ref aLn, .int zTo])), (aPi, .inl ((cs 2), 4, .inr (.inr (.inr (.inr fPi)))))] s.heap := hP
  refine lv_aload_n hx hb d_BR_spread_0 rfl (lv_at hl 0 rfl) ?_
  refine lv_iload_n hx hb d_BR_spread_1 rfl (lv_at hl 1 rfl) ?_
  refine mx_rv (vx_runV (As := [.int x]) (rest := []) ⟨hx, hb, hml, hown, hG⟩ (c_needPile_bad l hlT dC dI cs _ h0 aMo aSh aLa aDy aMa aKi aPi aLn zCn zPc zTo fPi x hi) (cwV 1 hG (vq_gV vq_t300 vq_t302 vq_s2 vq_t1 vq_t303) rfl rfl rfl (by decide +kernel) ⟨Nat.le_of_ble_eq_true rfl, Nat.le_of_ble_eq_true rfl⟩) (vq_preVr (wc := [(h0, .inr (0, [.ref aMo, .ref aSh, .ref aLa, .ref aDy, .ref aMa, .ref aKi, .int zCn, .ref aPi, .int zPc, .ref aLn, .int zTo])), (aPi, .inl ((cs 2), 4, .inr (.inr (.inr (.inr fPi)))))]) (va_recv hK hP (ci := 0) (q0 := 0) rfl rfl) hCx hP (vq_wk hS hA) hA [0, 1] rfl) rfl rfl hl.1 rfl (lv_room (Nat.le_of_ble_eq_true rfl)) d_BR_spread_2 ⟨Nat.le_of_ble_eq_true rfl, Nat.le_of_ble_eq_true rfl⟩) hP hS hA0 (fun E ce q9 H locs x_2 hP hS h91 h92 h93 => vx_out (fun x h => (htb x h).elim) hlocks h91 h92 h93 (fun t ht hvm => vq_Xof x_2 (hS.F ht)) (vq_wk hS hA).2.2 (Nat.le_of_ble_eq_true rfl) (Nat.le_of_ble_eq_true rfl)) (fun H locs w_2 hP hS => ?_)
  exact w_2.elim
set_option maxHeartbeats 4000000 in
set_option maxRecDepth 100000 in
/-- spread -/
theorem c_spread (l : Launch) (hlT : l.stackTraces = false) (dC : Nat → ClassId) (dI : Nat → Nat → Nat) (cs : Nat → ClassId) (sz : Nat) (h0 : Nat) (aMo : Nat) (aSh : Nat) (aLa : Nat) (aDy : Nat) (aMa : Nat) (aKi : Nat) (aPi : Nat) (aLn : Nat) (zCn : Int32) (zPc : Int32) (zTo : Int32) (fPi : Nat → Option Nat) (pa : Nat) (bLG : Nat) (bLS : Nat) (bLt : Nat) (bGS : Nat) (bGG : Nat) (bES : Nat) (bEG : Nat) (zSl : Int32) (zLy : Int32) (zGr : Int32) (zTk : Int32) (zGt : Int32) (zLt : Int32) (fGS : Nat → Int64) (fES : Nat → Int64) (fGG : Nat → Int32) (fEG : Nat → Int32) (x : Int32) (k : Int32) (q : Int32) (hi : okP x) (hf : fPi x.toNatClampNeg = some pa) : vx_Met l y_BR_spread w_BR_spread ({ frames := 7, cells := 3, slots := 18, locals := 102 }) (vq_PreR (dC, dI) cs [(h0, .inr (0, [.ref aMo, .ref aSh, .ref aLa, .ref aDy, .ref aMa, .ref aKi, .int zCn, .ref aPi, .int zPc, .ref aLn, .int zTo])), (aPi, .inl ((cs 2), 4, .inr (.inr (.inr (.inr fPi))))), (pa, .inr (1, [.int zSl, .ref bLG, .ref bLS, .int zLy, .int zGr, .int zTk, .int zGt, .int zLt, .ref bLt, .ref bGS, .ref bGG, .ref bES, .ref bEG])), (bGS, .inl ((cs 1), 4, .inr (.inl fGS))), (bGG, .inl ((cs 0), 4, .inl fGG)), (bES, .inl ((cs 1), 4, .inr (.inl fES))), (bEG, .inl ((cs 0), 4, .inl fEG))] sz [.ref h0, .int x, .int k, .int q]) (va_Ql (fun (r : Int64) (_ : Unit) => r = lowF ((fGS k.toNatClampNeg * (fEG k.toNatClampNeg).toInt64) - (fES k.toNatClampNeg * (fGG k.toNatClampNeg).toInt64)) ((fGG k.toNatClampNeg).toInt64 * (fEG k.toNatClampNeg).toInt64) q ∧ X_spread k q zGt = none) (fun _ _ => True) (va_A [] sz)) (vq_X (fun E => X_spread k q zGt = some E) sz) 3 18 (va_A [] sz) := by
  refine vx_ofW (cc := b_BR_spread) (maxL := 5) (ret := (some .long)) (by decide) rfl ?_
  intro p e s m args below meth c s₁ B hml htb hv
  obtain ⟨rfl, hsz, hP, hCx⟩ := hv
  have hx := B.exec
  have hb := B.bytes
  have hr := B.returns
  have hG := vq_hG (atoms_spec (ws := w_BR_spread) B.pre)
  have hown : s.vm.findClass R_BR = some m.cls := findClass_of_methodNamed B.named
  have hlocks := B.notSynchronized
  subst hsz
  have hK := hCx.1
  have hA : ∀ q : Nat, s.heap.size ≤ q → va_A [] s.heap.size q := fun q h => Or.inr h
  have hA0 : ∀ q : Nat, s.heap.size ≤ q → va_A [] s.heap.size q := fun q h => Or.inr h
  have hS : va_S (va_A [] s.heap.size) s.heap s.heap [] := va_S.rf
  have hl := lv_entry ([.ref h0, .int x, .int k, .int q]) (n := 5) (Nat.le_of_ble_eq_true rfl)
  rw [lg_entry_eq]
  generalize (lg_sl ([.ref h0, .int x, .int k, .int q]) ++ List.replicate (5 - (lg_sl ([.ref h0, .int x, .int k, .int q])).length) Slot.unset).toArray = ls at hl ⊢
  have hl : lv_has ls 5 [(0, .ref h0), (1, .int x), (2, .int k), (3, .int q)] := hl
  have hP : va_P (dC, dI) vq_cl [(h0, .inr (0, [.ref aMo, .ref aSh, .ref aLa, .ref aDy, .ref aMa, .ref aKi, .int zCn, .ref aPi, .int zPc, .ref aLn, .int zTo])), (aPi, .inl ((cs 2), 4, .inr (.inr (.inr (.inr fPi))))), (pa, .inr (1, [.int zSl, .ref bLG, .ref bLS, .int zLy, .int zGr, .int zTk, .int zGt, .int zLt, .ref bLt, .ref bGS, .ref bGG, .ref bES, .ref bEG])), (bGS, .inl ((cs 1), 4, .inr (.inl fGS))), (bGG, .inl ((cs 0), 4, .inl fGG)), (bES, .inl ((cs 1), 4, .inr (.inl fES))), (bEG, .inl ((cs 0), 4, .inl fEG))] s.heap := hP
  refine lv_aload_n hx hb d_BR_spread_0 rfl (lv_at hl 0 rfl) ?_
  refine lv_iload_n hx hb d_BR_spread_1 rfl (lv_at hl 1 rfl) ?_
  refine mk_rr (va_runV (As := [.int x]) (rest := []) ⟨hx, hb, hml, hown, hG⟩ (c_needPile_ok l dC dI cs _ h0 aMo aSh aLa aDy aMa aKi aPi aLn zCn zPc zTo fPi x pa hi hf) (cwV 1 hG (vq_gV vq_t300 vq_t302 vq_s2 vq_t1 vq_t303) rfl rfl rfl (by decide +kernel) ⟨Nat.le_of_ble_eq_true rfl, Nat.le_of_ble_eq_true rfl⟩) (vq_preVr (wc := [(h0, .inr (0, [.ref aMo, .ref aSh, .ref aLa, .ref aDy, .ref aMa, .ref aKi, .int zCn, .ref aPi, .int zPc, .ref aLn, .int zTo])), (aPi, .inl ((cs 2), 4, .inr (.inr (.inr (.inr fPi)))))]) (va_recv hK hP (ci := 0) (q0 := 0) rfl rfl) hCx hP (vq_wk hS hA) hA [0, 1] rfl) rfl rfl hl.1 rfl (lv_room (Nat.le_of_ble_eq_true rfl)) d_BR_spread_2 ⟨Nat.le_of_ble_eq_true rfl, Nat.le_of_ble_eq_true rfl⟩) hP hS hA0 (fun r_2 H locs w_2 hP hS => ?_)
  rw [w_2]
  refine lv_astore (lv' := [(4, .ref pa), (0, .ref h0), (1, .int x), (2, .int k), (3, .int q)]) hx hb d_BR_spread_5 hl (by decide) rfl (fun ls hl => ?_)
  refine lv_iload_n hx hb d_BR_spread_7 rfl (lv_at hl 3 rfl) ?_
  refine mx_rv (vx_runS (As := [.int k]) (rest := []) ⟨hx, hb, hml, hown, hG⟩ (c_needElement l hlT dC dI cs _ k) (cwS 1 hG (vq_gS vq_t188 vq_t189 vq_t1 vq_t190) rfl rfl rfl (by decide +kernel) ⟨Nat.le_of_ble_eq_true rfl, Nat.le_of_ble_eq_true rfl⟩) (vq_preSr (wc := []) hCx hP (vq_wk hS hA) hA [] rfl) rfl rfl hl.1 rfl (lv_room (Nat.le_of_ble_eq_true rfl)) d_BR_spread_8 ⟨Nat.le_of_ble_eq_true rfl, Nat.le_of_ble_eq_true rfl⟩) hP hS hA0 (fun E ce q9 H locs x_8 hP hS h91 h92 h93 => vx_out (fun x h => (htb x h).elim) hlocks h91 h92 h93 (fun t ht hvm => vq_Xof (by obtain ⟨rfl, y9⟩ := x_8; simp only [X_spread, if_neg y9]) (hS.F ht)) (vq_wk hS hA).2.2 (Nat.le_of_ble_eq_true rfl) (Nat.le_of_ble_eq_true rfl)) (fun H locs w_8 hP hS => ?_)
  refine W.widen (k := 1) (n := 6) (Nat.le_of_ble_eq_true rfl) (Nat.le_of_ble_eq_true rfl) ?_
  refine lv_iload_n hx hb d_BR_spread_11 rfl (lv_at hl 4 rfl) ?_
  refine mx_rv (vx_runS (As := [.int q]) (rest := []) ⟨hx, hb, hml, hown, hG⟩ (c_needPart l hlT dC dI cs _ q) (cwS 1 hG (vq_gS vq_t367 vq_t368 vq_t1 vq_t369) rfl rfl rfl (by decide +kernel) ⟨Nat.le_of_ble_eq_true rfl, Nat.le_of_ble_eq_true rfl⟩) (vq_preSr (wc := []) hCx hP (vq_wk hS hA) hA [] rfl) rfl rfl hl.1 rfl (lv_room (Nat.le_of_ble_eq_true rfl)) d_BR_spread_12 ⟨Nat.le_of_ble_eq_true rfl, Nat.le_of_ble_eq_true rfl⟩) hP hS hA0 (fun E ce q9 H locs x_12 hP hS h91 h92 h93 => vx_out (fun x h => (htb x h).elim) hlocks h91 h92 h93 (fun t ht hvm => vq_Xof (by obtain ⟨rfl, y9⟩ := x_12; simp only [X_spread, if_pos w_8, if_neg y9]) (hS.F ht)) (vq_wk hS hA).2.2 (Nat.le_of_ble_eq_true rfl) (Nat.le_of_ble_eq_true rfl)) (fun H locs w_12 hP hS => ?_)
  refine W.widen (k := 2) (n := 12) (Nat.le_of_ble_eq_true rfl) (Nat.le_of_ble_eq_true rfl) ?_
  refine lv_aload hx hb d_BR_spread_15 (lv_at hl 0 rfl) ?_
  refine va_getN (D := (dC, dI)) (ci := 1) (v := .int zGt) (C := R_PI) (T := F_PI) (N := 13) hx hb hG i_PI hown hK hP 2 rfl rfl 6 (by decide) (va_Nw.use rfl (hCx.2.1 _ vq_nf6)) (fun _ h9 => h9) rfl d_BR_spread_17 ?_
  refine lv_if_ne (tgt := 33) hx hb d_BR_spread_20 (by decide) (fun c_20 => ?_) (fun c_20 => ?_)
  · skip
    refine lv_aload hx hb d_BR_spread_33 (lv_at hl 0 rfl) ?_
    refine lv_iload_n hx hb d_BR_spread_35 rfl (lv_at hl 3 rfl) ?_
    refine mk_rl (va_runV (As := [.int k]) (rest := []) ⟨hx, hb, hml, hown, hG⟩ (c_spreadUpper l dC dI cs _ pa bLG bLS bLt bGS bGG bES bEG zSl zLy zGr zTk zGt zLt fGS fES fGG fEG k w_8) (cwV 1 hG (vq_gV vq_t401 vq_t402 vq_t403 vq_t10 vq_t404) rfl rfl rfl (by decide +kernel) ⟨Nat.le_of_ble_eq_true rfl, Nat.le_of_ble_eq_true rfl⟩) (vq_preVr (wc := [(pa, .inr (1, [.int zSl, .ref bLG, .ref bLS, .int zLy, .int zGr, .int zTk, .int zGt, .int zLt, .ref bLt, .ref bGS, .ref bGG, .ref bES, .ref bEG])), (bGS, .inl ((cs 1), 4, .inr (.inl fGS))), (bGG, .inl ((cs 0), 4, .inl fGG)), (bES, .inl ((cs 1), 4, .inr (.inl fES))), (bEG, .inl ((cs 0), 4, .inl fEG))]) (va_recv hK hP (ci := 1) (q0 := 2) rfl rfl) hCx hP (vq_wk hS hA) hA [2, 3, 4, 5, 6] rfl) rfl rfl hl.1 rfl (lv_room (Nat.le_of_ble_eq_true rfl)) d_BR_spread_36 ⟨Nat.le_of_ble_eq_true rfl, Nat.le_of_ble_eq_true rfl⟩) hP hS hA0 (fun r_36 H locs w_36 hP hS => ?_)
    subst w_36
    refine lv_aload hx hb d_BR_spread_39 (lv_at hl 0 rfl) ?_
    refine lv_iload_n hx hb d_BR_spread_41 rfl (lv_at hl 3 rfl) ?_
    refine mk_rl (va_runV (As := [.int k]) (rest := [.long ((fGS k.toNatClampNeg * (fEG k.toNatClampNeg).toInt64) - (fES k.toNatClampNeg * (fGG k.toNatClampNeg).toInt64))]) ⟨hx, hb, hml, hown, hG⟩ (c_spreadLower l dC dI cs _ pa bLG bLS bLt bGS bGG bES bEG zSl zLy zGr zTk zGt zLt fGG fEG k w_8) (cwV 1 hG (vq_gV vq_t405 vq_t406 vq_t407 vq_t10 vq_t408) rfl rfl rfl (by decide +kernel) ⟨Nat.le_of_ble_eq_true rfl, Nat.le_of_ble_eq_true rfl⟩) (vq_preVr (wc := [(pa, .inr (1, [.int zSl, .ref bLG, .ref bLS, .int zLy, .int zGr, .int zTk, .int zGt, .int zLt, .ref bLt, .ref bGS, .ref bGG, .ref bES, .ref bEG])), (bGG, .inl ((cs 0), 4, .inl fGG)), (bEG, .inl ((cs 0), 4, .inl fEG))]) (va_recv hK hP (ci := 1) (q0 := 2) rfl rfl) hCx hP (vq_wk hS hA) hA [2, 4, 6] rfl) rfl rfl hl.1 rfl (lv_room (Nat.le_of_ble_eq_true rfl)) d_BR_spread_42 ⟨Nat.le_of_ble_eq_true rfl, Nat.le_of_ble_eq_true rfl⟩) hP hS hA0 (fun r_42 H locs w_42 hP hS => ?_)
    subst w_42
    refine lv_iload_n hx hb d_BR_spread_45 rfl (lv_at hl 4 rfl) ?_
    refine mk_rl (va_runS (As := [.long ((fGS k.toNatClampNeg * (fEG k.toNatClampNeg).toInt64) - (fES k.toNatClampNeg * (fGG k.toNatClampNeg).toInt64)), .long ((fGG k.toNatClampNeg).toInt64 * (fEG k.toNatClampNeg).toInt64), .int q]) (rest := []) ⟨hx, hb, hml, hown, hG⟩ (c_lowestTerms l dC dI cs _ ((fGS k.toNatClampNeg * (fEG k.toNatClampNeg).toInt64) - (fES k.toNatClampNeg * (fGG k.toNatClampNeg).toInt64)) ((fGG k.toNatClampNeg).toInt64 * (fEG k.toNatClampNeg).toInt64) q) (cwS 3 hG (vq_gS vq_t376 vq_t377 vq_t1 vq_t378) rfl rfl rfl (by decide +kernel) ⟨Nat.le_of_ble_eq_true rfl, Nat.le_of_ble_eq_true rfl⟩) (vq_preSr (wc := []) hCx hP (vq_wk hS hA) hA [] rfl) rfl rfl hl.1 rfl (lv_room (Nat.le_of_ble_eq_true rfl)) d_BR_spread_46 ⟨Nat.le_of_ble_eq_true rfl, Nat.le_of_ble_eq_true rfl⟩) hP hS hA0 (fun r_46 H locs w_46 hP hS => ?_)
    subst w_46
    refine vx_ret ?_
    refine W.widen (k := 3) (n := 18) (Nat.le_of_ble_eq_true rfl) (Nat.le_of_ble_eq_true rfl) ?_
    exact W.lret (v := lowF ((fGS k.toNatClampNeg * (fEG k.toNatClampNeg).toInt64) - (fES k.toNatClampNeg * (fGG k.toNatClampNeg).toInt64)) ((fGG k.toNatClampNeg).toInt64 * (fEG k.toNatClampNeg).toInt64) q) hx hb hr (fun t ht hW => ⟨⟨lowF ((fGS k.toNatClampNeg * (fEG k.toNatClampNeg).toInt64) - (fES k.toNatClampNeg * (fGG k.toNatClampNeg).toInt64)) ((fGG k.toNatClampNeg).toInt64 * (fEG k.toNatClampNeg).toInt64) q, (), rfl, ⟨rfl, by simp only [X_spread, if_pos w_8, if_pos w_12, if_neg c_20]⟩, trivial⟩, hS.F ht⟩) hS.2.2 d_BR_spread_49
  · skip
    exact vq_thr hx hb hlT hown hG hCx hA vq_tw15 hS (by rw [hml]; exact hl.1) d_BR_spread_23 d_BR_spread_26 d_BR_spread_27 d_BR_spread_29 d_BR_spread_32 htb hlocks (Nat.le_of_ble_eq_true rfl) (Nat.le_of_ble_eq_true rfl) (Nat.le_of_ble_eq_true rfl) (Nat.le_of_ble_eq_true rfl) (by simp only [X_spread, if_pos w_8, if_pos w_12, if_pos c_20]) (Nat.le_of_ble_eq_true rfl) (Nat.le_of_ble_eq_true rfl)
set_option maxHeartbeats 4000000 in
set_option maxRecDepth 100000 in
/-- pileAt, no such pile -/
theorem c_pileAt_bad (l : Launch) (hlT : l.stackTraces = false) (dC : Nat → ClassId) (dI : Nat → Nat → Nat) (cs : Nat → ClassId) (sz : Nat) (h0 : Nat) (aMo : Nat) (aSh : Nat) (aLa : Nat) (aDy : Nat) (aMa : Nat) (aKi : Nat) (aPi : Nat) (aLn : Nat) (zCn : Int32) (zPc : Int32) (zTo : Int32) (fPi : Nat → Option Nat) (x : Int32) (w : Int32) (hi : okP x → fPi x.toNatClampNeg = none) : vx_Met l y_BR_pileAt w_BR_pileAt ({ frames := 7, cells := 1, slots := 6, locals := 103 }) (vq_PreR (dC, dI) cs [(h0, .inr (0, [.ref aMo, .ref aSh, .ref aLa, .ref aDy, .ref aMa, .ref aKi, .int zCn, .ref aPi, .int zPc, .ref aLn, .int zTo])), (aPi, .inl ((cs 2), 4, .inr (.inr (.inr (.inr fPi)))))] sz [.ref h0, .int x, .int w]) (va_Qv (fun (_ : Unit) => False) (fun _ _ => True) (va_A [] sz)) (vq_X (fun E => E = xI) sz) 1 6 (va_A [] sz) := by
  refine vx_ofW (cc := b_BR_pileAt) (maxL := 4) (ret := (some .int)) (by decide) rfl ?_
  intro p e s m args below meth c s₁ B hml htb hv
  obtain ⟨rfl, hsz, hP, hCx⟩ := hv
  have hx := B.exec
  have hb := B.bytes
  have hr := B.returns
  have hG := vq_hG (atoms_spec (ws := w_BR_pileAt) B.pre)
  have hown : s.vm.findClass R_BR = some m.cls := findClass_of_methodNamed B.named
  have hlocks := B.notSynchronized
  subst hsz
  have hK := hCx.1
  have hA : ∀ q : Nat, s.heap.size ≤ q → va_A [] s.heap.size q := fun q h => Or.inr h
  have hA0 : ∀ q : Nat, s.heap.size ≤ q → va_A [] s.heap.size q := fun q h => Or.inr h
  have hS : va_S (va_A [] s.heap.size) s.heap s.heap [] := va_S.rf
  have hl := lv_entry ([.ref h0, .int x, .int w]) (n := 4) (Nat.le_of_ble_eq_true rfl)
  rw [lg_entry_eq]
  generalize (lg_sl ([.ref h0, .int x, .int w]) ++ List.replicate (4 - (lg_sl ([.ref h0, .int x, .int w])).length) Slot.unset).toArray = ls at hl ⊢
  have hl : lv_has ls 4 [(0, .ref h0), (1, .int x), (2, .int w)] := hl
  have hP : va_P (dC, dI) vq_cl [(h0, .inr (0, [.ref aMo, .ref aSh, .ref aLa, .ref aDy, .ref aMa, .ref aKi, .int zCn, .ref aPi, .int zPc, .ref aLn, .int zTo])), (aPi, .inl ((cs 2), 4, .inr (.inr (.inr (.inr fPi)))))] s.heap := hP
  refine lv_aload_n hx hb d_BR_pileAt_0 rfl (lv_at hl 0 rfl) ?_
  refine lv_iload_n hx hb d_BR_pileAt_1 rfl (lv_at hl 1 rfl) ?_
  refine mx_rv (vx_runV (As := [.int x]) (rest := []) ⟨hx, hb, hml, hown, hG⟩ (c_needPile_bad l hlT dC dI cs _ h0 aMo aSh aLa aDy aMa aKi aPi aLn zCn zPc zTo fPi x hi) (cwV 1 hG (vq_gV vq_t300 vq_t302 vq_s2 vq_t1 vq_t303) rfl rfl rfl (by decide +kernel) ⟨Nat.le_of_ble_eq_true rfl, Nat.le_of_ble_eq_true rfl⟩) (vq_preVr (wc := [(h0, .inr (0, [.ref aMo, .ref aSh, .ref aLa, .ref aDy, .ref aMa, .ref aKi, .int zCn, .ref aPi, .int zPc, .ref aLn, .int zTo])), (aPi, .inl ((cs 2), 4, .inr (.inr (.inr (.inr fPi)))))]) (va_recv hK hP (ci := 0) (q0 := 0) rfl rfl) hCx hP (vq_wk hS hA) hA [0, 1] rfl) rfl rfl hl.1 rfl (lv_room (Nat.le_of_ble_eq_true rfl)) d_BR_pileAt_2 ⟨Nat.le_of_ble_eq_true rfl, Nat.le_of_ble_eq_true rfl⟩) hP hS hA0 (fun E ce q9 H locs x_2 hP hS h91 h92 h93 => vx_out (fun x h => (htb x h).elim) hlocks h91 h92 h93 (fun t ht hvm => vq_Xof x_2 (hS.F ht)) (vq_wk hS hA).2.2 (Nat.le_of_ble_eq_true rfl) (Nat.le_of_ble_eq_true rfl)) (fun H locs w_2 hP hS => ?_)
  exact w_2.elim
set_option maxHeartbeats 4000000 in
set_option maxRecDepth 100000 in
/-- pileAt -/
theorem c_pileAt (l : Launch) (hlT : l.stackTraces = false) (dC : Nat → ClassId) (dI : Nat → Nat → Nat) (cs : Nat → ClassId) (sz : Nat) (h0 : Nat) (aMo : Nat) (aSh : Nat) (aLa : Nat) (aDy : Nat) (aMa : Nat) (aKi : Nat) (aPi : Nat) (aLn : Nat) (zCn : Int32) (zPc : Int32) (zTo : Int32) (fPi : Nat → Option Nat) (pa : Nat) (bLG : Nat) (bLS : Nat) (bLt : Nat) (bGS : Nat) (bGG : Nat) (bES : Nat) (bEG : Nat) (zSl : Int32) (zLy : Int32) (zGr : Int32) (zTk : Int32) (zGt : Int32) (zLt : Int32) (x : Int32) (w : Int32) (hi : okP x) (hf : fPi x.toNatClampNeg = some pa) : vx_Met l y_BR_pileAt w_BR_pileAt ({ frames := 6, cells := 1, slots := 6, locals := 82 }) (vq_PreR (dC, dI) cs [(h0, .inr (0, [.ref aMo, .ref aSh, .ref aLa, .ref aDy, .ref aMa, .ref aKi, .int zCn, .ref aPi, .int zPc, .ref aLn, .int zTo])), (aPi, .inl ((cs 2), 4, .inr (.inr (.inr (.inr fPi))))), (pa, .inr (1, [.int zSl, .ref bLG, .ref bLS, .int zLy, .int zGr, .int zTk, .int zGt, .int zLt, .ref bLt, .ref bGS, .ref bGG, .ref bES, .ref bEG]))] sz [.ref h0, .int x, .int w]) (va_Qi (fun (r : Int32) (_ : Unit) => r = pileAtF w zSl zTk zLy zGr zGt ∧ X_pileAt w = none) (fun _ _ => True) (va_A [] sz)) (vq_X (fun E => X_pileAt w = some E) sz) 1 6 (va_A [] sz) := by
  refine vx_ofW (cc := b_BR_pileAt) (maxL := 4) (ret := (some .int)) (by decide) rfl ?_
  intro p e s m args below meth c s₁ B hml htb hv
  obtain ⟨rfl, hsz, hP, hCx⟩ := hv
  have hx := B.exec
  have hb := B.bytes
  have hr := B.returns
  have hG := vq_hG (atoms_spec (ws := w_BR_pileAt) B.pre)
  have hown : s.vm.findClass R_BR = some m.cls := findClass_of_methodNamed B.named
  have hlocks := B.notSynchronized
  subst hsz
  have hK := hCx.1
  have hA : ∀ q : Nat, s.heap.size ≤ q → va_A [] s.heap.size q := fun q h => Or.inr h
  have hA0 : ∀ q : Nat, s.heap.size ≤ q → va_A [] s.heap.size q := fun q h => Or.inr h
  have hS : va_S (va_A [] s.heap.size) s.heap s.heap [] := va_S.rf
  have hl := lv_entry ([.ref h0, .int x, .int w]) (n := 4) (Nat.le_of_ble_eq_true rfl)
  rw [lg_entry_eq]
  generalize (lg_sl ([.ref h0, .int x, .int w]) ++ List.replicate (4 - (lg_sl ([.ref h0, .int x, .int w])).length) Slot.unset).toArray = ls at hl ⊢
  have hl : lv_has ls 4 [(0, .ref h0), (1, .int x), (2, .int w)] := hl
  have hP : va_P (dC, dI) vq_cl [(h0, .inr (0, [.ref aMo, .ref aSh, .ref aLa, .ref aDy, .ref aMa, .ref aKi, .int zCn, .ref aPi, .int zPc, .ref aLn, .int zTo])), (aPi, .inl ((cs 2), 4, .inr (.inr (.inr (.inr fPi))))), (pa, .inr (1, [.int zSl, .ref bLG, .ref bLS, .int zLy, .int zGr, .int zTk, .int zGt, .int zLt, .ref bLt, .ref bGS, .ref bGG, .ref bES, .ref bEG]))] s.heap := hP
  refine lv_aload_n hx hb d_BR_pileAt_0 rfl (lv_at hl 0 rfl) ?_
  refine lv_iload_n hx hb d_BR_pileAt_1 rfl (lv_at hl 1 rfl) ?_
  refine mk_rr (va_runV (As := [.int x]) (rest := []) ⟨hx, hb, hml, hown, hG⟩ (c_needPile_ok l dC dI cs _ h0 aMo aSh aLa aDy aMa aKi aPi aLn zCn zPc zTo fPi x pa hi hf) (cwV 1 hG (vq_gV vq_t300 vq_t302 vq_s2 vq_t1 vq_t303) rfl rfl rfl (by decide +kernel) ⟨Nat.le_of_ble_eq_true rfl, Nat.le_of_ble_eq_true rfl⟩) (vq_preVr (wc := [(h0, .inr (0, [.ref aMo, .ref aSh, .ref aLa, .ref aDy, .ref aMa, .ref aKi, .int zCn, .ref aPi, .int zPc, .ref aLn, .int zTo])), (aPi, .inl ((cs 2), 4, .inr (.inr (.inr (.inr fPi)))))]) (va_recv hK hP (ci := 0) (q0 := 0) rfl rfl) hCx hP (vq_wk hS hA) hA [0, 1] rfl) rfl rfl hl.1 rfl (lv_room (Nat.le_of_ble_eq_true rfl)) d_BR_pileAt_2 ⟨Nat.le_of_ble_eq_true rfl, Nat.le_of_ble_eq_true rfl⟩) hP hS hA0 (fun r_2 H locs w_2 hP hS => ?_)
  rw [w_2]
  refine lv_astore_n (lv' := [(3, .ref pa), (0, .ref h0), (1, .int x), (2, .int w)]) hx hb d_BR_pileAt_5 rfl hl (by decide) rfl (fun ls hl => ?_)
  refine lv_iload_n hx hb d_BR_pileAt_6 rfl (lv_at hl 3 rfl) ?_
  by_cases w_7 : w.toInt < 0 ∨ 4 < w.toInt
  · refine lv_tableOut (tgt := 65) hx hb d_BR_pileAt_7 w_7 (by decide) ?_
    exact vq_thr hx hb hlT hown hG hCx hA vq_tw16 hS (by rw [hml]; exact hl.1) d_BR_pileAt_65 d_BR_pileAt_68 d_BR_pileAt_69 d_BR_pileAt_71 d_BR_pileAt_74 htb hlocks (Nat.le_of_ble_eq_true rfl) (Nat.le_of_ble_eq_true rfl) (Nat.le_of_ble_eq_true rfl) (Nat.le_of_ble_eq_true rfl) (by simp only [X_pileAt, if_pos w_7]) (Nat.le_of_ble_eq_true rfl) (Nat.le_of_ble_eq_true rfl)
  · have v_7 : w.toInt = 0 ∨ w.toInt = 1 ∨ w.toInt = 2 ∨ w.toInt = 3 ∨ w.toInt = 4 := by omega
    rcases v_7 with v_7 | v_7 | v_7 | v_7 | v_7
    · refine lv_tableIn (off := 33) (tgt := 40) hx hb d_BR_pileAt_7 (fun z => w_7 (Or.inl z)) (fun z => w_7 (Or.inr z)) (by rw [v_7]; rfl) (by decide) ?_
      refine lv_aload_n hx hb d_BR_pileAt_40 rfl (lv_at hl 0 rfl) ?_
      refine va_getN (D := (dC, dI)) (ci := 1) (v := .int zSl) (C := R_PI) (T := F_PI) (N := 13) hx hb hG i_PI hown hK hP 2 rfl rfl 0 (by decide) (va_Nw.use rfl (hCx.2.1 _ vq_nf3)) (fun _ h9 => h9) rfl d_BR_pileAt_41 ?_
      refine vx_ret ?_
      refine W.widen (k := 1) (n := 6) (Nat.le_of_ble_eq_true rfl) (Nat.le_of_ble_eq_true rfl) ?_
      exact W.iret (v := zSl) hx hb hr (fun t ht hW => ⟨⟨zSl, (), rfl, ⟨by simp [pileAtF, v_7], by simp only [X_pileAt, if_neg w_7]⟩, trivial⟩, hS.F ht⟩) hS.2.2 d_BR_pileAt_44
    · refine lv_tableIn (off := 38) (tgt := 45) hx hb d_BR_pileAt_7 (fun z => w_7 (Or.inl z)) (fun z => w_7 (Or.inr z)) (by rw [v_7]; rfl) (by decide) ?_
      refine lv_aload_n hx hb d_BR_pileAt_45 rfl (lv_at hl 0 rfl) ?_
      refine va_getN (D := (dC, dI)) (ci := 1) (v := .int zTk) (C := R_PI) (T := F_PI) (N := 13) hx hb hG i_PI hown hK hP 2 rfl rfl 5 (by decide) (va_Nw.use rfl (hCx.2.1 _ vq_nf0)) (fun _ h9 => h9) rfl d_BR_pileAt_46 ?_
      refine vx_ret ?_
      refine W.widen (k := 1) (n := 6) (Nat.le_of_ble_eq_true rfl) (Nat.le_of_ble_eq_true rfl) ?_
      exact W.iret (v := zTk) hx hb hr (fun t ht hW => ⟨⟨zTk, (), rfl, ⟨by simp [pileAtF, v_7], by simp only [X_pileAt, if_neg w_7]⟩, trivial⟩, hS.F ht⟩) hS.2.2 d_BR_pileAt_49
    · refine lv_tableIn (off := 43) (tgt := 50) hx hb d_BR_pileAt_7 (fun z => w_7 (Or.inl z)) (fun z => w_7 (Or.inr z)) (by rw [v_7]; rfl) (by decide) ?_
      refine lv_aload_n hx hb d_BR_pileAt_50 rfl (lv_at hl 0 rfl) ?_
      refine va_getN (D := (dC, dI)) (ci := 1) (v := .int zLy) (C := R_PI) (T := F_PI) (N := 13) hx hb hG i_PI hown hK hP 2 rfl rfl 3 (by decide) (va_Nw.use rfl (hCx.2.1 _ vq_nf1)) (fun _ h9 => h9) rfl d_BR_pileAt_51 ?_
      refine vx_ret ?_
      refine W.widen (k := 1) (n := 6) (Nat.le_of_ble_eq_true rfl) (Nat.le_of_ble_eq_true rfl) ?_
      exact W.iret (v := zLy) hx hb hr (fun t ht hW => ⟨⟨zLy, (), rfl, ⟨by simp [pileAtF, v_7], by simp only [X_pileAt, if_neg w_7]⟩, trivial⟩, hS.F ht⟩) hS.2.2 d_BR_pileAt_54
    · refine lv_tableIn (off := 48) (tgt := 55) hx hb d_BR_pileAt_7 (fun z => w_7 (Or.inl z)) (fun z => w_7 (Or.inr z)) (by rw [v_7]; rfl) (by decide) ?_
      refine lv_aload_n hx hb d_BR_pileAt_55 rfl (lv_at hl 0 rfl) ?_
      refine va_getN (D := (dC, dI)) (ci := 1) (v := .int zGr) (C := R_PI) (T := F_PI) (N := 13) hx hb hG i_PI hown hK hP 2 rfl rfl 4 (by decide) (va_Nw.use rfl (hCx.2.1 _ vq_nf2)) (fun _ h9 => h9) rfl d_BR_pileAt_56 ?_
      refine vx_ret ?_
      refine W.widen (k := 1) (n := 6) (Nat.le_of_ble_eq_true rfl) (Nat.le_of_ble_eq_true rfl) ?_
      exact W.iret (v := zGr) hx hb hr (fun t ht hW => ⟨⟨zGr, (), rfl, ⟨by simp [pileAtF, v_7], by simp only [X_pileAt, if_neg w_7]⟩, trivial⟩, hS.F ht⟩) hS.2.2 d_BR_pileAt_59
    · refine lv_tableIn (off := 53) (tgt := 60) hx hb d_BR_pileAt_7 (fun z => w_7 (Or.inl z)) (fun z => w_7 (Or.inr z)) (by rw [v_7]; rfl) (by decide) ?_
      refine lv_aload_n hx hb d_BR_pileAt_60 rfl (lv_at hl 0 rfl) ?_
      refine va_getN (D := (dC, dI)) (ci := 1) (v := .int zGt) (C := R_PI) (T := F_PI) (N := 13) hx hb hG i_PI hown hK hP 2 rfl rfl 6 (by decide) (va_Nw.use rfl (hCx.2.1 _ vq_nf6)) (fun _ h9 => h9) rfl d_BR_pileAt_61 ?_
      refine vx_ret ?_
      refine W.widen (k := 1) (n := 6) (Nat.le_of_ble_eq_true rfl) (Nat.le_of_ble_eq_true rfl) ?_
      exact W.iret (v := zGt) hx hb hr (fun t ht hW => ⟨⟨zGt, (), rfl, ⟨by simp [pileAtF, v_7], by simp only [X_pileAt, if_neg w_7]⟩, trivial⟩, hS.F ht⟩) hS.2.2 d_BR_pileAt_64
set_option maxHeartbeats 4000000 in
set_option maxRecDepth 100000 in
/-- mix -/
theorem c_mix (l : Launch) (hlT : l.stackTraces = false) (dC : Nat → ClassId) (dI : Nat → Nat → Nat) (cs : Nat → ClassId) (sz : Nat) (h0 : Nat) (aMo : Nat) (aSh : Nat) (aLa : Nat) (aDy : Nat) (aMa : Nat) (aKi : Nat) (aPi : Nat) (aLn : Nat) (zCn : Int32) (zPc : Int32) (zTo : Int32) (fSh : Nat → Int32) (x : Int32) (y : Int32) (k : Int32) (aim : Int32) (q : Int32) : vx_Met l y_BR_mix w_BR_mix ({ frames := 7, cells := 6, slots := 36, locals := 104 }) (vq_PreR (dC, dI) cs [(h0, .inr (0, [.ref aMo, .ref aSh, .ref aLa, .ref aDy, .ref aMa, .ref aKi, .int zCn, .ref aPi, .int zPc, .ref aLn, .int zTo])), (aSh, .inl ((cs 0), 32, .inl fSh))] sz [.ref h0, .int x, .int y, .int k, .int aim, .int q]) (va_Ql (fun (r : Int64) (_ : Unit) => r = lowF (aim - (fSh ((y * 4) + k).toNatClampNeg)).toInt64 ((fSh ((x * 4) + k).toNatClampNeg) - (fSh ((y * 4) + k).toNatClampNeg)).toInt64 q ∧ X_mix x y k aim q (fSh ((x * 4) + k).toNatClampNeg) (fSh ((y * 4) + k).toNatClampNeg) = none) (fun _ _ => True) (va_A [] sz)) (vq_X (fun E => X_mix x y k aim q (fSh ((x * 4) + k).toNatClampNeg) (fSh ((y * 4) + k).toNatClampNeg) = some E) sz) 6 36 (va_A [] sz) := by
  refine vx_ofW (cc := b_BR_mix) (maxL := 8) (ret := (some .long)) (by decide) rfl ?_
  intro p e s m args below meth c s₁ B hml htb hv
  obtain ⟨rfl, hsz, hP, hCx⟩ := hv
  have hx := B.exec
  have hb := B.bytes
  have hr := B.returns
  have hG := vq_hG (atoms_spec (ws := w_BR_mix) B.pre)
  have hown : s.vm.findClass R_BR = some m.cls := findClass_of_methodNamed B.named
  have hlocks := B.notSynchronized
  subst hsz
  have hK := hCx.1
  have hA : ∀ q : Nat, s.heap.size ≤ q → va_A [] s.heap.size q := fun q h => Or.inr h
  have hA0 : ∀ q : Nat, s.heap.size ≤ q → va_A [] s.heap.size q := fun q h => Or.inr h
  have hS : va_S (va_A [] s.heap.size) s.heap s.heap [] := va_S.rf
  have hl := lv_entry ([.ref h0, .int x, .int y, .int k, .int aim, .int q]) (n := 8) (Nat.le_of_ble_eq_true rfl)
  rw [lg_entry_eq]
  generalize (lg_sl ([.ref h0, .int x, .int y, .int k, .int aim, .int q]) ++ List.replicate (8 - (lg_sl ([.ref h0, .int x, .int y, .int k, .int aim, .int q])).length) Slot.unset).toArray = ls at hl ⊢
  have hl : lv_has ls 8 [(0, .ref h0), (1, .int x), (2, .int y), (3, .int k), (4, .int aim), (5, .int q)] := hl
  have hP : va_P (dC, dI) vq_cl [(h0, .inr (0, [.ref aMo, .ref aSh, .ref aLa, .ref aDy, .ref aMa, .ref aKi, .int zCn, .ref aPi, .int zPc, .ref aLn, .int zTo])), (aSh, .inl ((cs 0), 32, .inl fSh))] s.heap := hP
  refine lv_iload_n hx hb d_BR_mix_0 rfl (lv_at hl 1 rfl) ?_
  refine mx_rv (vx_runS (As := [.int x]) (rest := []) ⟨hx, hb, hml, hown, hG⟩ (c_needMaterial l hlT dC dI cs _ x) (cwS 1 hG (vq_gS vq_t90 vq_t91 vq_t1 vq_t92) rfl rfl rfl (by decide +kernel) ⟨Nat.le_of_ble_eq_true rfl, Nat.le_of_ble_eq_true rfl⟩) (vq_preSr (wc := []) hCx hP (vq_wk hS hA) hA [] rfl) rfl rfl hl.1 rfl (lv_room (Nat.le_of_ble_eq_true rfl)) d_BR_mix_1 ⟨Nat.le_of_ble_eq_true rfl, Nat.le_of_ble_eq_true rfl⟩) hP hS hA0 (fun E ce q9 H locs x_1 hP hS h91 h92 h93 => vx_out (fun x h => (htb x h).elim) hlocks h91 h92 h93 (fun t ht hvm => vq_Xof (by obtain ⟨rfl, y9⟩ := x_1; simp only [X_mix, if_neg y9]) (hS.F ht)) (vq_wk hS hA).2.2 (Nat.le_of_ble_eq_true rfl) (Nat.le_of_ble_eq_true rfl)) (fun H locs w_1 hP hS => ?_)
  refine W.widen (k := 1) (n := 6) (Nat.le_of_ble_eq_true rfl) (Nat.le_of_ble_eq_true rfl) ?_
  refine lv_iload_n hx hb d_BR_mix_4 rfl (lv_at hl 2 rfl) ?_
  refine mx_rv (vx_runS (As := [.int y]) (rest := []) ⟨hx, hb, hml, hown, hG⟩ (c_needMaterial l hlT dC dI cs _ y) (cwS 1 hG (vq_gS vq_t90 vq_t91 vq_t1 vq_t92) rfl rfl rfl (by decide +kernel) ⟨Nat.le_of_ble_eq_true rfl, Nat.le_of_ble_eq_true rfl⟩) (vq_preSr (wc := []) hCx hP (vq_wk hS hA) hA [] rfl) rfl rfl hl.1 rfl (lv_room (Nat.le_of_ble_eq_true rfl)) d_BR_mix_5 ⟨Nat.le_of_ble_eq_true rfl, Nat.le_of_ble_eq_true rfl⟩) hP hS hA0 (fun E ce q9 H locs x_5 hP hS h91 h92 h93 => vx_out (fun x h => (htb x h).elim) hlocks h91 h92 h93 (fun t ht hvm => vq_Xof (by obtain ⟨rfl, y9⟩ := x_5; simp only [X_mix, if_pos w_1, if_neg y9]) (hS.F ht)) (vq_wk hS hA).2.2 (Nat.le_of_ble_eq_true rfl) (Nat.le_of_ble_eq_true rfl)) (fun H locs w_5 hP hS => ?_)
  refine W.widen (k := 2) (n := 12) (Nat.le_of_ble_eq_true rfl) (Nat.le_of_ble_eq_true rfl) ?_
  refine lv_iload_n hx hb d_BR_mix_8 rfl (lv_at hl 1 rfl) ?_
  refine lv_iload_n hx hb d_BR_mix_9 rfl (lv_at hl 2 rfl) ?_
  refine lv_icmp_ne (tgt := 23) hx hb d_BR_mix_10 (by decide) (fun c_10 => ?_) (fun c_10 => ?_)
  · skip
    refine lv_iload_n hx hb d_BR_mix_23 rfl (lv_at hl 3 rfl) ?_
    refine mx_rv (vx_runS (As := [.int k]) (rest := []) ⟨hx, hb, hml, hown, hG⟩ (c_needElement l hlT dC dI cs _ k) (cwS 1 hG (vq_gS vq_t188 vq_t189 vq_t1 vq_t190) rfl rfl rfl (by decide +kernel) ⟨Nat.le_of_ble_eq_true rfl, Nat.le_of_ble_eq_true rfl⟩) (vq_preSr (wc := []) hCx hP (vq_wk hS hA) hA [] rfl) rfl rfl hl.1 rfl (lv_room (Nat.le_of_ble_eq_true rfl)) d_BR_mix_24 ⟨Nat.le_of_ble_eq_true rfl, Nat.le_of_ble_eq_true rfl⟩) hP hS hA0 (fun E ce q9 H locs x_24 hP hS h91 h92 h93 => vx_out (fun x h => (htb x h).elim) hlocks h91 h92 h93 (fun t ht hvm => vq_Xof (by obtain ⟨rfl, y9⟩ := x_24; simp only [X_mix, if_pos w_1, if_pos w_5, if_neg c_10, if_neg y9]) (hS.F ht)) (vq_wk hS hA).2.2 (Nat.le_of_ble_eq_true rfl) (Nat.le_of_ble_eq_true rfl)) (fun H locs w_24 hP hS => ?_)
    refine W.widen (k := 3) (n := 18) (Nat.le_of_ble_eq_true rfl) (Nat.le_of_ble_eq_true rfl) ?_
    refine lv_iload hx hb d_BR_mix_27 (lv_at hl 5 rfl) ?_
    refine mx_rv (vx_runS (As := [.int q]) (rest := []) ⟨hx, hb, hml, hown, hG⟩ (c_needPart l hlT dC dI cs _ q) (cwS 1 hG (vq_gS vq_t367 vq_t368 vq_t1 vq_t369) rfl rfl rfl (by decide +kernel) ⟨Nat.le_of_ble_eq_true rfl, Nat.le_of_ble_eq_true rfl⟩) (vq_preSr (wc := []) hCx hP (vq_wk hS hA) hA [] rfl) rfl rfl hl.1 rfl (lv_room (Nat.le_of_ble_eq_true rfl)) d_BR_mix_29 ⟨Nat.le_of_ble_eq_true rfl, Nat.le_of_ble_eq_true rfl⟩) hP hS hA0 (fun E ce q9 H locs x_29 hP hS h91 h92 h93 => vx_out (fun x h => (htb x h).elim) hlocks h91 h92 h93 (fun t ht hvm => vq_Xof (by obtain ⟨rfl, y9⟩ := x_29; simp only [X_mix, if_pos w_1, if_pos w_5, if_neg c_10, if_pos w_24, if_neg y9]) (hS.F ht)) (vq_wk hS hA).2.2 (Nat.le_of_ble_eq_true rfl) (Nat.le_of_ble_eq_true rfl)) (fun H locs w_29 hP hS => ?_)
    refine W.widen (k := 4) (n := 24) (Nat.le_of_ble_eq_true rfl) (Nat.le_of_ble_eq_true rfl) ?_
    refine lv_iload hx hb d_BR_mix_32 (lv_at hl 4 rfl) ?_
    refine lv_iconst (v := 0) hx hb d_BR_mix_34 (by decide) ?_
    refine lv_sipush (v := 10000) hx hb d_BR_mix_35 (by decide) ?_
    refine mx_rv (vx_runS (As := [.int aim, .int 0, .int 10000]) (rest := []) ⟨hx, hb, hml, hown, hG⟩ (c_needRange l hlT dC dI cs _ aim 0 10000) (cwS 3 hG (vq_gS vq_t162 vq_t163 vq_t1 vq_t164) rfl rfl rfl (by decide +kernel) ⟨Nat.le_of_ble_eq_true rfl, Nat.le_of_ble_eq_true rfl⟩) (vq_preSr (wc := []) hCx hP (vq_wk hS hA) hA [] rfl) rfl rfl hl.1 rfl (lv_room (Nat.le_of_ble_eq_true rfl)) d_BR_mix_38 ⟨Nat.le_of_ble_eq_true rfl, Nat.le_of_ble_eq_true rfl⟩) hP hS hA0 (fun E ce q9 H locs x_38 hP hS h91 h92 h93 => vx_out (fun x h => (htb x h).elim) hlocks h91 h92 h93 (fun t ht hvm => vq_Xof (by obtain ⟨rfl, y9⟩ := x_38; simp only [X_mix, if_pos w_1, if_pos w_5, if_neg c_10, if_pos w_24, if_pos w_29, if_neg y9]) (hS.F ht)) (vq_wk hS hA).2.2 (Nat.le_of_ble_eq_true rfl) (Nat.le_of_ble_eq_true rfl)) (fun H locs w_38 hP hS => ?_)
    refine W.widen (k := 5) (n := 30) (Nat.le_of_ble_eq_true rfl) (Nat.le_of_ble_eq_true rfl) ?_
    refine lv_aload_n hx hb d_BR_mix_41 rfl (lv_at hl 0 rfl) ?_
    refine va_get (D := (dC, dI)) (ci := 0) (v := .ref aSh) (C := R_BR) (T := F_BR) (N := 11) hx hb hG i_BR hown hK hP 0 rfl rfl 1 (by decide) (hG _ vq_t48) (fun _ h9 => h9) rfl d_BR_mix_42 ?_
    refine lv_iload_n hx hb d_BR_mix_45 rfl (lv_at hl 1 rfl) ?_
    refine lv_iconst (v := 4) hx hb d_BR_mix_46 (by decide) ?_
    refine lv_imul hx hb d_BR_mix_47 ?_
    refine lv_iload_n hx hb d_BR_mix_48 rfl (lv_at hl 3 rfl) ?_
    refine lv_iadd hx hb d_BR_mix_49 ?_
    refine va_iald (D := (dC, dI)) hx hb hK hP 1 0 rfl rfl (vq_ixE w_1 w_24) d_BR_mix_50 ?_
    refine lv_istore (lv' := [(6, .int (fSh ((x * 4) + k).toNatClampNeg)), (0, .ref h0), (1, .int x), (2, .int y), (3, .int k), (4, .int aim), (5, .int q)]) hx hb d_BR_mix_51 hl (by decide) rfl (fun ls hl => ?_)
    refine lv_aload_n hx hb d_BR_mix_53 rfl (lv_at hl 1 rfl) ?_
    refine va_get (D := (dC, dI)) (ci := 0) (v := .ref aSh) (C := R_BR) (T := F_BR) (N := 11) hx hb hG i_BR hown hK hP 0 rfl rfl 1 (by decide) (hG _ vq_t48) (fun _ h9 => h9) rfl d_BR_mix_54 ?_
    refine lv_iload_n hx hb d_BR_mix_57 rfl (lv_at hl 3 rfl) ?_
    refine lv_iconst (v := 4) hx hb d_BR_mix_58 (by decide) ?_
    refine lv_imul hx hb d_BR_mix_59 ?_
    refine lv_iload_n hx hb d_BR_mix_60 rfl (lv_at hl 4 rfl) ?_
    refine lv_iadd hx hb d_BR_mix_61 ?_
    refine va_iald (D := (dC, dI)) hx hb hK hP 1 0 rfl rfl (vq_ixE w_5 w_24) d_BR_mix_62 ?_
    refine lv_istore (lv' := [(7, .int (fSh ((y * 4) + k).toNatClampNeg)), (6, .int (fSh ((x * 4) + k).toNatClampNeg)), (0, .ref h0), (1, .int x), (2, .int y), (3, .int k), (4, .int aim), (5, .int q)]) hx hb d_BR_mix_63 hl (by decide) rfl (fun ls hl => ?_)
    refine lv_iload hx hb d_BR_mix_65 (lv_at hl 1 rfl) ?_
    refine lv_iload hx hb d_BR_mix_67 (lv_at hl 0 rfl) ?_
    refine lv_icmp_eq (tgt := 96) hx hb d_BR_mix_69 (by decide) (fun c_69 => ?_) (fun c_69 => ?_)
    · skip
      exact vq_thr hx hb hlT hown hG hCx hA vq_tw17 hS (by rw [hml]; exact hl.1) d_BR_mix_96 d_BR_mix_99 d_BR_mix_100 d_BR_mix_102 d_BR_mix_105 htb hlocks (Nat.le_of_ble_eq_true rfl) (Nat.le_of_ble_eq_true rfl) (Nat.le_of_ble_eq_true rfl) (Nat.le_of_ble_eq_true rfl) (by simp only [X_mix, if_pos w_1, if_pos w_5, if_neg c_10, if_pos w_24, if_pos w_29, if_pos w_38, if_pos c_69]) (Nat.le_of_ble_eq_true rfl) (Nat.le_of_ble_eq_true rfl)
    · skip
      refine lv_iload hx hb d_BR_mix_72 (lv_at hl 6 rfl) ?_
      refine lv_iload hx hb d_BR_mix_74 (lv_at hl 1 rfl) ?_
      refine lv_iload hx hb d_BR_mix_76 (lv_at hl 0 rfl) ?_
      refine va_mmin hx hb (by rw [hml]; exact hl.1.symm) hown (hG _ vq_t425) (hG _ vq_t426) (hG _ vq_t12) (hG _ vq_t427) (Nat.le_of_ble_eq_true rfl) (Nat.le_of_ble_eq_true rfl) (Nat.le_of_ble_eq_true rfl) (Nat.le_of_ble_eq_true rfl) d_BR_mix_78 ?_
      refine lv_icmp_lt (tgt := 96) hx hb d_BR_mix_81 (by decide) (fun c_81 => ?_) (fun c_81 => ?_)
      · skip
        exact vq_thr hx hb hlT hown hG hCx hA vq_tw17 hS (by rw [hml]; exact hl.1) d_BR_mix_96 d_BR_mix_99 d_BR_mix_100 d_BR_mix_102 d_BR_mix_105 htb hlocks (Nat.le_of_ble_eq_true rfl) (Nat.le_of_ble_eq_true rfl) (Nat.le_of_ble_eq_true rfl) (Nat.le_of_ble_eq_true rfl) (by simp only [X_mix, if_pos w_1, if_pos w_5, if_neg c_10, if_pos w_24, if_pos w_29, if_pos w_38, if_neg c_69, if_pos c_81]) (Nat.le_of_ble_eq_true rfl) (Nat.le_of_ble_eq_true rfl)
      · skip
        refine lv_iload hx hb d_BR_mix_84 (lv_at hl 6 rfl) ?_
        refine lv_iload hx hb d_BR_mix_86 (lv_at hl 1 rfl) ?_
        refine lv_iload hx hb d_BR_mix_88 (lv_at hl 0 rfl) ?_
        refine va_mmax hx hb (by rw [hml]; exact hl.1.symm) hown (hG _ vq_t428) (hG _ vq_t429) (hG _ vq_t12) (hG _ vq_t430) (Nat.le_of_ble_eq_true rfl) (Nat.le_of_ble_eq_true rfl) (Nat.le_of_ble_eq_true rfl) (Nat.le_of_ble_eq_true rfl) d_BR_mix_90 ?_
        refine lv_icmp_le (tgt := 106) hx hb d_BR_mix_93 (by decide) (fun c_93 => ?_) (fun c_93 => ?_)
        · skip
          refine lv_iload hx hb d_BR_mix_106 (lv_at hl 6 rfl) ?_
          refine lv_iload hx hb d_BR_mix_108 (lv_at hl 0 rfl) ?_
          refine lv_isub hx hb d_BR_mix_110 ?_
          refine lv_i2l hx hb d_BR_mix_111 rfl ?_
          refine lv_iload hx hb d_BR_mix_112 (lv_at hl 1 rfl) ?_
          refine lv_iload hx hb d_BR_mix_114 (lv_at hl 0 rfl) ?_
          refine lv_isub hx hb d_BR_mix_116 ?_
          refine lv_i2l hx hb d_BR_mix_117 rfl ?_
          refine lv_iload hx hb d_BR_mix_118 (lv_at hl 7 rfl) ?_
          refine mk_rl (va_runS (As := [.long ((aim - (fSh ((y * 4) + k).toNatClampNeg)).toInt64), .long (((fSh ((x * 4) + k).toNatClampNeg) - (fSh ((y * 4) + k).toNatClampNeg)).toInt64), .int q]) (rest := []) ⟨hx, hb, hml, hown, hG⟩ (c_lowestTerms l dC dI cs _ ((aim - (fSh ((y * 4) + k).toNatClampNeg)).toInt64) (((fSh ((x * 4) + k).toNatClampNeg) - (fSh ((y * 4) + k).toNatClampNeg)).toInt64) q) (cwS 3 hG (vq_gS vq_t376 vq_t377 vq_t1 vq_t378) rfl rfl rfl (by decide +kernel) ⟨Nat.le_of_ble_eq_true rfl, Nat.le_of_ble_eq_true rfl⟩) (vq_preSr (wc := []) hCx hP (vq_wk hS hA) hA [] rfl) rfl rfl hl.1 rfl (lv_room (Nat.le_of_ble_eq_true rfl)) d_BR_mix_120 ⟨Nat.le_of_ble_eq_true rfl, Nat.le_of_ble_eq_true rfl⟩) hP hS hA0 (fun r_120 H locs w_120 hP hS => ?_)
          subst w_120
          refine vx_ret ?_
          refine W.widen (k := 6) (n := 36) (Nat.le_of_ble_eq_true rfl) (Nat.le_of_ble_eq_true rfl) ?_
          exact W.lret (v := lowF ((aim - (fSh ((y * 4) + k).toNatClampNeg)).toInt64) (((fSh ((x * 4) + k).toNatClampNeg) - (fSh ((y * 4) + k).toNatClampNeg)).toInt64) q) hx hb hr (fun t ht hW => ⟨⟨lowF ((aim - (fSh ((y * 4) + k).toNatClampNeg)).toInt64) (((fSh ((x * 4) + k).toNatClampNeg) - (fSh ((y * 4) + k).toNatClampNeg)).toInt64) q, (), rfl, ⟨by rfl, by simp only [X_mix, if_pos w_1, if_pos w_5, if_neg c_10, if_pos w_24, if_pos w_29, if_pos w_38, if_neg c_69, if_neg c_81, if_pos c_93]⟩, trivial⟩, hS.F ht⟩) hS.2.2 d_BR_mix_123
        · skip
          exact vq_thr hx hb hlT hown hG hCx hA vq_tw17 hS (by rw [hml]; exact hl.1) d_BR_mix_96 d_BR_mix_99 d_BR_mix_100 d_BR_mix_102 d_BR_mix_105 htb hlocks (Nat.le_of_ble_eq_true rfl) (Nat.le_of_ble_eq_true rfl) (Nat.le_of_ble_eq_true rfl) (Nat.le_of_ble_eq_true rfl) (by simp only [X_mix, if_pos w_1, if_pos w_5, if_neg c_10, if_pos w_24, if_pos w_29, if_pos w_38, if_neg c_69, if_neg c_81, if_neg c_93]) (Nat.le_of_ble_eq_true rfl) (Nat.le_of_ble_eq_true rfl)
  · skip
    exact vq_thr hx hb hlT hown hG hCx hA vq_tw18 hS (by rw [hml]; exact hl.1) d_BR_mix_13 d_BR_mix_16 d_BR_mix_17 d_BR_mix_19 d_BR_mix_22 htb hlocks (Nat.le_of_ble_eq_true rfl) (Nat.le_of_ble_eq_true rfl) (Nat.le_of_ble_eq_true rfl) (Nat.le_of_ble_eq_true rfl) (by simp only [X_mix, if_pos w_1, if_pos w_5, if_pos c_10]) (Nat.le_of_ble_eq_true rfl) (Nat.le_of_ble_eq_true rfl)
set_option maxHeartbeats 4000000 in
set_option maxRecDepth 100000 in
/-- point -/
theorem c_point (l : Launch) (hlT : l.stackTraces = false) (dC : Nat → ClassId) (dI : Nat → Nat → Nat) (cs : Nat → ClassId) (sz : Nat) (h0 : Nat) (aMo : Nat) (aSh : Nat) (aLa : Nat) (aDy : Nat) (aMa : Nat) (aKi : Nat) (aPi : Nat) (aLn : Nat) (zCn : Int32) (zPc : Int32) (zTo : Int32) (zN : Int32) (zX : Int64) (zY : Int64) (zXX : Int64) (zXY : Int64) (x : Int32) (y : Int32) : vx_Met l y_BR_point w_BR_point ({ frames := 7, cells := 2, slots := 12, locals := 104 }) (vq_Pre (dC, dI) cs [(h0, .inr (0, [.ref aMo, .ref aSh, .ref aLa, .ref aDy, .ref aMa, .ref aKi, .int zCn, .ref aPi, .int zPc, .ref aLn, .int zTo])), (aLn, .inr (2, [.int zN, .long zX, .long zY, .long zXX, .long zXY]))] sz [.ref h0, .int x, .int y]) (va_Qi (fun (r : Int32) (_ : Unit) => r = (zN + 1) ∧ X_point zN x y = none) (vq_B (dC, dI) cs (va_A [(h0, .inr (0, [.ref aMo, .ref aSh, .ref aLa, .ref aDy, .ref aMa, .ref aKi, .int zCn, .ref aPi, .int zPc, .ref aLn, .int zTo])), (aLn, .inr (2, [.int zN, .long zX, .long zY, .long zXX, .long zXY]))] sz) (fun _ => [(h0, .inr (0, [.ref aMo, .ref aSh, .ref aLa, .ref aDy, .ref aMa, .ref aKi, .int zCn, .ref aPi, .int zPc, .ref aLn, .int zTo])), (aLn, .inr (2, [.int (zN + 1), .long (zX + x.toInt64), .long (zY + y.toInt64), .long (zXX + (x.toInt64 * x.toInt64)), .long (zXY + (x.toInt64 * y.toInt64))]))])) (va_A [(h0, .inr (0, [.ref aMo, .ref aSh, .ref aLa, .ref aDy, .ref aMa, .ref aKi, .int zCn, .ref aPi, .int zPc, .ref aLn, .int zTo])), (aLn, .inr (2, [.int zN, .long zX, .long zY, .long zXX, .long zXY]))] sz)) (vq_X (fun E => X_point zN x y = some E) sz) 2 12 (va_A [(h0, .inr (0, [.ref aMo, .ref aSh, .ref aLa, .ref aDy, .ref aMa, .ref aKi, .int zCn, .ref aPi, .int zPc, .ref aLn, .int zTo])), (aLn, .inr (2, [.int zN, .long zX, .long zY, .long zXX, .long zXY]))] sz) := by
  refine vx_ofW (cc := b_BR_point) (maxL := 3) (ret := (some .int)) (by decide) rfl ?_
  intro p e s m args below meth c s₁ B hml htb hv
  obtain ⟨rfl, hsz, hP, hD0, hCx⟩ := hv
  have hx := B.exec
  have hb := B.bytes
  have hr := B.returns
  have hG := vq_hG (atoms_spec (ws := w_BR_point) B.pre)
  have hown : s.vm.findClass R_BR = some m.cls := findClass_of_methodNamed B.named
  have hlocks := B.notSynchronized
  subst hsz
  have hK := hCx.1
  have hD := hD0.self (sz := s.heap.size)
  generalize hAe : va_A [(h0, .inr (0, [.ref aMo, .ref aSh, .ref aLa, .ref aDy, .ref aMa, .ref aKi, .int zCn, .ref aPi, .int zPc, .ref aLn, .int zTo])), (aLn, .inr (2, [.int zN, .long zX, .long zY, .long zXX, .long zXY]))] s.heap.size = A at hD hCx ⊢
  have hA : ∀ q : Nat, s.heap.size ≤ q → A q := fun q h => by rw [← hAe]; exact Or.inr h
  have hA0 : ∀ q : Nat, s.heap.size ≤ q → va_A [] s.heap.size q := fun q h => Or.inr h
  have hS : va_S (va_A [] s.heap.size) s.heap s.heap [] := va_S.rf
  have hl := lv_entry ([.ref h0, .int x, .int y]) (n := 3) (Nat.le_of_ble_eq_true rfl)
  rw [lg_entry_eq]
  generalize (lg_sl ([.ref h0, .int x, .int y]) ++ List.replicate (3 - (lg_sl ([.ref h0, .int x, .int y])).length) Slot.unset).toArray = ls at hl ⊢
  have hl : lv_has ls 3 [(0, .ref h0), (1, .int x), (2, .int y)] := hl
  have hP : va_P (dC, dI) vq_cl [(h0, .inr (0, [.ref aMo, .ref aSh, .ref aLa, .ref aDy, .ref aMa, .ref aKi, .int zCn, .ref aPi, .int zPc, .ref aLn, .int zTo])), (aLn, .inr (2, [.int zN, .long zX, .long zY, .long zXX, .long zXY]))] s.heap := hP
  refine lv_aload_n hx hb d_BR_point_0 rfl (lv_at hl 0 rfl) ?_
  refine va_get (D := (dC, dI)) (ci := 0) (v := .ref aLn) (C := R_BR) (T := F_BR) (N := 11) hx hb hG i_BR hown hK hP 0 rfl rfl 9 (by decide) (hG _ vq_t56) (fun _ h9 => h9) rfl d_BR_point_1 ?_
  refine va_getN (D := (dC, dI)) (ci := 2) (v := .int zN) (C := R_LI) (T := F_LI) (N := 5) hx hb hG i_LI hown hK hP 1 rfl rfl 0 (by decide) (va_Nw.use rfl (hCx.2.1 _ vq_nf7)) (fun _ h9 => h9) rfl d_BR_point_4 ?_
  refine lv_bipush (v := 20) hx hb d_BR_point_7 (by decide) ?_
  refine lv_icmp_lt (tgt := 22) hx hb d_BR_point_9 (by decide) (fun c_9 => ?_) (fun c_9 => ?_)
  · skip
    refine lv_iload_n hx hb d_BR_point_22 rfl (lv_at hl 1 rfl) ?_
    refine lv_iconst (v := 0) hx hb d_BR_point_23 (by decide) ?_
    refine lv_sipush (v := 10000) hx hb d_BR_point_24 (by decide) ?_
    refine mx_rv (vx_runS (As := [.int x, .int 0, .int 10000]) (rest := []) ⟨hx, hb, hml, hown, hG⟩ (c_needRange l hlT dC dI cs _ x 0 10000) (cwS 3 hG (vq_gS vq_t162 vq_t163 vq_t1 vq_t164) rfl rfl rfl (by decide +kernel) ⟨Nat.le_of_ble_eq_true rfl, Nat.le_of_ble_eq_true rfl⟩) (vq_preSr (wc := []) hCx hP (vq_wk hS hA) hA [] rfl) rfl rfl hl.1 rfl (lv_room (Nat.le_of_ble_eq_true rfl)) d_BR_point_27 ⟨Nat.le_of_ble_eq_true rfl, Nat.le_of_ble_eq_true rfl⟩) hP hS hA0 (fun E ce q9 H locs x_27 hP hS h91 h92 h93 => vx_out (fun x h => (htb x h).elim) hlocks h91 h92 h93 (fun t ht hvm => vq_Xof (by obtain ⟨rfl, y9⟩ := x_27; simp only [X_point, if_pos c_9, if_neg y9]) (hS.F ht)) (vq_wk hS hA).2.2 (Nat.le_of_ble_eq_true rfl) (Nat.le_of_ble_eq_true rfl)) (fun H locs w_27 hP hS => ?_)
    refine W.widen (k := 1) (n := 6) (Nat.le_of_ble_eq_true rfl) (Nat.le_of_ble_eq_true rfl) ?_
    refine lv_iload_n hx hb d_BR_point_30 rfl (lv_at hl 2 rfl) ?_
    refine lv_iconst (v := 0) hx hb d_BR_point_31 (by decide) ?_
    refine lv_sipush (v := 10000) hx hb d_BR_point_32 (by decide) ?_
    refine mx_rv (vx_runS (As := [.int y, .int 0, .int 10000]) (rest := []) ⟨hx, hb, hml, hown, hG⟩ (c_needRange l hlT dC dI cs _ y 0 10000) (cwS 3 hG (vq_gS vq_t162 vq_t163 vq_t1 vq_t164) rfl rfl rfl (by decide +kernel) ⟨Nat.le_of_ble_eq_true rfl, Nat.le_of_ble_eq_true rfl⟩) (vq_preSr (wc := []) hCx hP (vq_wk hS hA) hA [] rfl) rfl rfl hl.1 rfl (lv_room (Nat.le_of_ble_eq_true rfl)) d_BR_point_35 ⟨Nat.le_of_ble_eq_true rfl, Nat.le_of_ble_eq_true rfl⟩) hP hS hA0 (fun E ce q9 H locs x_35 hP hS h91 h92 h93 => vx_out (fun x h => (htb x h).elim) hlocks h91 h92 h93 (fun t ht hvm => vq_Xof (by obtain ⟨rfl, y9⟩ := x_35; simp only [X_point, if_pos c_9, if_pos w_27, if_neg y9]) (hS.F ht)) (vq_wk hS hA).2.2 (Nat.le_of_ble_eq_true rfl) (Nat.le_of_ble_eq_true rfl)) (fun H locs w_35 hP hS => ?_)
    refine W.widen (k := 2) (n := 12) (Nat.le_of_ble_eq_true rfl) (Nat.le_of_ble_eq_true rfl) ?_
    refine lv_aload_n hx hb d_BR_point_38 rfl (lv_at hl 0 rfl) ?_
    refine va_get (D := (dC, dI)) (ci := 0) (v := .ref aLn) (C := R_BR) (T := F_BR) (N := 11) hx hb hG i_BR hown hK hP 0 rfl rfl 9 (by decide) (hG _ vq_t56) (fun _ h9 => h9) rfl d_BR_point_39 ?_
    refine lv_iload_n hx hb d_BR_point_42 rfl (lv_at hl 1 rfl) ?_
    refine lv_iload_n hx hb d_BR_point_43 rfl (lv_at hl 2 rfl) ?_
    have hS := vq_wk hS hA
    refine mk_wv (va_runV (As := [.int x, .int y]) (rest := []) ⟨hx, hb, hml, hown, hG⟩ (c_addPoint l dC dI cs _ aLn zN zX zY zXX zXY x y) (cwV 2 hG (vq_gV vq_t440 vq_t441 vq_t442 vq_t2 vq_t443) rfl rfl rfl (by decide +kernel) ⟨Nat.le_of_ble_eq_true rfl, Nat.le_of_ble_eq_true rfl⟩) (vq_preVw (wc := [(aLn, .inr (2, [.int zN, .long zX, .long zY, .long zXX, .long zXY]))]) (va_recv hK hP (ci := 2) (q0 := 1) rfl rfl) hCx hP hD hS hA [1] rfl rfl (by decide)) rfl rfl hl.1 rfl (lv_room (Nat.le_of_ble_eq_true rfl)) d_BR_point_44 ⟨Nat.le_of_ble_eq_true rfl, Nat.le_of_ble_eq_true rfl⟩) hP hD hS hA [1] [0] rfl rfl (by decide) (by decide) (fun _ H locs w_44 hP hD hS => ?_)
    have hP : va_P (dC, dI) vq_cl [(h0, .inr (0, [.ref aMo, .ref aSh, .ref aLa, .ref aDy, .ref aMa, .ref aKi, .int zCn, .ref aPi, .int zPc, .ref aLn, .int zTo])), (aLn, .inr (2, [.int (zN + 1), .long (zX + x.toInt64), .long (zY + y.toInt64), .long (zXX + (x.toInt64 * x.toInt64)), .long (zXY + (x.toInt64 * y.toInt64))]))] H := hP
    have hD : va_D A [(h0, .inr (0, [.ref aMo, .ref aSh, .ref aLa, .ref aDy, .ref aMa, .ref aKi, .int zCn, .ref aPi, .int zPc, .ref aLn, .int zTo])), (aLn, .inr (2, [.int (zN + 1), .long (zX + x.toInt64), .long (zY + y.toInt64), .long (zXX + (x.toInt64 * x.toInt64)), .long (zXY + (x.toInt64 * y.toInt64))]))] := hD
    refine lv_aload_n hx hb d_BR_point_47 rfl (lv_at hl 0 rfl) ?_
    refine va_get (D := (dC, dI)) (ci := 0) (v := .ref aLn) (C := R_BR) (T := F_BR) (N := 11) hx hb hG i_BR hown hK hP 0 rfl rfl 9 (by decide) (hG _ vq_t56) (fun _ h9 => h9) rfl d_BR_point_48 ?_
    refine va_getN (D := (dC, dI)) (ci := 2) (v := .int (zN + 1)) (C := R_LI) (T := F_LI) (N := 5) hx hb hG i_LI hown hK hP 1 rfl rfl 0 (by decide) (va_Nw.use rfl (hCx.2.1 _ vq_nf7)) (fun _ h9 => h9) rfl d_BR_point_51 ?_
    refine vx_ret ?_
    refine W.widen (k := 2) (n := 12) (Nat.le_of_ble_eq_true rfl) (Nat.le_of_ble_eq_true rfl) ?_
    have hP9 : va_P (dC, dI) vq_cl [(h0, .inr (0, [.ref aMo, .ref aSh, .ref aLa, .ref aDy, .ref aMa, .ref aKi, .int zCn, .ref aPi, .int zPc, .ref aLn, .int zTo])), (aLn, .inr (2, [.int (zN + 1), .long (zX + x.toInt64), .long (zY + y.toInt64), .long (zXX + (x.toInt64 * x.toInt64)), .long (zXY + (x.toInt64 * y.toInt64))]))] _ := hP.sub [0, 1] rfl
    have hD9 : va_D A [(h0, .inr (0, [.ref aMo, .ref aSh, .ref aLa, .ref aDy, .ref aMa, .ref aKi, .int zCn, .ref aPi, .int zPc, .ref aLn, .int zTo])), (aLn, .inr (2, [.int (zN + 1), .long (zX + x.toInt64), .long (zY + y.toInt64), .long (zXX + (x.toInt64 * x.toInt64)), .long (zXY + (x.toInt64 * y.toInt64))]))] := hD.sub [0, 1] (by decide) rfl
    exact W.iret (v := (zN + 1)) hx hb hr (fun t ht hW => ⟨⟨(zN + 1), (), rfl, ⟨rfl, by simp only [X_point, if_pos c_9, if_pos w_27, if_pos w_35]⟩, ⟨by rw [ht]; exact hP9, hD9⟩⟩, hS.F ht⟩) hS.2.2 d_BR_point_54
  · skip
    exact vq_thr hx hb hlT hown hG hCx hA vq_tw19 hS (by rw [hml]; exact hl.1) d_BR_point_12 d_BR_point_15 d_BR_point_16 d_BR_point_18 d_BR_point_21 htb hlocks (Nat.le_of_ble_eq_true rfl) (Nat.le_of_ble_eq_true rfl) (Nat.le_of_ble_eq_true rfl) (Nat.le_of_ble_eq_true rfl) (by simp only [X_point, if_neg c_9]) (Nat.le_of_ble_eq_true rfl) (Nat.le_of_ble_eq_true rfl)
set_option maxHeartbeats 4000000 in
set_option maxRecDepth 100000 in
/-- fit -/
theorem c_fit (l : Launch) (hlT : l.stackTraces = false) (dC : Nat → ClassId) (dI : Nat → Nat → Nat) (cs : Nat → ClassId) (sz : Nat) (h0 : Nat) (aMo : Nat) (aSh : Nat) (aLa : Nat) (aDy : Nat) (aMa : Nat) (aKi : Nat) (aPi : Nat) (aLn : Nat) (zCn : Int32) (zPc : Int32) (zTo : Int32) (zN : Int32) (zX : Int64) (zY : Int64) (zXX : Int64) (zXY : Int64) (w : Int32) (q : Int32) : vx_Met l y_BR_fit w_BR_fit ({ frames := 7, cells := 2, slots := 12, locals := 102 }) (vq_PreR (dC, dI) cs [(h0, .inr (0, [.ref aMo, .ref aSh, .ref aLa, .ref aDy, .ref aMa, .ref aKi, .int zCn, .ref aPi, .int zPc, .ref aLn, .int zTo])), (aLn, .inr (2, [.int zN, .long zX, .long zY, .long zXX, .long zXY]))] sz [.ref h0, .int w, .int q]) (va_Ql (fun (r : Int64) (_ : Unit) => r = lowF (fitF w zN zX zY zXX zXY) ((zN.toInt64 * zXX) - (zX * zX)) q ∧ X_fit w q ((zN.toInt64 * zXX) - (zX * zX)) = none) (fun _ _ => True) (va_A [] sz)) (vq_X (fun E => X_fit w q ((zN.toInt64 * zXX) - (zX * zX)) = some E) sz) 2 12 (va_A [] sz) := by
  refine vx_ofW (cc := b_BR_fit) (maxL := 5) (ret := (some .long)) (by decide) rfl ?_
  intro p e s m args below meth c s₁ B hml htb hv
  obtain ⟨rfl, hsz, hP, hCx⟩ := hv
  have hx := B.exec
  have hb := B.bytes
  have hr := B.returns
  have hG := vq_hG (atoms_spec (ws := w_BR_fit) B.pre)
  have hown : s.vm.findClass R_BR = some m.cls := findClass_of_methodNamed B.named
  have hlocks := B.notSynchronized
  subst hsz
  have hK := hCx.1
  have hA : ∀ q : Nat, s.heap.size ≤ q → va_A [] s.heap.size q := fun q h => Or.inr h
  have hA0 : ∀ q : Nat, s.heap.size ≤ q → va_A [] s.heap.size q := fun q h => Or.inr h
  have hS : va_S (va_A [] s.heap.size) s.heap s.heap [] := va_S.rf
  have hl := lv_entry ([.ref h0, .int w, .int q]) (n := 5) (Nat.le_of_ble_eq_true rfl)
  rw [lg_entry_eq]
  generalize (lg_sl ([.ref h0, .int w, .int q]) ++ List.replicate (5 - (lg_sl ([.ref h0, .int w, .int q])).length) Slot.unset).toArray = ls at hl ⊢
  have hl : lv_has ls 5 [(0, .ref h0), (1, .int w), (2, .int q)] := hl
  have hP : va_P (dC, dI) vq_cl [(h0, .inr (0, [.ref aMo, .ref aSh, .ref aLa, .ref aDy, .ref aMa, .ref aKi, .int zCn, .ref aPi, .int zPc, .ref aLn, .int zTo])), (aLn, .inr (2, [.int zN, .long zX, .long zY, .long zXX, .long zXY]))] s.heap := hP
  refine lv_iload_n hx hb d_BR_fit_0 rfl (lv_at hl 1 rfl) ?_
  refine lv_if_lt (tgt := 9) hx hb d_BR_fit_1 (by decide) (fun c_1 => ?_) (fun c_1 => ?_)
  · skip
    exact vq_thr hx hb hlT hown hG hCx hA vq_tw16 hS (by rw [hml]; exact hl.1) d_BR_fit_9 d_BR_fit_12 d_BR_fit_13 d_BR_fit_15 d_BR_fit_18 htb hlocks (Nat.le_of_ble_eq_true rfl) (Nat.le_of_ble_eq_true rfl) (Nat.le_of_ble_eq_true rfl) (Nat.le_of_ble_eq_true rfl) (by simp only [X_fit, if_pos c_1]) (Nat.le_of_ble_eq_true rfl) (Nat.le_of_ble_eq_true rfl)
  · skip
    refine lv_iload_n hx hb d_BR_fit_4 rfl (lv_at hl 1 rfl) ?_
    refine lv_iconst (v := 1) hx hb d_BR_fit_5 (by decide) ?_
    refine lv_icmp_le (tgt := 19) hx hb d_BR_fit_6 (by decide) (fun c_6 => ?_) (fun c_6 => ?_)
    · skip
      refine lv_iload_n hx hb d_BR_fit_19 rfl (lv_at hl 2 rfl) ?_
      refine mx_rv (vx_runS (As := [.int q]) (rest := []) ⟨hx, hb, hml, hown, hG⟩ (c_needPart l hlT dC dI cs _ q) (cwS 1 hG (vq_gS vq_t367 vq_t368 vq_t1 vq_t369) rfl rfl rfl (by decide +kernel) ⟨Nat.le_of_ble_eq_true rfl, Nat.le_of_ble_eq_true rfl⟩) (vq_preSr (wc := []) hCx hP (vq_wk hS hA) hA [] rfl) rfl rfl hl.1 rfl (lv_room (Nat.le_of_ble_eq_true rfl)) d_BR_fit_20 ⟨Nat.le_of_ble_eq_true rfl, Nat.le_of_ble_eq_true rfl⟩) hP hS hA0 (fun E ce q9 H locs x_20 hP hS h91 h92 h93 => vx_out (fun x h => (htb x h).elim) hlocks h91 h92 h93 (fun t ht hvm => vq_Xof (by obtain ⟨rfl, y9⟩ := x_20; simp only [X_fit, if_neg c_1, if_pos c_6, if_neg y9]) (hS.F ht)) (vq_wk hS hA).2.2 (Nat.le_of_ble_eq_true rfl) (Nat.le_of_ble_eq_true rfl)) (fun H locs w_20 hP hS => ?_)
      refine W.widen (k := 1) (n := 6) (Nat.le_of_ble_eq_true rfl) (Nat.le_of_ble_eq_true rfl) ?_
      refine lv_aload_n hx hb d_BR_fit_23 rfl (lv_at hl 0 rfl) ?_
      refine va_get (D := (dC, dI)) (ci := 0) (v := .ref aLn) (C := R_BR) (T := F_BR) (N := 11) hx hb hG i_BR hown hK hP 0 rfl rfl 9 (by decide) (hG _ vq_t56) (fun _ h9 => h9) rfl d_BR_fit_24 ?_
      refine mk_rl (va_runV (As := []) (rest := []) ⟨hx, hb, hml, hown, hG⟩ (c_lower l dC dI cs _ aLn zN zX zY zXX zXY) (cwV 0 hG (vq_gV vq_t451 vq_t452 vq_t453 vq_t2 vq_t454) rfl rfl rfl (by decide +kernel) ⟨Nat.le_of_ble_eq_true rfl, Nat.le_of_ble_eq_true rfl⟩) (vq_preVr (wc := [(aLn, .inr (2, [.int zN, .long zX, .long zY, .long zXX, .long zXY]))]) (va_recv hK hP (ci := 2) (q0 := 1) rfl rfl) hCx hP (vq_wk hS hA) hA [1] rfl) rfl rfl hl.1 rfl (lv_room (Nat.le_of_ble_eq_true rfl)) d_BR_fit_27 ⟨Nat.le_of_ble_eq_true rfl, Nat.le_of_ble_eq_true rfl⟩) hP hS hA0 (fun r_27 H locs w_27 hP hS => ?_)
      subst w_27
      refine lv_lstore_n (lv' := [(3, .long ((zN.toInt64 * zXX) - (zX * zX))), (0, .ref h0), (1, .int w), (2, .int q)]) hx hb d_BR_fit_30 rfl hl (by decide) rfl (fun ls hl => ?_)
      refine lv_lload_n hx hb d_BR_fit_31 rfl (lv_at hl 0 rfl) ?_
      refine lv_lconst (v := 0) hx hb d_BR_fit_32 (by decide) ?_
      refine W.lcmp hx hb d_BR_fit_33 ?_
      refine lv_if_ne (tgt := 47) hx hb d_BR_fit_34 (by decide) (fun c_34 => ?_) (fun c_34 => ?_)
      · skip
        have c_34 := (not_congr (lg_cmp_eq ((zN.toInt64 * zXX) - (zX * zX)) 0)).mp c_34
        refine lv_iload_n hx hb d_BR_fit_47 rfl (lv_at hl 2 rfl) ?_
        refine lv_if_ne (tgt := 61) hx hb d_BR_fit_48 (by decide) (fun c_48 => ?_) (fun c_48 => ?_)
        · skip
          refine lv_aload_n hx hb d_BR_fit_61 rfl (lv_at hl 1 rfl) ?_
          refine va_get (D := (dC, dI)) (ci := 0) (v := .ref aLn) (C := R_BR) (T := F_BR) (N := 11) hx hb hG i_BR hown hK hP 0 rfl rfl 9 (by decide) (hG _ vq_t56) (fun _ h9 => h9) rfl d_BR_fit_62 ?_
          refine mk_rl (va_runV (As := []) (rest := []) ⟨hx, hb, hml, hown, hG⟩ (c_heightUpper l dC dI cs _ aLn zN zX zY zXX zXY) (cwV 0 hG (vq_gV vq_t460 vq_t461 vq_t462 vq_t2 vq_t463) rfl rfl rfl (by decide +kernel) ⟨Nat.le_of_ble_eq_true rfl, Nat.le_of_ble_eq_true rfl⟩) (vq_preVr (wc := [(aLn, .inr (2, [.int zN, .long zX, .long zY, .long zXX, .long zXY]))]) (va_recv hK hP (ci := 2) (q0 := 1) rfl rfl) hCx hP (vq_wk hS hA) hA [1] rfl) rfl rfl hl.1 rfl (lv_room (Nat.le_of_ble_eq_true rfl)) d_BR_fit_65 ⟨Nat.le_of_ble_eq_true rfl, Nat.le_of_ble_eq_true rfl⟩) hP hS hA0 (fun r_65 H locs w_65 hP hS => ?_)
          subst w_65
          refine lv_lload_n hx hb d_BR_fit_68 rfl (lv_at hl 0 rfl) ?_
          refine lv_iload_n hx hb d_BR_fit_69 rfl (lv_at hl 3 rfl) ?_
          refine mk_rl (va_runS (As := [.long ((zY * zXX) - (zX * zXY)), .long ((zN.toInt64 * zXX) - (zX * zX)), .int q]) (rest := []) ⟨hx, hb, hml, hown, hG⟩ (c_lowestTerms l dC dI cs _ ((zY * zXX) - (zX * zXY)) ((zN.toInt64 * zXX) - (zX * zX)) q) (cwS 3 hG (vq_gS vq_t376 vq_t377 vq_t1 vq_t378) rfl rfl rfl (by decide +kernel) ⟨Nat.le_of_ble_eq_true rfl, Nat.le_of_ble_eq_true rfl⟩) (vq_preSr (wc := []) hCx hP (vq_wk hS hA) hA [] rfl) rfl rfl hl.1 rfl (lv_room (Nat.le_of_ble_eq_true rfl)) d_BR_fit_70 ⟨Nat.le_of_ble_eq_true rfl, Nat.le_of_ble_eq_true rfl⟩) hP hS hA0 (fun r_70 H locs w_70 hP hS => ?_)
          subst w_70
          refine vx_ret ?_
          refine W.widen (k := 2) (n := 12) (Nat.le_of_ble_eq_true rfl) (Nat.le_of_ble_eq_true rfl) ?_
          exact W.lret (v := lowF ((zY * zXX) - (zX * zXY)) ((zN.toInt64 * zXX) - (zX * zX)) q) hx hb hr (fun t ht hW => ⟨⟨lowF ((zY * zXX) - (zX * zXY)) ((zN.toInt64 * zXX) - (zX * zX)) q, (), rfl, ⟨by simp only [fitF, if_neg c_1, if_pos c_6, if_pos w_20, if_neg c_34, if_neg c_48], by simp only [X_fit, if_neg c_1, if_pos c_6, if_pos w_20, if_neg c_34, if_neg c_48]⟩, trivial⟩, hS.F ht⟩) hS.2.2 d_BR_fit_73
        · skip
          refine lv_aload_n hx hb d_BR_fit_51 rfl (lv_at hl 1 rfl) ?_
          refine va_get (D := (dC, dI)) (ci := 0) (v := .ref aLn) (C := R_BR) (T := F_BR) (N := 11) hx hb hG i_BR hown hK hP 0 rfl rfl 9 (by decide) (hG _ vq_t56) (fun _ h9 => h9) rfl d_BR_fit_52 ?_
          refine mk_rl (va_runV (As := []) (rest := []) ⟨hx, hb, hml, hown, hG⟩ (c_slopeUpper l dC dI cs _ aLn zN zX zY zXX zXY) (cwV 0 hG (vq_gV vq_t456 vq_t457 vq_t458 vq_t2 vq_t459) rfl rfl rfl (by decide +kernel) ⟨Nat.le_of_ble_eq_true rfl, Nat.le_of_ble_eq_true rfl⟩) (vq_preVr (wc := [(aLn, .inr (2, [.int zN, .long zX, .long zY, .long zXX, .long zXY]))]) (va_recv hK hP (ci := 2) (q0 := 1) rfl rfl) hCx hP (vq_wk hS hA) hA [1] rfl) rfl rfl hl.1 rfl (lv_room (Nat.le_of_ble_eq_true rfl)) d_BR_fit_55 ⟨Nat.le_of_ble_eq_true rfl, Nat.le_of_ble_eq_true rfl⟩) hP hS hA0 (fun r_55 H locs w_55 hP hS => ?_)
          subst w_55
          refine lv_goto (tgt := 68) hx hb d_BR_fit_58 (by decide) ?_
          refine lv_lload_n hx hb d_BR_fit_68 rfl (lv_at hl 0 rfl) ?_
          refine lv_iload_n hx hb d_BR_fit_69 rfl (lv_at hl 3 rfl) ?_
          refine mk_rl (va_runS (As := [.long ((zN.toInt64 * zXY) - (zX * zY)), .long ((zN.toInt64 * zXX) - (zX * zX)), .int q]) (rest := []) ⟨hx, hb, hml, hown, hG⟩ (c_lowestTerms l dC dI cs _ ((zN.toInt64 * zXY) - (zX * zY)) ((zN.toInt64 * zXX) - (zX * zX)) q) (cwS 3 hG (vq_gS vq_t376 vq_t377 vq_t1 vq_t378) rfl rfl rfl (by decide +kernel) ⟨Nat.le_of_ble_eq_true rfl, Nat.le_of_ble_eq_true rfl⟩) (vq_preSr (wc := []) hCx hP (vq_wk hS hA) hA [] rfl) rfl rfl hl.1 rfl (lv_room (Nat.le_of_ble_eq_true rfl)) d_BR_fit_70 ⟨Nat.le_of_ble_eq_true rfl, Nat.le_of_ble_eq_true rfl⟩) hP hS hA0 (fun r_70 H locs w_70 hP hS => ?_)
          subst w_70
          refine vx_ret ?_
          refine W.widen (k := 2) (n := 12) (Nat.le_of_ble_eq_true rfl) (Nat.le_of_ble_eq_true rfl) ?_
          exact W.lret (v := lowF ((zN.toInt64 * zXY) - (zX * zY)) ((zN.toInt64 * zXX) - (zX * zX)) q) hx hb hr (fun t ht hW => ⟨⟨lowF ((zN.toInt64 * zXY) - (zX * zY)) ((zN.toInt64 * zXX) - (zX * zX)) q, (), rfl, ⟨by simp only [fitF, if_neg c_1, if_pos c_6, if_pos w_20, if_neg c_34, if_pos c_48], by simp only [X_fit, if_neg c_1, if_pos c_6, if_pos w_20, if_neg c_34, if_pos c_48]⟩, trivial⟩, hS.F ht⟩) hS.2.2 d_BR_fit_73
      · skip
        have c_34 := (lg_cmp_eq ((zN.toInt64 * zXX) - (zX * zX)) 0).mp c_34
        exact vq_thr hx hb hlT hown hG hCx hA vq_tw20 hS (by rw [hml]; exact hl.1) d_BR_fit_37 d_BR_fit_40 d_BR_fit_41 d_BR_fit_43 d_BR_fit_46 htb hlocks (Nat.le_of_ble_eq_true rfl) (Nat.le_of_ble_eq_true rfl) (Nat.le_of_ble_eq_true rfl) (Nat.le_of_ble_eq_true rfl) (by simp only [X_fit, if_neg c_1, if_pos c_6, if_pos w_20, if_pos c_34]) (Nat.le_of_ble_eq_true rfl) (Nat.le_of_ble_eq_true rfl)
    · skip
      exact vq_thr hx hb hlT hown hG hCx hA vq_tw16 hS (by rw [hml]; exact hl.1) d_BR_fit_9 d_BR_fit_12 d_BR_fit_13 d_BR_fit_15 d_BR_fit_18 htb hlocks (Nat.le_of_ble_eq_true rfl) (Nat.le_of_ble_eq_true rfl) (Nat.le_of_ble_eq_true rfl) (Nat.le_of_ble_eq_true rfl) (by simp only [X_fit, if_neg c_1, if_neg c_6]) (Nat.le_of_ble_eq_true rfl) (Nat.le_of_ble_eq_true rfl)
set_option maxHeartbeats 4000000 in
set_option maxRecDepth 100000 in
/-- tick -/
theorem c_tick (l : Launch) (hlT : l.stackTraces = false) (dC : Nat → ClassId) (dI : Nat → Nat → Nat) (cs : Nat → ClassId) (sz : Nat) (h0 : Nat) (aMo : Nat) (aSh : Nat) (aLa : Nat) (aDy : Nat) (aMa : Nat) (aKi : Nat) (aPi : Nat) (aLn : Nat) (zCn : Int32) (zPc : Int32) (zTo : Int32) (x : Int32) : vx_Met l y_BR_tick w_BR_tick ({ frames := 7, cells := 2, slots := 12, locals := 104 }) (vq_Pre (dC, dI) cs [(h0, .inr (0, [.ref aMo, .ref aSh, .ref aLa, .ref aDy, .ref aMa, .ref aKi, .int zCn, .ref aPi, .int zPc, .ref aLn, .int zTo]))] sz [.ref h0, .int x]) (va_Qi (fun (r : Int32) (_ : Unit) => r = (zTo + x) ∧ X_tick x zTo = none) (vq_B (dC, dI) cs (va_A [(h0, .inr (0, [.ref aMo, .ref aSh, .ref aLa, .ref aDy, .ref aMa, .ref aKi, .int zCn, .ref aPi, .int zPc, .ref aLn, .int zTo]))] sz) (fun _ => [(h0, .inr (0, [.ref aMo, .ref aSh, .ref aLa, .ref aDy, .ref aMa, .ref aKi, .int zCn, .ref aPi, .int zPc, .ref aLn, .int (zTo + x)]))])) (va_A [(h0, .inr (0, [.ref aMo, .ref aSh, .ref aLa, .ref aDy, .ref aMa, .ref aKi, .int zCn, .ref aPi, .int zPc, .ref aLn, .int zTo]))] sz)) (vq_X (fun E => X_tick x zTo = some E) sz) 2 12 (va_A [(h0, .inr (0, [.ref aMo, .ref aSh, .ref aLa, .ref aDy, .ref aMa, .ref aKi, .int zCn, .ref aPi, .int zPc, .ref aLn, .int zTo]))] sz) := by
  refine vx_ofW (cc := b_BR_tick) (maxL := 2) (ret := (some .int)) (by decide) rfl ?_
  intro p e s m args below meth c s₁ B hml htb hv
  obtain ⟨rfl, hsz, hP, hD0, hCx⟩ := hv
  have hx := B.exec
  have hb := B.bytes
  have hr := B.returns
  have hG := vq_hG (atoms_spec (ws := w_BR_tick) B.pre)
  have hown : s.vm.findClass R_BR = some m.cls := findClass_of_methodNamed B.named
  have hlocks := B.notSynchronized
  subst hsz
  have hK := hCx.1
  have hD := hD0.self (sz := s.heap.size)
  generalize hAe : va_A [(h0, .inr (0, [.ref aMo, .ref aSh, .ref aLa, .ref aDy, .ref aMa, .ref aKi, .int zCn, .ref aPi, .int zPc, .ref aLn, .int zTo]))] s.heap.size = A at hD hCx ⊢
  have hA : ∀ q : Nat, s.heap.size ≤ q → A q := fun q h => by rw [← hAe]; exact Or.inr h
  have hA0 : ∀ q : Nat, s.heap.size ≤ q → va_A [] s.heap.size q := fun q h => Or.inr h
  have hS : va_S (va_A [] s.heap.size) s.heap s.heap [] := va_S.rf
  have hl := lv_entry ([.ref h0, .int x]) (n := 2) (Nat.le_of_ble_eq_true rfl)
  rw [lg_entry_eq]
  generalize (lg_sl ([.ref h0, .int x]) ++ List.replicate (2 - (lg_sl ([.ref h0, .int x])).length) Slot.unset).toArray = ls at hl ⊢
  have hl : lv_has ls 2 [(0, .ref h0), (1, .int x)] := hl
  have hP : va_P (dC, dI) vq_cl [(h0, .inr (0, [.ref aMo, .ref aSh, .ref aLa, .ref aDy, .ref aMa, .ref aKi, .int zCn, .ref aPi, .int zPc, .ref aLn, .int zTo]))] s.heap := hP
  refine lv_iload_n hx hb d_BR_tick_0 rfl (lv_at hl 1 rfl) ?_
  refine lv_iconst (v := 1) hx hb d_BR_tick_1 (by decide) ?_
  refine lv_sipush (v := 1000) hx hb d_BR_tick_2 (by decide) ?_
  refine mx_rv (vx_runS (As := [.int x, .int 1, .int 1000]) (rest := []) ⟨hx, hb, hml, hown, hG⟩ (c_needRange l hlT dC dI cs _ x 1 1000) (cwS 3 hG (vq_gS vq_t162 vq_t163 vq_t1 vq_t164) rfl rfl rfl (by decide +kernel) ⟨Nat.le_of_ble_eq_true rfl, Nat.le_of_ble_eq_true rfl⟩) (vq_preSr (wc := []) hCx hP (vq_wk hS hA) hA [] rfl) rfl rfl hl.1 rfl (lv_room (Nat.le_of_ble_eq_true rfl)) d_BR_tick_5 ⟨Nat.le_of_ble_eq_true rfl, Nat.le_of_ble_eq_true rfl⟩) hP hS hA0 (fun E ce q9 H locs x_5 hP hS h91 h92 h93 => vx_out (fun x h => (htb x h).elim) hlocks h91 h92 h93 (fun t ht hvm => vq_Xof (by obtain ⟨rfl, y9⟩ := x_5; simp only [X_tick, if_neg y9]) (hS.F ht)) (vq_wk hS hA).2.2 (Nat.le_of_ble_eq_true rfl) (Nat.le_of_ble_eq_true rfl)) (fun H locs w_5 hP hS => ?_)
  refine W.widen (k := 1) (n := 6) (Nat.le_of_ble_eq_true rfl) (Nat.le_of_ble_eq_true rfl) ?_
  refine lv_aload_n hx hb d_BR_tick_8 rfl (lv_at hl 0 rfl) ?_
  refine va_get (D := (dC, dI)) (ci := 0) (v := .int zTo) (C := R_BR) (T := F_BR) (N := 11) hx hb hG i_BR hown hK hP 0 rfl rfl 10 (by decide) (hG _ vq_t57) (fun _ h9 => h9) rfl d_BR_tick_9 ?_
  refine lv_iload_n hx hb d_BR_tick_12 rfl (lv_at hl 1 rfl) ?_
  refine lv_iadd hx hb d_BR_tick_13 ?_
  refine lv_iconst (v := 0) hx hb d_BR_tick_14 (by decide) ?_
  refine lv_sipush (v := 9999) hx hb d_BR_tick_15 (by decide) ?_
  refine mx_rv (vx_runS (As := [.int (zTo + x), .int 0, .int 9999]) (rest := []) ⟨hx, hb, hml, hown, hG⟩ (c_needRange l hlT dC dI cs _ (zTo + x) 0 9999) (cwS 3 hG (vq_gS vq_t162 vq_t163 vq_t1 vq_t164) rfl rfl rfl (by decide +kernel) ⟨Nat.le_of_ble_eq_true rfl, Nat.le_of_ble_eq_true rfl⟩) (vq_preSr (wc := []) hCx hP (vq_wk hS hA) hA [] rfl) rfl rfl hl.1 rfl (lv_room (Nat.le_of_ble_eq_true rfl)) d_BR_tick_18 ⟨Nat.le_of_ble_eq_true rfl, Nat.le_of_ble_eq_true rfl⟩) hP hS hA0 (fun E ce q9 H locs x_18 hP hS h91 h92 h93 => vx_out (fun x h => (htb x h).elim) hlocks h91 h92 h93 (fun t ht hvm => vq_Xof (by obtain ⟨rfl, y9⟩ := x_18; simp only [X_tick, if_pos w_5, if_neg y9]) (hS.F ht)) (vq_wk hS hA).2.2 (Nat.le_of_ble_eq_true rfl) (Nat.le_of_ble_eq_true rfl)) (fun H locs w_18 hP hS => ?_)
  refine W.widen (k := 2) (n := 12) (Nat.le_of_ble_eq_true rfl) (Nat.le_of_ble_eq_true rfl) ?_
  refine lv_aload_n hx hb d_BR_tick_21 rfl (lv_at hl 0 rfl) ?_
  refine lv_dup hx hb d_BR_tick_22 rfl ?_
  refine va_get (D := (dC, dI)) (ci := 0) (v := .int zTo) (C := R_BR) (T := F_BR) (N := 11) hx hb hG i_BR hown hK hP 0 rfl rfl 10 (by decide) (hG _ vq_t57) (fun _ h9 => h9) rfl d_BR_tick_23 ?_
  refine lv_iload_n hx hb d_BR_tick_26 rfl (lv_at hl 1 rfl) ?_
  refine lv_iadd hx hb d_BR_tick_27 ?_
  have hS := vq_wk hS hA
  refine va_put (D := (dC, dI)) (ci := 0) (v := .int (zTo + x)) (ty := .int) (C := R_BR) (T := F_BR) (N := 11) hx hb hG i_BR t_BR t_BR_ok n_BR hown hK hP hD hS 0 rfl rfl 10 (by decide) (hG _ vq_t57) (fun _ h9 => h9) rfl (by decide +kernel) rfl rfl (Nat.le_of_ble_eq_true rfl) d_BR_tick_28 (fun H locs hP hD hS => ?_)
  have hP : va_P (dC, dI) vq_cl [(h0, .inr (0, [.ref aMo, .ref aSh, .ref aLa, .ref aDy, .ref aMa, .ref aKi, .int zCn, .ref aPi, .int zPc, .ref aLn, .int (zTo + x)]))] H := hP
  have hD : va_D A [(h0, .inr (0, [.ref aMo, .ref aSh, .ref aLa, .ref aDy, .ref aMa, .ref aKi, .int zCn, .ref aPi, .int zPc, .ref aLn, .int (zTo + x)]))] := hD
  refine lv_aload_n hx hb d_BR_tick_31 rfl (lv_at hl 0 rfl) ?_
  refine va_get (D := (dC, dI)) (ci := 0) (v := .int (zTo + x)) (C := R_BR) (T := F_BR) (N := 11) hx hb hG i_BR hown hK hP 0 rfl rfl 10 (by decide) (hG _ vq_t57) (fun _ h9 => h9) rfl d_BR_tick_32 ?_
  refine vx_ret ?_
  refine W.widen (k := 2) (n := 12) (Nat.le_of_ble_eq_true rfl) (Nat.le_of_ble_eq_true rfl) ?_
  have hP9 : va_P (dC, dI) vq_cl [(h0, .inr (0, [.ref aMo, .ref aSh, .ref aLa, .ref aDy, .ref aMa, .ref aKi, .int zCn, .ref aPi, .int zPc, .ref aLn, .int (zTo + x)]))] _ := hP.sub [0] rfl
  have hD9 : va_D A [(h0, .inr (0, [.ref aMo, .ref aSh, .ref aLa, .ref aDy, .ref aMa, .ref aKi, .int zCn, .ref aPi, .int zPc, .ref aLn, .int (zTo + x)]))] := hD.sub [0] (by decide) rfl
  exact W.iret (v := (zTo + x)) hx hb hr (fun t ht hW => ⟨⟨(zTo + x), (), rfl, ⟨rfl, by simp only [X_tick, if_pos w_5, if_pos w_18]⟩, ⟨by rw [ht]; exact hP9, hD9⟩⟩, hS.F ht⟩) hS.2.2 d_BR_tick_35
end
section
theorem vq_t477 : (.fieldLink R_MO 62 "BlendRowsModel" "thrown" "I" : Cond) ∈ vq_G := vq_at2 (i := 237) rfl rfl
theorem vq_t486 : (.fieldLink R_MO 70 "BlendRowsModel" "piles" "I" : Cond) ∈ vq_G := vq_at3 (i := 6) rfl rfl
theorem vq_t555 : (.methodLink R_MO 66 y_MO_in : Cond) ∈ vq_G := vq_at3 (i := 75) rfl rfl
theorem vq_t556 : (.static y_MO_in : Cond) ∈ vq_G := vq_at3 (i := 76) rfl rfl
theorem vq_t625 : (.constantLong R_MO 73 (-1) : Cond) ∈ vq_G := vq_at3 (i := 145) rfl rfl
end
section
theorem d_MO_init_0 : decode b_MO_init 0 = .ok (.aload_n 0, 1) := by decide +kernel
theorem d_MO_init_1 : decode b_MO_init 1 = .ok (.invokespecial 1, 3) := by decide +kernel
theorem d_MO_init_4 : decode b_MO_init 4 = .ok (.aload_n 0, 1) := by decide +kernel
theorem d_MO_init_5 : decode b_MO_init 5 = .ok (.bipush 8, 2) := by decide +kernel
theorem d_MO_init_7 : decode b_MO_init 7 = .ok (.newarray .int, 2) := by decide +kernel
theorem d_MO_init_9 : decode b_MO_init 9 = .ok (.putfield 7, 3) := by decide +kernel
theorem d_MO_init_12 : decode b_MO_init 12 = .ok (.aload_n 0, 1) := by decide +kernel
theorem d_MO_init_13 : decode b_MO_init 13 = .ok (.bipush 32, 2) := by decide +kernel
theorem d_MO_init_15 : decode b_MO_init 15 = .ok (.newarray .int, 2) := by decide +kernel
theorem d_MO_init_17 : decode b_MO_init 17 = .ok (.putfield 13, 3) := by decide +kernel
theorem d_MO_init_20 : decode b_MO_init 20 = .ok (.aload_n 0, 1) := by decide +kernel
theorem d_MO_init_21 : decode b_MO_init 21 = .ok (.bipush 40, 2) := by decide +kernel
theorem d_MO_init_23 : decode b_MO_init 23 = .ok (.newarray .int, 2) := by decide +kernel
theorem d_MO_init_25 : decode b_MO_init 25 = .ok (.putfield 16, 3) := by decide +kernel
theorem d_MO_init_28 : decode b_MO_init 28 = .ok (.aload_n 0, 1) := by decide +kernel
theorem d_MO_init_29 : decode b_MO_init 29 = .ok (.bipush 40, 2) := by decide +kernel
theorem d_MO_init_31 : decode b_MO_init 31 = .ok (.newarray .int, 2) := by decide +kernel
theorem d_MO_init_33 : decode b_MO_init 33 = .ok (.putfield 19, 3) := by decide +kernel
theorem d_MO_init_36 : decode b_MO_init 36 = .ok (.aload_n 0, 1) := by decide +kernel
theorem d_MO_init_37 : decode b_MO_init 37 = .ok (.bipush 40, 2) := by decide +kernel
theorem d_MO_init_39 : decode b_MO_init 39 = .ok (.newarray .int, 2) := by decide +kernel
theorem d_MO_init_41 : decode b_MO_init 41 = .ok (.putfield 22, 3) := by decide +kernel
theorem d_MO_init_44 : decode b_MO_init 44 = .ok (.aload_n 0, 1) := by decide +kernel
theorem d_MO_init_45 : decode b_MO_init 45 = .ok (.bipush 8, 2) := by decide +kernel
theorem d_MO_init_47 : decode b_MO_init 47 = .ok (.newarray .int, 2) := by decide +kernel
theorem d_MO_init_49 : decode b_MO_init 49 = .ok (.putfield 25, 3) := by decide +kernel
theorem d_MO_init_52 : decode b_MO_init 52 = .ok (.aload_n 0, 1) := by decide +kernel
theorem d_MO_init_53 : decode b_MO_init 53 = .ok (.iconst 4, 1) := by decide +kernel
theorem d_MO_init_54 : decode b_MO_init 54 = .ok (.newarray .int, 2) := by decide +kernel
theorem d_MO_init_56 : decode b_MO_init 56 = .ok (.putfield 28, 3) := by decide +kernel
theorem d_MO_init_59 : decode b_MO_init 59 = .ok (.aload_n 0, 1) := by decide +kernel
theorem d_MO_init_60 : decode b_MO_init 60 = .ok (.iconst 4, 1) := by decide +kernel
theorem d_MO_init_61 : decode b_MO_init 61 = .ok (.newarray .int, 2) := by decide +kernel
theorem d_MO_init_63 : decode b_MO_init 63 = .ok (.putfield 31, 3) := by decide +kernel
theorem d_MO_init_66 : decode b_MO_init 66 = .ok (.aload_n 0, 1) := by decide +kernel
theorem d_MO_init_67 : decode b_MO_init 67 = .ok (.iconst 4, 1) := by decide +kernel
theorem d_MO_init_68 : decode b_MO_init 68 = .ok (.newarray .int, 2) := by decide +kernel
theorem d_MO_init_70 : decode b_MO_init 70 = .ok (.putfield 34, 3) := by decide +kernel
theorem d_MO_init_73 : decode b_MO_init 73 = .ok (.aload_n 0, 1) := by decide +kernel
theorem d_MO_init_74 : decode b_MO_init 74 = .ok (.bipush 80, 2) := by decide +kernel
theorem d_MO_init_76 : decode b_MO_init 76 = .ok (.newarray .int, 2) := by decide +kernel
theorem d_MO_init_78 : decode b_MO_init 78 = .ok (.putfield 37, 3) := by decide +kernel
theorem d_MO_init_81 : decode b_MO_init 81 = .ok (.aload_n 0, 1) := by decide +kernel
theorem d_MO_init_82 : decode b_MO_init 82 = .ok (.sipush 320, 3) := by decide +kernel
theorem d_MO_init_85 : decode b_MO_init 85 = .ok (.newarray .int, 2) := by decide +kernel
theorem d_MO_init_87 : decode b_MO_init 87 = .ok (.putfield 40, 3) := by decide +kernel
theorem d_MO_init_90 : decode b_MO_init 90 = .ok (.aload_n 0, 1) := by decide +kernel
theorem d_MO_init_91 : decode b_MO_init 91 = .ok (.bipush 16, 2) := by decide +kernel
theorem d_MO_init_93 : decode b_MO_init 93 = .ok (.newarray .long, 2) := by decide +kernel
theorem d_MO_init_95 : decode b_MO_init 95 = .ok (.putfield 43, 3) := by decide +kernel
theorem d_MO_init_98 : decode b_MO_init 98 = .ok (.aload_n 0, 1) := by decide +kernel
theorem d_MO_init_99 : decode b_MO_init 99 = .ok (.bipush 16, 2) := by decide +kernel
theorem d_MO_init_101 : decode b_MO_init 101 = .ok (.newarray .long, 2) := by decide +kernel
theorem d_MO_init_103 : decode b_MO_init 103 = .ok (.putfield 47, 3) := by decide +kernel
theorem d_MO_init_106 : decode b_MO_init 106 = .ok (.aload_n 0, 1) := by decide +kernel
theorem d_MO_init_107 : decode b_MO_init 107 = .ok (.bipush 16, 2) := by decide +kernel
theorem d_MO_init_109 : decode b_MO_init 109 = .ok (.newarray .long, 2) := by decide +kernel
theorem d_MO_init_111 : decode b_MO_init 111 = .ok (.putfield 50, 3) := by decide +kernel
theorem d_MO_init_114 : decode b_MO_init 114 = .ok (.aload_n 0, 1) := by decide +kernel
theorem d_MO_init_115 : decode b_MO_init 115 = .ok (.bipush 16, 2) := by decide +kernel
theorem d_MO_init_117 : decode b_MO_init 117 = .ok (.newarray .long, 2) := by decide +kernel
theorem d_MO_init_119 : decode b_MO_init 119 = .ok (.putfield 53, 3) := by decide +kernel
theorem d_MO_init_122 : decode b_MO_init 122 = .ok (.aload_n 0, 1) := by decide +kernel
theorem d_MO_init_123 : decode b_MO_init 123 = .ok (.bipush 20, 2) := by decide +kernel
theorem d_MO_init_125 : decode b_MO_init 125 = .ok (.newarray .int, 2) := by decide +kernel
theorem d_MO_init_127 : decode b_MO_init 127 = .ok (.putfield 56, 3) := by decide +kernel
theorem d_MO_init_130 : decode b_MO_init 130 = .ok (.aload_n 0, 1) := by decide +kernel
theorem d_MO_init_131 : decode b_MO_init 131 = .ok (.bipush 20, 2) := by decide +kernel
theorem d_MO_init_133 : decode b_MO_init 133 = .ok (.newarray .int, 2) := by decide +kernel
theorem d_MO_init_135 : decode b_MO_init 135 = .ok (.putfield 59, 3) := by decide +kernel
theorem d_MO_init_138 : decode b_MO_init 138 = .ok (.return_, 1) := by decide +kernel
theorem d_MO_thrown_0 : decode b_MO_thrown 0 = .ok (.aload_n 0, 1) := by decide +kernel
theorem d_MO_thrown_1 : decode b_MO_thrown 1 = .ok (.getfield 62, 3) := by decide +kernel
theorem d_MO_thrown_4 : decode b_MO_thrown 4 = .ok (.ireturn, 1) := by decide +kernel
theorem d_MO_throwing_0 : decode b_MO_throwing 0 = .ok (.aload_n 0, 1) := by decide +kernel
theorem d_MO_throwing_1 : decode b_MO_throwing 1 = .ok (.iload_n 1, 1) := by decide +kernel
theorem d_MO_throwing_2 : decode b_MO_throwing 2 = .ok (.ifCond .eq 7, 3) := by decide +kernel
theorem d_MO_throwing_5 : decode b_MO_throwing 5 = .ok (.iconst 1, 1) := by decide +kernel
theorem d_MO_throwing_6 : decode b_MO_throwing 6 = .ok (.goto 29, 3) := by decide +kernel
theorem d_MO_throwing_9 : decode b_MO_throwing 9 = .ok (.iload_n 2, 1) := by decide +kernel
theorem d_MO_throwing_10 : decode b_MO_throwing 10 = .ok (.ifCond .eq 7, 3) := by decide +kernel
theorem d_MO_throwing_13 : decode b_MO_throwing 13 = .ok (.iconst 2, 1) := by decide +kernel
theorem d_MO_throwing_14 : decode b_MO_throwing 14 = .ok (.goto 21, 3) := by decide +kernel
theorem d_MO_throwing_17 : decode b_MO_throwing 17 = .ok (.iload_n 3, 1) := by decide +kernel
theorem d_MO_throwing_18 : decode b_MO_throwing 18 = .ok (.ifCond .eq 7, 3) := by decide +kernel
theorem d_MO_throwing_21 : decode b_MO_throwing 21 = .ok (.iconst 3, 1) := by decide +kernel
theorem d_MO_throwing_22 : decode b_MO_throwing 22 = .ok (.goto 13, 3) := by decide +kernel
theorem d_MO_throwing_25 : decode b_MO_throwing 25 = .ok (.iload 4, 2) := by decide +kernel
theorem d_MO_throwing_27 : decode b_MO_throwing 27 = .ok (.ifCond .eq 7, 3) := by decide +kernel
theorem d_MO_throwing_30 : decode b_MO_throwing 30 = .ok (.iconst 4, 1) := by decide +kernel
theorem d_MO_throwing_31 : decode b_MO_throwing 31 = .ok (.goto 4, 3) := by decide +kernel
theorem d_MO_throwing_34 : decode b_MO_throwing 34 = .ok (.iconst 0, 1) := by decide +kernel
theorem d_MO_throwing_35 : decode b_MO_throwing 35 = .ok (.putfield 62, 3) := by decide +kernel
theorem d_MO_throwing_38 : decode b_MO_throwing 38 = .ok (.aload_n 0, 1) := by decide +kernel
theorem d_MO_throwing_39 : decode b_MO_throwing 39 = .ok (.getfield 62, 3) := by decide +kernel
theorem d_MO_throwing_42 : decode b_MO_throwing 42 = .ok (.ifCond .le 7, 3) := by decide +kernel
theorem d_MO_throwing_45 : decode b_MO_throwing 45 = .ok (.iconst 1, 1) := by decide +kernel
theorem d_MO_throwing_46 : decode b_MO_throwing 46 = .ok (.goto 4, 3) := by decide +kernel
theorem d_MO_throwing_49 : decode b_MO_throwing 49 = .ok (.iconst 0, 1) := by decide +kernel
theorem d_MO_throwing_50 : decode b_MO_throwing 50 = .ok (.ireturn, 1) := by decide +kernel
theorem d_MO_in_0 : decode b_MO_in 0 = .ok (.iload_n 0, 1) := by decide +kernel
theorem d_MO_in_1 : decode b_MO_in 1 = .ok (.iload_n 1, 1) := by decide +kernel
theorem d_MO_in_2 : decode b_MO_in 2 = .ok (.if_icmp .lt 12, 3) := by decide +kernel
theorem d_MO_in_5 : decode b_MO_in 5 = .ok (.iload_n 0, 1) := by decide +kernel
theorem d_MO_in_6 : decode b_MO_in 6 = .ok (.iload_n 2, 1) := by decide +kernel
theorem d_MO_in_7 : decode b_MO_in 7 = .ok (.if_icmp .gt 7, 3) := by decide +kernel
theorem d_MO_in_10 : decode b_MO_in 10 = .ok (.iconst 1, 1) := by decide +kernel
theorem d_MO_in_11 : decode b_MO_in 11 = .ok (.goto 4, 3) := by decide +kernel
theorem d_MO_in_14 : decode b_MO_in 14 = .ok (.iconst 0, 1) := by decide +kernel
theorem d_MO_in_15 : decode b_MO_in 15 = .ok (.ireturn, 1) := by decide +kernel
theorem d_MO_isMaterial_0 : decode b_MO_isMaterial 0 = .ok (.iload_n 0, 1) := by decide +kernel
theorem d_MO_isMaterial_1 : decode b_MO_isMaterial 1 = .ok (.iconst 0, 1) := by decide +kernel
theorem d_MO_isMaterial_2 : decode b_MO_isMaterial 2 = .ok (.bipush 7, 2) := by decide +kernel
theorem d_MO_isMaterial_4 : decode b_MO_isMaterial 4 = .ok (.invokestatic 66, 3) := by decide +kernel
theorem d_MO_isMaterial_7 : decode b_MO_isMaterial 7 = .ok (.ireturn, 1) := by decide +kernel
theorem d_MO_isElement_0 : decode b_MO_isElement 0 = .ok (.iload_n 0, 1) := by decide +kernel
theorem d_MO_isElement_1 : decode b_MO_isElement 1 = .ok (.iconst 0, 1) := by decide +kernel
theorem d_MO_isElement_2 : decode b_MO_isElement 2 = .ok (.iconst 3, 1) := by decide +kernel
theorem d_MO_isElement_3 : decode b_MO_isElement 3 = .ok (.invokestatic 66, 3) := by decide +kernel
theorem d_MO_isElement_6 : decode b_MO_isElement 6 = .ok (.ireturn, 1) := by decide +kernel
theorem d_MO_isPart_0 : decode b_MO_isPart 0 = .ok (.iload_n 0, 1) := by decide +kernel
theorem d_MO_isPart_1 : decode b_MO_isPart 1 = .ok (.iconst 0, 1) := by decide +kernel
theorem d_MO_isPart_2 : decode b_MO_isPart 2 = .ok (.iconst 1, 1) := by decide +kernel
theorem d_MO_isPart_3 : decode b_MO_isPart 3 = .ok (.invokestatic 66, 3) := by decide +kernel
theorem d_MO_isPart_6 : decode b_MO_isPart 6 = .ok (.ireturn, 1) := by decide +kernel
theorem d_MO_isPile_0 : decode b_MO_isPile 0 = .ok (.iload_n 1, 1) := by decide +kernel
theorem d_MO_isPile_1 : decode b_MO_isPile 1 = .ok (.iconst 0, 1) := by decide +kernel
theorem d_MO_isPile_2 : decode b_MO_isPile 2 = .ok (.aload_n 0, 1) := by decide +kernel
theorem d_MO_isPile_3 : decode b_MO_isPile 3 = .ok (.getfield 70, 3) := by decide +kernel
theorem d_MO_isPile_6 : decode b_MO_isPile 6 = .ok (.iconst 1, 1) := by decide +kernel
theorem d_MO_isPile_7 : decode b_MO_isPile 7 = .ok (.isub, 1) := by decide +kernel
theorem d_MO_isPile_8 : decode b_MO_isPile 8 = .ok (.invokestatic 66, 3) := by decide +kernel
theorem d_MO_isPile_11 : decode b_MO_isPile 11 = .ok (.ireturn, 1) := by decide +kernel
theorem d_MO_partOf_0 : decode b_MO_partOf 0 = .ok (.lload_n 2, 1) := by decide +kernel
theorem d_MO_partOf_1 : decode b_MO_partOf 1 = .ok (.lconst 0, 1) := by decide +kernel
theorem d_MO_partOf_2 : decode b_MO_partOf 2 = .ok (.lcmp, 1) := by decide +kernel
theorem d_MO_partOf_3 : decode b_MO_partOf 3 = .ok (.ifCond .ge 8, 3) := by decide +kernel
theorem d_MO_partOf_6 : decode b_MO_partOf 6 = .ok (.lload_n 2, 1) := by decide +kernel
theorem d_MO_partOf_7 : decode b_MO_partOf 7 = .ok (.lneg, 1) := by decide +kernel
theorem d_MO_partOf_8 : decode b_MO_partOf 8 = .ok (.goto 4, 3) := by decide +kernel
theorem d_MO_partOf_11 : decode b_MO_partOf 11 = .ok (.lload_n 2, 1) := by decide +kernel
theorem d_MO_partOf_12 : decode b_MO_partOf 12 = .ok (.lstore 5, 2) := by decide +kernel
theorem d_MO_partOf_14 : decode b_MO_partOf 14 = .ok (.lload_n 0, 1) := by decide +kernel
theorem d_MO_partOf_15 : decode b_MO_partOf 15 = .ok (.lconst 0, 1) := by decide +kernel
theorem d_MO_partOf_16 : decode b_MO_partOf 16 = .ok (.lcmp, 1) := by decide +kernel
theorem d_MO_partOf_17 : decode b_MO_partOf 17 = .ok (.ifCond .ge 8, 3) := by decide +kernel
theorem d_MO_partOf_20 : decode b_MO_partOf 20 = .ok (.lload_n 0, 1) := by decide +kernel
theorem d_MO_partOf_21 : decode b_MO_partOf 21 = .ok (.lneg, 1) := by decide +kernel
theorem d_MO_partOf_22 : decode b_MO_partOf 22 = .ok (.goto 4, 3) := by decide +kernel
theorem d_MO_partOf_25 : decode b_MO_partOf 25 = .ok (.lload_n 0, 1) := by decide +kernel
theorem d_MO_partOf_26 : decode b_MO_partOf 26 = .ok (.lstore 7, 2) := by decide +kernel
theorem d_MO_partOf_28 : decode b_MO_partOf 28 = .ok (.lload_n 2, 1) := by decide +kernel
theorem d_MO_partOf_29 : decode b_MO_partOf 29 = .ok (.lconst 0, 1) := by decide +kernel
theorem d_MO_partOf_30 : decode b_MO_partOf 30 = .ok (.lcmp, 1) := by decide +kernel
theorem d_MO_partOf_31 : decode b_MO_partOf 31 = .ok (.ifCond .ge 9, 3) := by decide +kernel
theorem d_MO_partOf_34 : decode b_MO_partOf 34 = .ok (.ldc2_w 73, 3) := by decide +kernel
theorem d_MO_partOf_37 : decode b_MO_partOf 37 = .ok (.goto 4, 3) := by decide +kernel
theorem d_MO_partOf_40 : decode b_MO_partOf 40 = .ok (.lconst 1, 1) := by decide +kernel
theorem d_MO_partOf_41 : decode b_MO_partOf 41 = .ok (.lstore 9, 2) := by decide +kernel
theorem d_MO_partOf_43 : decode b_MO_partOf 43 = .ok (.lload 7, 2) := by decide +kernel
theorem d_MO_partOf_45 : decode b_MO_partOf 45 = .ok (.lconst 0, 1) := by decide +kernel
theorem d_MO_partOf_46 : decode b_MO_partOf 46 = .ok (.lcmp, 1) := by decide +kernel
theorem d_MO_partOf_47 : decode b_MO_partOf 47 = .ok (.ifCond .le 21, 3) := by decide +kernel
theorem d_MO_partOf_50 : decode b_MO_partOf 50 = .ok (.lload 5, 2) := by decide +kernel
theorem d_MO_partOf_52 : decode b_MO_partOf 52 = .ok (.lload 7, 2) := by decide +kernel
theorem d_MO_partOf_54 : decode b_MO_partOf 54 = .ok (.lrem, 1) := by decide +kernel
theorem d_MO_partOf_55 : decode b_MO_partOf 55 = .ok (.lstore 11, 2) := by decide +kernel
theorem d_MO_partOf_57 : decode b_MO_partOf 57 = .ok (.lload 7, 2) := by decide +kernel
theorem d_MO_partOf_59 : decode b_MO_partOf 59 = .ok (.lstore 5, 2) := by decide +kernel
theorem d_MO_partOf_61 : decode b_MO_partOf 61 = .ok (.lload 11, 2) := by decide +kernel
theorem d_MO_partOf_63 : decode b_MO_partOf 63 = .ok (.lstore 7, 2) := by decide +kernel
theorem d_MO_partOf_65 : decode b_MO_partOf 65 = .ok (.goto (-22), 3) := by decide +kernel
theorem d_MO_partOf_68 : decode b_MO_partOf 68 = .ok (.lload 9, 2) := by decide +kernel
theorem d_MO_partOf_70 : decode b_MO_partOf 70 = .ok (.iload 4, 2) := by decide +kernel
theorem d_MO_partOf_72 : decode b_MO_partOf 72 = .ok (.ifCond .ne 7, 3) := by decide +kernel
theorem d_MO_partOf_75 : decode b_MO_partOf 75 = .ok (.lload_n 0, 1) := by decide +kernel
theorem d_MO_partOf_76 : decode b_MO_partOf 76 = .ok (.goto 4, 3) := by decide +kernel
theorem d_MO_partOf_79 : decode b_MO_partOf 79 = .ok (.lload_n 2, 1) := by decide +kernel
theorem d_MO_partOf_80 : decode b_MO_partOf 80 = .ok (.lmul, 1) := by decide +kernel
theorem d_MO_partOf_81 : decode b_MO_partOf 81 = .ok (.lload 5, 2) := by decide +kernel
theorem d_MO_partOf_83 : decode b_MO_partOf 83 = .ok (.ldiv, 1) := by decide +kernel
theorem d_MO_partOf_84 : decode b_MO_partOf 84 = .ok (.lreturn, 1) := by decide +kernel
theorem d_MO_moisture_0 : decode b_MO_moisture 0 = .ok (.aload_n 0, 1) := by decide +kernel
theorem d_MO_moisture_1 : decode b_MO_moisture 1 = .ok (.iload_n 1, 1) := by decide +kernel
theorem d_MO_moisture_2 : decode b_MO_moisture 2 = .ok (.invokestatic 75, 3) := by decide +kernel
theorem d_MO_moisture_5 : decode b_MO_moisture 5 = .ok (.ifCond .ne 7, 3) := by decide +kernel
theorem d_MO_moisture_8 : decode b_MO_moisture 8 = .ok (.iconst 1, 1) := by decide +kernel
theorem d_MO_moisture_9 : decode b_MO_moisture 9 = .ok (.goto 4, 3) := by decide +kernel
theorem d_MO_moisture_12 : decode b_MO_moisture 12 = .ok (.iconst 0, 1) := by decide +kernel
theorem d_MO_moisture_13 : decode b_MO_moisture 13 = .ok (.iload_n 2, 1) := by decide +kernel
theorem d_MO_moisture_14 : decode b_MO_moisture 14 = .ok (.iconst 0, 1) := by decide +kernel
theorem d_MO_moisture_15 : decode b_MO_moisture 15 = .ok (.sipush 900, 3) := by decide +kernel
theorem d_MO_moisture_18 : decode b_MO_moisture 18 = .ok (.invokestatic 66, 3) := by decide +kernel
theorem d_MO_moisture_21 : decode b_MO_moisture 21 = .ok (.ifCond .ne 7, 3) := by decide +kernel
theorem d_MO_moisture_24 : decode b_MO_moisture 24 = .ok (.iconst 1, 1) := by decide +kernel
theorem d_MO_moisture_25 : decode b_MO_moisture 25 = .ok (.goto 4, 3) := by decide +kernel
theorem d_MO_moisture_28 : decode b_MO_moisture 28 = .ok (.iconst 0, 1) := by decide +kernel
theorem d_MO_moisture_29 : decode b_MO_moisture 29 = .ok (.iconst 0, 1) := by decide +kernel
theorem d_MO_moisture_30 : decode b_MO_moisture 30 = .ok (.iconst 0, 1) := by decide +kernel
theorem d_MO_moisture_31 : decode b_MO_moisture 31 = .ok (.invokevirtual 79, 3) := by decide +kernel
theorem d_MO_moisture_34 : decode b_MO_moisture 34 = .ok (.ifCond .eq 4, 3) := by decide +kernel
theorem d_MO_moisture_37 : decode b_MO_moisture 37 = .ok (.return_, 1) := by decide +kernel
theorem d_MO_moisture_38 : decode b_MO_moisture 38 = .ok (.aload_n 0, 1) := by decide +kernel
theorem d_MO_moisture_39 : decode b_MO_moisture 39 = .ok (.getfield 7, 3) := by decide +kernel
theorem d_MO_moisture_42 : decode b_MO_moisture 42 = .ok (.iload_n 1, 1) := by decide +kernel
theorem d_MO_moisture_43 : decode b_MO_moisture 43 = .ok (.iload_n 2, 1) := by decide +kernel
theorem d_MO_moisture_44 : decode b_MO_moisture 44 = .ok (.iastore, 1) := by decide +kernel
theorem d_MO_moisture_45 : decode b_MO_moisture 45 = .ok (.return_, 1) := by decide +kernel
theorem d_MO_element_0 : decode b_MO_element 0 = .ok (.aload_n 0, 1) := by decide +kernel
theorem d_MO_element_1 : decode b_MO_element 1 = .ok (.iload_n 1, 1) := by decide +kernel
theorem d_MO_element_2 : decode b_MO_element 2 = .ok (.invokestatic 75, 3) := by decide +kernel
theorem d_MO_element_5 : decode b_MO_element 5 = .ok (.ifCond .eq 10, 3) := by decide +kernel
theorem d_MO_element_8 : decode b_MO_element 8 = .ok (.iload_n 2, 1) := by decide +kernel
theorem d_MO_element_9 : decode b_MO_element 9 = .ok (.invokestatic 83, 3) := by decide +kernel
theorem d_MO_element_12 : decode b_MO_element 12 = .ok (.ifCond .ne 7, 3) := by decide +kernel
theorem d_MO_element_15 : decode b_MO_element 15 = .ok (.iconst 1, 1) := by decide +kernel
theorem d_MO_element_16 : decode b_MO_element 16 = .ok (.goto 4, 3) := by decide +kernel
theorem d_MO_element_19 : decode b_MO_element 19 = .ok (.iconst 0, 1) := by decide +kernel
theorem d_MO_element_20 : decode b_MO_element 20 = .ok (.iload_n 3, 1) := by decide +kernel
theorem d_MO_element_21 : decode b_MO_element 21 = .ok (.iconst 0, 1) := by decide +kernel
theorem d_MO_element_22 : decode b_MO_element 22 = .ok (.sipush 10000, 3) := by decide +kernel
theorem d_MO_element_25 : decode b_MO_element 25 = .ok (.invokestatic 66, 3) := by decide +kernel
theorem d_MO_element_28 : decode b_MO_element 28 = .ok (.ifCond .ne 7, 3) := by decide +kernel
theorem d_MO_element_31 : decode b_MO_element 31 = .ok (.iconst 1, 1) := by decide +kernel
theorem d_MO_element_32 : decode b_MO_element 32 = .ok (.goto 4, 3) := by decide +kernel
theorem d_MO_element_35 : decode b_MO_element 35 = .ok (.iconst 0, 1) := by decide +kernel
theorem d_MO_element_36 : decode b_MO_element 36 = .ok (.iconst 0, 1) := by decide +kernel
theorem d_MO_element_37 : decode b_MO_element 37 = .ok (.iconst 0, 1) := by decide +kernel
theorem d_MO_element_38 : decode b_MO_element 38 = .ok (.invokevirtual 79, 3) := by decide +kernel
theorem d_MO_element_41 : decode b_MO_element 41 = .ok (.ifCond .eq 4, 3) := by decide +kernel
theorem d_MO_element_44 : decode b_MO_element 44 = .ok (.return_, 1) := by decide +kernel
theorem d_MO_element_45 : decode b_MO_element 45 = .ok (.aload_n 0, 1) := by decide +kernel
theorem d_MO_element_46 : decode b_MO_element 46 = .ok (.getfield 13, 3) := by decide +kernel
theorem d_MO_element_49 : decode b_MO_element 49 = .ok (.iconst 4, 1) := by decide +kernel
theorem d_MO_element_50 : decode b_MO_element 50 = .ok (.iload_n 1, 1) := by decide +kernel
theorem d_MO_element_51 : decode b_MO_element 51 = .ok (.imul, 1) := by decide +kernel
theorem d_MO_element_52 : decode b_MO_element 52 = .ok (.iload_n 2, 1) := by decide +kernel
theorem d_MO_element_53 : decode b_MO_element 53 = .ok (.iadd, 1) := by decide +kernel
theorem d_MO_element_54 : decode b_MO_element 54 = .ok (.iload_n 3, 1) := by decide +kernel
theorem d_MO_element_55 : decode b_MO_element 55 = .ok (.iastore, 1) := by decide +kernel
theorem d_MO_element_56 : decode b_MO_element 56 = .ok (.return_, 1) := by decide +kernel
theorem d_MO_ship_0 : decode b_MO_ship 0 = .ok (.iload_n 1, 1) := by decide +kernel
theorem d_MO_ship_1 : decode b_MO_ship 1 = .ok (.aload_n 0, 1) := by decide +kernel
theorem d_MO_ship_2 : decode b_MO_ship 2 = .ok (.getfield 86, 3) := by decide +kernel
theorem d_MO_ship_5 : decode b_MO_ship 5 = .ok (.sipush 9999, 3) := by decide +kernel
theorem d_MO_ship_8 : decode b_MO_ship 8 = .ok (.invokestatic 66, 3) := by decide +kernel
theorem d_MO_ship_11 : decode b_MO_ship 11 = .ok (.ifCond .eq 26, 3) := by decide +kernel
theorem d_MO_ship_14 : decode b_MO_ship 14 = .ok (.iload_n 3, 1) := by decide +kernel
theorem d_MO_ship_15 : decode b_MO_ship 15 = .ok (.iconst 1, 1) := by decide +kernel
theorem d_MO_ship_16 : decode b_MO_ship 16 = .ok (.sipush 1000, 3) := by decide +kernel
theorem d_MO_ship_19 : decode b_MO_ship 19 = .ok (.invokestatic 66, 3) := by decide +kernel
theorem d_MO_ship_22 : decode b_MO_ship 22 = .ok (.ifCond .eq 15, 3) := by decide +kernel
theorem d_MO_ship_25 : decode b_MO_ship 25 = .ok (.iload 4, 2) := by decide +kernel
theorem d_MO_ship_27 : decode b_MO_ship 27 = .ok (.iconst 0, 1) := by decide +kernel
theorem d_MO_ship_28 : decode b_MO_ship 28 = .ok (.sipush 999, 3) := by decide +kernel
theorem d_MO_ship_31 : decode b_MO_ship 31 = .ok (.invokestatic 66, 3) := by decide +kernel
theorem d_MO_ship_34 : decode b_MO_ship 34 = .ok (.ifCond .ne 7, 3) := by decide +kernel
theorem d_MO_ship_37 : decode b_MO_ship 37 = .ok (.iconst 1, 1) := by decide +kernel
theorem d_MO_ship_38 : decode b_MO_ship 38 = .ok (.goto 4, 3) := by decide +kernel
theorem d_MO_ship_41 : decode b_MO_ship 41 = .ok (.iconst 0, 1) := by decide +kernel
theorem d_MO_ship_42 : decode b_MO_ship 42 = .ok (.istore 5, 2) := by decide +kernel
theorem d_MO_ship_44 : decode b_MO_ship 44 = .ok (.aload_n 0, 1) := by decide +kernel
theorem d_MO_ship_45 : decode b_MO_ship 45 = .ok (.iload_n 2, 1) := by decide +kernel
theorem d_MO_ship_46 : decode b_MO_ship 46 = .ok (.invokestatic 75, 3) := by decide +kernel
theorem d_MO_ship_49 : decode b_MO_ship 49 = .ok (.ifCond .ne 7, 3) := by decide +kernel
theorem d_MO_ship_52 : decode b_MO_ship 52 = .ok (.iconst 1, 1) := by decide +kernel
theorem d_MO_ship_53 : decode b_MO_ship 53 = .ok (.goto 4, 3) := by decide +kernel
theorem d_MO_ship_56 : decode b_MO_ship 56 = .ok (.iconst 0, 1) := by decide +kernel
theorem d_MO_ship_57 : decode b_MO_ship 57 = .ok (.aload_n 0, 1) := by decide +kernel
theorem d_MO_ship_58 : decode b_MO_ship 58 = .ok (.getfield 89, 3) := by decide +kernel
theorem d_MO_ship_61 : decode b_MO_ship 61 = .ok (.bipush 40, 2) := by decide +kernel
theorem d_MO_ship_63 : decode b_MO_ship 63 = .ok (.if_icmp .ne 7, 3) := by decide +kernel
theorem d_MO_ship_66 : decode b_MO_ship 66 = .ok (.iconst 1, 1) := by decide +kernel
theorem d_MO_ship_67 : decode b_MO_ship 67 = .ok (.goto 4, 3) := by decide +kernel
theorem d_MO_ship_70 : decode b_MO_ship 70 = .ok (.iconst 0, 1) := by decide +kernel
theorem d_MO_ship_71 : decode b_MO_ship 71 = .ok (.iload 5, 2) := by decide +kernel
theorem d_MO_ship_73 : decode b_MO_ship 73 = .ok (.iconst 0, 1) := by decide +kernel
theorem d_MO_ship_74 : decode b_MO_ship 74 = .ok (.invokevirtual 79, 3) := by decide +kernel
theorem d_MO_ship_77 : decode b_MO_ship 77 = .ok (.ifCond .eq 5, 3) := by decide +kernel
theorem d_MO_ship_80 : decode b_MO_ship 80 = .ok (.iconst 0, 1) := by decide +kernel
theorem d_MO_ship_81 : decode b_MO_ship 81 = .ok (.ireturn, 1) := by decide +kernel
theorem d_MO_ship_82 : decode b_MO_ship 82 = .ok (.aload_n 0, 1) := by decide +kernel
theorem d_MO_ship_83 : decode b_MO_ship 83 = .ok (.getfield 16, 3) := by decide +kernel
theorem d_MO_ship_86 : decode b_MO_ship 86 = .ok (.aload_n 0, 1) := by decide +kernel
theorem d_MO_ship_87 : decode b_MO_ship 87 = .ok (.getfield 89, 3) := by decide +kernel
theorem d_MO_ship_90 : decode b_MO_ship 90 = .ok (.iload_n 1, 1) := by decide +kernel
theorem d_MO_ship_91 : decode b_MO_ship 91 = .ok (.iastore, 1) := by decide +kernel
theorem d_MO_ship_92 : decode b_MO_ship 92 = .ok (.aload_n 0, 1) := by decide +kernel
theorem d_MO_ship_93 : decode b_MO_ship 93 = .ok (.getfield 19, 3) := by decide +kernel
theorem d_MO_ship_96 : decode b_MO_ship 96 = .ok (.aload_n 0, 1) := by decide +kernel
theorem d_MO_ship_97 : decode b_MO_ship 97 = .ok (.getfield 89, 3) := by decide +kernel
theorem d_MO_ship_100 : decode b_MO_ship 100 = .ok (.iload_n 2, 1) := by decide +kernel
theorem d_MO_ship_101 : decode b_MO_ship 101 = .ok (.iastore, 1) := by decide +kernel
theorem d_MO_ship_102 : decode b_MO_ship 102 = .ok (.aload_n 0, 1) := by decide +kernel
theorem d_MO_ship_103 : decode b_MO_ship 103 = .ok (.getfield 22, 3) := by decide +kernel
theorem d_MO_ship_106 : decode b_MO_ship 106 = .ok (.aload_n 0, 1) := by decide +kernel
theorem d_MO_ship_107 : decode b_MO_ship 107 = .ok (.getfield 89, 3) := by decide +kernel
theorem d_MO_ship_110 : decode b_MO_ship 110 = .ok (.iload_n 3, 1) := by decide +kernel
theorem d_MO_ship_111 : decode b_MO_ship 111 = .ok (.iload_n 3, 1) := by decide +kernel
theorem d_MO_ship_112 : decode b_MO_ship 112 = .ok (.iload 4, 2) := by decide +kernel
theorem d_MO_ship_114 : decode b_MO_ship 114 = .ok (.imul, 1) := by decide +kernel
theorem d_MO_ship_115 : decode b_MO_ship 115 = .ok (.sipush 999, 3) := by decide +kernel
theorem d_MO_ship_118 : decode b_MO_ship 118 = .ok (.iadd, 1) := by decide +kernel
theorem d_MO_ship_119 : decode b_MO_ship 119 = .ok (.sipush 1000, 3) := by decide +kernel
theorem d_MO_ship_122 : decode b_MO_ship 122 = .ok (.idiv, 1) := by decide +kernel
theorem d_MO_ship_123 : decode b_MO_ship 123 = .ok (.isub, 1) := by decide +kernel
theorem d_MO_ship_124 : decode b_MO_ship 124 = .ok (.iastore, 1) := by decide +kernel
theorem d_MO_ship_125 : decode b_MO_ship 125 = .ok (.aload_n 0, 1) := by decide +kernel
theorem d_MO_ship_126 : decode b_MO_ship 126 = .ok (.dup, 1) := by decide +kernel
theorem d_MO_ship_127 : decode b_MO_ship 127 = .ok (.getfield 89, 3) := by decide +kernel
theorem d_MO_ship_130 : decode b_MO_ship 130 = .ok (.iconst 1, 1) := by decide +kernel
theorem d_MO_ship_131 : decode b_MO_ship 131 = .ok (.iadd, 1) := by decide +kernel
theorem d_MO_ship_132 : decode b_MO_ship 132 = .ok (.putfield 89, 3) := by decide +kernel
theorem d_MO_ship_135 : decode b_MO_ship 135 = .ok (.aload_n 0, 1) := by decide +kernel
theorem d_MO_ship_136 : decode b_MO_ship 136 = .ok (.getfield 89, 3) := by decide +kernel
theorem d_MO_ship_139 : decode b_MO_ship 139 = .ok (.iconst 1, 1) := by decide +kernel
theorem d_MO_ship_140 : decode b_MO_ship 140 = .ok (.isub, 1) := by decide +kernel
theorem d_MO_ship_141 : decode b_MO_ship 141 = .ok (.ireturn, 1) := by decide +kernel
theorem d_MO_stockOf_0 : decode b_MO_stockOf 0 = .ok (.aload_n 0, 1) := by decide +kernel
theorem d_MO_stockOf_1 : decode b_MO_stockOf 1 = .ok (.getfield 25, 3) := by decide +kernel
theorem d_MO_stockOf_4 : decode b_MO_stockOf 4 = .ok (.iload_n 1, 1) := by decide +kernel
theorem d_MO_stockOf_5 : decode b_MO_stockOf 5 = .ok (.iaload, 1) := by decide +kernel
theorem d_MO_stockOf_6 : decode b_MO_stockOf 6 = .ok (.ineg, 1) := by decide +kernel
theorem d_MO_stockOf_7 : decode b_MO_stockOf 7 = .ok (.istore_n 2, 1) := by decide +kernel
theorem d_MO_stockOf_8 : decode b_MO_stockOf 8 = .ok (.iconst 0, 1) := by decide +kernel
theorem d_MO_stockOf_9 : decode b_MO_stockOf 9 = .ok (.istore_n 3, 1) := by decide +kernel
theorem d_MO_stockOf_10 : decode b_MO_stockOf 10 = .ok (.iload_n 3, 1) := by decide +kernel
theorem d_MO_stockOf_11 : decode b_MO_stockOf 11 = .ok (.aload_n 0, 1) := by decide +kernel
theorem d_MO_stockOf_12 : decode b_MO_stockOf 12 = .ok (.getfield 89, 3) := by decide +kernel
theorem d_MO_stockOf_15 : decode b_MO_stockOf 15 = .ok (.if_icmp .ge 45, 3) := by decide +kernel
theorem d_MO_stockOf_18 : decode b_MO_stockOf 18 = .ok (.iload_n 2, 1) := by decide +kernel
theorem d_MO_stockOf_19 : decode b_MO_stockOf 19 = .ok (.aload_n 0, 1) := by decide +kernel
theorem d_MO_stockOf_20 : decode b_MO_stockOf 20 = .ok (.getfield 19, 3) := by decide +kernel
theorem d_MO_stockOf_23 : decode b_MO_stockOf 23 = .ok (.iload_n 3, 1) := by decide +kernel
theorem d_MO_stockOf_24 : decode b_MO_stockOf 24 = .ok (.iaload, 1) := by decide +kernel
theorem d_MO_stockOf_25 : decode b_MO_stockOf 25 = .ok (.iload_n 1, 1) := by decide +kernel
theorem d_MO_stockOf_26 : decode b_MO_stockOf 26 = .ok (.if_icmp .ne 25, 3) := by decide +kernel
theorem d_MO_stockOf_29 : decode b_MO_stockOf 29 = .ok (.aload_n 0, 1) := by decide +kernel
theorem d_MO_stockOf_30 : decode b_MO_stockOf 30 = .ok (.getfield 16, 3) := by decide +kernel
theorem d_MO_stockOf_33 : decode b_MO_stockOf 33 = .ok (.iload_n 3, 1) := by decide +kernel
theorem d_MO_stockOf_34 : decode b_MO_stockOf 34 = .ok (.iaload, 1) := by decide +kernel
theorem d_MO_stockOf_35 : decode b_MO_stockOf 35 = .ok (.aload_n 0, 1) := by decide +kernel
theorem d_MO_stockOf_36 : decode b_MO_stockOf 36 = .ok (.getfield 86, 3) := by decide +kernel
theorem d_MO_stockOf_39 : decode b_MO_stockOf 39 = .ok (.if_icmp .gt 12, 3) := by decide +kernel
theorem d_MO_stockOf_42 : decode b_MO_stockOf 42 = .ok (.aload_n 0, 1) := by decide +kernel
theorem d_MO_stockOf_43 : decode b_MO_stockOf 43 = .ok (.getfield 22, 3) := by decide +kernel
theorem d_MO_stockOf_46 : decode b_MO_stockOf 46 = .ok (.iload_n 3, 1) := by decide +kernel
theorem d_MO_stockOf_47 : decode b_MO_stockOf 47 = .ok (.iaload, 1) := by decide +kernel
theorem d_MO_stockOf_48 : decode b_MO_stockOf 48 = .ok (.goto 4, 3) := by decide +kernel
theorem d_MO_stockOf_51 : decode b_MO_stockOf 51 = .ok (.iconst 0, 1) := by decide +kernel
theorem d_MO_stockOf_52 : decode b_MO_stockOf 52 = .ok (.iadd, 1) := by decide +kernel
theorem d_MO_stockOf_53 : decode b_MO_stockOf 53 = .ok (.istore_n 2, 1) := by decide +kernel
theorem d_MO_stockOf_54 : decode b_MO_stockOf 54 = .ok (.iinc 3 1, 3) := by decide +kernel
theorem d_MO_stockOf_57 : decode b_MO_stockOf 57 = .ok (.goto (-47), 3) := by decide +kernel
theorem d_MO_stockOf_60 : decode b_MO_stockOf 60 = .ok (.iload_n 2, 1) := by decide +kernel
theorem d_MO_stockOf_61 : decode b_MO_stockOf 61 = .ok (.ireturn, 1) := by decide +kernel
theorem d_MO_stock_0 : decode b_MO_stock 0 = .ok (.aload_n 0, 1) := by decide +kernel
theorem d_MO_stock_1 : decode b_MO_stock 1 = .ok (.iload_n 1, 1) := by decide +kernel
theorem d_MO_stock_2 : decode b_MO_stock 2 = .ok (.invokestatic 75, 3) := by decide +kernel
theorem d_MO_stock_5 : decode b_MO_stock 5 = .ok (.ifCond .ne 7, 3) := by decide +kernel
theorem d_MO_stock_8 : decode b_MO_stock 8 = .ok (.iconst 1, 1) := by decide +kernel
theorem d_MO_stock_9 : decode b_MO_stock 9 = .ok (.goto 4, 3) := by decide +kernel
theorem d_MO_stock_12 : decode b_MO_stock 12 = .ok (.iconst 0, 1) := by decide +kernel
theorem d_MO_stock_13 : decode b_MO_stock 13 = .ok (.iconst 0, 1) := by decide +kernel
theorem d_MO_stock_14 : decode b_MO_stock 14 = .ok (.iconst 0, 1) := by decide +kernel
theorem d_MO_stock_15 : decode b_MO_stock 15 = .ok (.iconst 0, 1) := by decide +kernel
theorem d_MO_stock_16 : decode b_MO_stock 16 = .ok (.invokevirtual 79, 3) := by decide +kernel
theorem d_MO_stock_19 : decode b_MO_stock 19 = .ok (.ifCond .eq 5, 3) := by decide +kernel
theorem d_MO_stock_22 : decode b_MO_stock 22 = .ok (.iconst 0, 1) := by decide +kernel
theorem d_MO_stock_23 : decode b_MO_stock 23 = .ok (.ireturn, 1) := by decide +kernel
theorem d_MO_stock_24 : decode b_MO_stock 24 = .ok (.aload_n 0, 1) := by decide +kernel
theorem d_MO_stock_25 : decode b_MO_stock 25 = .ok (.iload_n 1, 1) := by decide +kernel
theorem d_MO_stock_26 : decode b_MO_stock 26 = .ok (.invokevirtual 92, 3) := by decide +kernel
theorem d_MO_stock_29 : decode b_MO_stock 29 = .ok (.ireturn, 1) := by decide +kernel
theorem d_MO_pile_0 : decode b_MO_pile 0 = .ok (.aload_n 0, 1) := by decide +kernel
theorem d_MO_pile_1 : decode b_MO_pile 1 = .ok (.aload_n 0, 1) := by decide +kernel
theorem d_MO_pile_2 : decode b_MO_pile 2 = .ok (.getfield 70, 3) := by decide +kernel
theorem d_MO_pile_5 : decode b_MO_pile 5 = .ok (.iconst 4, 1) := by decide +kernel
theorem d_MO_pile_6 : decode b_MO_pile 6 = .ok (.if_icmp .ne 7, 3) := by decide +kernel
theorem d_MO_pile_9 : decode b_MO_pile 9 = .ok (.iconst 1, 1) := by decide +kernel
theorem d_MO_pile_10 : decode b_MO_pile 10 = .ok (.goto 4, 3) := by decide +kernel
theorem d_MO_pile_13 : decode b_MO_pile 13 = .ok (.iconst 0, 1) := by decide +kernel
theorem d_MO_pile_14 : decode b_MO_pile 14 = .ok (.iload_n 1, 1) := by decide +kernel
theorem d_MO_pile_15 : decode b_MO_pile 15 = .ok (.iconst 1, 1) := by decide +kernel
theorem d_MO_pile_16 : decode b_MO_pile 16 = .ok (.ldc 96, 2) := by decide +kernel
theorem d_MO_pile_18 : decode b_MO_pile 18 = .ok (.invokestatic 66, 3) := by decide +kernel
theorem d_MO_pile_21 : decode b_MO_pile 21 = .ok (.ifCond .ne 7, 3) := by decide +kernel
theorem d_MO_pile_24 : decode b_MO_pile 24 = .ok (.iconst 1, 1) := by decide +kernel
theorem d_MO_pile_25 : decode b_MO_pile 25 = .ok (.goto 4, 3) := by decide +kernel
theorem d_MO_pile_28 : decode b_MO_pile 28 = .ok (.iconst 0, 1) := by decide +kernel
theorem d_MO_pile_29 : decode b_MO_pile 29 = .ok (.iconst 0, 1) := by decide +kernel
theorem d_MO_pile_30 : decode b_MO_pile 30 = .ok (.iconst 0, 1) := by decide +kernel
theorem d_MO_pile_31 : decode b_MO_pile 31 = .ok (.invokevirtual 79, 3) := by decide +kernel
theorem d_MO_pile_34 : decode b_MO_pile 34 = .ok (.ifCond .eq 5, 3) := by decide +kernel
theorem d_MO_pile_37 : decode b_MO_pile 37 = .ok (.iconst 0, 1) := by decide +kernel
theorem d_MO_pile_38 : decode b_MO_pile 38 = .ok (.ireturn, 1) := by decide +kernel
theorem d_MO_pile_39 : decode b_MO_pile 39 = .ok (.aload_n 0, 1) := by decide +kernel
theorem d_MO_pile_40 : decode b_MO_pile 40 = .ok (.getfield 28, 3) := by decide +kernel
theorem d_MO_pile_43 : decode b_MO_pile 43 = .ok (.aload_n 0, 1) := by decide +kernel
theorem d_MO_pile_44 : decode b_MO_pile 44 = .ok (.getfield 70, 3) := by decide +kernel
theorem d_MO_pile_47 : decode b_MO_pile 47 = .ok (.iload_n 1, 1) := by decide +kernel
theorem d_MO_pile_48 : decode b_MO_pile 48 = .ok (.iastore, 1) := by decide +kernel
theorem d_MO_pile_49 : decode b_MO_pile 49 = .ok (.aload_n 0, 1) := by decide +kernel
theorem d_MO_pile_50 : decode b_MO_pile 50 = .ok (.dup, 1) := by decide +kernel
theorem d_MO_pile_51 : decode b_MO_pile 51 = .ok (.getfield 70, 3) := by decide +kernel
theorem d_MO_pile_54 : decode b_MO_pile 54 = .ok (.iconst 1, 1) := by decide +kernel
theorem d_MO_pile_55 : decode b_MO_pile 55 = .ok (.iadd, 1) := by decide +kernel
theorem d_MO_pile_56 : decode b_MO_pile 56 = .ok (.putfield 70, 3) := by decide +kernel
theorem d_MO_pile_59 : decode b_MO_pile 59 = .ok (.aload_n 0, 1) := by decide +kernel
theorem d_MO_pile_60 : decode b_MO_pile 60 = .ok (.getfield 70, 3) := by decide +kernel
theorem d_MO_pile_63 : decode b_MO_pile 63 = .ok (.iconst 1, 1) := by decide +kernel
theorem d_MO_pile_64 : decode b_MO_pile 64 = .ok (.isub, 1) := by decide +kernel
theorem d_MO_pile_65 : decode b_MO_pile 65 = .ok (.ireturn, 1) := by decide +kernel
theorem d_MO_gramsOf_0 : decode b_MO_gramsOf 0 = .ok (.iconst 0, 1) := by decide +kernel
theorem d_MO_gramsOf_1 : decode b_MO_gramsOf 1 = .ok (.istore_n 2, 1) := by decide +kernel
theorem d_MO_gramsOf_2 : decode b_MO_gramsOf 2 = .ok (.iconst 0, 1) := by decide +kernel
theorem d_MO_gramsOf_3 : decode b_MO_gramsOf 3 = .ok (.istore_n 3, 1) := by decide +kernel
theorem d_MO_gramsOf_4 : decode b_MO_gramsOf 4 = .ok (.iload_n 3, 1) := by decide +kernel
theorem d_MO_gramsOf_5 : decode b_MO_gramsOf 5 = .ok (.aload_n 0, 1) := by decide +kernel
theorem d_MO_gramsOf_6 : decode b_MO_gramsOf 6 = .ok (.getfield 34, 3) := by decide +kernel
theorem d_MO_gramsOf_9 : decode b_MO_gramsOf 9 = .ok (.iload_n 1, 1) := by decide +kernel
theorem d_MO_gramsOf_10 : decode b_MO_gramsOf 10 = .ok (.iaload, 1) := by decide +kernel
theorem d_MO_gramsOf_11 : decode b_MO_gramsOf 11 = .ok (.if_icmp .ge 23, 3) := by decide +kernel
theorem d_MO_gramsOf_14 : decode b_MO_gramsOf 14 = .ok (.iload_n 2, 1) := by decide +kernel
theorem d_MO_gramsOf_15 : decode b_MO_gramsOf 15 = .ok (.aload_n 0, 1) := by decide +kernel
theorem d_MO_gramsOf_16 : decode b_MO_gramsOf 16 = .ok (.getfield 37, 3) := by decide +kernel
theorem d_MO_gramsOf_19 : decode b_MO_gramsOf 19 = .ok (.bipush 20, 2) := by decide +kernel
theorem d_MO_gramsOf_21 : decode b_MO_gramsOf 21 = .ok (.iload_n 1, 1) := by decide +kernel
theorem d_MO_gramsOf_22 : decode b_MO_gramsOf 22 = .ok (.imul, 1) := by decide +kernel
theorem d_MO_gramsOf_23 : decode b_MO_gramsOf 23 = .ok (.iload_n 3, 1) := by decide +kernel
theorem d_MO_gramsOf_24 : decode b_MO_gramsOf 24 = .ok (.iadd, 1) := by decide +kernel
theorem d_MO_gramsOf_25 : decode b_MO_gramsOf 25 = .ok (.iaload, 1) := by decide +kernel
theorem d_MO_gramsOf_26 : decode b_MO_gramsOf 26 = .ok (.iadd, 1) := by decide +kernel
theorem d_MO_gramsOf_27 : decode b_MO_gramsOf 27 = .ok (.istore_n 2, 1) := by decide +kernel
theorem d_MO_gramsOf_28 : decode b_MO_gramsOf 28 = .ok (.iinc 3 1, 3) := by decide +kernel
theorem d_MO_gramsOf_31 : decode b_MO_gramsOf 31 = .ok (.goto (-27), 3) := by decide +kernel
theorem d_MO_gramsOf_34 : decode b_MO_gramsOf 34 = .ok (.iload_n 2, 1) := by decide +kernel
theorem d_MO_gramsOf_35 : decode b_MO_gramsOf 35 = .ok (.ireturn, 1) := by decide +kernel
theorem d_MO_lay_0 : decode b_MO_lay 0 = .ok (.aload_n 0, 1) := by decide +kernel
theorem d_MO_lay_1 : decode b_MO_lay 1 = .ok (.iload_n 1, 1) := by decide +kernel
theorem d_MO_lay_2 : decode b_MO_lay 2 = .ok (.invokevirtual 97, 3) := by decide +kernel
theorem d_MO_lay_5 : decode b_MO_lay 5 = .ok (.ifCond .eq 10, 3) := by decide +kernel
theorem d_MO_lay_8 : decode b_MO_lay 8 = .ok (.iload_n 2, 1) := by decide +kernel
theorem d_MO_lay_9 : decode b_MO_lay 9 = .ok (.invokestatic 75, 3) := by decide +kernel
theorem d_MO_lay_12 : decode b_MO_lay 12 = .ok (.ifCond .ne 7, 3) := by decide +kernel
theorem d_MO_lay_15 : decode b_MO_lay 15 = .ok (.iconst 1, 1) := by decide +kernel
theorem d_MO_lay_16 : decode b_MO_lay 16 = .ok (.goto 4, 3) := by decide +kernel
theorem d_MO_lay_19 : decode b_MO_lay 19 = .ok (.iconst 0, 1) := by decide +kernel
theorem d_MO_lay_20 : decode b_MO_lay 20 = .ok (.istore 4, 2) := by decide +kernel
theorem d_MO_lay_22 : decode b_MO_lay 22 = .ok (.iload 4, 2) := by decide +kernel
theorem d_MO_lay_24 : decode b_MO_lay 24 = .ok (.ifCond .ne 25, 3) := by decide +kernel
theorem d_MO_lay_27 : decode b_MO_lay 27 = .ok (.aload_n 0, 1) := by decide +kernel
theorem d_MO_lay_28 : decode b_MO_lay 28 = .ok (.getfield 31, 3) := by decide +kernel
theorem d_MO_lay_31 : decode b_MO_lay 31 = .ok (.iload 4, 2) := by decide +kernel
theorem d_MO_lay_33 : decode b_MO_lay 33 = .ok (.ifCond .eq 7, 3) := by decide +kernel
theorem d_MO_lay_36 : decode b_MO_lay 36 = .ok (.iconst 0, 1) := by decide +kernel
theorem d_MO_lay_37 : decode b_MO_lay 37 = .ok (.goto 4, 3) := by decide +kernel
theorem d_MO_lay_40 : decode b_MO_lay 40 = .ok (.iload_n 1, 1) := by decide +kernel
theorem d_MO_lay_41 : decode b_MO_lay 41 = .ok (.iaload, 1) := by decide +kernel
theorem d_MO_lay_42 : decode b_MO_lay 42 = .ok (.ifCond .le 7, 3) := by decide +kernel
theorem d_MO_lay_45 : decode b_MO_lay 45 = .ok (.iconst 1, 1) := by decide +kernel
theorem d_MO_lay_46 : decode b_MO_lay 46 = .ok (.goto 4, 3) := by decide +kernel
theorem d_MO_lay_49 : decode b_MO_lay 49 = .ok (.iconst 0, 1) := by decide +kernel
theorem d_MO_lay_50 : decode b_MO_lay 50 = .ok (.istore 5, 2) := by decide +kernel
theorem d_MO_lay_52 : decode b_MO_lay 52 = .ok (.iload 4, 2) := by decide +kernel
theorem d_MO_lay_54 : decode b_MO_lay 54 = .ok (.ifCond .ne 45, 3) := by decide +kernel
theorem d_MO_lay_57 : decode b_MO_lay 57 = .ok (.aload_n 0, 1) := by decide +kernel
theorem d_MO_lay_58 : decode b_MO_lay 58 = .ok (.getfield 34, 3) := by decide +kernel
theorem d_MO_lay_61 : decode b_MO_lay 61 = .ok (.iload 4, 2) := by decide +kernel
theorem d_MO_lay_63 : decode b_MO_lay 63 = .ok (.ifCond .eq 7, 3) := by decide +kernel
theorem d_MO_lay_66 : decode b_MO_lay 66 = .ok (.iconst 0, 1) := by decide +kernel
theorem d_MO_lay_67 : decode b_MO_lay 67 = .ok (.goto 4, 3) := by decide +kernel
theorem d_MO_lay_70 : decode b_MO_lay 70 = .ok (.iload_n 1, 1) := by decide +kernel
theorem d_MO_lay_71 : decode b_MO_lay 71 = .ok (.iaload, 1) := by decide +kernel
theorem d_MO_lay_72 : decode b_MO_lay 72 = .ok (.bipush 20, 2) := by decide +kernel
theorem d_MO_lay_74 : decode b_MO_lay 74 = .ok (.if_icmp .eq 21, 3) := by decide +kernel
theorem d_MO_lay_77 : decode b_MO_lay 77 = .ok (.aload_n 0, 1) := by decide +kernel
theorem d_MO_lay_78 : decode b_MO_lay 78 = .ok (.iload 4, 2) := by decide +kernel
theorem d_MO_lay_80 : decode b_MO_lay 80 = .ok (.ifCond .eq 7, 3) := by decide +kernel
theorem d_MO_lay_83 : decode b_MO_lay 83 = .ok (.iconst 0, 1) := by decide +kernel
theorem d_MO_lay_84 : decode b_MO_lay 84 = .ok (.goto 4, 3) := by decide +kernel
theorem d_MO_lay_87 : decode b_MO_lay 87 = .ok (.iload_n 2, 1) := by decide +kernel
theorem d_MO_lay_88 : decode b_MO_lay 88 = .ok (.invokevirtual 92, 3) := by decide +kernel
theorem d_MO_lay_91 : decode b_MO_lay 91 = .ok (.iload_n 3, 1) := by decide +kernel
theorem d_MO_lay_92 : decode b_MO_lay 92 = .ok (.if_icmp .ge 7, 3) := by decide +kernel
theorem d_MO_lay_95 : decode b_MO_lay 95 = .ok (.iconst 1, 1) := by decide +kernel
theorem d_MO_lay_96 : decode b_MO_lay 96 = .ok (.goto 4, 3) := by decide +kernel
theorem d_MO_lay_99 : decode b_MO_lay 99 = .ok (.iconst 0, 1) := by decide +kernel
theorem d_MO_lay_100 : decode b_MO_lay 100 = .ok (.istore 6, 2) := by decide +kernel
theorem d_MO_lay_102 : decode b_MO_lay 102 = .ok (.aload_n 0, 1) := by decide +kernel
theorem d_MO_lay_103 : decode b_MO_lay 103 = .ok (.iload 4, 2) := by decide +kernel
theorem d_MO_lay_105 : decode b_MO_lay 105 = .ok (.iload 5, 2) := by decide +kernel
theorem d_MO_lay_107 : decode b_MO_lay 107 = .ok (.iload_n 3, 1) := by decide +kernel
theorem d_MO_lay_108 : decode b_MO_lay 108 = .ok (.iconst 1, 1) := by decide +kernel
theorem d_MO_lay_109 : decode b_MO_lay 109 = .ok (.sipush 1000, 3) := by decide +kernel
theorem d_MO_lay_112 : decode b_MO_lay 112 = .ok (.invokestatic 66, 3) := by decide +kernel
theorem d_MO_lay_115 : decode b_MO_lay 115 = .ok (.ifCond .ne 7, 3) := by decide +kernel
theorem d_MO_lay_118 : decode b_MO_lay 118 = .ok (.iconst 1, 1) := by decide +kernel
theorem d_MO_lay_119 : decode b_MO_lay 119 = .ok (.goto 4, 3) := by decide +kernel
theorem d_MO_lay_122 : decode b_MO_lay 122 = .ok (.iconst 0, 1) := by decide +kernel
theorem d_MO_lay_123 : decode b_MO_lay 123 = .ok (.iload 6, 2) := by decide +kernel
theorem d_MO_lay_125 : decode b_MO_lay 125 = .ok (.invokevirtual 79, 3) := by decide +kernel
theorem d_MO_lay_128 : decode b_MO_lay 128 = .ok (.ifCond .eq 5, 3) := by decide +kernel
theorem d_MO_lay_131 : decode b_MO_lay 131 = .ok (.iconst 0, 1) := by decide +kernel
theorem d_MO_lay_132 : decode b_MO_lay 132 = .ok (.ireturn, 1) := by decide +kernel
theorem d_MO_lay_133 : decode b_MO_lay 133 = .ok (.bipush 20, 2) := by decide +kernel
theorem d_MO_lay_135 : decode b_MO_lay 135 = .ok (.iload_n 1, 1) := by decide +kernel
theorem d_MO_lay_136 : decode b_MO_lay 136 = .ok (.imul, 1) := by decide +kernel
theorem d_MO_lay_137 : decode b_MO_lay 137 = .ok (.aload_n 0, 1) := by decide +kernel
theorem d_MO_lay_138 : decode b_MO_lay 138 = .ok (.getfield 34, 3) := by decide +kernel
theorem d_MO_lay_141 : decode b_MO_lay 141 = .ok (.iload_n 1, 1) := by decide +kernel
theorem d_MO_lay_142 : decode b_MO_lay 142 = .ok (.iaload, 1) := by decide +kernel
theorem d_MO_lay_143 : decode b_MO_lay 143 = .ok (.iadd, 1) := by decide +kernel
theorem d_MO_lay_144 : decode b_MO_lay 144 = .ok (.istore 7, 2) := by decide +kernel
theorem d_MO_lay_146 : decode b_MO_lay 146 = .ok (.aload_n 0, 1) := by decide +kernel
theorem d_MO_lay_147 : decode b_MO_lay 147 = .ok (.getfield 37, 3) := by decide +kernel
theorem d_MO_lay_150 : decode b_MO_lay 150 = .ok (.iload 7, 2) := by decide +kernel
theorem d_MO_lay_152 : decode b_MO_lay 152 = .ok (.iload_n 3, 1) := by decide +kernel
theorem d_MO_lay_153 : decode b_MO_lay 153 = .ok (.sipush 1000, 3) := by decide +kernel
theorem d_MO_lay_156 : decode b_MO_lay 156 = .ok (.aload_n 0, 1) := by decide +kernel
theorem d_MO_lay_157 : decode b_MO_lay 157 = .ok (.getfield 7, 3) := by decide +kernel
theorem d_MO_lay_160 : decode b_MO_lay 160 = .ok (.iload_n 2, 1) := by decide +kernel
theorem d_MO_lay_161 : decode b_MO_lay 161 = .ok (.iaload, 1) := by decide +kernel
theorem d_MO_lay_162 : decode b_MO_lay 162 = .ok (.isub, 1) := by decide +kernel
theorem d_MO_lay_163 : decode b_MO_lay 163 = .ok (.imul, 1) := by decide +kernel
theorem d_MO_lay_164 : decode b_MO_lay 164 = .ok (.iastore, 1) := by decide +kernel
theorem d_MO_lay_165 : decode b_MO_lay 165 = .ok (.iconst 0, 1) := by decide +kernel
theorem d_MO_lay_166 : decode b_MO_lay 166 = .ok (.istore 8, 2) := by decide +kernel
theorem d_MO_lay_168 : decode b_MO_lay 168 = .ok (.iload 8, 2) := by decide +kernel
theorem d_MO_lay_170 : decode b_MO_lay 170 = .ok (.iconst 4, 1) := by decide +kernel
theorem d_MO_lay_171 : decode b_MO_lay 171 = .ok (.if_icmp .ge 32, 3) := by decide +kernel
theorem d_MO_lay_174 : decode b_MO_lay 174 = .ok (.aload_n 0, 1) := by decide +kernel
theorem d_MO_lay_175 : decode b_MO_lay 175 = .ok (.getfield 40, 3) := by decide +kernel
theorem d_MO_lay_178 : decode b_MO_lay 178 = .ok (.iconst 4, 1) := by decide +kernel
theorem d_MO_lay_179 : decode b_MO_lay 179 = .ok (.iload 7, 2) := by decide +kernel
theorem d_MO_lay_181 : decode b_MO_lay 181 = .ok (.imul, 1) := by decide +kernel
theorem d_MO_lay_182 : decode b_MO_lay 182 = .ok (.iload 8, 2) := by decide +kernel
theorem d_MO_lay_184 : decode b_MO_lay 184 = .ok (.iadd, 1) := by decide +kernel
theorem d_MO_lay_185 : decode b_MO_lay 185 = .ok (.aload_n 0, 1) := by decide +kernel
theorem d_MO_lay_186 : decode b_MO_lay 186 = .ok (.getfield 13, 3) := by decide +kernel
theorem d_MO_lay_189 : decode b_MO_lay 189 = .ok (.iconst 4, 1) := by decide +kernel
theorem d_MO_lay_190 : decode b_MO_lay 190 = .ok (.iload_n 2, 1) := by decide +kernel
theorem d_MO_lay_191 : decode b_MO_lay 191 = .ok (.imul, 1) := by decide +kernel
theorem d_MO_lay_192 : decode b_MO_lay 192 = .ok (.iload 8, 2) := by decide +kernel
theorem d_MO_lay_194 : decode b_MO_lay 194 = .ok (.iadd, 1) := by decide +kernel
theorem d_MO_lay_195 : decode b_MO_lay 195 = .ok (.iaload, 1) := by decide +kernel
theorem d_MO_lay_196 : decode b_MO_lay 196 = .ok (.iastore, 1) := by decide +kernel
theorem d_MO_lay_197 : decode b_MO_lay 197 = .ok (.iinc 8 1, 3) := by decide +kernel
theorem d_MO_lay_200 : decode b_MO_lay 200 = .ok (.goto (-32), 3) := by decide +kernel
theorem d_MO_lay_203 : decode b_MO_lay 203 = .ok (.aload_n 0, 1) := by decide +kernel
theorem d_MO_lay_204 : decode b_MO_lay 204 = .ok (.getfield 34, 3) := by decide +kernel
theorem d_MO_lay_207 : decode b_MO_lay 207 = .ok (.iload_n 1, 1) := by decide +kernel
theorem d_MO_lay_208 : decode b_MO_lay 208 = .ok (.dup2, 1) := by decide +kernel
theorem d_MO_lay_209 : decode b_MO_lay 209 = .ok (.iaload, 1) := by decide +kernel
theorem d_MO_lay_210 : decode b_MO_lay 210 = .ok (.iconst 1, 1) := by decide +kernel
theorem d_MO_lay_211 : decode b_MO_lay 211 = .ok (.iadd, 1) := by decide +kernel
theorem d_MO_lay_212 : decode b_MO_lay 212 = .ok (.iastore, 1) := by decide +kernel
theorem d_MO_lay_213 : decode b_MO_lay 213 = .ok (.aload_n 0, 1) := by decide +kernel
theorem d_MO_lay_214 : decode b_MO_lay 214 = .ok (.getfield 25, 3) := by decide +kernel
theorem d_MO_lay_217 : decode b_MO_lay 217 = .ok (.iload_n 2, 1) := by decide +kernel
theorem d_MO_lay_218 : decode b_MO_lay 218 = .ok (.dup2, 1) := by decide +kernel
theorem d_MO_lay_219 : decode b_MO_lay 219 = .ok (.iaload, 1) := by decide +kernel
theorem d_MO_lay_220 : decode b_MO_lay 220 = .ok (.iload_n 3, 1) := by decide +kernel
theorem d_MO_lay_221 : decode b_MO_lay 221 = .ok (.iadd, 1) := by decide +kernel
theorem d_MO_lay_222 : decode b_MO_lay 222 = .ok (.iastore, 1) := by decide +kernel
theorem d_MO_lay_223 : decode b_MO_lay 223 = .ok (.aload_n 0, 1) := by decide +kernel
theorem d_MO_lay_224 : decode b_MO_lay 224 = .ok (.iload_n 1, 1) := by decide +kernel
theorem d_MO_lay_225 : decode b_MO_lay 225 = .ok (.invokevirtual 100, 3) := by decide +kernel
theorem d_MO_lay_228 : decode b_MO_lay 228 = .ok (.ireturn, 1) := by decide +kernel
theorem d_MO_ahead_0 : decode b_MO_ahead 0 = .ok (.aload_n 0, 1) := by decide +kernel
theorem d_MO_ahead_1 : decode b_MO_ahead 1 = .ok (.getfield 37, 3) := by decide +kernel
theorem d_MO_ahead_4 : decode b_MO_ahead 4 = .ok (.iload_n 1, 1) := by decide +kernel
theorem d_MO_ahead_5 : decode b_MO_ahead 5 = .ok (.iaload, 1) := by decide +kernel
theorem d_MO_ahead_6 : decode b_MO_ahead 6 = .ok (.i2l, 1) := by decide +kernel
theorem d_MO_ahead_7 : decode b_MO_ahead 7 = .ok (.lload_n 2, 1) := by decide +kernel
theorem d_MO_ahead_8 : decode b_MO_ahead 8 = .ok (.lmul, 1) := by decide +kernel
theorem d_MO_ahead_9 : decode b_MO_ahead 9 = .ok (.iload 4, 2) := by decide +kernel
theorem d_MO_ahead_11 : decode b_MO_ahead 11 = .ok (.i2l, 1) := by decide +kernel
theorem d_MO_ahead_12 : decode b_MO_ahead 12 = .ok (.ldiv, 1) := by decide +kernel
theorem d_MO_ahead_13 : decode b_MO_ahead 13 = .ok (.lreturn, 1) := by decide +kernel
theorem d_MO_takes_0 : decode b_MO_takes 0 = .ok (.aload_n 0, 1) := by decide +kernel
theorem d_MO_takes_1 : decode b_MO_takes 1 = .ok (.bipush 20, 2) := by decide +kernel
theorem d_MO_takes_3 : decode b_MO_takes 3 = .ok (.iload_n 1, 1) := by decide +kernel
theorem d_MO_takes_4 : decode b_MO_takes 4 = .ok (.imul, 1) := by decide +kernel
theorem d_MO_takes_5 : decode b_MO_takes 5 = .ok (.iload_n 2, 1) := by decide +kernel
theorem d_MO_takes_6 : decode b_MO_takes 6 = .ok (.iadd, 1) := by decide +kernel
theorem d_MO_takes_7 : decode b_MO_takes 7 = .ok (.iload_n 3, 1) := by decide +kernel
theorem d_MO_takes_8 : decode b_MO_takes 8 = .ok (.i2l, 1) := by decide +kernel
theorem d_MO_takes_9 : decode b_MO_takes 9 = .ok (.lconst 1, 1) := by decide +kernel
theorem d_MO_takes_10 : decode b_MO_takes 10 = .ok (.ladd, 1) := by decide +kernel
theorem d_MO_takes_11 : decode b_MO_takes 11 = .ok (.aload_n 0, 1) := by decide +kernel
theorem d_MO_takes_12 : decode b_MO_takes 12 = .ok (.getfield 28, 3) := by decide +kernel
theorem d_MO_takes_15 : decode b_MO_takes 15 = .ok (.iload_n 1, 1) := by decide +kernel
theorem d_MO_takes_16 : decode b_MO_takes 16 = .ok (.iaload, 1) := by decide +kernel
theorem d_MO_takes_17 : decode b_MO_takes 17 = .ok (.invokevirtual 103, 3) := by decide +kernel
theorem d_MO_takes_20 : decode b_MO_takes 20 = .ok (.aload_n 0, 1) := by decide +kernel
theorem d_MO_takes_21 : decode b_MO_takes 21 = .ok (.bipush 20, 2) := by decide +kernel
theorem d_MO_takes_23 : decode b_MO_takes 23 = .ok (.iload_n 1, 1) := by decide +kernel
theorem d_MO_takes_24 : decode b_MO_takes 24 = .ok (.imul, 1) := by decide +kernel
theorem d_MO_takes_25 : decode b_MO_takes 25 = .ok (.iload_n 2, 1) := by decide +kernel
theorem d_MO_takes_26 : decode b_MO_takes 26 = .ok (.iadd, 1) := by decide +kernel
theorem d_MO_takes_27 : decode b_MO_takes 27 = .ok (.iload_n 3, 1) := by decide +kernel
theorem d_MO_takes_28 : decode b_MO_takes 28 = .ok (.i2l, 1) := by decide +kernel
theorem d_MO_takes_29 : decode b_MO_takes 29 = .ok (.aload_n 0, 1) := by decide +kernel
theorem d_MO_takes_30 : decode b_MO_takes 30 = .ok (.getfield 28, 3) := by decide +kernel
theorem d_MO_takes_33 : decode b_MO_takes 33 = .ok (.iload_n 1, 1) := by decide +kernel
theorem d_MO_takes_34 : decode b_MO_takes 34 = .ok (.iaload, 1) := by decide +kernel
theorem d_MO_takes_35 : decode b_MO_takes 35 = .ok (.invokevirtual 103, 3) := by decide +kernel
theorem d_MO_takes_38 : decode b_MO_takes 38 = .ok (.lsub, 1) := by decide +kernel
theorem d_MO_takes_39 : decode b_MO_takes 39 = .ok (.lreturn, 1) := by decide +kernel
theorem d_MO_gramsIn_0 : decode b_MO_gramsIn 0 = .ok (.lconst 0, 1) := by decide +kernel
theorem d_MO_gramsIn_1 : decode b_MO_gramsIn 1 = .ok (.lstore_n 3, 1) := by decide +kernel
theorem d_MO_gramsIn_2 : decode b_MO_gramsIn 2 = .ok (.iconst 0, 1) := by decide +kernel
theorem d_MO_gramsIn_3 : decode b_MO_gramsIn 3 = .ok (.istore 5, 2) := by decide +kernel
theorem d_MO_gramsIn_5 : decode b_MO_gramsIn 5 = .ok (.iload 5, 2) := by decide +kernel
theorem d_MO_gramsIn_7 : decode b_MO_gramsIn 7 = .ok (.aload_n 0, 1) := by decide +kernel
theorem d_MO_gramsIn_8 : decode b_MO_gramsIn 8 = .ok (.getfield 34, 3) := by decide +kernel
theorem d_MO_gramsIn_11 : decode b_MO_gramsIn 11 = .ok (.iload_n 1, 1) := by decide +kernel
theorem d_MO_gramsIn_12 : decode b_MO_gramsIn 12 = .ok (.iaload, 1) := by decide +kernel
theorem d_MO_gramsIn_13 : decode b_MO_gramsIn 13 = .ok (.if_icmp .ge 20, 3) := by decide +kernel
theorem d_MO_gramsIn_16 : decode b_MO_gramsIn 16 = .ok (.lload_n 3, 1) := by decide +kernel
theorem d_MO_gramsIn_17 : decode b_MO_gramsIn 17 = .ok (.aload_n 0, 1) := by decide +kernel
theorem d_MO_gramsIn_18 : decode b_MO_gramsIn 18 = .ok (.iload_n 1, 1) := by decide +kernel
theorem d_MO_gramsIn_19 : decode b_MO_gramsIn 19 = .ok (.iload 5, 2) := by decide +kernel
theorem d_MO_gramsIn_21 : decode b_MO_gramsIn 21 = .ok (.iload_n 2, 1) := by decide +kernel
theorem d_MO_gramsIn_22 : decode b_MO_gramsIn 22 = .ok (.invokevirtual 107, 3) := by decide +kernel
theorem d_MO_gramsIn_25 : decode b_MO_gramsIn 25 = .ok (.ladd, 1) := by decide +kernel
theorem d_MO_gramsIn_26 : decode b_MO_gramsIn 26 = .ok (.lstore_n 3, 1) := by decide +kernel
theorem d_MO_gramsIn_27 : decode b_MO_gramsIn 27 = .ok (.iinc 5 1, 3) := by decide +kernel
theorem d_MO_gramsIn_30 : decode b_MO_gramsIn 30 = .ok (.goto (-25), 3) := by decide +kernel
theorem d_MO_gramsIn_33 : decode b_MO_gramsIn 33 = .ok (.lload_n 3, 1) := by decide +kernel
theorem d_MO_gramsIn_34 : decode b_MO_gramsIn 34 = .ok (.lreturn, 1) := by decide +kernel
theorem d_MO_heldIn_0 : decode b_MO_heldIn 0 = .ok (.lconst 0, 1) := by decide +kernel
theorem d_MO_heldIn_1 : decode b_MO_heldIn 1 = .ok (.lstore 4, 2) := by decide +kernel
theorem d_MO_heldIn_3 : decode b_MO_heldIn 3 = .ok (.iconst 0, 1) := by decide +kernel
theorem d_MO_heldIn_4 : decode b_MO_heldIn 4 = .ok (.istore 6, 2) := by decide +kernel
theorem d_MO_heldIn_6 : decode b_MO_heldIn 6 = .ok (.iload 6, 2) := by decide +kernel
theorem d_MO_heldIn_8 : decode b_MO_heldIn 8 = .ok (.aload_n 0, 1) := by decide +kernel
theorem d_MO_heldIn_9 : decode b_MO_heldIn 9 = .ok (.getfield 34, 3) := by decide +kernel
theorem d_MO_heldIn_12 : decode b_MO_heldIn 12 = .ok (.iload_n 1, 1) := by decide +kernel
theorem d_MO_heldIn_13 : decode b_MO_heldIn 13 = .ok (.iaload, 1) := by decide +kernel
theorem d_MO_heldIn_14 : decode b_MO_heldIn 14 = .ok (.if_icmp .ge 40, 3) := by decide +kernel
theorem d_MO_heldIn_17 : decode b_MO_heldIn 17 = .ok (.lload 4, 2) := by decide +kernel
theorem d_MO_heldIn_19 : decode b_MO_heldIn 19 = .ok (.aload_n 0, 1) := by decide +kernel
theorem d_MO_heldIn_20 : decode b_MO_heldIn 20 = .ok (.iload_n 1, 1) := by decide +kernel
theorem d_MO_heldIn_21 : decode b_MO_heldIn 21 = .ok (.iload 6, 2) := by decide +kernel
theorem d_MO_heldIn_23 : decode b_MO_heldIn 23 = .ok (.iload_n 2, 1) := by decide +kernel
theorem d_MO_heldIn_24 : decode b_MO_heldIn 24 = .ok (.invokevirtual 107, 3) := by decide +kernel
theorem d_MO_heldIn_27 : decode b_MO_heldIn 27 = .ok (.aload_n 0, 1) := by decide +kernel
theorem d_MO_heldIn_28 : decode b_MO_heldIn 28 = .ok (.getfield 40, 3) := by decide +kernel
theorem d_MO_heldIn_31 : decode b_MO_heldIn 31 = .ok (.iconst 4, 1) := by decide +kernel
theorem d_MO_heldIn_32 : decode b_MO_heldIn 32 = .ok (.bipush 20, 2) := by decide +kernel
theorem d_MO_heldIn_34 : decode b_MO_heldIn 34 = .ok (.iload_n 1, 1) := by decide +kernel
theorem d_MO_heldIn_35 : decode b_MO_heldIn 35 = .ok (.imul, 1) := by decide +kernel
theorem d_MO_heldIn_36 : decode b_MO_heldIn 36 = .ok (.iload 6, 2) := by decide +kernel
theorem d_MO_heldIn_38 : decode b_MO_heldIn 38 = .ok (.iadd, 1) := by decide +kernel
theorem d_MO_heldIn_39 : decode b_MO_heldIn 39 = .ok (.imul, 1) := by decide +kernel
theorem d_MO_heldIn_40 : decode b_MO_heldIn 40 = .ok (.iload_n 3, 1) := by decide +kernel
theorem d_MO_heldIn_41 : decode b_MO_heldIn 41 = .ok (.iadd, 1) := by decide +kernel
theorem d_MO_heldIn_42 : decode b_MO_heldIn 42 = .ok (.iaload, 1) := by decide +kernel
theorem d_MO_heldIn_43 : decode b_MO_heldIn 43 = .ok (.i2l, 1) := by decide +kernel
theorem d_MO_heldIn_44 : decode b_MO_heldIn 44 = .ok (.lmul, 1) := by decide +kernel
theorem d_MO_heldIn_45 : decode b_MO_heldIn 45 = .ok (.ladd, 1) := by decide +kernel
theorem d_MO_heldIn_46 : decode b_MO_heldIn 46 = .ok (.lstore 4, 2) := by decide +kernel
theorem d_MO_heldIn_48 : decode b_MO_heldIn 48 = .ok (.iinc 6 1, 3) := by decide +kernel
theorem d_MO_heldIn_51 : decode b_MO_heldIn 51 = .ok (.goto (-45), 3) := by decide +kernel
theorem d_MO_heldIn_54 : decode b_MO_heldIn 54 = .ok (.lload 4, 2) := by decide +kernel
theorem d_MO_heldIn_56 : decode b_MO_heldIn 56 = .ok (.lreturn, 1) := by decide +kernel
theorem d_MO_spreadBy_0 : decode b_MO_spreadBy 0 = .ok (.iconst 4, 1) := by decide +kernel
theorem d_MO_spreadBy_1 : decode b_MO_spreadBy 1 = .ok (.iload_n 1, 1) := by decide +kernel
theorem d_MO_spreadBy_2 : decode b_MO_spreadBy 2 = .ok (.imul, 1) := by decide +kernel
theorem d_MO_spreadBy_3 : decode b_MO_spreadBy 3 = .ok (.iload_n 2, 1) := by decide +kernel
theorem d_MO_spreadBy_4 : decode b_MO_spreadBy 4 = .ok (.iadd, 1) := by decide +kernel
theorem d_MO_spreadBy_5 : decode b_MO_spreadBy 5 = .ok (.istore 7, 2) := by decide +kernel
theorem d_MO_spreadBy_7 : decode b_MO_spreadBy 7 = .ok (.lload_n 3, 1) := by decide +kernel
theorem d_MO_spreadBy_8 : decode b_MO_spreadBy 8 = .ok (.lload 5, 2) := by decide +kernel
theorem d_MO_spreadBy_10 : decode b_MO_spreadBy 10 = .ok (.iconst 0, 1) := by decide +kernel
theorem d_MO_spreadBy_11 : decode b_MO_spreadBy 11 = .ok (.invokestatic 111, 3) := by decide +kernel
theorem d_MO_spreadBy_14 : decode b_MO_spreadBy 14 = .ok (.lstore 8, 2) := by decide +kernel
theorem d_MO_spreadBy_16 : decode b_MO_spreadBy 16 = .ok (.lload_n 3, 1) := by decide +kernel
theorem d_MO_spreadBy_17 : decode b_MO_spreadBy 17 = .ok (.lload 5, 2) := by decide +kernel
theorem d_MO_spreadBy_19 : decode b_MO_spreadBy 19 = .ok (.iconst 1, 1) := by decide +kernel
theorem d_MO_spreadBy_20 : decode b_MO_spreadBy 20 = .ok (.invokestatic 111, 3) := by decide +kernel
theorem d_MO_spreadBy_23 : decode b_MO_spreadBy 23 = .ok (.lstore 10, 2) := by decide +kernel
theorem d_MO_spreadBy_25 : decode b_MO_spreadBy 25 = .ok (.aload_n 0, 1) := by decide +kernel
theorem d_MO_spreadBy_26 : decode b_MO_spreadBy 26 = .ok (.getfield 47, 3) := by decide +kernel
theorem d_MO_spreadBy_29 : decode b_MO_spreadBy 29 = .ok (.iload 7, 2) := by decide +kernel
theorem d_MO_spreadBy_31 : decode b_MO_spreadBy 31 = .ok (.laload, 1) := by decide +kernel
theorem d_MO_spreadBy_32 : decode b_MO_spreadBy 32 = .ok (.lconst 0, 1) := by decide +kernel
theorem d_MO_spreadBy_33 : decode b_MO_spreadBy 33 = .ok (.lcmp, 1) := by decide +kernel
theorem d_MO_spreadBy_34 : decode b_MO_spreadBy 34 = .ok (.ifCond .eq 27, 3) := by decide +kernel
theorem d_MO_spreadBy_37 : decode b_MO_spreadBy 37 = .ok (.lload 8, 2) := by decide +kernel
theorem d_MO_spreadBy_39 : decode b_MO_spreadBy 39 = .ok (.aload_n 0, 1) := by decide +kernel
theorem d_MO_spreadBy_40 : decode b_MO_spreadBy 40 = .ok (.getfield 47, 3) := by decide +kernel
theorem d_MO_spreadBy_43 : decode b_MO_spreadBy 43 = .ok (.iload 7, 2) := by decide +kernel
theorem d_MO_spreadBy_45 : decode b_MO_spreadBy 45 = .ok (.laload, 1) := by decide +kernel
theorem d_MO_spreadBy_46 : decode b_MO_spreadBy 46 = .ok (.lmul, 1) := by decide +kernel
theorem d_MO_spreadBy_47 : decode b_MO_spreadBy 47 = .ok (.aload_n 0, 1) := by decide +kernel
theorem d_MO_spreadBy_48 : decode b_MO_spreadBy 48 = .ok (.getfield 43, 3) := by decide +kernel
theorem d_MO_spreadBy_51 : decode b_MO_spreadBy 51 = .ok (.iload 7, 2) := by decide +kernel
theorem d_MO_spreadBy_53 : decode b_MO_spreadBy 53 = .ok (.laload, 1) := by decide +kernel
theorem d_MO_spreadBy_54 : decode b_MO_spreadBy 54 = .ok (.lload 10, 2) := by decide +kernel
theorem d_MO_spreadBy_56 : decode b_MO_spreadBy 56 = .ok (.lmul, 1) := by decide +kernel
theorem d_MO_spreadBy_57 : decode b_MO_spreadBy 57 = .ok (.lcmp, 1) := by decide +kernel
theorem d_MO_spreadBy_58 : decode b_MO_spreadBy 58 = .ok (.ifCond .le 21, 3) := by decide +kernel
theorem d_MO_spreadBy_61 : decode b_MO_spreadBy 61 = .ok (.aload_n 0, 1) := by decide +kernel
theorem d_MO_spreadBy_62 : decode b_MO_spreadBy 62 = .ok (.getfield 43, 3) := by decide +kernel
theorem d_MO_spreadBy_65 : decode b_MO_spreadBy 65 = .ok (.iload 7, 2) := by decide +kernel
theorem d_MO_spreadBy_67 : decode b_MO_spreadBy 67 = .ok (.lload 8, 2) := by decide +kernel
theorem d_MO_spreadBy_69 : decode b_MO_spreadBy 69 = .ok (.lastore, 1) := by decide +kernel
theorem d_MO_spreadBy_70 : decode b_MO_spreadBy 70 = .ok (.aload_n 0, 1) := by decide +kernel
theorem d_MO_spreadBy_71 : decode b_MO_spreadBy 71 = .ok (.getfield 47, 3) := by decide +kernel
theorem d_MO_spreadBy_74 : decode b_MO_spreadBy 74 = .ok (.iload 7, 2) := by decide +kernel
theorem d_MO_spreadBy_76 : decode b_MO_spreadBy 76 = .ok (.lload 10, 2) := by decide +kernel
theorem d_MO_spreadBy_78 : decode b_MO_spreadBy 78 = .ok (.lastore, 1) := by decide +kernel
theorem d_MO_spreadBy_79 : decode b_MO_spreadBy 79 = .ok (.aload_n 0, 1) := by decide +kernel
theorem d_MO_spreadBy_80 : decode b_MO_spreadBy 80 = .ok (.getfield 53, 3) := by decide +kernel
theorem d_MO_spreadBy_83 : decode b_MO_spreadBy 83 = .ok (.iload 7, 2) := by decide +kernel
theorem d_MO_spreadBy_85 : decode b_MO_spreadBy 85 = .ok (.laload, 1) := by decide +kernel
theorem d_MO_spreadBy_86 : decode b_MO_spreadBy 86 = .ok (.lconst 0, 1) := by decide +kernel
theorem d_MO_spreadBy_87 : decode b_MO_spreadBy 87 = .ok (.lcmp, 1) := by decide +kernel
theorem d_MO_spreadBy_88 : decode b_MO_spreadBy 88 = .ok (.ifCond .eq 27, 3) := by decide +kernel
theorem d_MO_spreadBy_91 : decode b_MO_spreadBy 91 = .ok (.lload 8, 2) := by decide +kernel
theorem d_MO_spreadBy_93 : decode b_MO_spreadBy 93 = .ok (.aload_n 0, 1) := by decide +kernel
theorem d_MO_spreadBy_94 : decode b_MO_spreadBy 94 = .ok (.getfield 53, 3) := by decide +kernel
theorem d_MO_spreadBy_97 : decode b_MO_spreadBy 97 = .ok (.iload 7, 2) := by decide +kernel
theorem d_MO_spreadBy_99 : decode b_MO_spreadBy 99 = .ok (.laload, 1) := by decide +kernel
theorem d_MO_spreadBy_100 : decode b_MO_spreadBy 100 = .ok (.lmul, 1) := by decide +kernel
theorem d_MO_spreadBy_101 : decode b_MO_spreadBy 101 = .ok (.aload_n 0, 1) := by decide +kernel
theorem d_MO_spreadBy_102 : decode b_MO_spreadBy 102 = .ok (.getfield 50, 3) := by decide +kernel
theorem d_MO_spreadBy_105 : decode b_MO_spreadBy 105 = .ok (.iload 7, 2) := by decide +kernel
theorem d_MO_spreadBy_107 : decode b_MO_spreadBy 107 = .ok (.laload, 1) := by decide +kernel
theorem d_MO_spreadBy_108 : decode b_MO_spreadBy 108 = .ok (.lload 10, 2) := by decide +kernel
theorem d_MO_spreadBy_110 : decode b_MO_spreadBy 110 = .ok (.lmul, 1) := by decide +kernel
theorem d_MO_spreadBy_111 : decode b_MO_spreadBy 111 = .ok (.lcmp, 1) := by decide +kernel
theorem d_MO_spreadBy_112 : decode b_MO_spreadBy 112 = .ok (.ifCond .ge 21, 3) := by decide +kernel
theorem d_MO_spreadBy_115 : decode b_MO_spreadBy 115 = .ok (.aload_n 0, 1) := by decide +kernel
theorem d_MO_spreadBy_116 : decode b_MO_spreadBy 116 = .ok (.getfield 50, 3) := by decide +kernel
theorem d_MO_spreadBy_119 : decode b_MO_spreadBy 119 = .ok (.iload 7, 2) := by decide +kernel
theorem d_MO_spreadBy_121 : decode b_MO_spreadBy 121 = .ok (.lload 8, 2) := by decide +kernel
theorem d_MO_spreadBy_123 : decode b_MO_spreadBy 123 = .ok (.lastore, 1) := by decide +kernel
theorem d_MO_spreadBy_124 : decode b_MO_spreadBy 124 = .ok (.aload_n 0, 1) := by decide +kernel
theorem d_MO_spreadBy_125 : decode b_MO_spreadBy 125 = .ok (.getfield 53, 3) := by decide +kernel
theorem d_MO_spreadBy_128 : decode b_MO_spreadBy 128 = .ok (.iload 7, 2) := by decide +kernel
theorem d_MO_spreadBy_130 : decode b_MO_spreadBy 130 = .ok (.lload 10, 2) := by decide +kernel
theorem d_MO_spreadBy_132 : decode b_MO_spreadBy 132 = .ok (.lastore, 1) := by decide +kernel
theorem d_MO_spreadBy_133 : decode b_MO_spreadBy 133 = .ok (.return_, 1) := by decide +kernel
theorem d_MO_slice_0 : decode b_MO_slice 0 = .ok (.aload_n 0, 1) := by decide +kernel
theorem d_MO_slice_1 : decode b_MO_slice 1 = .ok (.iload_n 1, 1) := by decide +kernel
theorem d_MO_slice_2 : decode b_MO_slice 2 = .ok (.invokevirtual 97, 3) := by decide +kernel
theorem d_MO_slice_5 : decode b_MO_slice 5 = .ok (.ifCond .ne 7, 3) := by decide +kernel
theorem d_MO_slice_8 : decode b_MO_slice 8 = .ok (.iconst 1, 1) := by decide +kernel
theorem d_MO_slice_9 : decode b_MO_slice 9 = .ok (.goto 4, 3) := by decide +kernel
theorem d_MO_slice_12 : decode b_MO_slice 12 = .ok (.iconst 0, 1) := by decide +kernel
theorem d_MO_slice_13 : decode b_MO_slice 13 = .ok (.istore_n 2, 1) := by decide +kernel
theorem d_MO_slice_14 : decode b_MO_slice 14 = .ok (.iload_n 2, 1) := by decide +kernel
theorem d_MO_slice_15 : decode b_MO_slice 15 = .ok (.ifCond .ne 55, 3) := by decide +kernel
theorem d_MO_slice_18 : decode b_MO_slice 18 = .ok (.aload_n 0, 1) := by decide +kernel
theorem d_MO_slice_19 : decode b_MO_slice 19 = .ok (.getfield 34, 3) := by decide +kernel
theorem d_MO_slice_22 : decode b_MO_slice 22 = .ok (.iload_n 2, 1) := by decide +kernel
theorem d_MO_slice_23 : decode b_MO_slice 23 = .ok (.ifCond .eq 7, 3) := by decide +kernel
theorem d_MO_slice_26 : decode b_MO_slice 26 = .ok (.iconst 0, 1) := by decide +kernel
theorem d_MO_slice_27 : decode b_MO_slice 27 = .ok (.goto 4, 3) := by decide +kernel
theorem d_MO_slice_30 : decode b_MO_slice 30 = .ok (.iload_n 1, 1) := by decide +kernel
theorem d_MO_slice_31 : decode b_MO_slice 31 = .ok (.iaload, 1) := by decide +kernel
theorem d_MO_slice_32 : decode b_MO_slice 32 = .ok (.ifCond .eq 34, 3) := by decide +kernel
theorem d_MO_slice_35 : decode b_MO_slice 35 = .ok (.aload_n 0, 1) := by decide +kernel
theorem d_MO_slice_36 : decode b_MO_slice 36 = .ok (.getfield 31, 3) := by decide +kernel
theorem d_MO_slice_39 : decode b_MO_slice 39 = .ok (.iload_n 2, 1) := by decide +kernel
theorem d_MO_slice_40 : decode b_MO_slice 40 = .ok (.ifCond .eq 7, 3) := by decide +kernel
theorem d_MO_slice_43 : decode b_MO_slice 43 = .ok (.iconst 0, 1) := by decide +kernel
theorem d_MO_slice_44 : decode b_MO_slice 44 = .ok (.goto 4, 3) := by decide +kernel
theorem d_MO_slice_47 : decode b_MO_slice 47 = .ok (.iload_n 1, 1) := by decide +kernel
theorem d_MO_slice_48 : decode b_MO_slice 48 = .ok (.iaload, 1) := by decide +kernel
theorem d_MO_slice_49 : decode b_MO_slice 49 = .ok (.aload_n 0, 1) := by decide +kernel
theorem d_MO_slice_50 : decode b_MO_slice 50 = .ok (.getfield 28, 3) := by decide +kernel
theorem d_MO_slice_53 : decode b_MO_slice 53 = .ok (.iload_n 2, 1) := by decide +kernel
theorem d_MO_slice_54 : decode b_MO_slice 54 = .ok (.ifCond .eq 7, 3) := by decide +kernel
theorem d_MO_slice_57 : decode b_MO_slice 57 = .ok (.iconst 0, 1) := by decide +kernel
theorem d_MO_slice_58 : decode b_MO_slice 58 = .ok (.goto 4, 3) := by decide +kernel
theorem d_MO_slice_61 : decode b_MO_slice 61 = .ok (.iload_n 1, 1) := by decide +kernel
theorem d_MO_slice_62 : decode b_MO_slice 62 = .ok (.iaload, 1) := by decide +kernel
theorem d_MO_slice_63 : decode b_MO_slice 63 = .ok (.if_icmp .ne 7, 3) := by decide +kernel
theorem d_MO_slice_66 : decode b_MO_slice 66 = .ok (.iconst 1, 1) := by decide +kernel
theorem d_MO_slice_67 : decode b_MO_slice 67 = .ok (.goto 4, 3) := by decide +kernel
theorem d_MO_slice_70 : decode b_MO_slice 70 = .ok (.iconst 0, 1) := by decide +kernel
theorem d_MO_slice_71 : decode b_MO_slice 71 = .ok (.istore_n 3, 1) := by decide +kernel
theorem d_MO_slice_72 : decode b_MO_slice 72 = .ok (.aload_n 0, 1) := by decide +kernel
theorem d_MO_slice_73 : decode b_MO_slice 73 = .ok (.iload_n 2, 1) := by decide +kernel
theorem d_MO_slice_74 : decode b_MO_slice 74 = .ok (.iload_n 3, 1) := by decide +kernel
theorem d_MO_slice_75 : decode b_MO_slice 75 = .ok (.iconst 0, 1) := by decide +kernel
theorem d_MO_slice_76 : decode b_MO_slice 76 = .ok (.iconst 0, 1) := by decide +kernel
theorem d_MO_slice_77 : decode b_MO_slice 77 = .ok (.invokevirtual 79, 3) := by decide +kernel
theorem d_MO_slice_80 : decode b_MO_slice 80 = .ok (.ifCond .eq 5, 3) := by decide +kernel
theorem d_MO_slice_83 : decode b_MO_slice 83 = .ok (.iconst 0, 1) := by decide +kernel
theorem d_MO_slice_84 : decode b_MO_slice 84 = .ok (.ireturn, 1) := by decide +kernel
theorem d_MO_slice_85 : decode b_MO_slice 85 = .ok (.aload_n 0, 1) := by decide +kernel
theorem d_MO_slice_86 : decode b_MO_slice 86 = .ok (.iload_n 1, 1) := by decide +kernel
theorem d_MO_slice_87 : decode b_MO_slice 87 = .ok (.aload_n 0, 1) := by decide +kernel
theorem d_MO_slice_88 : decode b_MO_slice 88 = .ok (.getfield 31, 3) := by decide +kernel
theorem d_MO_slice_91 : decode b_MO_slice 91 = .ok (.iload_n 1, 1) := by decide +kernel
theorem d_MO_slice_92 : decode b_MO_slice 92 = .ok (.iaload, 1) := by decide +kernel
theorem d_MO_slice_93 : decode b_MO_slice 93 = .ok (.invokevirtual 115, 3) := by decide +kernel
theorem d_MO_slice_96 : decode b_MO_slice 96 = .ok (.lstore 4, 2) := by decide +kernel
theorem d_MO_slice_98 : decode b_MO_slice 98 = .ok (.iconst 0, 1) := by decide +kernel
theorem d_MO_slice_99 : decode b_MO_slice 99 = .ok (.istore 6, 2) := by decide +kernel
theorem d_MO_slice_101 : decode b_MO_slice 101 = .ok (.iload 6, 2) := by decide +kernel
theorem d_MO_slice_103 : decode b_MO_slice 103 = .ok (.iconst 4, 1) := by decide +kernel
theorem d_MO_slice_104 : decode b_MO_slice 104 = .ok (.if_icmp .ge 38, 3) := by decide +kernel
theorem d_MO_slice_107 : decode b_MO_slice 107 = .ok (.lload 4, 2) := by decide +kernel
theorem d_MO_slice_109 : decode b_MO_slice 109 = .ok (.lconst 0, 1) := by decide +kernel
theorem d_MO_slice_110 : decode b_MO_slice 110 = .ok (.lcmp, 1) := by decide +kernel
theorem d_MO_slice_111 : decode b_MO_slice 111 = .ok (.ifCond .le 25, 3) := by decide +kernel
theorem d_MO_slice_114 : decode b_MO_slice 114 = .ok (.aload_n 0, 1) := by decide +kernel
theorem d_MO_slice_115 : decode b_MO_slice 115 = .ok (.iload_n 1, 1) := by decide +kernel
theorem d_MO_slice_116 : decode b_MO_slice 116 = .ok (.iload 6, 2) := by decide +kernel
theorem d_MO_slice_118 : decode b_MO_slice 118 = .ok (.aload_n 0, 1) := by decide +kernel
theorem d_MO_slice_119 : decode b_MO_slice 119 = .ok (.iload_n 1, 1) := by decide +kernel
theorem d_MO_slice_120 : decode b_MO_slice 120 = .ok (.aload_n 0, 1) := by decide +kernel
theorem d_MO_slice_121 : decode b_MO_slice 121 = .ok (.getfield 31, 3) := by decide +kernel
theorem d_MO_slice_124 : decode b_MO_slice 124 = .ok (.iload_n 1, 1) := by decide +kernel
theorem d_MO_slice_125 : decode b_MO_slice 125 = .ok (.iaload, 1) := by decide +kernel
theorem d_MO_slice_126 : decode b_MO_slice 126 = .ok (.iload 6, 2) := by decide +kernel
theorem d_MO_slice_128 : decode b_MO_slice 128 = .ok (.invokevirtual 119, 3) := by decide +kernel
theorem d_MO_slice_131 : decode b_MO_slice 131 = .ok (.lload 4, 2) := by decide +kernel
theorem d_MO_slice_133 : decode b_MO_slice 133 = .ok (.invokevirtual 122, 3) := by decide +kernel
theorem d_MO_slice_136 : decode b_MO_slice 136 = .ok (.iinc 6 1, 3) := by decide +kernel
theorem d_MO_slice_139 : decode b_MO_slice 139 = .ok (.goto (-38), 3) := by decide +kernel
theorem d_MO_slice_142 : decode b_MO_slice 142 = .ok (.aload_n 0, 1) := by decide +kernel
theorem d_MO_slice_143 : decode b_MO_slice 143 = .ok (.getfield 31, 3) := by decide +kernel
theorem d_MO_slice_146 : decode b_MO_slice 146 = .ok (.iload_n 1, 1) := by decide +kernel
theorem d_MO_slice_147 : decode b_MO_slice 147 = .ok (.dup2, 1) := by decide +kernel
theorem d_MO_slice_148 : decode b_MO_slice 148 = .ok (.iaload, 1) := by decide +kernel
theorem d_MO_slice_149 : decode b_MO_slice 149 = .ok (.iconst 1, 1) := by decide +kernel
theorem d_MO_slice_150 : decode b_MO_slice 150 = .ok (.iadd, 1) := by decide +kernel
theorem d_MO_slice_151 : decode b_MO_slice 151 = .ok (.iastore, 1) := by decide +kernel
theorem d_MO_slice_152 : decode b_MO_slice 152 = .ok (.lload 4, 2) := by decide +kernel
theorem d_MO_slice_154 : decode b_MO_slice 154 = .ok (.l2i, 1) := by decide +kernel
theorem d_MO_slice_155 : decode b_MO_slice 155 = .ok (.ireturn, 1) := by decide +kernel
theorem d_MO_isUntaken_0 : decode b_MO_isUntaken 0 = .ok (.aload_n 0, 1) := by decide +kernel
theorem d_MO_isUntaken_1 : decode b_MO_isUntaken 1 = .ok (.iload_n 1, 1) := by decide +kernel
theorem d_MO_isUntaken_2 : decode b_MO_isUntaken 2 = .ok (.invokevirtual 97, 3) := by decide +kernel
theorem d_MO_isUntaken_5 : decode b_MO_isUntaken 5 = .ok (.ifCond .eq 16, 3) := by decide +kernel
theorem d_MO_isUntaken_8 : decode b_MO_isUntaken 8 = .ok (.aload_n 0, 1) := by decide +kernel
theorem d_MO_isUntaken_9 : decode b_MO_isUntaken 9 = .ok (.getfield 31, 3) := by decide +kernel
theorem d_MO_isUntaken_12 : decode b_MO_isUntaken 12 = .ok (.iload_n 1, 1) := by decide +kernel
theorem d_MO_isUntaken_13 : decode b_MO_isUntaken 13 = .ok (.iaload, 1) := by decide +kernel
theorem d_MO_isUntaken_14 : decode b_MO_isUntaken 14 = .ok (.ifCond .ne 7, 3) := by decide +kernel
theorem d_MO_isUntaken_17 : decode b_MO_isUntaken 17 = .ok (.iconst 1, 1) := by decide +kernel
theorem d_MO_isUntaken_18 : decode b_MO_isUntaken 18 = .ok (.goto 4, 3) := by decide +kernel
theorem d_MO_isUntaken_21 : decode b_MO_isUntaken 21 = .ok (.iconst 0, 1) := by decide +kernel
theorem d_MO_isUntaken_22 : decode b_MO_isUntaken 22 = .ok (.ireturn, 1) := by decide +kernel
theorem d_MO_share_0 : decode b_MO_share 0 = .ok (.aload_n 0, 1) := by decide +kernel
theorem d_MO_share_1 : decode b_MO_share 1 = .ok (.iload_n 1, 1) := by decide +kernel
theorem d_MO_share_2 : decode b_MO_share 2 = .ok (.invokevirtual 97, 3) := by decide +kernel
theorem d_MO_share_5 : decode b_MO_share 5 = .ok (.ifCond .eq 17, 3) := by decide +kernel
theorem d_MO_share_8 : decode b_MO_share 8 = .ok (.iload_n 2, 1) := by decide +kernel
theorem d_MO_share_9 : decode b_MO_share 9 = .ok (.invokestatic 83, 3) := by decide +kernel
theorem d_MO_share_12 : decode b_MO_share 12 = .ok (.ifCond .eq 10, 3) := by decide +kernel
theorem d_MO_share_15 : decode b_MO_share 15 = .ok (.iload_n 3, 1) := by decide +kernel
theorem d_MO_share_16 : decode b_MO_share 16 = .ok (.invokestatic 126, 3) := by decide +kernel
theorem d_MO_share_19 : decode b_MO_share 19 = .ok (.ifCond .ne 7, 3) := by decide +kernel
theorem d_MO_share_22 : decode b_MO_share 22 = .ok (.iconst 1, 1) := by decide +kernel
theorem d_MO_share_23 : decode b_MO_share 23 = .ok (.goto 4, 3) := by decide +kernel
theorem d_MO_share_26 : decode b_MO_share 26 = .ok (.iconst 0, 1) := by decide +kernel
theorem d_MO_share_27 : decode b_MO_share 27 = .ok (.istore 4, 2) := by decide +kernel
theorem d_MO_share_29 : decode b_MO_share 29 = .ok (.iload 4, 2) := by decide +kernel
theorem d_MO_share_31 : decode b_MO_share 31 = .ok (.ifCond .ne 15, 3) := by decide +kernel
theorem d_MO_share_34 : decode b_MO_share 34 = .ok (.aload_n 0, 1) := by decide +kernel
theorem d_MO_share_35 : decode b_MO_share 35 = .ok (.iload_n 1, 1) := by decide +kernel
theorem d_MO_share_36 : decode b_MO_share 36 = .ok (.invokevirtual 129, 3) := by decide +kernel
theorem d_MO_share_39 : decode b_MO_share 39 = .ok (.ifCond .eq 7, 3) := by decide +kernel
theorem d_MO_share_42 : decode b_MO_share 42 = .ok (.iconst 1, 1) := by decide +kernel
theorem d_MO_share_43 : decode b_MO_share 43 = .ok (.goto 4, 3) := by decide +kernel
theorem d_MO_share_46 : decode b_MO_share 46 = .ok (.iconst 0, 1) := by decide +kernel
theorem d_MO_share_47 : decode b_MO_share 47 = .ok (.istore 5, 2) := by decide +kernel
theorem d_MO_share_49 : decode b_MO_share 49 = .ok (.iload 4, 2) := by decide +kernel
theorem d_MO_share_51 : decode b_MO_share 51 = .ok (.ifCond .ne 8, 3) := by decide +kernel
theorem d_MO_share_54 : decode b_MO_share 54 = .ok (.iload 5, 2) := by decide +kernel
theorem d_MO_share_56 : decode b_MO_share 56 = .ok (.ifCond .eq 7, 3) := by decide +kernel
theorem d_MO_share_59 : decode b_MO_share 59 = .ok (.lconst 1, 1) := by decide +kernel
theorem d_MO_share_60 : decode b_MO_share 60 = .ok (.goto 16, 3) := by decide +kernel
theorem d_MO_share_63 : decode b_MO_share 63 = .ok (.aload_n 0, 1) := by decide +kernel
theorem d_MO_share_64 : decode b_MO_share 64 = .ok (.iload_n 1, 1) := by decide +kernel
theorem d_MO_share_65 : decode b_MO_share 65 = .ok (.aload_n 0, 1) := by decide +kernel
theorem d_MO_share_66 : decode b_MO_share 66 = .ok (.getfield 31, 3) := by decide +kernel
theorem d_MO_share_69 : decode b_MO_share 69 = .ok (.iload_n 1, 1) := by decide +kernel
theorem d_MO_share_70 : decode b_MO_share 70 = .ok (.iaload, 1) := by decide +kernel
theorem d_MO_share_71 : decode b_MO_share 71 = .ok (.iconst 1, 1) := by decide +kernel
theorem d_MO_share_72 : decode b_MO_share 72 = .ok (.isub, 1) := by decide +kernel
theorem d_MO_share_73 : decode b_MO_share 73 = .ok (.invokevirtual 115, 3) := by decide +kernel
theorem d_MO_share_76 : decode b_MO_share 76 = .ok (.lstore 6, 2) := by decide +kernel
theorem d_MO_share_78 : decode b_MO_share 78 = .ok (.aload_n 0, 1) := by decide +kernel
theorem d_MO_share_79 : decode b_MO_share 79 = .ok (.iload 4, 2) := by decide +kernel
theorem d_MO_share_81 : decode b_MO_share 81 = .ok (.iload 5, 2) := by decide +kernel
theorem d_MO_share_83 : decode b_MO_share 83 = .ok (.lload 6, 2) := by decide +kernel
theorem d_MO_share_85 : decode b_MO_share 85 = .ok (.lconst 0, 1) := by decide +kernel
theorem d_MO_share_86 : decode b_MO_share 86 = .ok (.lcmp, 1) := by decide +kernel
theorem d_MO_share_87 : decode b_MO_share 87 = .ok (.ifCond .ne 7, 3) := by decide +kernel
theorem d_MO_share_90 : decode b_MO_share 90 = .ok (.iconst 1, 1) := by decide +kernel
theorem d_MO_share_91 : decode b_MO_share 91 = .ok (.goto 4, 3) := by decide +kernel
theorem d_MO_share_94 : decode b_MO_share 94 = .ok (.iconst 0, 1) := by decide +kernel
theorem d_MO_share_95 : decode b_MO_share 95 = .ok (.iconst 0, 1) := by decide +kernel
theorem d_MO_share_96 : decode b_MO_share 96 = .ok (.invokevirtual 79, 3) := by decide +kernel
theorem d_MO_share_99 : decode b_MO_share 99 = .ok (.ifCond .eq 5, 3) := by decide +kernel
theorem d_MO_share_102 : decode b_MO_share 102 = .ok (.lconst 0, 1) := by decide +kernel
theorem d_MO_share_103 : decode b_MO_share 103 = .ok (.lreturn, 1) := by decide +kernel
theorem d_MO_share_104 : decode b_MO_share 104 = .ok (.aload_n 0, 1) := by decide +kernel
theorem d_MO_share_105 : decode b_MO_share 105 = .ok (.iload_n 1, 1) := by decide +kernel
theorem d_MO_share_106 : decode b_MO_share 106 = .ok (.aload_n 0, 1) := by decide +kernel
theorem d_MO_share_107 : decode b_MO_share 107 = .ok (.getfield 31, 3) := by decide +kernel
theorem d_MO_share_110 : decode b_MO_share 110 = .ok (.iload_n 1, 1) := by decide +kernel
theorem d_MO_share_111 : decode b_MO_share 111 = .ok (.iaload, 1) := by decide +kernel
theorem d_MO_share_112 : decode b_MO_share 112 = .ok (.iconst 1, 1) := by decide +kernel
theorem d_MO_share_113 : decode b_MO_share 113 = .ok (.isub, 1) := by decide +kernel
theorem d_MO_share_114 : decode b_MO_share 114 = .ok (.iload_n 2, 1) := by decide +kernel
theorem d_MO_share_115 : decode b_MO_share 115 = .ok (.invokevirtual 119, 3) := by decide +kernel
theorem d_MO_share_118 : decode b_MO_share 118 = .ok (.lload 6, 2) := by decide +kernel
theorem d_MO_share_120 : decode b_MO_share 120 = .ok (.iload_n 3, 1) := by decide +kernel
theorem d_MO_share_121 : decode b_MO_share 121 = .ok (.invokestatic 111, 3) := by decide +kernel
theorem d_MO_share_124 : decode b_MO_share 124 = .ok (.lreturn, 1) := by decide +kernel
theorem d_MO_basicity_0 : decode b_MO_basicity 0 = .ok (.aload_n 0, 1) := by decide +kernel
theorem d_MO_basicity_1 : decode b_MO_basicity 1 = .ok (.iload_n 1, 1) := by decide +kernel
theorem d_MO_basicity_2 : decode b_MO_basicity 2 = .ok (.invokevirtual 97, 3) := by decide +kernel
theorem d_MO_basicity_5 : decode b_MO_basicity 5 = .ok (.ifCond .eq 10, 3) := by decide +kernel
theorem d_MO_basicity_8 : decode b_MO_basicity 8 = .ok (.iload_n 2, 1) := by decide +kernel
theorem d_MO_basicity_9 : decode b_MO_basicity 9 = .ok (.invokestatic 126, 3) := by decide +kernel
theorem d_MO_basicity_12 : decode b_MO_basicity 12 = .ok (.ifCond .ne 7, 3) := by decide +kernel
theorem d_MO_basicity_15 : decode b_MO_basicity 15 = .ok (.iconst 1, 1) := by decide +kernel
theorem d_MO_basicity_16 : decode b_MO_basicity 16 = .ok (.goto 4, 3) := by decide +kernel
theorem d_MO_basicity_19 : decode b_MO_basicity 19 = .ok (.iconst 0, 1) := by decide +kernel
theorem d_MO_basicity_20 : decode b_MO_basicity 20 = .ok (.istore_n 3, 1) := by decide +kernel
theorem d_MO_basicity_21 : decode b_MO_basicity 21 = .ok (.iload_n 3, 1) := by decide +kernel
theorem d_MO_basicity_22 : decode b_MO_basicity 22 = .ok (.ifCond .ne 15, 3) := by decide +kernel
theorem d_MO_basicity_25 : decode b_MO_basicity 25 = .ok (.aload_n 0, 1) := by decide +kernel
theorem d_MO_basicity_26 : decode b_MO_basicity 26 = .ok (.iload_n 1, 1) := by decide +kernel
theorem d_MO_basicity_27 : decode b_MO_basicity 27 = .ok (.invokevirtual 129, 3) := by decide +kernel
theorem d_MO_basicity_30 : decode b_MO_basicity 30 = .ok (.ifCond .eq 7, 3) := by decide +kernel
theorem d_MO_basicity_33 : decode b_MO_basicity 33 = .ok (.iconst 1, 1) := by decide +kernel
theorem d_MO_basicity_34 : decode b_MO_basicity 34 = .ok (.goto 4, 3) := by decide +kernel
theorem d_MO_basicity_37 : decode b_MO_basicity 37 = .ok (.iconst 0, 1) := by decide +kernel
theorem d_MO_basicity_38 : decode b_MO_basicity 38 = .ok (.istore 4, 2) := by decide +kernel
theorem d_MO_basicity_40 : decode b_MO_basicity 40 = .ok (.iload_n 3, 1) := by decide +kernel
theorem d_MO_basicity_41 : decode b_MO_basicity 41 = .ok (.ifCond .ne 8, 3) := by decide +kernel
theorem d_MO_basicity_44 : decode b_MO_basicity 44 = .ok (.iload 4, 2) := by decide +kernel
theorem d_MO_basicity_46 : decode b_MO_basicity 46 = .ok (.ifCond .eq 7, 3) := by decide +kernel
theorem d_MO_basicity_49 : decode b_MO_basicity 49 = .ok (.lconst 1, 1) := by decide +kernel
theorem d_MO_basicity_50 : decode b_MO_basicity 50 = .ok (.goto 17, 3) := by decide +kernel
theorem d_MO_basicity_53 : decode b_MO_basicity 53 = .ok (.aload_n 0, 1) := by decide +kernel
theorem d_MO_basicity_54 : decode b_MO_basicity 54 = .ok (.iload_n 1, 1) := by decide +kernel
theorem d_MO_basicity_55 : decode b_MO_basicity 55 = .ok (.aload_n 0, 1) := by decide +kernel
theorem d_MO_basicity_56 : decode b_MO_basicity 56 = .ok (.getfield 31, 3) := by decide +kernel
theorem d_MO_basicity_59 : decode b_MO_basicity 59 = .ok (.iload_n 1, 1) := by decide +kernel
theorem d_MO_basicity_60 : decode b_MO_basicity 60 = .ok (.iaload, 1) := by decide +kernel
theorem d_MO_basicity_61 : decode b_MO_basicity 61 = .ok (.iconst 1, 1) := by decide +kernel
theorem d_MO_basicity_62 : decode b_MO_basicity 62 = .ok (.isub, 1) := by decide +kernel
theorem d_MO_basicity_63 : decode b_MO_basicity 63 = .ok (.iconst 1, 1) := by decide +kernel
theorem d_MO_basicity_64 : decode b_MO_basicity 64 = .ok (.invokevirtual 119, 3) := by decide +kernel
theorem d_MO_basicity_67 : decode b_MO_basicity 67 = .ok (.lstore 5, 2) := by decide +kernel
theorem d_MO_basicity_69 : decode b_MO_basicity 69 = .ok (.aload_n 0, 1) := by decide +kernel
theorem d_MO_basicity_70 : decode b_MO_basicity 70 = .ok (.iload_n 3, 1) := by decide +kernel
theorem d_MO_basicity_71 : decode b_MO_basicity 71 = .ok (.iload 4, 2) := by decide +kernel
theorem d_MO_basicity_73 : decode b_MO_basicity 73 = .ok (.lload 5, 2) := by decide +kernel
theorem d_MO_basicity_75 : decode b_MO_basicity 75 = .ok (.lconst 0, 1) := by decide +kernel
theorem d_MO_basicity_76 : decode b_MO_basicity 76 = .ok (.lcmp, 1) := by decide +kernel
theorem d_MO_basicity_77 : decode b_MO_basicity 77 = .ok (.ifCond .ne 7, 3) := by decide +kernel
theorem d_MO_basicity_80 : decode b_MO_basicity 80 = .ok (.iconst 1, 1) := by decide +kernel
theorem d_MO_basicity_81 : decode b_MO_basicity 81 = .ok (.goto 4, 3) := by decide +kernel
theorem d_MO_basicity_84 : decode b_MO_basicity 84 = .ok (.iconst 0, 1) := by decide +kernel
theorem d_MO_basicity_85 : decode b_MO_basicity 85 = .ok (.iconst 0, 1) := by decide +kernel
theorem d_MO_basicity_86 : decode b_MO_basicity 86 = .ok (.invokevirtual 79, 3) := by decide +kernel
theorem d_MO_basicity_89 : decode b_MO_basicity 89 = .ok (.ifCond .eq 5, 3) := by decide +kernel
theorem d_MO_basicity_92 : decode b_MO_basicity 92 = .ok (.lconst 0, 1) := by decide +kernel
theorem d_MO_basicity_93 : decode b_MO_basicity 93 = .ok (.lreturn, 1) := by decide +kernel
theorem d_MO_basicity_94 : decode b_MO_basicity 94 = .ok (.aload_n 0, 1) := by decide +kernel
theorem d_MO_basicity_95 : decode b_MO_basicity 95 = .ok (.iload_n 1, 1) := by decide +kernel
theorem d_MO_basicity_96 : decode b_MO_basicity 96 = .ok (.aload_n 0, 1) := by decide +kernel
theorem d_MO_basicity_97 : decode b_MO_basicity 97 = .ok (.getfield 31, 3) := by decide +kernel
theorem d_MO_basicity_100 : decode b_MO_basicity 100 = .ok (.iload_n 1, 1) := by decide +kernel
theorem d_MO_basicity_101 : decode b_MO_basicity 101 = .ok (.iaload, 1) := by decide +kernel
theorem d_MO_basicity_102 : decode b_MO_basicity 102 = .ok (.iconst 1, 1) := by decide +kernel
theorem d_MO_basicity_103 : decode b_MO_basicity 103 = .ok (.isub, 1) := by decide +kernel
theorem d_MO_basicity_104 : decode b_MO_basicity 104 = .ok (.iconst 0, 1) := by decide +kernel
theorem d_MO_basicity_105 : decode b_MO_basicity 105 = .ok (.invokevirtual 119, 3) := by decide +kernel
theorem d_MO_basicity_108 : decode b_MO_basicity 108 = .ok (.lload 5, 2) := by decide +kernel
theorem d_MO_basicity_110 : decode b_MO_basicity 110 = .ok (.iload_n 2, 1) := by decide +kernel
theorem d_MO_basicity_111 : decode b_MO_basicity 111 = .ok (.invokestatic 111, 3) := by decide +kernel
theorem d_MO_basicity_114 : decode b_MO_basicity 114 = .ok (.lreturn, 1) := by decide +kernel
theorem d_MO_spread_0 : decode b_MO_spread 0 = .ok (.aload_n 0, 1) := by decide +kernel
theorem d_MO_spread_1 : decode b_MO_spread 1 = .ok (.iload_n 1, 1) := by decide +kernel
theorem d_MO_spread_2 : decode b_MO_spread 2 = .ok (.invokevirtual 97, 3) := by decide +kernel
theorem d_MO_spread_5 : decode b_MO_spread 5 = .ok (.ifCond .eq 17, 3) := by decide +kernel
theorem d_MO_spread_8 : decode b_MO_spread 8 = .ok (.iload_n 2, 1) := by decide +kernel
theorem d_MO_spread_9 : decode b_MO_spread 9 = .ok (.invokestatic 83, 3) := by decide +kernel
theorem d_MO_spread_12 : decode b_MO_spread 12 = .ok (.ifCond .eq 10, 3) := by decide +kernel
theorem d_MO_spread_15 : decode b_MO_spread 15 = .ok (.iload_n 3, 1) := by decide +kernel
theorem d_MO_spread_16 : decode b_MO_spread 16 = .ok (.invokestatic 126, 3) := by decide +kernel
theorem d_MO_spread_19 : decode b_MO_spread 19 = .ok (.ifCond .ne 7, 3) := by decide +kernel
theorem d_MO_spread_22 : decode b_MO_spread 22 = .ok (.iconst 1, 1) := by decide +kernel
theorem d_MO_spread_23 : decode b_MO_spread 23 = .ok (.goto 4, 3) := by decide +kernel
theorem d_MO_spread_26 : decode b_MO_spread 26 = .ok (.iconst 0, 1) := by decide +kernel
theorem d_MO_spread_27 : decode b_MO_spread 27 = .ok (.istore 4, 2) := by decide +kernel
theorem d_MO_spread_29 : decode b_MO_spread 29 = .ok (.iload 4, 2) := by decide +kernel
theorem d_MO_spread_31 : decode b_MO_spread 31 = .ok (.ifCond .eq 7, 3) := by decide +kernel
theorem d_MO_spread_34 : decode b_MO_spread 34 = .ok (.iconst 0, 1) := by decide +kernel
theorem d_MO_spread_35 : decode b_MO_spread 35 = .ok (.goto 8, 3) := by decide +kernel
theorem d_MO_spread_38 : decode b_MO_spread 38 = .ok (.iconst 4, 1) := by decide +kernel
theorem d_MO_spread_39 : decode b_MO_spread 39 = .ok (.iload_n 1, 1) := by decide +kernel
theorem d_MO_spread_40 : decode b_MO_spread 40 = .ok (.imul, 1) := by decide +kernel
theorem d_MO_spread_41 : decode b_MO_spread 41 = .ok (.iload_n 2, 1) := by decide +kernel
theorem d_MO_spread_42 : decode b_MO_spread 42 = .ok (.iadd, 1) := by decide +kernel
theorem d_MO_spread_43 : decode b_MO_spread 43 = .ok (.istore 5, 2) := by decide +kernel
theorem d_MO_spread_45 : decode b_MO_spread 45 = .ok (.aload_n 0, 1) := by decide +kernel
theorem d_MO_spread_46 : decode b_MO_spread 46 = .ok (.iload 4, 2) := by decide +kernel
theorem d_MO_spread_48 : decode b_MO_spread 48 = .ok (.aload_n 0, 1) := by decide +kernel
theorem d_MO_spread_49 : decode b_MO_spread 49 = .ok (.getfield 47, 3) := by decide +kernel
theorem d_MO_spread_52 : decode b_MO_spread 52 = .ok (.iload 5, 2) := by decide +kernel
theorem d_MO_spread_54 : decode b_MO_spread 54 = .ok (.laload, 1) := by decide +kernel
theorem d_MO_spread_55 : decode b_MO_spread 55 = .ok (.lconst 0, 1) := by decide +kernel
theorem d_MO_spread_56 : decode b_MO_spread 56 = .ok (.lcmp, 1) := by decide +kernel
theorem d_MO_spread_57 : decode b_MO_spread 57 = .ok (.ifCond .ne 7, 3) := by decide +kernel
theorem d_MO_spread_60 : decode b_MO_spread 60 = .ok (.iconst 1, 1) := by decide +kernel
theorem d_MO_spread_61 : decode b_MO_spread 61 = .ok (.goto 4, 3) := by decide +kernel
theorem d_MO_spread_64 : decode b_MO_spread 64 = .ok (.iconst 0, 1) := by decide +kernel
theorem d_MO_spread_65 : decode b_MO_spread 65 = .ok (.iconst 0, 1) := by decide +kernel
theorem d_MO_spread_66 : decode b_MO_spread 66 = .ok (.iconst 0, 1) := by decide +kernel
theorem d_MO_spread_67 : decode b_MO_spread 67 = .ok (.invokevirtual 79, 3) := by decide +kernel
theorem d_MO_spread_70 : decode b_MO_spread 70 = .ok (.ifCond .eq 5, 3) := by decide +kernel
theorem d_MO_spread_73 : decode b_MO_spread 73 = .ok (.lconst 0, 1) := by decide +kernel
theorem d_MO_spread_74 : decode b_MO_spread 74 = .ok (.lreturn, 1) := by decide +kernel
theorem d_MO_spread_75 : decode b_MO_spread 75 = .ok (.aload_n 0, 1) := by decide +kernel
theorem d_MO_spread_76 : decode b_MO_spread 76 = .ok (.getfield 43, 3) := by decide +kernel
theorem d_MO_spread_79 : decode b_MO_spread 79 = .ok (.iload 5, 2) := by decide +kernel
theorem d_MO_spread_81 : decode b_MO_spread 81 = .ok (.laload, 1) := by decide +kernel
theorem d_MO_spread_82 : decode b_MO_spread 82 = .ok (.aload_n 0, 1) := by decide +kernel
theorem d_MO_spread_83 : decode b_MO_spread 83 = .ok (.getfield 53, 3) := by decide +kernel
theorem d_MO_spread_86 : decode b_MO_spread 86 = .ok (.iload 5, 2) := by decide +kernel
theorem d_MO_spread_88 : decode b_MO_spread 88 = .ok (.laload, 1) := by decide +kernel
theorem d_MO_spread_89 : decode b_MO_spread 89 = .ok (.lmul, 1) := by decide +kernel
theorem d_MO_spread_90 : decode b_MO_spread 90 = .ok (.aload_n 0, 1) := by decide +kernel
theorem d_MO_spread_91 : decode b_MO_spread 91 = .ok (.getfield 50, 3) := by decide +kernel
theorem d_MO_spread_94 : decode b_MO_spread 94 = .ok (.iload 5, 2) := by decide +kernel
theorem d_MO_spread_96 : decode b_MO_spread 96 = .ok (.laload, 1) := by decide +kernel
theorem d_MO_spread_97 : decode b_MO_spread 97 = .ok (.aload_n 0, 1) := by decide +kernel
theorem d_MO_spread_98 : decode b_MO_spread 98 = .ok (.getfield 47, 3) := by decide +kernel
theorem d_MO_spread_101 : decode b_MO_spread 101 = .ok (.iload 5, 2) := by decide +kernel
theorem d_MO_spread_103 : decode b_MO_spread 103 = .ok (.laload, 1) := by decide +kernel
theorem d_MO_spread_104 : decode b_MO_spread 104 = .ok (.lmul, 1) := by decide +kernel
theorem d_MO_spread_105 : decode b_MO_spread 105 = .ok (.lsub, 1) := by decide +kernel
theorem d_MO_spread_106 : decode b_MO_spread 106 = .ok (.aload_n 0, 1) := by decide +kernel
theorem d_MO_spread_107 : decode b_MO_spread 107 = .ok (.getfield 47, 3) := by decide +kernel
theorem d_MO_spread_110 : decode b_MO_spread 110 = .ok (.iload 5, 2) := by decide +kernel
theorem d_MO_spread_112 : decode b_MO_spread 112 = .ok (.laload, 1) := by decide +kernel
theorem d_MO_spread_113 : decode b_MO_spread 113 = .ok (.aload_n 0, 1) := by decide +kernel
theorem d_MO_spread_114 : decode b_MO_spread 114 = .ok (.getfield 53, 3) := by decide +kernel
theorem d_MO_spread_117 : decode b_MO_spread 117 = .ok (.iload 5, 2) := by decide +kernel
theorem d_MO_spread_119 : decode b_MO_spread 119 = .ok (.laload, 1) := by decide +kernel
theorem d_MO_spread_120 : decode b_MO_spread 120 = .ok (.lmul, 1) := by decide +kernel
theorem d_MO_spread_121 : decode b_MO_spread 121 = .ok (.iload_n 3, 1) := by decide +kernel
theorem d_MO_spread_122 : decode b_MO_spread 122 = .ok (.invokestatic 111, 3) := by decide +kernel
theorem d_MO_spread_125 : decode b_MO_spread 125 = .ok (.lreturn, 1) := by decide +kernel
theorem d_MO_pileAt_0 : decode b_MO_pileAt 0 = .ok (.aload_n 0, 1) := by decide +kernel
theorem d_MO_pileAt_1 : decode b_MO_pileAt 1 = .ok (.aload_n 0, 1) := by decide +kernel
theorem d_MO_pileAt_2 : decode b_MO_pileAt 2 = .ok (.iload_n 1, 1) := by decide +kernel
theorem d_MO_pileAt_3 : decode b_MO_pileAt 3 = .ok (.invokevirtual 97, 3) := by decide +kernel
theorem d_MO_pileAt_6 : decode b_MO_pileAt 6 = .ok (.ifCond .eq 12, 3) := by decide +kernel
theorem d_MO_pileAt_9 : decode b_MO_pileAt 9 = .ok (.iload_n 2, 1) := by decide +kernel
theorem d_MO_pileAt_10 : decode b_MO_pileAt 10 = .ok (.iconst 0, 1) := by decide +kernel
theorem d_MO_pileAt_11 : decode b_MO_pileAt 11 = .ok (.iconst 4, 1) := by decide +kernel
theorem d_MO_pileAt_12 : decode b_MO_pileAt 12 = .ok (.invokestatic 66, 3) := by decide +kernel
theorem d_MO_pileAt_15 : decode b_MO_pileAt 15 = .ok (.ifCond .ne 7, 3) := by decide +kernel
theorem d_MO_pileAt_18 : decode b_MO_pileAt 18 = .ok (.iconst 1, 1) := by decide +kernel
theorem d_MO_pileAt_19 : decode b_MO_pileAt 19 = .ok (.goto 4, 3) := by decide +kernel
theorem d_MO_pileAt_22 : decode b_MO_pileAt 22 = .ok (.iconst 0, 1) := by decide +kernel
theorem d_MO_pileAt_23 : decode b_MO_pileAt 23 = .ok (.iconst 0, 1) := by decide +kernel
theorem d_MO_pileAt_24 : decode b_MO_pileAt 24 = .ok (.iconst 0, 1) := by decide +kernel
theorem d_MO_pileAt_25 : decode b_MO_pileAt 25 = .ok (.iconst 0, 1) := by decide +kernel
theorem d_MO_pileAt_26 : decode b_MO_pileAt 26 = .ok (.invokevirtual 79, 3) := by decide +kernel
theorem d_MO_pileAt_29 : decode b_MO_pileAt 29 = .ok (.ifCond .eq 5, 3) := by decide +kernel
theorem d_MO_pileAt_32 : decode b_MO_pileAt 32 = .ok (.iconst 0, 1) := by decide +kernel
theorem d_MO_pileAt_33 : decode b_MO_pileAt 33 = .ok (.ireturn, 1) := by decide +kernel
theorem d_MO_pileAt_34 : decode b_MO_pileAt 34 = .ok (.iload_n 2, 1) := by decide +kernel
theorem d_MO_pileAt_35 : decode b_MO_pileAt 35 = .ok (.ifCond .ne 10, 3) := by decide +kernel
theorem d_MO_pileAt_38 : decode b_MO_pileAt 38 = .ok (.aload_n 0, 1) := by decide +kernel
theorem d_MO_pileAt_39 : decode b_MO_pileAt 39 = .ok (.getfield 28, 3) := by decide +kernel
theorem d_MO_pileAt_42 : decode b_MO_pileAt 42 = .ok (.iload_n 1, 1) := by decide +kernel
theorem d_MO_pileAt_43 : decode b_MO_pileAt 43 = .ok (.iaload, 1) := by decide +kernel
theorem d_MO_pileAt_44 : decode b_MO_pileAt 44 = .ok (.ireturn, 1) := by decide +kernel
theorem d_MO_pileAt_45 : decode b_MO_pileAt 45 = .ok (.iload_n 2, 1) := by decide +kernel
theorem d_MO_pileAt_46 : decode b_MO_pileAt 46 = .ok (.iconst 1, 1) := by decide +kernel
theorem d_MO_pileAt_47 : decode b_MO_pileAt 47 = .ok (.if_icmp .ne 10, 3) := by decide +kernel
theorem d_MO_pileAt_50 : decode b_MO_pileAt 50 = .ok (.aload_n 0, 1) := by decide +kernel
theorem d_MO_pileAt_51 : decode b_MO_pileAt 51 = .ok (.getfield 31, 3) := by decide +kernel
theorem d_MO_pileAt_54 : decode b_MO_pileAt 54 = .ok (.iload_n 1, 1) := by decide +kernel
theorem d_MO_pileAt_55 : decode b_MO_pileAt 55 = .ok (.iaload, 1) := by decide +kernel
theorem d_MO_pileAt_56 : decode b_MO_pileAt 56 = .ok (.ireturn, 1) := by decide +kernel
theorem d_MO_pileAt_57 : decode b_MO_pileAt 57 = .ok (.iload_n 2, 1) := by decide +kernel
theorem d_MO_pileAt_58 : decode b_MO_pileAt 58 = .ok (.iconst 2, 1) := by decide +kernel
theorem d_MO_pileAt_59 : decode b_MO_pileAt 59 = .ok (.if_icmp .ne 10, 3) := by decide +kernel
theorem d_MO_pileAt_62 : decode b_MO_pileAt 62 = .ok (.aload_n 0, 1) := by decide +kernel
theorem d_MO_pileAt_63 : decode b_MO_pileAt 63 = .ok (.getfield 34, 3) := by decide +kernel
theorem d_MO_pileAt_66 : decode b_MO_pileAt 66 = .ok (.iload_n 1, 1) := by decide +kernel
theorem d_MO_pileAt_67 : decode b_MO_pileAt 67 = .ok (.iaload, 1) := by decide +kernel
theorem d_MO_pileAt_68 : decode b_MO_pileAt 68 = .ok (.ireturn, 1) := by decide +kernel
theorem d_MO_pileAt_69 : decode b_MO_pileAt 69 = .ok (.iload_n 2, 1) := by decide +kernel
theorem d_MO_pileAt_70 : decode b_MO_pileAt 70 = .ok (.iconst 3, 1) := by decide +kernel
theorem d_MO_pileAt_71 : decode b_MO_pileAt 71 = .ok (.if_icmp .ne 9, 3) := by decide +kernel
theorem d_MO_pileAt_74 : decode b_MO_pileAt 74 = .ok (.aload_n 0, 1) := by decide +kernel
theorem d_MO_pileAt_75 : decode b_MO_pileAt 75 = .ok (.iload_n 1, 1) := by decide +kernel
theorem d_MO_pileAt_76 : decode b_MO_pileAt 76 = .ok (.invokevirtual 100, 3) := by decide +kernel
theorem d_MO_pileAt_79 : decode b_MO_pileAt 79 = .ok (.ireturn, 1) := by decide +kernel
theorem d_MO_pileAt_80 : decode b_MO_pileAt 80 = .ok (.lconst 0, 1) := by decide +kernel
theorem d_MO_pileAt_81 : decode b_MO_pileAt 81 = .ok (.lstore_n 3, 1) := by decide +kernel
theorem d_MO_pileAt_82 : decode b_MO_pileAt 82 = .ok (.iconst 0, 1) := by decide +kernel
theorem d_MO_pileAt_83 : decode b_MO_pileAt 83 = .ok (.istore 5, 2) := by decide +kernel
theorem d_MO_pileAt_85 : decode b_MO_pileAt 85 = .ok (.iload 5, 2) := by decide +kernel
theorem d_MO_pileAt_87 : decode b_MO_pileAt 87 = .ok (.aload_n 0, 1) := by decide +kernel
theorem d_MO_pileAt_88 : decode b_MO_pileAt 88 = .ok (.getfield 34, 3) := by decide +kernel
theorem d_MO_pileAt_91 : decode b_MO_pileAt 91 = .ok (.iload_n 1, 1) := by decide +kernel
theorem d_MO_pileAt_92 : decode b_MO_pileAt 92 = .ok (.iaload, 1) := by decide +kernel
theorem d_MO_pileAt_93 : decode b_MO_pileAt 93 = .ok (.if_icmp .ge 36, 3) := by decide +kernel
theorem d_MO_pileAt_96 : decode b_MO_pileAt 96 = .ok (.lload_n 3, 1) := by decide +kernel
theorem d_MO_pileAt_97 : decode b_MO_pileAt 97 = .ok (.aload_n 0, 1) := by decide +kernel
theorem d_MO_pileAt_98 : decode b_MO_pileAt 98 = .ok (.bipush 20, 2) := by decide +kernel
theorem d_MO_pileAt_100 : decode b_MO_pileAt 100 = .ok (.iload_n 1, 1) := by decide +kernel
theorem d_MO_pileAt_101 : decode b_MO_pileAt 101 = .ok (.imul, 1) := by decide +kernel
theorem d_MO_pileAt_102 : decode b_MO_pileAt 102 = .ok (.iload 5, 2) := by decide +kernel
theorem d_MO_pileAt_104 : decode b_MO_pileAt 104 = .ok (.iadd, 1) := by decide +kernel
theorem d_MO_pileAt_105 : decode b_MO_pileAt 105 = .ok (.aload_n 0, 1) := by decide +kernel
theorem d_MO_pileAt_106 : decode b_MO_pileAt 106 = .ok (.getfield 31, 3) := by decide +kernel
theorem d_MO_pileAt_109 : decode b_MO_pileAt 109 = .ok (.iload_n 1, 1) := by decide +kernel
theorem d_MO_pileAt_110 : decode b_MO_pileAt 110 = .ok (.iaload, 1) := by decide +kernel
theorem d_MO_pileAt_111 : decode b_MO_pileAt 111 = .ok (.i2l, 1) := by decide +kernel
theorem d_MO_pileAt_112 : decode b_MO_pileAt 112 = .ok (.aload_n 0, 1) := by decide +kernel
theorem d_MO_pileAt_113 : decode b_MO_pileAt 113 = .ok (.getfield 28, 3) := by decide +kernel
theorem d_MO_pileAt_116 : decode b_MO_pileAt 116 = .ok (.iload_n 1, 1) := by decide +kernel
theorem d_MO_pileAt_117 : decode b_MO_pileAt 117 = .ok (.iaload, 1) := by decide +kernel
theorem d_MO_pileAt_118 : decode b_MO_pileAt 118 = .ok (.invokevirtual 103, 3) := by decide +kernel
theorem d_MO_pileAt_121 : decode b_MO_pileAt 121 = .ok (.ladd, 1) := by decide +kernel
theorem d_MO_pileAt_122 : decode b_MO_pileAt 122 = .ok (.lstore_n 3, 1) := by decide +kernel
theorem d_MO_pileAt_123 : decode b_MO_pileAt 123 = .ok (.iinc 5 1, 3) := by decide +kernel
theorem d_MO_pileAt_126 : decode b_MO_pileAt 126 = .ok (.goto (-41), 3) := by decide +kernel
theorem d_MO_pileAt_129 : decode b_MO_pileAt 129 = .ok (.lload_n 3, 1) := by decide +kernel
theorem d_MO_pileAt_130 : decode b_MO_pileAt 130 = .ok (.l2i, 1) := by decide +kernel
theorem d_MO_pileAt_131 : decode b_MO_pileAt 131 = .ok (.ireturn, 1) := by decide +kernel
theorem d_MO_mix_0 : decode b_MO_mix 0 = .ok (.iload_n 1, 1) := by decide +kernel
theorem d_MO_mix_1 : decode b_MO_mix 1 = .ok (.invokestatic 75, 3) := by decide +kernel
theorem d_MO_mix_4 : decode b_MO_mix 4 = .ok (.ifCond .eq 30, 3) := by decide +kernel
theorem d_MO_mix_7 : decode b_MO_mix 7 = .ok (.iload_n 2, 1) := by decide +kernel
theorem d_MO_mix_8 : decode b_MO_mix 8 = .ok (.invokestatic 75, 3) := by decide +kernel
theorem d_MO_mix_11 : decode b_MO_mix 11 = .ok (.ifCond .eq 23, 3) := by decide +kernel
theorem d_MO_mix_14 : decode b_MO_mix 14 = .ok (.iload_n 1, 1) := by decide +kernel
theorem d_MO_mix_15 : decode b_MO_mix 15 = .ok (.iload_n 2, 1) := by decide +kernel
theorem d_MO_mix_16 : decode b_MO_mix 16 = .ok (.if_icmp .eq 18, 3) := by decide +kernel
theorem d_MO_mix_19 : decode b_MO_mix 19 = .ok (.iload_n 3, 1) := by decide +kernel
theorem d_MO_mix_20 : decode b_MO_mix 20 = .ok (.invokestatic 83, 3) := by decide +kernel
theorem d_MO_mix_23 : decode b_MO_mix 23 = .ok (.ifCond .eq 11, 3) := by decide +kernel
theorem d_MO_mix_26 : decode b_MO_mix 26 = .ok (.iload 5, 2) := by decide +kernel
theorem d_MO_mix_28 : decode b_MO_mix 28 = .ok (.invokestatic 126, 3) := by decide +kernel
theorem d_MO_mix_31 : decode b_MO_mix 31 = .ok (.ifCond .ne 7, 3) := by decide +kernel
theorem d_MO_mix_34 : decode b_MO_mix 34 = .ok (.iconst 1, 1) := by decide +kernel
theorem d_MO_mix_35 : decode b_MO_mix 35 = .ok (.goto 4, 3) := by decide +kernel
theorem d_MO_mix_38 : decode b_MO_mix 38 = .ok (.iconst 0, 1) := by decide +kernel
theorem d_MO_mix_39 : decode b_MO_mix 39 = .ok (.istore 6, 2) := by decide +kernel
theorem d_MO_mix_41 : decode b_MO_mix 41 = .ok (.iload 6, 2) := by decide +kernel
theorem d_MO_mix_43 : decode b_MO_mix 43 = .ok (.ifCond .eq 7, 3) := by decide +kernel
theorem d_MO_mix_46 : decode b_MO_mix 46 = .ok (.iconst 0, 1) := by decide +kernel
theorem d_MO_mix_47 : decode b_MO_mix 47 = .ok (.goto 16, 3) := by decide +kernel
theorem d_MO_mix_50 : decode b_MO_mix 50 = .ok (.iload 4, 2) := by decide +kernel
theorem d_MO_mix_52 : decode b_MO_mix 52 = .ok (.aload_n 0, 1) := by decide +kernel
theorem d_MO_mix_53 : decode b_MO_mix 53 = .ok (.getfield 13, 3) := by decide +kernel
theorem d_MO_mix_56 : decode b_MO_mix 56 = .ok (.iconst 4, 1) := by decide +kernel
theorem d_MO_mix_57 : decode b_MO_mix 57 = .ok (.iload_n 2, 1) := by decide +kernel
theorem d_MO_mix_58 : decode b_MO_mix 58 = .ok (.imul, 1) := by decide +kernel
theorem d_MO_mix_59 : decode b_MO_mix 59 = .ok (.iload_n 3, 1) := by decide +kernel
theorem d_MO_mix_60 : decode b_MO_mix 60 = .ok (.iadd, 1) := by decide +kernel
theorem d_MO_mix_61 : decode b_MO_mix 61 = .ok (.iaload, 1) := by decide +kernel
theorem d_MO_mix_62 : decode b_MO_mix 62 = .ok (.isub, 1) := by decide +kernel
theorem d_MO_mix_63 : decode b_MO_mix 63 = .ok (.istore 7, 2) := by decide +kernel
theorem d_MO_mix_65 : decode b_MO_mix 65 = .ok (.iload 6, 2) := by decide +kernel
theorem d_MO_mix_67 : decode b_MO_mix 67 = .ok (.ifCond .eq 7, 3) := by decide +kernel
theorem d_MO_mix_70 : decode b_MO_mix 70 = .ok (.iconst 1, 1) := by decide +kernel
theorem d_MO_mix_71 : decode b_MO_mix 71 = .ok (.goto 24, 3) := by decide +kernel
theorem d_MO_mix_74 : decode b_MO_mix 74 = .ok (.aload_n 0, 1) := by decide +kernel
theorem d_MO_mix_75 : decode b_MO_mix 75 = .ok (.getfield 13, 3) := by decide +kernel
theorem d_MO_mix_78 : decode b_MO_mix 78 = .ok (.iconst 4, 1) := by decide +kernel
theorem d_MO_mix_79 : decode b_MO_mix 79 = .ok (.iload_n 1, 1) := by decide +kernel
theorem d_MO_mix_80 : decode b_MO_mix 80 = .ok (.imul, 1) := by decide +kernel
theorem d_MO_mix_81 : decode b_MO_mix 81 = .ok (.iload_n 3, 1) := by decide +kernel
theorem d_MO_mix_82 : decode b_MO_mix 82 = .ok (.iadd, 1) := by decide +kernel
theorem d_MO_mix_83 : decode b_MO_mix 83 = .ok (.iaload, 1) := by decide +kernel
theorem d_MO_mix_84 : decode b_MO_mix 84 = .ok (.aload_n 0, 1) := by decide +kernel
theorem d_MO_mix_85 : decode b_MO_mix 85 = .ok (.getfield 13, 3) := by decide +kernel
theorem d_MO_mix_88 : decode b_MO_mix 88 = .ok (.iconst 4, 1) := by decide +kernel
theorem d_MO_mix_89 : decode b_MO_mix 89 = .ok (.iload_n 2, 1) := by decide +kernel
theorem d_MO_mix_90 : decode b_MO_mix 90 = .ok (.imul, 1) := by decide +kernel
theorem d_MO_mix_91 : decode b_MO_mix 91 = .ok (.iload_n 3, 1) := by decide +kernel
theorem d_MO_mix_92 : decode b_MO_mix 92 = .ok (.iadd, 1) := by decide +kernel
theorem d_MO_mix_93 : decode b_MO_mix 93 = .ok (.iaload, 1) := by decide +kernel
theorem d_MO_mix_94 : decode b_MO_mix 94 = .ok (.isub, 1) := by decide +kernel
theorem d_MO_mix_95 : decode b_MO_mix 95 = .ok (.istore 8, 2) := by decide +kernel
theorem d_MO_mix_97 : decode b_MO_mix 97 = .ok (.iload 8, 2) := by decide +kernel
theorem d_MO_mix_99 : decode b_MO_mix 99 = .ok (.ifCond .eq 35, 3) := by decide +kernel
theorem d_MO_mix_102 : decode b_MO_mix 102 = .ok (.iload 8, 2) := by decide +kernel
theorem d_MO_mix_104 : decode b_MO_mix 104 = .ok (.ifCond .le 18, 3) := by decide +kernel
theorem d_MO_mix_107 : decode b_MO_mix 107 = .ok (.iload 7, 2) := by decide +kernel
theorem d_MO_mix_109 : decode b_MO_mix 109 = .ok (.ifCond .lt 25, 3) := by decide +kernel
theorem d_MO_mix_112 : decode b_MO_mix 112 = .ok (.iload 7, 2) := by decide +kernel
theorem d_MO_mix_114 : decode b_MO_mix 114 = .ok (.iload 8, 2) := by decide +kernel
theorem d_MO_mix_116 : decode b_MO_mix 116 = .ok (.if_icmp .le 22, 3) := by decide +kernel
theorem d_MO_mix_119 : decode b_MO_mix 119 = .ok (.goto 15, 3) := by decide +kernel
theorem d_MO_mix_122 : decode b_MO_mix 122 = .ok (.iload 7, 2) := by decide +kernel
theorem d_MO_mix_124 : decode b_MO_mix 124 = .ok (.ifCond .gt 10, 3) := by decide +kernel
theorem d_MO_mix_127 : decode b_MO_mix 127 = .ok (.iload 7, 2) := by decide +kernel
theorem d_MO_mix_129 : decode b_MO_mix 129 = .ok (.iload 8, 2) := by decide +kernel
theorem d_MO_mix_131 : decode b_MO_mix 131 = .ok (.if_icmp .ge 7, 3) := by decide +kernel
theorem d_MO_mix_134 : decode b_MO_mix 134 = .ok (.iconst 1, 1) := by decide +kernel
theorem d_MO_mix_135 : decode b_MO_mix 135 = .ok (.goto 4, 3) := by decide +kernel
theorem d_MO_mix_138 : decode b_MO_mix 138 = .ok (.iconst 0, 1) := by decide +kernel
theorem d_MO_mix_139 : decode b_MO_mix 139 = .ok (.istore 9, 2) := by decide +kernel
theorem d_MO_mix_141 : decode b_MO_mix 141 = .ok (.aload_n 0, 1) := by decide +kernel
theorem d_MO_mix_142 : decode b_MO_mix 142 = .ok (.iload 6, 2) := by decide +kernel
theorem d_MO_mix_144 : decode b_MO_mix 144 = .ok (.iload 4, 2) := by decide +kernel
theorem d_MO_mix_146 : decode b_MO_mix 146 = .ok (.iconst 0, 1) := by decide +kernel
theorem d_MO_mix_147 : decode b_MO_mix 147 = .ok (.sipush 10000, 3) := by decide +kernel
theorem d_MO_mix_150 : decode b_MO_mix 150 = .ok (.invokestatic 66, 3) := by decide +kernel
theorem d_MO_mix_153 : decode b_MO_mix 153 = .ok (.ifCond .ne 7, 3) := by decide +kernel
theorem d_MO_mix_156 : decode b_MO_mix 156 = .ok (.iconst 1, 1) := by decide +kernel
theorem d_MO_mix_157 : decode b_MO_mix 157 = .ok (.goto 4, 3) := by decide +kernel
theorem d_MO_mix_160 : decode b_MO_mix 160 = .ok (.iconst 0, 1) := by decide +kernel
theorem d_MO_mix_161 : decode b_MO_mix 161 = .ok (.iload 9, 2) := by decide +kernel
theorem d_MO_mix_163 : decode b_MO_mix 163 = .ok (.iconst 0, 1) := by decide +kernel
theorem d_MO_mix_164 : decode b_MO_mix 164 = .ok (.invokevirtual 79, 3) := by decide +kernel
theorem d_MO_mix_167 : decode b_MO_mix 167 = .ok (.ifCond .eq 5, 3) := by decide +kernel
theorem d_MO_mix_170 : decode b_MO_mix 170 = .ok (.lconst 0, 1) := by decide +kernel
theorem d_MO_mix_171 : decode b_MO_mix 171 = .ok (.lreturn, 1) := by decide +kernel
theorem d_MO_mix_172 : decode b_MO_mix 172 = .ok (.iload 7, 2) := by decide +kernel
theorem d_MO_mix_174 : decode b_MO_mix 174 = .ok (.i2l, 1) := by decide +kernel
theorem d_MO_mix_175 : decode b_MO_mix 175 = .ok (.iload 8, 2) := by decide +kernel
theorem d_MO_mix_177 : decode b_MO_mix 177 = .ok (.i2l, 1) := by decide +kernel
theorem d_MO_mix_178 : decode b_MO_mix 178 = .ok (.iload 5, 2) := by decide +kernel
theorem d_MO_mix_180 : decode b_MO_mix 180 = .ok (.invokestatic 111, 3) := by decide +kernel
theorem d_MO_mix_183 : decode b_MO_mix 183 = .ok (.lreturn, 1) := by decide +kernel
theorem d_MO_point_0 : decode b_MO_point 0 = .ok (.aload_n 0, 1) := by decide +kernel
theorem d_MO_point_1 : decode b_MO_point 1 = .ok (.aload_n 0, 1) := by decide +kernel
theorem d_MO_point_2 : decode b_MO_point 2 = .ok (.getfield 132, 3) := by decide +kernel
theorem d_MO_point_5 : decode b_MO_point 5 = .ok (.bipush 20, 2) := by decide +kernel
theorem d_MO_point_7 : decode b_MO_point 7 = .ok (.if_icmp .ne 7, 3) := by decide +kernel
theorem d_MO_point_10 : decode b_MO_point 10 = .ok (.iconst 1, 1) := by decide +kernel
theorem d_MO_point_11 : decode b_MO_point 11 = .ok (.goto 4, 3) := by decide +kernel
theorem d_MO_point_14 : decode b_MO_point 14 = .ok (.iconst 0, 1) := by decide +kernel
theorem d_MO_point_15 : decode b_MO_point 15 = .ok (.iload_n 1, 1) := by decide +kernel
theorem d_MO_point_16 : decode b_MO_point 16 = .ok (.iconst 0, 1) := by decide +kernel
theorem d_MO_point_17 : decode b_MO_point 17 = .ok (.sipush 10000, 3) := by decide +kernel
theorem d_MO_point_20 : decode b_MO_point 20 = .ok (.invokestatic 66, 3) := by decide +kernel
theorem d_MO_point_23 : decode b_MO_point 23 = .ok (.ifCond .eq 14, 3) := by decide +kernel
theorem d_MO_point_26 : decode b_MO_point 26 = .ok (.iload_n 2, 1) := by decide +kernel
theorem d_MO_point_27 : decode b_MO_point 27 = .ok (.iconst 0, 1) := by decide +kernel
theorem d_MO_point_28 : decode b_MO_point 28 = .ok (.sipush 10000, 3) := by decide +kernel
theorem d_MO_point_31 : decode b_MO_point 31 = .ok (.invokestatic 66, 3) := by decide +kernel
theorem d_MO_point_34 : decode b_MO_point 34 = .ok (.ifCond .ne 7, 3) := by decide +kernel
theorem d_MO_point_37 : decode b_MO_point 37 = .ok (.iconst 1, 1) := by decide +kernel
theorem d_MO_point_38 : decode b_MO_point 38 = .ok (.goto 4, 3) := by decide +kernel
theorem d_MO_point_41 : decode b_MO_point 41 = .ok (.iconst 0, 1) := by decide +kernel
theorem d_MO_point_42 : decode b_MO_point 42 = .ok (.iconst 0, 1) := by decide +kernel
theorem d_MO_point_43 : decode b_MO_point 43 = .ok (.iconst 0, 1) := by decide +kernel
theorem d_MO_point_44 : decode b_MO_point 44 = .ok (.invokevirtual 79, 3) := by decide +kernel
theorem d_MO_point_47 : decode b_MO_point 47 = .ok (.ifCond .eq 5, 3) := by decide +kernel
theorem d_MO_point_50 : decode b_MO_point 50 = .ok (.iconst 0, 1) := by decide +kernel
theorem d_MO_point_51 : decode b_MO_point 51 = .ok (.ireturn, 1) := by decide +kernel
theorem d_MO_point_52 : decode b_MO_point 52 = .ok (.aload_n 0, 1) := by decide +kernel
theorem d_MO_point_53 : decode b_MO_point 53 = .ok (.getfield 56, 3) := by decide +kernel
theorem d_MO_point_56 : decode b_MO_point 56 = .ok (.aload_n 0, 1) := by decide +kernel
theorem d_MO_point_57 : decode b_MO_point 57 = .ok (.getfield 132, 3) := by decide +kernel
theorem d_MO_point_60 : decode b_MO_point 60 = .ok (.iload_n 1, 1) := by decide +kernel
theorem d_MO_point_61 : decode b_MO_point 61 = .ok (.iastore, 1) := by decide +kernel
theorem d_MO_point_62 : decode b_MO_point 62 = .ok (.aload_n 0, 1) := by decide +kernel
theorem d_MO_point_63 : decode b_MO_point 63 = .ok (.getfield 59, 3) := by decide +kernel
theorem d_MO_point_66 : decode b_MO_point 66 = .ok (.aload_n 0, 1) := by decide +kernel
theorem d_MO_point_67 : decode b_MO_point 67 = .ok (.getfield 132, 3) := by decide +kernel
theorem d_MO_point_70 : decode b_MO_point 70 = .ok (.iload_n 2, 1) := by decide +kernel
theorem d_MO_point_71 : decode b_MO_point 71 = .ok (.iastore, 1) := by decide +kernel
theorem d_MO_point_72 : decode b_MO_point 72 = .ok (.aload_n 0, 1) := by decide +kernel
theorem d_MO_point_73 : decode b_MO_point 73 = .ok (.dup, 1) := by decide +kernel
theorem d_MO_point_74 : decode b_MO_point 74 = .ok (.getfield 132, 3) := by decide +kernel
theorem d_MO_point_77 : decode b_MO_point 77 = .ok (.iconst 1, 1) := by decide +kernel
theorem d_MO_point_78 : decode b_MO_point 78 = .ok (.iadd, 1) := by decide +kernel
theorem d_MO_point_79 : decode b_MO_point 79 = .ok (.putfield 132, 3) := by decide +kernel
theorem d_MO_point_82 : decode b_MO_point 82 = .ok (.aload_n 0, 1) := by decide +kernel
theorem d_MO_point_83 : decode b_MO_point 83 = .ok (.getfield 132, 3) := by decide +kernel
theorem d_MO_point_86 : decode b_MO_point 86 = .ok (.ireturn, 1) := by decide +kernel
theorem d_MO_fit_0 : decode b_MO_fit 0 = .ok (.lconst 0, 1) := by decide +kernel
theorem d_MO_fit_1 : decode b_MO_fit 1 = .ok (.lstore_n 3, 1) := by decide +kernel
theorem d_MO_fit_2 : decode b_MO_fit 2 = .ok (.lconst 0, 1) := by decide +kernel
theorem d_MO_fit_3 : decode b_MO_fit 3 = .ok (.lstore 5, 2) := by decide +kernel
theorem d_MO_fit_5 : decode b_MO_fit 5 = .ok (.lconst 0, 1) := by decide +kernel
theorem d_MO_fit_6 : decode b_MO_fit 6 = .ok (.lstore 7, 2) := by decide +kernel
theorem d_MO_fit_8 : decode b_MO_fit 8 = .ok (.lconst 0, 1) := by decide +kernel
theorem d_MO_fit_9 : decode b_MO_fit 9 = .ok (.lstore 9, 2) := by decide +kernel
theorem d_MO_fit_11 : decode b_MO_fit 11 = .ok (.iconst 0, 1) := by decide +kernel
theorem d_MO_fit_12 : decode b_MO_fit 12 = .ok (.istore 11, 2) := by decide +kernel
theorem d_MO_fit_14 : decode b_MO_fit 14 = .ok (.iload 11, 2) := by decide +kernel
theorem d_MO_fit_16 : decode b_MO_fit 16 = .ok (.aload_n 0, 1) := by decide +kernel
theorem d_MO_fit_17 : decode b_MO_fit 17 = .ok (.getfield 132, 3) := by decide +kernel
theorem d_MO_fit_20 : decode b_MO_fit 20 = .ok (.if_icmp .ge 77, 3) := by decide +kernel
theorem d_MO_fit_23 : decode b_MO_fit 23 = .ok (.lload_n 3, 1) := by decide +kernel
theorem d_MO_fit_24 : decode b_MO_fit 24 = .ok (.aload_n 0, 1) := by decide +kernel
theorem d_MO_fit_25 : decode b_MO_fit 25 = .ok (.getfield 56, 3) := by decide +kernel
theorem d_MO_fit_28 : decode b_MO_fit 28 = .ok (.iload 11, 2) := by decide +kernel
theorem d_MO_fit_30 : decode b_MO_fit 30 = .ok (.iaload, 1) := by decide +kernel
theorem d_MO_fit_31 : decode b_MO_fit 31 = .ok (.i2l, 1) := by decide +kernel
theorem d_MO_fit_32 : decode b_MO_fit 32 = .ok (.ladd, 1) := by decide +kernel
theorem d_MO_fit_33 : decode b_MO_fit 33 = .ok (.lstore_n 3, 1) := by decide +kernel
theorem d_MO_fit_34 : decode b_MO_fit 34 = .ok (.lload 5, 2) := by decide +kernel
theorem d_MO_fit_36 : decode b_MO_fit 36 = .ok (.aload_n 0, 1) := by decide +kernel
theorem d_MO_fit_37 : decode b_MO_fit 37 = .ok (.getfield 59, 3) := by decide +kernel
theorem d_MO_fit_40 : decode b_MO_fit 40 = .ok (.iload 11, 2) := by decide +kernel
theorem d_MO_fit_42 : decode b_MO_fit 42 = .ok (.iaload, 1) := by decide +kernel
theorem d_MO_fit_43 : decode b_MO_fit 43 = .ok (.i2l, 1) := by decide +kernel
theorem d_MO_fit_44 : decode b_MO_fit 44 = .ok (.ladd, 1) := by decide +kernel
theorem d_MO_fit_45 : decode b_MO_fit 45 = .ok (.lstore 5, 2) := by decide +kernel
theorem d_MO_fit_47 : decode b_MO_fit 47 = .ok (.lload 7, 2) := by decide +kernel
theorem d_MO_fit_49 : decode b_MO_fit 49 = .ok (.aload_n 0, 1) := by decide +kernel
theorem d_MO_fit_50 : decode b_MO_fit 50 = .ok (.getfield 56, 3) := by decide +kernel
theorem d_MO_fit_53 : decode b_MO_fit 53 = .ok (.iload 11, 2) := by decide +kernel
theorem d_MO_fit_55 : decode b_MO_fit 55 = .ok (.iaload, 1) := by decide +kernel
theorem d_MO_fit_56 : decode b_MO_fit 56 = .ok (.i2l, 1) := by decide +kernel
theorem d_MO_fit_57 : decode b_MO_fit 57 = .ok (.aload_n 0, 1) := by decide +kernel
theorem d_MO_fit_58 : decode b_MO_fit 58 = .ok (.getfield 56, 3) := by decide +kernel
theorem d_MO_fit_61 : decode b_MO_fit 61 = .ok (.iload 11, 2) := by decide +kernel
theorem d_MO_fit_63 : decode b_MO_fit 63 = .ok (.iaload, 1) := by decide +kernel
theorem d_MO_fit_64 : decode b_MO_fit 64 = .ok (.i2l, 1) := by decide +kernel
theorem d_MO_fit_65 : decode b_MO_fit 65 = .ok (.lmul, 1) := by decide +kernel
theorem d_MO_fit_66 : decode b_MO_fit 66 = .ok (.ladd, 1) := by decide +kernel
theorem d_MO_fit_67 : decode b_MO_fit 67 = .ok (.lstore 7, 2) := by decide +kernel
theorem d_MO_fit_69 : decode b_MO_fit 69 = .ok (.lload 9, 2) := by decide +kernel
theorem d_MO_fit_71 : decode b_MO_fit 71 = .ok (.aload_n 0, 1) := by decide +kernel
theorem d_MO_fit_72 : decode b_MO_fit 72 = .ok (.getfield 56, 3) := by decide +kernel
theorem d_MO_fit_75 : decode b_MO_fit 75 = .ok (.iload 11, 2) := by decide +kernel
theorem d_MO_fit_77 : decode b_MO_fit 77 = .ok (.iaload, 1) := by decide +kernel
theorem d_MO_fit_78 : decode b_MO_fit 78 = .ok (.i2l, 1) := by decide +kernel
theorem d_MO_fit_79 : decode b_MO_fit 79 = .ok (.aload_n 0, 1) := by decide +kernel
theorem d_MO_fit_80 : decode b_MO_fit 80 = .ok (.getfield 59, 3) := by decide +kernel
theorem d_MO_fit_83 : decode b_MO_fit 83 = .ok (.iload 11, 2) := by decide +kernel
theorem d_MO_fit_85 : decode b_MO_fit 85 = .ok (.iaload, 1) := by decide +kernel
theorem d_MO_fit_86 : decode b_MO_fit 86 = .ok (.i2l, 1) := by decide +kernel
theorem d_MO_fit_87 : decode b_MO_fit 87 = .ok (.lmul, 1) := by decide +kernel
theorem d_MO_fit_88 : decode b_MO_fit 88 = .ok (.ladd, 1) := by decide +kernel
theorem d_MO_fit_89 : decode b_MO_fit 89 = .ok (.lstore 9, 2) := by decide +kernel
theorem d_MO_fit_91 : decode b_MO_fit 91 = .ok (.iinc 11 1, 3) := by decide +kernel
theorem d_MO_fit_94 : decode b_MO_fit 94 = .ok (.goto (-80), 3) := by decide +kernel
theorem d_MO_fit_97 : decode b_MO_fit 97 = .ok (.aload_n 0, 1) := by decide +kernel
theorem d_MO_fit_98 : decode b_MO_fit 98 = .ok (.getfield 132, 3) := by decide +kernel
theorem d_MO_fit_101 : decode b_MO_fit 101 = .ok (.i2l, 1) := by decide +kernel
theorem d_MO_fit_102 : decode b_MO_fit 102 = .ok (.lload 7, 2) := by decide +kernel
theorem d_MO_fit_104 : decode b_MO_fit 104 = .ok (.lmul, 1) := by decide +kernel
theorem d_MO_fit_105 : decode b_MO_fit 105 = .ok (.lload_n 3, 1) := by decide +kernel
theorem d_MO_fit_106 : decode b_MO_fit 106 = .ok (.lload_n 3, 1) := by decide +kernel
theorem d_MO_fit_107 : decode b_MO_fit 107 = .ok (.lmul, 1) := by decide +kernel
theorem d_MO_fit_108 : decode b_MO_fit 108 = .ok (.lsub, 1) := by decide +kernel
theorem d_MO_fit_109 : decode b_MO_fit 109 = .ok (.lstore 11, 2) := by decide +kernel
theorem d_MO_fit_111 : decode b_MO_fit 111 = .ok (.aload_n 0, 1) := by decide +kernel
theorem d_MO_fit_112 : decode b_MO_fit 112 = .ok (.iload_n 1, 1) := by decide +kernel
theorem d_MO_fit_113 : decode b_MO_fit 113 = .ok (.iconst 0, 1) := by decide +kernel
theorem d_MO_fit_114 : decode b_MO_fit 114 = .ok (.iconst 1, 1) := by decide +kernel
theorem d_MO_fit_115 : decode b_MO_fit 115 = .ok (.invokestatic 66, 3) := by decide +kernel
theorem d_MO_fit_118 : decode b_MO_fit 118 = .ok (.ifCond .eq 10, 3) := by decide +kernel
theorem d_MO_fit_121 : decode b_MO_fit 121 = .ok (.iload_n 2, 1) := by decide +kernel
theorem d_MO_fit_122 : decode b_MO_fit 122 = .ok (.invokestatic 126, 3) := by decide +kernel
theorem d_MO_fit_125 : decode b_MO_fit 125 = .ok (.ifCond .ne 7, 3) := by decide +kernel
theorem d_MO_fit_128 : decode b_MO_fit 128 = .ok (.iconst 1, 1) := by decide +kernel
theorem d_MO_fit_129 : decode b_MO_fit 129 = .ok (.goto 4, 3) := by decide +kernel
theorem d_MO_fit_132 : decode b_MO_fit 132 = .ok (.iconst 0, 1) := by decide +kernel
theorem d_MO_fit_133 : decode b_MO_fit 133 = .ok (.lload 11, 2) := by decide +kernel
theorem d_MO_fit_135 : decode b_MO_fit 135 = .ok (.lconst 0, 1) := by decide +kernel
theorem d_MO_fit_136 : decode b_MO_fit 136 = .ok (.lcmp, 1) := by decide +kernel
theorem d_MO_fit_137 : decode b_MO_fit 137 = .ok (.ifCond .ne 7, 3) := by decide +kernel
theorem d_MO_fit_140 : decode b_MO_fit 140 = .ok (.iconst 1, 1) := by decide +kernel
theorem d_MO_fit_141 : decode b_MO_fit 141 = .ok (.goto 4, 3) := by decide +kernel
theorem d_MO_fit_144 : decode b_MO_fit 144 = .ok (.iconst 0, 1) := by decide +kernel
theorem d_MO_fit_145 : decode b_MO_fit 145 = .ok (.iconst 0, 1) := by decide +kernel
theorem d_MO_fit_146 : decode b_MO_fit 146 = .ok (.iconst 0, 1) := by decide +kernel
theorem d_MO_fit_147 : decode b_MO_fit 147 = .ok (.invokevirtual 79, 3) := by decide +kernel
theorem d_MO_fit_150 : decode b_MO_fit 150 = .ok (.ifCond .eq 5, 3) := by decide +kernel
theorem d_MO_fit_153 : decode b_MO_fit 153 = .ok (.lconst 0, 1) := by decide +kernel
theorem d_MO_fit_154 : decode b_MO_fit 154 = .ok (.lreturn, 1) := by decide +kernel
theorem d_MO_fit_155 : decode b_MO_fit 155 = .ok (.iload_n 1, 1) := by decide +kernel
theorem d_MO_fit_156 : decode b_MO_fit 156 = .ok (.ifCond .ne 19, 3) := by decide +kernel
theorem d_MO_fit_159 : decode b_MO_fit 159 = .ok (.aload_n 0, 1) := by decide +kernel
theorem d_MO_fit_160 : decode b_MO_fit 160 = .ok (.getfield 132, 3) := by decide +kernel
theorem d_MO_fit_163 : decode b_MO_fit 163 = .ok (.i2l, 1) := by decide +kernel
theorem d_MO_fit_164 : decode b_MO_fit 164 = .ok (.lload 9, 2) := by decide +kernel
theorem d_MO_fit_166 : decode b_MO_fit 166 = .ok (.lmul, 1) := by decide +kernel
theorem d_MO_fit_167 : decode b_MO_fit 167 = .ok (.lload_n 3, 1) := by decide +kernel
theorem d_MO_fit_168 : decode b_MO_fit 168 = .ok (.lload 5, 2) := by decide +kernel
theorem d_MO_fit_170 : decode b_MO_fit 170 = .ok (.lmul, 1) := by decide +kernel
theorem d_MO_fit_171 : decode b_MO_fit 171 = .ok (.lsub, 1) := by decide +kernel
theorem d_MO_fit_172 : decode b_MO_fit 172 = .ok (.goto 13, 3) := by decide +kernel
theorem d_MO_fit_175 : decode b_MO_fit 175 = .ok (.lload 5, 2) := by decide +kernel
theorem d_MO_fit_177 : decode b_MO_fit 177 = .ok (.lload 7, 2) := by decide +kernel
theorem d_MO_fit_179 : decode b_MO_fit 179 = .ok (.lmul, 1) := by decide +kernel
theorem d_MO_fit_180 : decode b_MO_fit 180 = .ok (.lload_n 3, 1) := by decide +kernel
theorem d_MO_fit_181 : decode b_MO_fit 181 = .ok (.lload 9, 2) := by decide +kernel
theorem d_MO_fit_183 : decode b_MO_fit 183 = .ok (.lmul, 1) := by decide +kernel
theorem d_MO_fit_184 : decode b_MO_fit 184 = .ok (.lsub, 1) := by decide +kernel
theorem d_MO_fit_185 : decode b_MO_fit 185 = .ok (.lload 11, 2) := by decide +kernel
theorem d_MO_fit_187 : decode b_MO_fit 187 = .ok (.iload_n 2, 1) := by decide +kernel
theorem d_MO_fit_188 : decode b_MO_fit 188 = .ok (.invokestatic 111, 3) := by decide +kernel
theorem d_MO_fit_191 : decode b_MO_fit 191 = .ok (.lreturn, 1) := by decide +kernel
theorem d_MO_tick_0 : decode b_MO_tick 0 = .ok (.aload_n 0, 1) := by decide +kernel
theorem d_MO_tick_1 : decode b_MO_tick 1 = .ok (.iload_n 1, 1) := by decide +kernel
theorem d_MO_tick_2 : decode b_MO_tick 2 = .ok (.iconst 1, 1) := by decide +kernel
theorem d_MO_tick_3 : decode b_MO_tick 3 = .ok (.sipush 1000, 3) := by decide +kernel
theorem d_MO_tick_6 : decode b_MO_tick 6 = .ok (.invokestatic 66, 3) := by decide +kernel
theorem d_MO_tick_9 : decode b_MO_tick 9 = .ok (.ifCond .eq 15, 3) := by decide +kernel
theorem d_MO_tick_12 : decode b_MO_tick 12 = .ok (.aload_n 0, 1) := by decide +kernel
theorem d_MO_tick_13 : decode b_MO_tick 13 = .ok (.getfield 86, 3) := by decide +kernel
theorem d_MO_tick_16 : decode b_MO_tick 16 = .ok (.iload_n 1, 1) := by decide +kernel
theorem d_MO_tick_17 : decode b_MO_tick 17 = .ok (.iadd, 1) := by decide +kernel
theorem d_MO_tick_18 : decode b_MO_tick 18 = .ok (.sipush 9999, 3) := by decide +kernel
theorem d_MO_tick_21 : decode b_MO_tick 21 = .ok (.if_icmp .le 7, 3) := by decide +kernel
theorem d_MO_tick_24 : decode b_MO_tick 24 = .ok (.iconst 1, 1) := by decide +kernel
theorem d_MO_tick_25 : decode b_MO_tick 25 = .ok (.goto 4, 3) := by decide +kernel
theorem d_MO_tick_28 : decode b_MO_tick 28 = .ok (.iconst 0, 1) := by decide +kernel
theorem d_MO_tick_29 : decode b_MO_tick 29 = .ok (.iconst 0, 1) := by decide +kernel
theorem d_MO_tick_30 : decode b_MO_tick 30 = .ok (.iconst 0, 1) := by decide +kernel
theorem d_MO_tick_31 : decode b_MO_tick 31 = .ok (.iconst 0, 1) := by decide +kernel
theorem d_MO_tick_32 : decode b_MO_tick 32 = .ok (.invokevirtual 79, 3) := by decide +kernel
theorem d_MO_tick_35 : decode b_MO_tick 35 = .ok (.ifCond .eq 5, 3) := by decide +kernel
theorem d_MO_tick_38 : decode b_MO_tick 38 = .ok (.iconst 0, 1) := by decide +kernel
theorem d_MO_tick_39 : decode b_MO_tick 39 = .ok (.ireturn, 1) := by decide +kernel
theorem d_MO_tick_40 : decode b_MO_tick 40 = .ok (.aload_n 0, 1) := by decide +kernel
theorem d_MO_tick_41 : decode b_MO_tick 41 = .ok (.dup, 1) := by decide +kernel
theorem d_MO_tick_42 : decode b_MO_tick 42 = .ok (.getfield 86, 3) := by decide +kernel
theorem d_MO_tick_45 : decode b_MO_tick 45 = .ok (.iload_n 1, 1) := by decide +kernel
theorem d_MO_tick_46 : decode b_MO_tick 46 = .ok (.iadd, 1) := by decide +kernel
theorem d_MO_tick_47 : decode b_MO_tick 47 = .ok (.putfield 86, 3) := by decide +kernel
theorem d_MO_tick_50 : decode b_MO_tick 50 = .ok (.aload_n 0, 1) := by decide +kernel
theorem d_MO_tick_51 : decode b_MO_tick 51 = .ok (.getfield 86, 3) := by decide +kernel
theorem d_MO_tick_54 : decode b_MO_tick 54 = .ok (.ireturn, 1) := by decide +kernel
end
section
-- EUCLID
def fibU : Nat → Nat
  | 0 => 1
  | 1 => 2
  | n + 2 => fibU (n + 1) + fibU n
theorem fibU_pos : ∀ n, 0 < fibU n
  | 0 => by decide
  | 1 => by decide
  | n + 2 => by
    have := fibU_pos n
    show 0 < fibU (n + 1) + fibU n
    omega
def gcdN : Nat → Nat → Nat → Nat
  | 0, a, _ => a
  | n + 1, a, b => if b = 0 then a else gcdN n b (a % b)
theorem gcd_step (a b : Nat) : Nat.gcd a b = Nat.gcd b (a % b) := by
  rw [Nat.gcd_comm a b, Nat.gcd_rec b a, Nat.gcd_comm]
theorem gcdN_two : ∀ n, (∀ a b, b < fibU n → gcdN n a b = Nat.gcd a b) ∧ (∀ a b, b < fibU (n + 1) → gcdN (n + 1) a b = Nat.gcd a b) := by
  intro n
  induction n with
  | zero =>
    refine ⟨fun a b h => ?_, fun a b h => ?_⟩
    · have h0 : b = 0 := by
        have h1 : fibU 0 = 1 := rfl
        omega
      subst h0
      simp [gcdN]
    · have h1 : fibU (0 + 1) = 2 := rfl
      rcases (show b = 0 ∨ b = 1 by omega) with rfl | rfl
      · simp [gcdN]
      · simp [gcdN]
  | succ n ih =>
    refine ⟨ih.2, fun a b h => ?_⟩
    show (if b = 0 then a else gcdN (n + 1) b (a % b)) = _
    by_cases hb : b = 0
    · rw [if_pos hb, hb, Nat.gcd_zero_right]
    · rw [if_neg hb, gcd_step a b]
      have hr : a % b < b := Nat.mod_lt _ (by omega)
      generalize a % b = r at hr
      by_cases h1 : r < fibU (n + 1)
      · exact ih.2 b r h1
      · have h2 : fibU (n + 2) = fibU (n + 1) + fibU n := rfl
        have h3 := fibU_pos (n + 1)
        have h0 : ¬ r = 0 := by omega
        show (if r = 0 then b else gcdN n r (b % r)) = _
        rw [if_neg h0, gcd_step b r]
        refine ih.1 r (b % r) ?_
        have h5 : b % r ≤ b - r := by
          have h6 : b % r = (b - r) % r := by rw [Nat.mod_eq_sub_mod (by omega)]
          rw [h6]
          exact Nat.mod_le _ _
        have h7 : b < fibU (n + 2) := h
        omega
theorem gcdN_gcd {a b : Nat} (hb : b < 2 ^ 63) : gcdN 100 a b = Nat.gcd a b :=
  (gcdN_two 100).1 a b (Nat.lt_of_lt_of_le hb (by decide +kernel))
theorem gcdL_nat : ∀ (n a b : Nat), a < 2 ^ 63 → b < 2 ^ 63 → gcdL n (lN a) (lN b) = lN (gcdN n a b)
  | 0, a, b, _, _ => rfl
  | n + 1, a, b, ha, hb => by
    have h0 : (lN b = 0) ↔ b = 0 := pk_lEQ hb (by decide)
    rw [gcdL, gcdN]
    by_cases h : b = 0
    · rw [if_pos (h0.mpr h), if_pos h]
    · rw [if_neg (fun z => h (h0.mp z)), if_neg h, pk_lRem ha (by omega) hb]
      exact gcdL_nat n b (a % b) hb (Nat.lt_of_lt_of_le (Nat.mod_lt _ (by omega)) (Nat.le_of_lt hb))
-- WHAT THE REFERENCE'S METHODS ANSWER, as functions of numbers
section VQK
variable {p : Program} {l : Launch} {e : Env} {R : Room} {s : State} {m : MethodId} {args : Array Value} {below : List Frame} {meth : Method} {c : Code} {H : Heap} {locs : List Loc} {cells slots : Nat} {Q : State → Prop}
theorem vq_cut {g g' : JFrame} (f : W p l e R s m args below meth c H locs cells slots Q g' → W p l e R s m args below meth c H locs cells slots Q g) (k : W p l e R s m args below meth c H locs cells slots Q g') : W p l e R s m args below meth c H locs cells slots Q g := f k
end VQK
def inF (v lo hi : Int32) : Int32 := if v < lo then 0 else if hi < v then 0 else 1
theorem inF_or (v lo hi : Int32) : inF v lo hi = 0 ∨ inF v lo hi = 1 := by
  unfold inF
  by_cases h1 : v < lo
  · left; rw [if_pos h1]
  · by_cases h2 : hi < v
    · left; rw [if_neg h1, if_pos h2]
    · right; rw [if_neg h1, if_neg h2]
theorem narB_in (v lo hi : Int32) : narrow .boolean (.int (inF v lo hi)) = .int (inF v lo hi) := by
  rcases inF_or v lo hi with h | h <;> rw [h] <;> rfl
def thF (a b c d : Int32) : Int32 := if a = 0 then (if b = 0 then (if c = 0 then (if d = 0 then 0 else 4) else 3) else 2) else 1
def thB (t : Int32) : Int32 := if t ≤ 0 then 0 else 1
end
section
set_option maxHeartbeats 4000000 in
set_option maxRecDepth 100000 in
/-- in -/
theorem m_in (l : Launch) (dC : Nat → ClassId) (dI : Nat → Nat → Nat) (cs : Nat → ClassId) (sz : Nat) (v : Int32) (lo : Int32) (hi : Int32) : Met l y_MO_in w_MO_in ({ frames := 0, cells := 0, slots := 0, locals := 0 }) (vq_PreR (dC, dI) cs [] sz [.int v, .int lo, .int hi]) (vp_Si (fun r => r = inF v lo hi)) 0 0 (fun _ => False) := by
  refine Met.ofW (cc := b_MO_in) (maxL := 3) (ret := (some .boolean)) (by decide) rfl ?_
  intro p e s m args below meth c s₁ B hml hv
  obtain ⟨rfl, hsz, hP, hCx⟩ := hv
  have hx := B.exec
  have hb := B.bytes
  have hr := B.returns
  have hG := vq_hG (atoms_spec (ws := w_MO_in) B.pre)
  have hown : s.vm.findClass R_MO = some m.cls := findClass_of_methodNamed B.named
  have hlocks := B.notSynchronized
  subst hsz
  have hK := hCx.1
  have hA : ∀ q : Nat, s.heap.size ≤ q → va_A [] s.heap.size q := fun q h => Or.inr h
  have hA0 : ∀ q : Nat, s.heap.size ≤ q → va_A [] s.heap.size q := fun q h => Or.inr h
  have hS : va_S (va_A [] s.heap.size) s.heap s.heap [] := va_S.rf
  have hl := lv_entry ([.int v, .int lo, .int hi]) (n := 3) (Nat.le_of_ble_eq_true rfl)
  rw [lg_entry_eq]
  generalize (lg_sl ([.int v, .int lo, .int hi]) ++ List.replicate (3 - (lg_sl ([.int v, .int lo, .int hi])).length) Slot.unset).toArray = ls at hl ⊢
  have hl : lv_has ls 3 [(0, .int v), (1, .int lo), (2, .int hi)] := hl
  have hP : va_P (dC, dI) vq_cl [] s.heap := hP
  refine lv_iload_n hx hb d_MO_in_0 rfl (lv_at hl 0 rfl) ?_
  refine lv_iload_n hx hb d_MO_in_1 rfl (lv_at hl 1 rfl) ?_
  refine lv_icmp_lt (tgt := 14) hx hb d_MO_in_2 (by decide) (fun c_2 => ?_) (fun c_2 => ?_)
  · skip
    refine lv_iconst (v := 0) hx hb d_MO_in_14 (by decide) ?_
    exact W.zret (v := 0) hx hb hr rfl (fun t ht hW => ⟨0, rfl, by simp only [inF, if_pos c_2], ht⟩) (fun q h => absurd h List.not_mem_nil) d_MO_in_15
  · skip
    refine lv_iload_n hx hb d_MO_in_5 rfl (lv_at hl 0 rfl) ?_
    refine lv_iload_n hx hb d_MO_in_6 rfl (lv_at hl 2 rfl) ?_
    refine lv_icmp_gt (tgt := 14) hx hb d_MO_in_7 (by decide) (fun c_7 => ?_) (fun c_7 => ?_)
    · skip
      refine lv_iconst (v := 0) hx hb d_MO_in_14 (by decide) ?_
      exact W.zret (v := 0) hx hb hr rfl (fun t ht hW => ⟨0, rfl, by simp only [inF, if_neg c_2, if_pos c_7], ht⟩) (fun q h => absurd h List.not_mem_nil) d_MO_in_15
    · skip
      refine lv_iconst (v := 1) hx hb d_MO_in_10 (by decide) ?_
      refine lv_goto (tgt := 15) hx hb d_MO_in_11 (by decide) ?_
      exact W.zret (v := 1) hx hb hr rfl (fun t ht hW => ⟨1, rfl, by simp only [inF, if_neg c_2, if_neg c_7], ht⟩) (fun q h => absurd h List.not_mem_nil) d_MO_in_15
set_option maxHeartbeats 4000000 in
set_option maxRecDepth 100000 in
/-- isMaterial -/
theorem m_isMaterial (l : Launch) (dC : Nat → ClassId) (dI : Nat → Nat → Nat) (cs : Nat → ClassId) (sz : Nat) (x : Int32) : Met l y_MO_isMaterial w_MO_isMaterial ({ frames := 1, cells := 0, slots := 0, locals := 22 }) (vq_PreR (dC, dI) cs [] sz [.int x]) (vp_Si (fun r => r = inF x 0 7)) 0 0 (fun _ => False) := by
  refine Met.ofW (cc := b_MO_isMaterial) (maxL := 1) (ret := (some .boolean)) (by decide) rfl ?_
  intro p e s m args below meth c s₁ B hml hv
  obtain ⟨rfl, hsz, hP, hCx⟩ := hv
  have hx := B.exec
  have hb := B.bytes
  have hr := B.returns
  have hG := vq_hG (atoms_spec (ws := w_MO_isMaterial) B.pre)
  have hown : s.vm.findClass R_MO = some m.cls := findClass_of_methodNamed B.named
  have hlocks := B.notSynchronized
  subst hsz
  have hK := hCx.1
  have hA : ∀ q : Nat, s.heap.size ≤ q → va_A [] s.heap.size q := fun q h => Or.inr h
  have hA0 : ∀ q : Nat, s.heap.size ≤ q → va_A [] s.heap.size q := fun q h => Or.inr h
  have hS : va_S (va_A [] s.heap.size) s.heap s.heap [] := va_S.rf
  have hl := lv_entry ([.int x]) (n := 1) (Nat.le_of_ble_eq_true rfl)
  rw [lg_entry_eq]
  generalize (lg_sl ([.int x]) ++ List.replicate (1 - (lg_sl ([.int x])).length) Slot.unset).toArray = ls at hl ⊢
  have hl : lv_has ls 1 [(0, .int x)] := hl
  have hP : va_P (dC, dI) vq_cl [] s.heap := hP
  refine lv_iload_n hx hb d_MO_isMaterial_0 rfl (lv_at hl 0 rfl) ?_
  refine lv_iconst (v := 0) hx hb d_MO_isMaterial_1 (by decide) ?_
  refine lv_bipush (v := 7) hx hb d_MO_isMaterial_2 (by decide) ?_
  refine vp_callSi (va_Run.run (va_runS (As := [.int x, .int 0, .int 7]) (rest := []) ⟨hx, hb, hml, hown, hG⟩ (m_in l dC dI cs _ x 0 7) (cwS 3 hG (vq_gS vq_t555 vq_t556 vq_t3 vq_t557) rfl rfl rfl (by decide +kernel) ⟨Nat.le_of_ble_eq_true rfl, Nat.le_of_ble_eq_true rfl⟩) (vq_preSr (wc := []) hCx hP (vq_wk hS hA) hA [] rfl) rfl rfl hl.1 rfl (lv_room (Nat.le_of_ble_eq_true rfl)) d_MO_isMaterial_4 ⟨Nat.le_of_ble_eq_true rfl, Nat.le_of_ble_eq_true rfl⟩)) (fun r_4 w_4 => ?_)
  subst w_4
  exact W.zret (v := inF x 0 7) hx hb hr (narB_in _ _ _) (fun t ht hW => ⟨inF x 0 7, rfl, rfl, ht⟩) (fun q h => absurd h List.not_mem_nil) d_MO_isMaterial_7
set_option maxHeartbeats 4000000 in
set_option maxRecDepth 100000 in
/-- isElement -/
theorem m_isElement (l : Launch) (dC : Nat → ClassId) (dI : Nat → Nat → Nat) (cs : Nat → ClassId) (sz : Nat) (x : Int32) : Met l y_MO_isElement w_MO_isElement ({ frames := 1, cells := 0, slots := 0, locals := 22 }) (vq_PreR (dC, dI) cs [] sz [.int x]) (vp_Si (fun r => r = inF x 0 3)) 0 0 (fun _ => False) := by
  refine Met.ofW (cc := b_MO_isElement) (maxL := 1) (ret := (some .boolean)) (by decide) rfl ?_
  intro p e s m args below meth c s₁ B hml hv
  obtain ⟨rfl, hsz, hP, hCx⟩ := hv
  have hx := B.exec
  have hb := B.bytes
  have hr := B.returns
  have hG := vq_hG (atoms_spec (ws := w_MO_isElement) B.pre)
  have hown : s.vm.findClass R_MO = some m.cls := findClass_of_methodNamed B.named
  have hlocks := B.notSynchronized
  subst hsz
  have hK := hCx.1
  have hA : ∀ q : Nat, s.heap.size ≤ q → va_A [] s.heap.size q := fun q h => Or.inr h
  have hA0 : ∀ q : Nat, s.heap.size ≤ q → va_A [] s.heap.size q := fun q h => Or.inr h
  have hS : va_S (va_A [] s.heap.size) s.heap s.heap [] := va_S.rf
  have hl := lv_entry ([.int x]) (n := 1) (Nat.le_of_ble_eq_true rfl)
  rw [lg_entry_eq]
  generalize (lg_sl ([.int x]) ++ List.replicate (1 - (lg_sl ([.int x])).length) Slot.unset).toArray = ls at hl ⊢
  have hl : lv_has ls 1 [(0, .int x)] := hl
  have hP : va_P (dC, dI) vq_cl [] s.heap := hP
  refine lv_iload_n hx hb d_MO_isElement_0 rfl (lv_at hl 0 rfl) ?_
  refine lv_iconst (v := 0) hx hb d_MO_isElement_1 (by decide) ?_
  refine lv_iconst (v := 3) hx hb d_MO_isElement_2 (by decide) ?_
  refine vp_callSi (va_Run.run (va_runS (As := [.int x, .int 0, .int 3]) (rest := []) ⟨hx, hb, hml, hown, hG⟩ (m_in l dC dI cs _ x 0 3) (cwS 3 hG (vq_gS vq_t555 vq_t556 vq_t3 vq_t557) rfl rfl rfl (by decide +kernel) ⟨Nat.le_of_ble_eq_true rfl, Nat.le_of_ble_eq_true rfl⟩) (vq_preSr (wc := []) hCx hP (vq_wk hS hA) hA [] rfl) rfl rfl hl.1 rfl (lv_room (Nat.le_of_ble_eq_true rfl)) d_MO_isElement_3 ⟨Nat.le_of_ble_eq_true rfl, Nat.le_of_ble_eq_true rfl⟩)) (fun r_3 w_3 => ?_)
  subst w_3
  exact W.zret (v := inF x 0 3) hx hb hr (narB_in _ _ _) (fun t ht hW => ⟨inF x 0 3, rfl, rfl, ht⟩) (fun q h => absurd h List.not_mem_nil) d_MO_isElement_6
set_option maxHeartbeats 4000000 in
set_option maxRecDepth 100000 in
/-- isPart -/
theorem m_isPart (l : Launch) (dC : Nat → ClassId) (dI : Nat → Nat → Nat) (cs : Nat → ClassId) (sz : Nat) (x : Int32) : Met l y_MO_isPart w_MO_isPart ({ frames := 1, cells := 0, slots := 0, locals := 22 }) (vq_PreR (dC, dI) cs [] sz [.int x]) (vp_Si (fun r => r = inF x 0 1)) 0 0 (fun _ => False) := by
  refine Met.ofW (cc := b_MO_isPart) (maxL := 1) (ret := (some .boolean)) (by decide) rfl ?_
  intro p e s m args below meth c s₁ B hml hv
  obtain ⟨rfl, hsz, hP, hCx⟩ := hv
  have hx := B.exec
  have hb := B.bytes
  have hr := B.returns
  have hG := vq_hG (atoms_spec (ws := w_MO_isPart) B.pre)
  have hown : s.vm.findClass R_MO = some m.cls := findClass_of_methodNamed B.named
  have hlocks := B.notSynchronized
  subst hsz
  have hK := hCx.1
  have hA : ∀ q : Nat, s.heap.size ≤ q → va_A [] s.heap.size q := fun q h => Or.inr h
  have hA0 : ∀ q : Nat, s.heap.size ≤ q → va_A [] s.heap.size q := fun q h => Or.inr h
  have hS : va_S (va_A [] s.heap.size) s.heap s.heap [] := va_S.rf
  have hl := lv_entry ([.int x]) (n := 1) (Nat.le_of_ble_eq_true rfl)
  rw [lg_entry_eq]
  generalize (lg_sl ([.int x]) ++ List.replicate (1 - (lg_sl ([.int x])).length) Slot.unset).toArray = ls at hl ⊢
  have hl : lv_has ls 1 [(0, .int x)] := hl
  have hP : va_P (dC, dI) vq_cl [] s.heap := hP
  refine lv_iload_n hx hb d_MO_isPart_0 rfl (lv_at hl 0 rfl) ?_
  refine lv_iconst (v := 0) hx hb d_MO_isPart_1 (by decide) ?_
  refine lv_iconst (v := 1) hx hb d_MO_isPart_2 (by decide) ?_
  refine vp_callSi (va_Run.run (va_runS (As := [.int x, .int 0, .int 1]) (rest := []) ⟨hx, hb, hml, hown, hG⟩ (m_in l dC dI cs _ x 0 1) (cwS 3 hG (vq_gS vq_t555 vq_t556 vq_t3 vq_t557) rfl rfl rfl (by decide +kernel) ⟨Nat.le_of_ble_eq_true rfl, Nat.le_of_ble_eq_true rfl⟩) (vq_preSr (wc := []) hCx hP (vq_wk hS hA) hA [] rfl) rfl rfl hl.1 rfl (lv_room (Nat.le_of_ble_eq_true rfl)) d_MO_isPart_3 ⟨Nat.le_of_ble_eq_true rfl, Nat.le_of_ble_eq_true rfl⟩)) (fun r_3 w_3 => ?_)
  subst w_3
  exact W.zret (v := inF x 0 1) hx hb hr (narB_in _ _ _) (fun t ht hW => ⟨inF x 0 1, rfl, rfl, ht⟩) (fun q h => absurd h List.not_mem_nil) d_MO_isPart_6
set_option maxHeartbeats 4000000 in
set_option maxRecDepth 100000 in
/-- isPile -/
theorem m_isPile (l : Launch) (dC : Nat → ClassId) (dI : Nat → Nat → Nat) (cs : Nat → ClassId) (sz : Nat) (g0 : Nat) (gMo : Nat) (gSh : Nat) (gDy : Nat) (gMa : Nat) (gKi : Nat) (gLa : Nat) (gSl : Nat) (gTk : Nat) (gLy : Nat) (gGr : Nat) (gLS : Nat) (gMU : Nat) (gML : Nat) (gEU : Nat) (gEL : Nat) (gPx : Nat) (gPy : Nat) (kTh : Int32) (kTo : Int32) (kCn : Int32) (kPl : Int32) (kPt : Int32) (x : Int32) : Met l y_MO_isPile w_MO_isPile ({ frames := 1, cells := 0, slots := 0, locals := 22 }) (vq_PreR (dC, dI) cs [(g0, .inr (3, [.int kTh, .int kTo, .ref gMo, .ref gSh, .int kCn, .ref gDy, .ref gMa, .ref gKi, .ref gLa, .int kPl, .ref gSl, .ref gTk, .ref gLy, .ref gGr, .ref gLS, .ref gMU, .ref gML, .ref gEU, .ref gEL, .int kPt, .ref gPx, .ref gPy]))] sz [.ref g0, .int x]) (vp_Si (fun r => r = inF x 0 (kPl - 1))) 0 0 (fun _ => False) := by
  refine Met.ofW (cc := b_MO_isPile) (maxL := 2) (ret := (some .boolean)) (by decide) rfl ?_
  intro p e s m args below meth c s₁ B hml hv
  obtain ⟨rfl, hsz, hP, hCx⟩ := hv
  have hx := B.exec
  have hb := B.bytes
  have hr := B.returns
  have hG := vq_hG (atoms_spec (ws := w_MO_isPile) B.pre)
  have hown : s.vm.findClass R_MO = some m.cls := findClass_of_methodNamed B.named
  have hlocks := B.notSynchronized
  subst hsz
  have hK := hCx.1
  have hA : ∀ q : Nat, s.heap.size ≤ q → va_A [] s.heap.size q := fun q h => Or.inr h
  have hA0 : ∀ q : Nat, s.heap.size ≤ q → va_A [] s.heap.size q := fun q h => Or.inr h
  have hS : va_S (va_A [] s.heap.size) s.heap s.heap [] := va_S.rf
  have hl := lv_entry ([.ref g0, .int x]) (n := 2) (Nat.le_of_ble_eq_true rfl)
  rw [lg_entry_eq]
  generalize (lg_sl ([.ref g0, .int x]) ++ List.replicate (2 - (lg_sl ([.ref g0, .int x])).length) Slot.unset).toArray = ls at hl ⊢
  have hl : lv_has ls 2 [(0, .ref g0), (1, .int x)] := hl
  have hP : va_P (dC, dI) vq_cl [(g0, .inr (3, [.int kTh, .int kTo, .ref gMo, .ref gSh, .int kCn, .ref gDy, .ref gMa, .ref gKi, .ref gLa, .int kPl, .ref gSl, .ref gTk, .ref gLy, .ref gGr, .ref gLS, .ref gMU, .ref gML, .ref gEU, .ref gEL, .int kPt, .ref gPx, .ref gPy]))] s.heap := hP
  refine lv_iload_n hx hb d_MO_isPile_0 rfl (lv_at hl 1 rfl) ?_
  refine lv_iconst (v := 0) hx hb d_MO_isPile_1 (by decide) ?_
  refine lv_aload_n hx hb d_MO_isPile_2 rfl (lv_at hl 0 rfl) ?_
  refine va_get (D := (dC, dI)) (ci := 3) (v := .int kPl) (C := R_MO) (T := F_MO) (N := 22) hx hb hG i_MO hown hK hP 0 rfl rfl 9 (by decide) (hG _ vq_t486) (fun _ h9 => h9) rfl d_MO_isPile_3 ?_
  refine lv_iconst (v := 1) hx hb d_MO_isPile_6 (by decide) ?_
  refine lv_isub hx hb d_MO_isPile_7 ?_
  refine vp_callSi (va_Run.run (va_runS (As := [.int x, .int 0, .int (kPl - 1)]) (rest := []) ⟨hx, hb, hml, hown, hG⟩ (m_in l dC dI cs _ x 0 (kPl - 1)) (cwS 3 hG (vq_gS vq_t555 vq_t556 vq_t3 vq_t557) rfl rfl rfl (by decide +kernel) ⟨Nat.le_of_ble_eq_true rfl, Nat.le_of_ble_eq_true rfl⟩) (vq_preSr (wc := []) hCx hP (vq_wk hS hA) hA [] rfl) rfl rfl hl.1 rfl (lv_room (Nat.le_of_ble_eq_true rfl)) d_MO_isPile_8 ⟨Nat.le_of_ble_eq_true rfl, Nat.le_of_ble_eq_true rfl⟩)) (fun r_8 w_8 => ?_)
  subst w_8
  exact W.zret (v := inF x 0 (kPl - 1)) hx hb hr (narB_in _ _ _) (fun t ht hW => ⟨inF x 0 (kPl - 1), rfl, rfl, ht⟩) (fun q h => absurd h List.not_mem_nil) d_MO_isPile_11
set_option maxHeartbeats 4000000 in
set_option maxRecDepth 100000 in
/-- thrown -/
theorem m_thrown (l : Launch) (dC : Nat → ClassId) (dI : Nat → Nat → Nat) (cs : Nat → ClassId) (sz : Nat) (g0 : Nat) (gMo : Nat) (gSh : Nat) (gDy : Nat) (gMa : Nat) (gKi : Nat) (gLa : Nat) (gSl : Nat) (gTk : Nat) (gLy : Nat) (gGr : Nat) (gLS : Nat) (gMU : Nat) (gML : Nat) (gEU : Nat) (gEL : Nat) (gPx : Nat) (gPy : Nat) (kTh : Int32) (kTo : Int32) (kCn : Int32) (kPl : Int32) (kPt : Int32) : Met l y_MO_thrown w_MO_thrown ({ frames := 0, cells := 0, slots := 0, locals := 0 }) (vq_PreR (dC, dI) cs [(g0, .inr (3, [.int kTh, .int kTo, .ref gMo, .ref gSh, .int kCn, .ref gDy, .ref gMa, .ref gKi, .ref gLa, .int kPl, .ref gSl, .ref gTk, .ref gLy, .ref gGr, .ref gLS, .ref gMU, .ref gML, .ref gEU, .ref gEL, .int kPt, .ref gPx, .ref gPy]))] sz [.ref g0]) (vp_Si (fun r => r = kTh)) 0 0 (fun _ => False) := by
  refine Met.ofW (cc := b_MO_thrown) (maxL := 1) (ret := (some .int)) (by decide) rfl ?_
  intro p e s m args below meth c s₁ B hml hv
  obtain ⟨rfl, hsz, hP, hCx⟩ := hv
  have hx := B.exec
  have hb := B.bytes
  have hr := B.returns
  have hG := vq_hG (atoms_spec (ws := w_MO_thrown) B.pre)
  have hown : s.vm.findClass R_MO = some m.cls := findClass_of_methodNamed B.named
  have hlocks := B.notSynchronized
  subst hsz
  have hK := hCx.1
  have hA : ∀ q : Nat, s.heap.size ≤ q → va_A [] s.heap.size q := fun q h => Or.inr h
  have hA0 : ∀ q : Nat, s.heap.size ≤ q → va_A [] s.heap.size q := fun q h => Or.inr h
  have hS : va_S (va_A [] s.heap.size) s.heap s.heap [] := va_S.rf
  have hl := lv_entry ([.ref g0]) (n := 1) (Nat.le_of_ble_eq_true rfl)
  rw [lg_entry_eq]
  generalize (lg_sl ([.ref g0]) ++ List.replicate (1 - (lg_sl ([.ref g0])).length) Slot.unset).toArray = ls at hl ⊢
  have hl : lv_has ls 1 [(0, .ref g0)] := hl
  have hP : va_P (dC, dI) vq_cl [(g0, .inr (3, [.int kTh, .int kTo, .ref gMo, .ref gSh, .int kCn, .ref gDy, .ref gMa, .ref gKi, .ref gLa, .int kPl, .ref gSl, .ref gTk, .ref gLy, .ref gGr, .ref gLS, .ref gMU, .ref gML, .ref gEU, .ref gEL, .int kPt, .ref gPx, .ref gPy]))] s.heap := hP
  refine lv_aload_n hx hb d_MO_thrown_0 rfl (lv_at hl 0 rfl) ?_
  refine va_get (D := (dC, dI)) (ci := 3) (v := .int kTh) (C := R_MO) (T := F_MO) (N := 22) hx hb hG i_MO hown hK hP 0 rfl rfl 0 (by decide) (hG _ vq_t477) (fun _ h9 => h9) rfl d_MO_thrown_1 ?_
  exact W.iret (v := kTh) hx hb hr (fun t ht hW => ⟨kTh, rfl, rfl, ht⟩) (fun q h => absurd h List.not_mem_nil) d_MO_thrown_4
set_option maxHeartbeats 4000000 in
set_option maxRecDepth 100000 in
/-- throwing -/
theorem m_throwing (l : Launch) (dC : Nat → ClassId) (dI : Nat → Nat → Nat) (cs : Nat → ClassId) (sz : Nat) (g0 : Nat) (gMo : Nat) (gSh : Nat) (gDy : Nat) (gMa : Nat) (gKi : Nat) (gLa : Nat) (gSl : Nat) (gTk : Nat) (gLy : Nat) (gGr : Nat) (gLS : Nat) (gMU : Nat) (gML : Nat) (gEU : Nat) (gEL : Nat) (gPx : Nat) (gPy : Nat) (kTh : Int32) (kTo : Int32) (kCn : Int32) (kPl : Int32) (kPt : Int32) (a1 : Int32) (a2 : Int32) (a3 : Int32) (a4 : Int32) : Met l y_MO_throwing w_MO_throwing ({ frames := 0, cells := 0, slots := 0, locals := 0 }) (vq_Pre (dC, dI) cs [(g0, .inr (3, [.int kTh, .int kTo, .ref gMo, .ref gSh, .int kCn, .ref gDy, .ref gMa, .ref gKi, .ref gLa, .int kPl, .ref gSl, .ref gTk, .ref gLy, .ref gGr, .ref gLS, .ref gMU, .ref gML, .ref gEU, .ref gEL, .int kPt, .ref gPx, .ref gPy]))] sz [.ref g0, .int a1, .int a2, .int a3, .int a4]) (va_Qi (fun (r : Int32) (_ : Unit) => r = thB (thF a1 a2 a3 a4)) (vq_B (dC, dI) cs (va_A [(g0, .inr (3, [.int kTh, .int kTo, .ref gMo, .ref gSh, .int kCn, .ref gDy, .ref gMa, .ref gKi, .ref gLa, .int kPl, .ref gSl, .ref gTk, .ref gLy, .ref gGr, .ref gLS, .ref gMU, .ref gML, .ref gEU, .ref gEL, .int kPt, .ref gPx, .ref gPy]))] sz) (fun _ => [(g0, .inr (3, [.int (thF a1 a2 a3 a4), .int kTo, .ref gMo, .ref gSh, .int kCn, .ref gDy, .ref gMa, .ref gKi, .ref gLa, .int kPl, .ref gSl, .ref gTk, .ref gLy, .ref gGr, .ref gLS, .ref gMU, .ref gML, .ref gEU, .ref gEL, .int kPt, .ref gPx, .ref gPy]))])) (va_A [(g0, .inr (3, [.int kTh, .int kTo, .ref gMo, .ref gSh, .int kCn, .ref gDy, .ref gMa, .ref gKi, .ref gLa, .int kPl, .ref gSl, .ref gTk, .ref gLy, .ref gGr, .ref gLS, .ref gMU, .ref gML, .ref gEU, .ref gEL, .int kPt, .ref gPx, .ref gPy]))] sz)) 0 0 (va_A [(g0, .inr (3, [.int kTh, .int kTo, .ref gMo, .ref gSh, .int kCn, .ref gDy, .ref gMa, .ref gKi, .ref gLa, .int kPl, .ref gSl, .ref gTk, .ref gLy, .ref gGr, .ref gLS, .ref gMU, .ref gML, .ref gEU, .ref gEL, .int kPt, .ref gPx, .ref gPy]))] sz) := by
  refine Met.ofW (cc := b_MO_throwing) (maxL := 5) (ret := (some .boolean)) (by decide) rfl ?_
  intro p e s m args below meth c s₁ B hml hv
  obtain ⟨rfl, hsz, hP, hD0, hCx⟩ := hv
  have hx := B.exec
  have hb := B.bytes
  have hr := B.returns
  have hG := vq_hG (atoms_spec (ws := w_MO_throwing) B.pre)
  have hown : s.vm.findClass R_MO = some m.cls := findClass_of_methodNamed B.named
  have hlocks := B.notSynchronized
  subst hsz
  have hK := hCx.1
  have hD := hD0.self (sz := s.heap.size)
  generalize hAe : va_A [(g0, .inr (3, [.int kTh, .int kTo, .ref gMo, .ref gSh, .int kCn, .ref gDy, .ref gMa, .ref gKi, .ref gLa, .int kPl, .ref gSl, .ref gTk, .ref gLy, .ref gGr, .ref gLS, .ref gMU, .ref gML, .ref gEU, .ref gEL, .int kPt, .ref gPx, .ref gPy]))] s.heap.size = A at hD hCx ⊢
  have hA : ∀ q : Nat, s.heap.size ≤ q → A q := fun q h => by rw [← hAe]; exact Or.inr h
  have hA0 : ∀ q : Nat, s.heap.size ≤ q → va_A [] s.heap.size q := fun q h => Or.inr h
  have hS : va_S (va_A [] s.heap.size) s.heap s.heap [] := va_S.rf
  have hl := lv_entry ([.ref g0, .int a1, .int a2, .int a3, .int a4]) (n := 5) (Nat.le_of_ble_eq_true rfl)
  rw [lg_entry_eq]
  generalize (lg_sl ([.ref g0, .int a1, .int a2, .int a3, .int a4]) ++ List.replicate (5 - (lg_sl ([.ref g0, .int a1, .int a2, .int a3, .int a4])).length) Slot.unset).toArray = ls at hl ⊢
  have hl : lv_has ls 5 [(0, .ref g0), (1, .int a1), (2, .int a2), (3, .int a3), (4, .int a4)] := hl
  have hP : va_P (dC, dI) vq_cl [(g0, .inr (3, [.int kTh, .int kTo, .ref gMo, .ref gSh, .int kCn, .ref gDy, .ref gMa, .ref gKi, .ref gLa, .int kPl, .ref gSl, .ref gTk, .ref gLy, .ref gGr, .ref gLS, .ref gMU, .ref gML, .ref gEU, .ref gEL, .int kPt, .ref gPx, .ref gPy]))] s.heap := hP
  refine lv_aload_n hx hb d_MO_throwing_0 rfl (lv_at hl 0 rfl) ?_
  refine vq_cut (g' := F0 m 35 ls [.int (thF a1 a2 a3 a4), .ref g0]) (fun kk => ?_) ?_
  · skip
    refine lv_iload_n hx hb d_MO_throwing_1 rfl (lv_at hl 1 rfl) ?_
    refine lv_if_eq (tgt := 9) hx hb d_MO_throwing_2 (by decide) (fun c_2 => ?_) (fun c_2 => ?_)
    · skip
      refine lv_iload_n hx hb d_MO_throwing_9 rfl (lv_at hl 2 rfl) ?_
      refine lv_if_eq (tgt := 17) hx hb d_MO_throwing_10 (by decide) (fun c_10 => ?_) (fun c_10 => ?_)
      · skip
        refine lv_iload_n hx hb d_MO_throwing_17 rfl (lv_at hl 3 rfl) ?_
        refine lv_if_eq (tgt := 25) hx hb d_MO_throwing_18 (by decide) (fun c_18 => ?_) (fun c_18 => ?_)
        · skip
          refine lv_iload hx hb d_MO_throwing_25 (lv_at hl 4 rfl) ?_
          refine lv_if_eq (tgt := 34) hx hb d_MO_throwing_27 (by decide) (fun c_27 => ?_) (fun c_27 => ?_)
          · skip
            refine lv_iconst (v := 0) hx hb d_MO_throwing_34 (by decide) ?_
            simp only [thF, if_pos c_2, if_pos c_10, if_pos c_18, if_pos c_27] at kk
            exact kk
          · skip
            refine lv_iconst (v := 4) hx hb d_MO_throwing_30 (by decide) ?_
            refine lv_goto (tgt := 35) hx hb d_MO_throwing_31 (by decide) ?_
            simp only [thF, if_pos c_2, if_pos c_10, if_pos c_18, if_neg c_27] at kk
            exact kk
        · skip
          refine lv_iconst (v := 3) hx hb d_MO_throwing_21 (by decide) ?_
          refine lv_goto (tgt := 35) hx hb d_MO_throwing_22 (by decide) ?_
          simp only [thF, if_pos c_2, if_pos c_10, if_neg c_18] at kk
          exact kk
      · skip
        refine lv_iconst (v := 2) hx hb d_MO_throwing_13 (by decide) ?_
        refine lv_goto (tgt := 35) hx hb d_MO_throwing_14 (by decide) ?_
        simp only [thF, if_pos c_2, if_neg c_10] at kk
        exact kk
    · skip
      refine lv_iconst (v := 1) hx hb d_MO_throwing_5 (by decide) ?_
      refine lv_goto (tgt := 35) hx hb d_MO_throwing_6 (by decide) ?_
      simp only [thF, if_neg c_2] at kk
      exact kk
  have hS := vq_wk hS hA
  refine va_put (D := (dC, dI)) (ci := 3) (v := .int (thF a1 a2 a3 a4)) (ty := .int) (C := R_MO) (T := F_MO) (N := 22) hx hb hG i_MO t_MO t_MO_ok n_MO hown hK hP hD hS 0 rfl rfl 0 (by decide) (hG _ vq_t477) (fun _ h9 => h9) rfl (by decide +kernel) rfl rfl (Nat.le_of_ble_eq_true rfl) d_MO_throwing_35 (fun H locs hP hD hS => ?_)
  have hP : va_P (dC, dI) vq_cl [(g0, .inr (3, [.int (thF a1 a2 a3 a4), .int kTo, .ref gMo, .ref gSh, .int kCn, .ref gDy, .ref gMa, .ref gKi, .ref gLa, .int kPl, .ref gSl, .ref gTk, .ref gLy, .ref gGr, .ref gLS, .ref gMU, .ref gML, .ref gEU, .ref gEL, .int kPt, .ref gPx, .ref gPy]))] H := hP
  have hD : va_D A [(g0, .inr (3, [.int (thF a1 a2 a3 a4), .int kTo, .ref gMo, .ref gSh, .int kCn, .ref gDy, .ref gMa, .ref gKi, .ref gLa, .int kPl, .ref gSl, .ref gTk, .ref gLy, .ref gGr, .ref gLS, .ref gMU, .ref gML, .ref gEU, .ref gEL, .int kPt, .ref gPx, .ref gPy]))] := hD
  refine lv_aload_n hx hb d_MO_throwing_38 rfl (lv_at hl 0 rfl) ?_
  refine va_get (D := (dC, dI)) (ci := 3) (v := .int (thF a1 a2 a3 a4)) (C := R_MO) (T := F_MO) (N := 22) hx hb hG i_MO hown hK hP 0 rfl rfl 0 (by decide) (hG _ vq_t477) (fun _ h9 => h9) rfl d_MO_throwing_39 ?_
  refine lv_if_le (tgt := 49) hx hb d_MO_throwing_42 (by decide) (fun c_42 => ?_) (fun c_42 => ?_)
  · skip
    refine lv_iconst (v := 0) hx hb d_MO_throwing_49 (by decide) ?_
    refine W.widen (k := 0) (n := 0) (Nat.le_of_ble_eq_true rfl) (Nat.le_of_ble_eq_true rfl) ?_
    have hP9 : va_P (dC, dI) vq_cl [(g0, .inr (3, [.int (thF a1 a2 a3 a4), .int kTo, .ref gMo, .ref gSh, .int kCn, .ref gDy, .ref gMa, .ref gKi, .ref gLa, .int kPl, .ref gSl, .ref gTk, .ref gLy, .ref gGr, .ref gLS, .ref gMU, .ref gML, .ref gEU, .ref gEL, .int kPt, .ref gPx, .ref gPy]))] _ := hP.sub [0] rfl
    have hD9 : va_D A [(g0, .inr (3, [.int (thF a1 a2 a3 a4), .int kTo, .ref gMo, .ref gSh, .int kCn, .ref gDy, .ref gMa, .ref gKi, .ref gLa, .int kPl, .ref gSl, .ref gTk, .ref gLy, .ref gGr, .ref gLS, .ref gMU, .ref gML, .ref gEU, .ref gEL, .int kPt, .ref gPx, .ref gPy]))] := hD.sub [0] (by decide) rfl
    exact W.zret (v := 0) hx hb hr rfl (fun t ht hW => ⟨⟨0, (), rfl, by simp only [thB, if_pos c_42], ⟨by rw [ht]; exact hP9, hD9⟩⟩, hS.F ht⟩) hS.2.2 d_MO_throwing_50
  · skip
    refine lv_iconst (v := 1) hx hb d_MO_throwing_45 (by decide) ?_
    refine lv_goto (tgt := 50) hx hb d_MO_throwing_46 (by decide) ?_
    refine W.widen (k := 0) (n := 0) (Nat.le_of_ble_eq_true rfl) (Nat.le_of_ble_eq_true rfl) ?_
    have hP9 : va_P (dC, dI) vq_cl [(g0, .inr (3, [.int (thF a1 a2 a3 a4), .int kTo, .ref gMo, .ref gSh, .int kCn, .ref gDy, .ref gMa, .ref gKi, .ref gLa, .int kPl, .ref gSl, .ref gTk, .ref gLy, .ref gGr, .ref gLS, .ref gMU, .ref gML, .ref gEU, .ref gEL, .int kPt, .ref gPx, .ref gPy]))] _ := hP.sub [0] rfl
    have hD9 : va_D A [(g0, .inr (3, [.int (thF a1 a2 a3 a4), .int kTo, .ref gMo, .ref gSh, .int kCn, .ref gDy, .ref gMa, .ref gKi, .ref gLa, .int kPl, .ref gSl, .ref gTk, .ref gLy, .ref gGr, .ref gLS, .ref gMU, .ref gML, .ref gEU, .ref gEL, .int kPt, .ref gPx, .ref gPy]))] := hD.sub [0] (by decide) rfl
    exact W.zret (v := 1) hx hb hr rfl (fun t ht hW => ⟨⟨1, (), rfl, by simp only [thB, if_neg c_42], ⟨by rw [ht]; exact hP9, hD9⟩⟩, hS.F ht⟩) hS.2.2 d_MO_throwing_50
set_option maxHeartbeats 4000000 in
set_option maxRecDepth 100000 in
/-- the loop of partOf -/
theorem lp_part {p : Program} {l : Launch} {e : Env} {R : Room} {s : State} {m : MethodId} {args : Array Value} {below : List Frame} {meth : Method} {c : Code} {cells slots : Nat} {Q : State → Prop} {H : Heap} {locs : List Loc} {u v sg : Int64} {q : Int32} (hx : p.tables.exec = Jvm.exec) (hb : c.code = b_MO_partOf) :
    ∀ (n x y : Nat) (ls : Array Slot), y ≤ n → x < 2 ^ 63 → y < 2 ^ 63 → lv_has ls 13 [(0, .long u), (2, .long v), (4, .int q), (9, .long sg), (5, .long (lN x)), (7, .long (lN y))] → (∀ ls : Array Slot, lv_has ls 13 [(0, .long u), (2, .long v), (4, .int q), (9, .long sg), (5, .long (lN (Nat.gcd x y)))] → W p l e R s m args below meth c H locs cells slots Q (F0 m 68 ls [])) → W p l e R s m args below meth c H locs cells slots Q (F0 m 43 ls []) := by
  intro n
  induction n with
  | zero =>
    intro x y ls hn hx1 hy1 hl kk
    have h0 : (lN y ≤ 0) ↔ y ≤ 0 := pk_lLE hy1 (by decide)
    refine lv_lload hx hb d_MO_partOf_43 (lv_at hl 5 rfl) ?_
    refine lv_lconst (v := 0) hx hb d_MO_partOf_45 (by decide) ?_
    refine W.lcmp hx hb d_MO_partOf_46 ?_
    refine lv_if_le (tgt := 68) hx hb d_MO_partOf_47 (by decide) (fun c_47 => ?_) (fun c_47 => ?_)
    · skip
      have c_47 := (lg_cmp_le (lN y) 0).mp c_47
      have hy0 : y = 0 := by omega
      exact kk ls (by rw [hy0, Nat.gcd_zero_right]; exact lv_sub hl [0, 1, 2, 3, 4] rfl)
    · skip
      have c_47 := (not_congr (lg_cmp_le (lN y) 0)).mp c_47
      exact absurd c_47 (not_not_intro (h0.mpr hn))
  | succ n ih =>
    intro x y ls hn hx1 hy1 hl kk
    have h0 : (lN y ≤ 0) ↔ y ≤ 0 := pk_lLE hy1 (by decide)
    refine lv_lload hx hb d_MO_partOf_43 (lv_at hl 5 rfl) ?_
    refine lv_lconst (v := 0) hx hb d_MO_partOf_45 (by decide) ?_
    refine W.lcmp hx hb d_MO_partOf_46 ?_
    refine lv_if_le (tgt := 68) hx hb d_MO_partOf_47 (by decide) (fun c_47 => ?_) (fun c_47 => ?_)
    · skip
      have c_47 := (lg_cmp_le (lN y) 0).mp c_47
      have hy0 : y = 0 := Nat.le_zero.mp (h0.mp c_47)
      exact kk ls (by rw [hy0, Nat.gcd_zero_right]; exact lv_sub hl [0, 1, 2, 3, 4] rfl)
    · skip
      have c_47 := (not_congr (lg_cmp_le (lN y) 0)).mp c_47
      have hyn : ¬ y = 0 := fun z => c_47 (h0.mpr (by omega))
      refine lv_lload hx hb d_MO_partOf_50 (lv_at hl 4 rfl) ?_
      refine lv_lload hx hb d_MO_partOf_52 (lv_at hl 5 rfl) ?_
      refine lv_lrem hx hb d_MO_partOf_54 (fun z => hyn ((pk_lEQ hy1 (by decide)).mp z)) ?_
      refine lv_lstore (lv' := [(11, .long ((lN x) - (lN x) / (lN y) * (lN y))), (0, .long u), (2, .long v), (4, .int q), (9, .long sg), (5, .long (lN x)), (7, .long (lN y))]) hx hb d_MO_partOf_55 hl (by decide) rfl (fun ls hl => ?_)
      refine lv_lload hx hb d_MO_partOf_57 (lv_at hl 6 rfl) ?_
      refine lv_lstore (lv' := [(5, .long (lN y)), (11, .long ((lN x) - (lN x) / (lN y) * (lN y))), (0, .long u), (2, .long v), (4, .int q), (9, .long sg), (7, .long (lN y))]) hx hb d_MO_partOf_59 hl (by decide) rfl (fun ls hl => ?_)
      refine lv_lload hx hb d_MO_partOf_61 (lv_at hl 1 rfl) ?_
      refine lv_lstore (lv' := [(7, .long ((lN x) - (lN x) / (lN y) * (lN y))), (5, .long (lN y)), (11, .long ((lN x) - (lN x) / (lN y) * (lN y))), (0, .long u), (2, .long v), (4, .int q), (9, .long sg)]) hx hb d_MO_partOf_63 hl (by decide) rfl (fun ls hl => ?_)
      refine lv_goto (tgt := 43) hx hb d_MO_partOf_65 (by decide) ?_
      rw [pk_lRem hx1 (by omega) hy1] at hl
      exact ih y (x % y) ls (by have := Nat.mod_lt x (show y > 0 by omega); omega) hy1 (Nat.lt_of_lt_of_le (Nat.mod_lt _ (by omega)) (Nat.le_of_lt hy1)) (lv_sub hl [3, 4, 5, 6, 1, 0] rfl) (fun ls hl => kk ls (by rw [gcd_step x y]; exact hl))
set_option maxHeartbeats 4000000 in
set_option maxRecDepth 100000 in
/-- partOf -/
theorem m_partOf (l : Launch) (dC : Nat → ClassId) (dI : Nat → Nat → Nat) (cs : Nat → ClassId) (sz : Nat) (u : Int64) (v : Int64) (q : Int32) (x : Nat) (y : Nat) (ha : (if 0 ≤ v then v else (-v)) = lN x) (hb9 : (if 0 ≤ u then u else (-u)) = lN y) (hx1 : x < 2 ^ 63) (hy1 : y < 2 ^ 63) (hz : ¬ lN (Nat.gcd x y) = 0) : Met l y_MO_partOf w_MO_partOf ({ frames := 0, cells := 0, slots := 0, locals := 0 }) (vq_PreR (dC, dI) cs [] sz [.long u, .long v, .int q]) (vp_Sl (fun r => r = ((if 0 ≤ v then 1 else (-1)) * (if q = 0 then u else v)) / lN (Nat.gcd x y))) 0 0 (fun _ => False) := by
  refine Met.ofW (cc := b_MO_partOf) (maxL := 13) (ret := (some .long)) (by decide) rfl ?_
  intro p e s m args below meth c s₁ B hml hv
  obtain ⟨rfl, hsz, hP, hCx⟩ := hv
  have hx := B.exec
  have hb := B.bytes
  have hr := B.returns
  have hG := vq_hG (atoms_spec (ws := w_MO_partOf) B.pre)
  have hown : s.vm.findClass R_MO = some m.cls := findClass_of_methodNamed B.named
  have hlocks := B.notSynchronized
  subst hsz
  have hK := hCx.1
  have hA : ∀ q : Nat, s.heap.size ≤ q → va_A [] s.heap.size q := fun q h => Or.inr h
  have hA0 : ∀ q : Nat, s.heap.size ≤ q → va_A [] s.heap.size q := fun q h => Or.inr h
  have hS : va_S (va_A [] s.heap.size) s.heap s.heap [] := va_S.rf
  have hl := lv_entry ([.long u, .long v, .int q]) (n := 13) (Nat.le_of_ble_eq_true rfl)
  rw [lg_entry_eq]
  generalize (lg_sl ([.long u, .long v, .int q]) ++ List.replicate (13 - (lg_sl ([.long u, .long v, .int q])).length) Slot.unset).toArray = ls at hl ⊢
  have hl : lv_has ls 13 [(0, .long u), (2, .long v), (4, .int q)] := hl
  have hP : va_P (dC, dI) vq_cl [] s.heap := hP
  refine vq_cut (g' := F0 m 12 ls [.long (if 0 ≤ v then v else (-v))]) (fun kk => ?_) ?_
  · skip
    refine lv_lload_n hx hb d_MO_partOf_0 rfl (lv_at hl 1 rfl) ?_
    refine lv_lconst (v := 0) hx hb d_MO_partOf_1 (by decide) ?_
    refine W.lcmp hx hb d_MO_partOf_2 ?_
    refine lv_if_ge (tgt := 11) hx hb d_MO_partOf_3 (by decide) (fun c_3 => ?_) (fun c_3 => ?_)
    · skip
      have c_3 := (lg_cmp_ge v 0).mp c_3
      refine lv_lload_n hx hb d_MO_partOf_11 rfl (lv_at hl 1 rfl) ?_
      simp only [if_pos c_3] at kk
      exact kk
    · skip
      have c_3 := (not_congr (lg_cmp_ge v 0)).mp c_3
      refine lv_lload_n hx hb d_MO_partOf_6 rfl (lv_at hl 1 rfl) ?_
      refine lv_lneg hx hb d_MO_partOf_7 ?_
      refine lv_goto (tgt := 12) hx hb d_MO_partOf_8 (by decide) ?_
      simp only [if_neg c_3] at kk
      exact kk
  refine lv_lstore (lv' := [(5, .long (if 0 ≤ v then v else (-v))), (0, .long u), (2, .long v), (4, .int q)]) hx hb d_MO_partOf_12 hl (by decide) rfl (fun ls hl => ?_)
  refine vq_cut (g' := F0 m 26 ls [.long (if 0 ≤ u then u else (-u))]) (fun kk => ?_) ?_
  · skip
    refine lv_lload_n hx hb d_MO_partOf_14 rfl (lv_at hl 1 rfl) ?_
    refine lv_lconst (v := 0) hx hb d_MO_partOf_15 (by decide) ?_
    refine W.lcmp hx hb d_MO_partOf_16 ?_
    refine lv_if_ge (tgt := 25) hx hb d_MO_partOf_17 (by decide) (fun c_17 => ?_) (fun c_17 => ?_)
    · skip
      have c_17 := (lg_cmp_ge u 0).mp c_17
      refine lv_lload_n hx hb d_MO_partOf_25 rfl (lv_at hl 1 rfl) ?_
      simp only [if_pos c_17] at kk
      exact kk
    · skip
      have c_17 := (not_congr (lg_cmp_ge u 0)).mp c_17
      refine lv_lload_n hx hb d_MO_partOf_20 rfl (lv_at hl 1 rfl) ?_
      refine lv_lneg hx hb d_MO_partOf_21 ?_
      refine lv_goto (tgt := 26) hx hb d_MO_partOf_22 (by decide) ?_
      simp only [if_neg c_17] at kk
      exact kk
  refine lv_lstore (lv' := [(7, .long (if 0 ≤ u then u else (-u))), (5, .long (if 0 ≤ v then v else (-v))), (0, .long u), (2, .long v), (4, .int q)]) hx hb d_MO_partOf_26 hl (by decide) rfl (fun ls hl => ?_)
  refine vq_cut (g' := F0 m 41 ls [.long (if 0 ≤ v then 1 else (-1))]) (fun kk => ?_) ?_
  · skip
    refine lv_lload_n hx hb d_MO_partOf_28 rfl (lv_at hl 3 rfl) ?_
    refine lv_lconst (v := 0) hx hb d_MO_partOf_29 (by decide) ?_
    refine W.lcmp hx hb d_MO_partOf_30 ?_
    refine lv_if_ge (tgt := 40) hx hb d_MO_partOf_31 (by decide) (fun c_31 => ?_) (fun c_31 => ?_)
    · skip
      have c_31 := (lg_cmp_ge v 0).mp c_31
      refine lv_lconst (v := 1) hx hb d_MO_partOf_40 (by decide) ?_
      simp only [if_pos c_31] at kk
      exact kk
    · skip
      have c_31 := (not_congr (lg_cmp_ge v 0)).mp c_31
      refine lv_ldc2 (v := (-1)) hx hb hown (hG _ vq_t625) d_MO_partOf_34 ?_
      refine lv_goto (tgt := 41) hx hb d_MO_partOf_37 (by decide) ?_
      simp only [if_neg c_31] at kk
      exact kk
  refine lv_lstore (lv' := [(9, .long (if 0 ≤ v then 1 else (-1))), (7, .long (if 0 ≤ u then u else (-u))), (5, .long (if 0 ≤ v then v else (-v))), (0, .long u), (2, .long v), (4, .int q)]) hx hb d_MO_partOf_41 hl (by decide) rfl (fun ls hl => ?_)
  have hl : lv_has ls 13 [(0, .long u), (2, .long v), (4, .int q), (9, .long (if 0 ≤ v then 1 else (-1))), (5, .long (if 0 ≤ v then v else (-v))), (7, .long (if 0 ≤ u then u else (-u)))] := lv_sub hl [3, 4, 5, 0, 2, 1] rfl
  rw [ha, hb9] at hl
  refine lp_part hx hb y x y ls (Nat.le_refl _) hx1 hy1 hl (fun ls hl => ?_)
  refine lv_lload hx hb d_MO_partOf_68 (lv_at hl 3 rfl) ?_
  refine vq_cut (g' := F0 m 80 ls [.long (if q = 0 then u else v), .long (if 0 ≤ v then 1 else (-1))]) (fun kk => ?_) ?_
  · skip
    refine lv_iload hx hb d_MO_partOf_70 (lv_at hl 2 rfl) ?_
    refine lv_if_ne (tgt := 79) hx hb d_MO_partOf_72 (by decide) (fun c_72 => ?_) (fun c_72 => ?_)
    · skip
      refine lv_lload_n hx hb d_MO_partOf_79 rfl (lv_at hl 1 rfl) ?_
      simp only [if_neg c_72] at kk
      exact kk
    · skip
      refine lv_lload_n hx hb d_MO_partOf_75 rfl (lv_at hl 0 rfl) ?_
      refine lv_goto (tgt := 80) hx hb d_MO_partOf_76 (by decide) ?_
      simp only [if_pos c_72] at kk
      exact kk
  refine lv_lmul hx hb d_MO_partOf_80 ?_
  refine lv_lload hx hb d_MO_partOf_81 (lv_at hl 4 rfl) ?_
  refine lv_ldiv hx hb d_MO_partOf_83 hz ?_
  exact W.lret (v := (((if 0 ≤ v then 1 else (-1)) * (if q = 0 then u else v)) / (lN (Nat.gcd x y)))) hx hb hr (fun t ht hW => ⟨(((if 0 ≤ v then 1 else (-1)) * (if q = 0 then u else v)) / (lN (Nat.gcd x y))), rfl, by rfl, ht⟩) (fun q h => absurd h List.not_mem_nil) d_MO_partOf_84
end
