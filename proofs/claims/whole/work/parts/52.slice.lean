-- SLICES
def gSt (lt : Int32) (s us : Int64) (ug : Int32) : Int64 × Int32 := if ug = 0 then (s, lt) else if s * ug.toInt64 ≤ us * lt.toInt64 then (us, ug) else (s, lt)
def eSt (lt : Int32) (s us : Int64) (ug : Int32) : Int64 × Int32 := if ug = 0 then (s, lt) else if us * lt.toInt64 ≤ s * ug.toInt64 then (us, ug) else (s, lt)
def gMt (a b mu ml : Int64) : Int64 × Int64 := if ml = 0 then (a, b) else if a * ml ≤ mu * b then (mu, ml) else (a, b)
def eMt (a b mu ml : Int64) : Int64 × Int64 := if ml = 0 then (a, b) else if mu * b ≤ a * ml then (mu, ml) else (a, b)
theorem ngP_s (lt : Int32) (fLt : Nat → Int64) (u : (Nat → Int64) × (Nat → Int32)) (k : Int32) : (ngP lt fLt u k).1 k.toNatClampNeg = (gSt lt (fLt k.toNatClampNeg) (u.1 k.toNatClampNeg) (u.2 k.toNatClampNeg)).1 ∧ (ngP lt fLt u k).2 k.toNatClampNeg = (gSt lt (fLt k.toNatClampNeg) (u.1 k.toNatClampNeg) (u.2 k.toNatClampNeg)).2 := by
  unfold ngP ngS ngG gSt
  by_cases h : u.2 k.toNatClampNeg = 0
  · simp only [if_pos h, pk_us, pk_uLs, and_self]
  · by_cases h2 : fLt k.toNatClampNeg * (u.2 k.toNatClampNeg).toInt64 ≤ u.1 k.toNatClampNeg * lt.toInt64
    · simp only [if_neg h, if_pos h2, and_self]
    · simp only [if_neg h, if_neg h2, pk_us, pk_uLs, and_self]
theorem ngP_n (lt : Int32) (fLt : Nat → Int64) (u : (Nat → Int64) × (Nat → Int32)) (k : Int32) {i : Nat} (hi : i ≠ k.toNatClampNeg) : (ngP lt fLt u k).1 i = u.1 i ∧ (ngP lt fLt u k).2 i = u.2 i := by
  unfold ngP ngS ngG
  by_cases h : u.2 k.toNatClampNeg = 0
  · simp only [if_pos h, pk_un hi, pk_uLn hi, and_self]
  · by_cases h2 : fLt k.toNatClampNeg * (u.2 k.toNatClampNeg).toInt64 ≤ u.1 k.toNatClampNeg * lt.toInt64
    · simp only [if_neg h, if_pos h2, and_self]
    · simp only [if_neg h, if_neg h2, pk_un hi, pk_uLn hi, and_self]
theorem neP_s (lt : Int32) (fLt : Nat → Int64) (u : (Nat → Int64) × (Nat → Int32)) (k : Int32) : (neP lt fLt u k).1 k.toNatClampNeg = (eSt lt (fLt k.toNatClampNeg) (u.1 k.toNatClampNeg) (u.2 k.toNatClampNeg)).1 ∧ (neP lt fLt u k).2 k.toNatClampNeg = (eSt lt (fLt k.toNatClampNeg) (u.1 k.toNatClampNeg) (u.2 k.toNatClampNeg)).2 := by
  unfold neP neS neG eSt
  by_cases h : u.2 k.toNatClampNeg = 0
  · simp only [if_pos h, pk_us, pk_uLs, and_self]
  · by_cases h2 : u.1 k.toNatClampNeg * lt.toInt64 ≤ fLt k.toNatClampNeg * (u.2 k.toNatClampNeg).toInt64
    · simp only [if_neg h, if_pos h2, and_self]
    · simp only [if_neg h, if_neg h2, pk_us, pk_uLs, and_self]
theorem neP_n (lt : Int32) (fLt : Nat → Int64) (u : (Nat → Int64) × (Nat → Int32)) (k : Int32) {i : Nat} (hi : i ≠ k.toNatClampNeg) : (neP lt fLt u k).1 i = u.1 i ∧ (neP lt fLt u k).2 i = u.2 i := by
  unfold neP neS neG
  by_cases h : u.2 k.toNatClampNeg = 0
  · simp only [if_pos h, pk_un hi, pk_uLn hi, and_self]
  · by_cases h2 : u.1 k.toNatClampNeg * lt.toInt64 ≤ fLt k.toNatClampNeg * (u.2 k.toNatClampNeg).toInt64
    · simp only [if_neg h, if_pos h2, and_self]
    · simp only [if_neg h, if_neg h2, pk_un hi, pk_uLn hi, and_self]
/-- one of four steps touches a place -/
theorem four_at {A B : Type} (F : (Nat → A) × (Nat → B) → Nat → (Nat → A) × (Nat → B)) (w : Nat → A → B → A × B) (at_ : Nat → Nat) (hinj : ∀ i j, i < 4 → j < 4 → i ≠ j → at_ i ≠ at_ j)
    (hs : ∀ u k, k < 4 → (F u k).1 (at_ k) = (w k (u.1 (at_ k)) (u.2 (at_ k))).1 ∧ (F u k).2 (at_ k) = (w k (u.1 (at_ k)) (u.2 (at_ k))).2) (hn : ∀ u k i, k < 4 → i ≠ at_ k → (F u k).1 i = u.1 i ∧ (F u k).2 i = u.2 i) (u : (Nat → A) × (Nat → B)) :
    (∀ e, e < 4 → (F (F (F (F u 0) 1) 2) 3).1 (at_ e) = (w e (u.1 (at_ e)) (u.2 (at_ e))).1 ∧ (F (F (F (F u 0) 1) 2) 3).2 (at_ e) = (w e (u.1 (at_ e)) (u.2 (at_ e))).2) ∧ ∀ i, (∀ e, e < 4 → i ≠ at_ e) → (F (F (F (F u 0) 1) 2) 3).1 i = u.1 i ∧ (F (F (F (F u 0) 1) 2) 3).2 i = u.2 i := by
  refine ⟨fun e he => ?_, fun i hi => ?_⟩
  · rcases (show e = 0 ∨ e = 1 ∨ e = 2 ∨ e = 3 by omega) with rfl | rfl | rfl | rfl
    · have n1 := hinj 0 1 (by decide) (by decide) (by decide)
      have n2 := hinj 0 2 (by decide) (by decide) (by decide)
      have n3 := hinj 0 3 (by decide) (by decide) (by decide)
      rw [(hn _ 3 _ (by decide) n3).1, (hn _ 3 _ (by decide) n3).2, (hn _ 2 _ (by decide) n2).1, (hn _ 2 _ (by decide) n2).2, (hn _ 1 _ (by decide) n1).1, (hn _ 1 _ (by decide) n1).2]
      exact hs u 0 (by decide)
    · have n0 := hinj 1 0 (by decide) (by decide) (by decide)
      have n2 := hinj 1 2 (by decide) (by decide) (by decide)
      have n3 := hinj 1 3 (by decide) (by decide) (by decide)
      rw [(hn _ 3 _ (by decide) n3).1, (hn _ 3 _ (by decide) n3).2, (hn _ 2 _ (by decide) n2).1, (hn _ 2 _ (by decide) n2).2, (hs _ 1 (by decide)).1, (hs _ 1 (by decide)).2, (hn _ 0 _ (by decide) n0).1, (hn _ 0 _ (by decide) n0).2]
      exact ⟨rfl, rfl⟩
    · have n0 := hinj 2 0 (by decide) (by decide) (by decide)
      have n1 := hinj 2 1 (by decide) (by decide) (by decide)
      have n3 := hinj 2 3 (by decide) (by decide) (by decide)
      rw [(hn _ 3 _ (by decide) n3).1, (hn _ 3 _ (by decide) n3).2, (hs _ 2 (by decide)).1, (hs _ 2 (by decide)).2, (hn _ 1 _ (by decide) n1).1, (hn _ 1 _ (by decide) n1).2, (hn _ 0 _ (by decide) n0).1, (hn _ 0 _ (by decide) n0).2]
      exact ⟨rfl, rfl⟩
    · have n0 := hinj 3 0 (by decide) (by decide) (by decide)
      have n1 := hinj 3 1 (by decide) (by decide) (by decide)
      have n2 := hinj 3 2 (by decide) (by decide) (by decide)
      rw [(hs _ 3 (by decide)).1, (hs _ 3 (by decide)).2, (hn _ 2 _ (by decide) n2).1, (hn _ 2 _ (by decide) n2).2, (hn _ 1 _ (by decide) n1).1, (hn _ 1 _ (by decide) n1).2, (hn _ 0 _ (by decide) n0).1, (hn _ 0 _ (by decide) n0).2]
      exact ⟨rfl, rfl⟩
  · rw [(hn _ 3 _ (by decide) (hi 3 (by decide))).1, (hn _ 3 _ (by decide) (hi 3 (by decide))).2, (hn _ 2 _ (by decide) (hi 2 (by decide))).1, (hn _ 2 _ (by decide) (hi 2 (by decide))).2, (hn _ 1 _ (by decide) (hi 1 (by decide))).1, (hn _ 1 _ (by decide) (hi 1 (by decide))).2]
    exact hn u 0 i (by decide) (hi 0 (by decide))
theorem tnG_at (lt : Int32) (fLt : Nat → Int64) (u : (Nat → Int64) × (Nat → Int32)) (h : ¬ lt ≤ 0) {e : Nat} (he : e < 4) : (tnG lt fLt u).1 e = (gSt lt (fLt e) (u.1 e) (u.2 e)).1 ∧ (tnG lt fLt u).2 e = (gSt lt (fLt e) (u.1 e) (u.2 e)).2 := by
  unfold tnG
  rw [if_neg h]
  refine (four_at (fun u k => ngP lt fLt u (nI k)) (fun k a b => gSt lt (fLt k) a b) (fun i => i) (fun i j _ _ h => h) (fun u k hk => ?_) (fun u k i hk hi => ?_) u).1 e he
  · have := ngP_s lt fLt u (nI k)
    rw [nI_clamp (by omega)] at this
    exact this
  · exact ngP_n lt fLt u (nI k) (by rw [nI_clamp (by omega)]; exact hi)
theorem tnE_at (lt : Int32) (fLt : Nat → Int64) (u : (Nat → Int64) × (Nat → Int32)) (h : ¬ lt ≤ 0) {e : Nat} (he : e < 4) : (tnE lt fLt u).1 e = (eSt lt (fLt e) (u.1 e) (u.2 e)).1 ∧ (tnE lt fLt u).2 e = (eSt lt (fLt e) (u.1 e) (u.2 e)).2 := by
  unfold tnE
  rw [if_neg h]
  refine (four_at (fun u k => neP lt fLt u (nI k)) (fun k a b => eSt lt (fLt k) a b) (fun i => i) (fun i j _ _ h => h) (fun u k hk => ?_) (fun u k i hk hi => ?_) u).1 e he
  · have := neP_s lt fLt u (nI k)
    rw [nI_clamp (by omega)] at this
    exact this
  · exact neP_n lt fLt u (nI k) (by rw [nI_clamp (by omega)]; exact hi)
theorem smP_s (a b : Int64) (u : (Nat → Int64) × (Nat → Int64)) (k : Int32) : (smP a b u k).1 k.toNatClampNeg = (gMt a b (u.1 k.toNatClampNeg) (u.2 k.toNatClampNeg)).1 ∧ (smP a b u k).2 k.toNatClampNeg = (gMt a b (u.1 k.toNatClampNeg) (u.2 k.toNatClampNeg)).2 := by
  unfold smP gMt
  by_cases h : u.2 k.toNatClampNeg = 0
  · simp only [if_pos h, pk_uLs, and_self]
  · by_cases h2 : a * u.2 k.toNatClampNeg ≤ u.1 k.toNatClampNeg * b
    · simp only [if_neg h, if_pos h2, and_self]
    · simp only [if_neg h, if_neg h2, pk_uLs, and_self]
theorem smP_n (a b : Int64) (u : (Nat → Int64) × (Nat → Int64)) (k : Int32) {i : Nat} (hi : i ≠ k.toNatClampNeg) : (smP a b u k).1 i = u.1 i ∧ (smP a b u k).2 i = u.2 i := by
  unfold smP
  by_cases h : u.2 k.toNatClampNeg = 0
  · simp only [if_pos h, pk_uLn hi, and_self]
  · by_cases h2 : a * u.2 k.toNatClampNeg ≤ u.1 k.toNatClampNeg * b
    · simp only [if_neg h, if_pos h2, and_self]
    · simp only [if_neg h, if_neg h2, pk_uLn hi, and_self]
theorem seP_s (a b : Int64) (u : (Nat → Int64) × (Nat → Int64)) (k : Int32) : (seP a b u k).1 k.toNatClampNeg = (eMt a b (u.1 k.toNatClampNeg) (u.2 k.toNatClampNeg)).1 ∧ (seP a b u k).2 k.toNatClampNeg = (eMt a b (u.1 k.toNatClampNeg) (u.2 k.toNatClampNeg)).2 := by
  unfold seP eMt
  by_cases h : u.2 k.toNatClampNeg = 0
  · simp only [if_pos h, pk_uLs, and_self]
  · by_cases h2 : u.1 k.toNatClampNeg * b ≤ a * u.2 k.toNatClampNeg
    · simp only [if_neg h, if_pos h2, and_self]
    · simp only [if_neg h, if_neg h2, pk_uLs, and_self]
theorem seP_n (a b : Int64) (u : (Nat → Int64) × (Nat → Int64)) (k : Int32) {i : Nat} (hi : i ≠ k.toNatClampNeg) : (seP a b u k).1 i = u.1 i ∧ (seP a b u k).2 i = u.2 i := by
  unfold seP
  by_cases h : u.2 k.toNatClampNeg = 0
  · simp only [if_pos h, pk_uLn hi, and_self]
  · by_cases h2 : u.1 k.toNatClampNeg * b ≤ a * u.2 k.toNatClampNeg
    · simp only [if_neg h, if_pos h2, and_self]
    · simp only [if_neg h, if_neg h2, pk_uLn hi, and_self]
theorem sm4_at (a b : Nat → Int64) (u : (Nat → Int64) × (Nat → Int64)) {k : Nat} (hk : k < 4) :
    (∀ e, e < 4 → (smP (a 3) (b 3) (smP (a 2) (b 2) (smP (a 1) (b 1) (smP (a 0) (b 0) u (4 * nI k + 0)) (4 * nI k + 1)) (4 * nI k + 2)) (4 * nI k + 3)).1 (4 * k + e) = (gMt (a e) (b e) (u.1 (4 * k + e)) (u.2 (4 * k + e))).1 ∧ (smP (a 3) (b 3) (smP (a 2) (b 2) (smP (a 1) (b 1) (smP (a 0) (b 0) u (4 * nI k + 0)) (4 * nI k + 1)) (4 * nI k + 2)) (4 * nI k + 3)).2 (4 * k + e) = (gMt (a e) (b e) (u.1 (4 * k + e)) (u.2 (4 * k + e))).2) ∧ ∀ i, (∀ e, e < 4 → i ≠ 4 * k + e) → (smP (a 3) (b 3) (smP (a 2) (b 2) (smP (a 1) (b 1) (smP (a 0) (b 0) u (4 * nI k + 0)) (4 * nI k + 1)) (4 * nI k + 2)) (4 * nI k + 3)).1 i = u.1 i ∧ (smP (a 3) (b 3) (smP (a 2) (b 2) (smP (a 1) (b 1) (smP (a 0) (b 0) u (4 * nI k + 0)) (4 * nI k + 1)) (4 * nI k + 2)) (4 * nI k + 3)).2 i = u.2 i := by
  refine four_at (fun u c => smP (a c) (b c) u (4 * nI k + nI c)) (fun c x y => gMt (a c) (b c) x y) (fun i => 4 * k + i) (fun i j _ _ h => by omega) (fun u c hc => ?_) (fun u c i hc hi => ?_) u
  · have := smP_s (a c) (b c) u (4 * nI k + nI c)
    rw [ix_16 hk hc] at this
    exact this
  · exact smP_n (a c) (b c) u (4 * nI k + nI c) (by rw [ix_16 hk hc]; exact hi)
theorem se4_at (a b : Nat → Int64) (u : (Nat → Int64) × (Nat → Int64)) {k : Nat} (hk : k < 4) :
    (∀ e, e < 4 → (seP (a 3) (b 3) (seP (a 2) (b 2) (seP (a 1) (b 1) (seP (a 0) (b 0) u (4 * nI k + 0)) (4 * nI k + 1)) (4 * nI k + 2)) (4 * nI k + 3)).1 (4 * k + e) = (eMt (a e) (b e) (u.1 (4 * k + e)) (u.2 (4 * k + e))).1 ∧ (seP (a 3) (b 3) (seP (a 2) (b 2) (seP (a 1) (b 1) (seP (a 0) (b 0) u (4 * nI k + 0)) (4 * nI k + 1)) (4 * nI k + 2)) (4 * nI k + 3)).2 (4 * k + e) = (eMt (a e) (b e) (u.1 (4 * k + e)) (u.2 (4 * k + e))).2) ∧ ∀ i, (∀ e, e < 4 → i ≠ 4 * k + e) → (seP (a 3) (b 3) (seP (a 2) (b 2) (seP (a 1) (b 1) (seP (a 0) (b 0) u (4 * nI k + 0)) (4 * nI k + 1)) (4 * nI k + 2)) (4 * nI k + 3)).1 i = u.1 i ∧ (seP (a 3) (b 3) (seP (a 2) (b 2) (seP (a 1) (b 1) (seP (a 0) (b 0) u (4 * nI k + 0)) (4 * nI k + 1)) (4 * nI k + 2)) (4 * nI k + 3)).2 i = u.2 i := by
  refine four_at (fun u c => seP (a c) (b c) u (4 * nI k + nI c)) (fun c x y => eMt (a c) (b c) x y) (fun i => 4 * k + i) (fun i j _ _ h => by omega) (fun u c hc => ?_) (fun u c i hc hi => ?_) u
  · have := seP_s (a c) (b c) u (4 * nI k + nI c)
    rw [ix_16 hk hc] at this
    exact this
  · exact seP_n (a c) (b c) u (4 * nI k + nI c) (by rw [ix_16 hk hc]; exact hi)
-- a share and its lowest terms
theorem low_facts {s g : Nat} (hg : 0 < g) : 0 < Nat.gcd g s ∧ s / Nat.gcd g s * Nat.gcd g s = s ∧ g / Nat.gcd g s * Nat.gcd g s = g ∧ 0 < g / Nat.gcd g s := by
  have h1 : 0 < Nat.gcd g s := Nat.gcd_pos_of_pos_left s hg
  refine ⟨h1, Nat.div_mul_cancel (Nat.gcd_dvd_right g s), Nat.div_mul_cancel (Nat.gcd_dvd_left g s), ?_⟩
  exact Nat.div_pos (Nat.gcd_le_left s hg) h1
theorem po_two {s g : Nat} (hs : s < 2 ^ 63) (hg : g < 2 ^ 63) (h0 : 0 < g) : poF (lN s) (lN g) 0 g s = lN (s / Nat.gcd g s) ∧ poF (lN s) (lN g) 1 g s = lN (g / Nat.gcd g s) := by
  have h1 : 0 < Nat.gcd g s := Nat.gcd_pos_of_pos_left s h0
  have h2 : Nat.gcd g s < 2 ^ 63 := Nat.lt_of_le_of_lt (Nat.gcd_le_left s h0) hg
  have h3 : (0 : Int64) ≤ lN g := (pk_lLE (a := 0) (by decide) hg).mpr (Nat.zero_le _)
  unfold poF
  rw [if_pos h3, if_pos rfl, if_neg b10, Int64.one_mul, Int64.one_mul, pk_lDiv hs h1 h2, pk_lDiv hg h1 h2]
  exact ⟨rfl, rfl⟩
theorem cross_le {s g s' g' : Nat} (hg : 0 < g) (hg' : 0 < g') : (s' / Nat.gcd g' s') * (g / Nat.gcd g s) ≤ (s / Nat.gcd g s) * (g' / Nat.gcd g' s') ↔ s' * g ≤ s * g' := by
  obtain ⟨d1, d2, d3, d4⟩ := low_facts (s := s) hg
  obtain ⟨e1, e2, e3, e4⟩ := low_facts (s := s') hg'
  generalize s / Nat.gcd g s = u at *
  generalize g / Nat.gcd g s = l at *
  generalize s' / Nat.gcd g' s' = u' at *
  generalize g' / Nat.gcd g' s' = l' at *
  generalize Nat.gcd g s = c at *
  generalize Nat.gcd g' s' = c' at *
  subst d2 d3 e2 e3
  have e5 : u' * c' * (l * c) = (u' * l) * (c' * c) := by simp only [Nat.mul_assoc, Nat.mul_left_comm, Nat.mul_comm]
  have e6 : u * c * (l' * c') = (u * l') * (c' * c) := by simp only [Nat.mul_assoc, Nat.mul_left_comm, Nat.mul_comm]
  rw [e5, e6]
  exact (Nat.mul_le_mul_right_iff (Nat.mul_pos e1 d1)).symm
theorem div_bnd {s g b : Nat} (h : s ≤ b) : s / g ≤ b := Nat.le_trans (Nat.div_le_self _ _) h
theorem SPm_0 {s g : Nat} {mu ml : Int64} (h : SPm s g mu ml) (hg : g ≤ 20000000) : ml = 0 ↔ g = 0 := by
  rcases h with ⟨h1, h2⟩ | ⟨h1, h2, h3⟩
  · exact ⟨fun _ => h1, fun _ => h2⟩
  · constructor
    · intro z
      rw [h3] at z
      have := (pk_lEQ (b := 0) (by have := div_bnd (g := Nat.gcd g s) hg; omega) (by decide)).mp z
      have := (low_facts (s := s) h1).2.2.2
      omega
    · intro z; omega
theorem SPm_new {s g : Nat} (h : 0 < g) (hs : s ≤ 200000000000) (hg : g ≤ 20000000) : SPm s g (poF (lN s) (lN g) 0 g s) (poF (lN s) (lN g) 1 g s) :=
  Or.inr ⟨h, (po_two (by omega) (by omega) h).1, (po_two (by omega) (by omega) h).2⟩
theorem mul_bnd {a b : Nat} (h1 : a ≤ 200000000000) (h2 : b ≤ 20000000) : a * b < 2 ^ 63 := Nat.lt_of_le_of_lt (Nat.mul_le_mul h1 h2) (by decide)
theorem cmp_iff {s g s' D : Nat} {mu ml : Int64} (h : SPm s g mu ml) (h0 : 0 < g) (hD : 0 < D) (b1 : s ≤ 200000000000) (b2 : g ≤ 20000000) (b3 : s' ≤ 200000000000) (b4 : D ≤ 20000000) :
    ((lN s' * (nI g).toInt64 ≤ lN s * (nI D).toInt64) ↔ poF (lN s') (lN D) 0 D s' * ml ≤ mu * poF (lN s') (lN D) 1 D s') ∧ ((lN s * (nI D).toInt64 ≤ lN s' * (nI g).toInt64) ↔ mu * poF (lN s') (lN D) 1 D s' ≤ poF (lN s') (lN D) 0 D s' * ml) := by
  rcases h with ⟨h1, _⟩ | ⟨_, h2, h3⟩
  · omega
  · rw [(po_two (s := s') (g := D) (by omega) (by omega) hD).1, (po_two (s := s') (g := D) (by omega) (by omega) hD).2, h2, h3, nI_l (by omega), nI_l (by omega), lN_mul, lN_mul, lN_mul, lN_mul]
    rw [pk_lLE (mul_bnd b3 b2) (mul_bnd b1 b4), pk_lLE (mul_bnd b1 b4) (mul_bnd b3 b2), pk_lLE (mul_bnd (div_bnd b3) (div_bnd b2)) (mul_bnd (div_bnd b1) (div_bnd b4)), pk_lLE (mul_bnd (div_bnd b1) (div_bnd b4)) (mul_bnd (div_bnd b3) (div_bnd b2)), cross_le h0 hD]
    refine ⟨Iff.rfl, ?_⟩
    have := cross_le (s := s') (g := D) (s' := s) (g' := g) hD h0
    exact this.symm
theorem gStep {s g s' D : Nat} {mu ml : Int64} (h : SPm s g mu ml) (hD : 0 < D) (b1 : s ≤ 200000000000) (b2 : g ≤ 20000000) (b3 : s' ≤ 200000000000) (b4 : D ≤ 20000000) :
    ∃ s1 g1, s1 ≤ 200000000000 ∧ g1 ≤ 20000000 ∧ 0 < g1 ∧ gSt (nI D) (lN s') (lN s) (nI g) = (lN s1, nI g1) ∧ SPm s1 g1 (gMt (poF (lN s') (lN D) 0 D s') (poF (lN s') (lN D) 1 D s') mu ml).1 (gMt (poF (lN s') (lN D) 0 D s') (poF (lN s') (lN D) 1 D s') mu ml).2 := by
  unfold gSt gMt
  have e0 : (nI g = 0) ↔ g = 0 := nI_eq (b := 0) (by omega) (by decide)
  by_cases h0 : g = 0
  · rw [if_pos (e0.mpr h0), if_pos ((SPm_0 h b2).mpr h0)]
    exact ⟨s', D, b3, b4, hD, rfl, SPm_new hD b3 b4⟩
  · rw [if_neg (fun z => h0 (e0.mp z)), if_neg (fun z => h0 ((SPm_0 h b2).mp z))]
    by_cases hc : lN s' * (nI g).toInt64 ≤ lN s * (nI D).toInt64
    · rw [if_pos hc, if_pos ((cmp_iff h (by omega) hD b1 b2 b3 b4).1.mp hc)]
      exact ⟨s, g, b1, b2, by omega, rfl, h⟩
    · rw [if_neg hc, if_neg (fun z => hc ((cmp_iff h (by omega) hD b1 b2 b3 b4).1.mpr z))]
      exact ⟨s', D, b3, b4, hD, rfl, SPm_new hD b3 b4⟩
theorem eStep {s g s' D : Nat} {mu ml : Int64} (h : SPm s g mu ml) (hD : 0 < D) (b1 : s ≤ 200000000000) (b2 : g ≤ 20000000) (b3 : s' ≤ 200000000000) (b4 : D ≤ 20000000) :
    ∃ s1 g1, s1 ≤ 200000000000 ∧ g1 ≤ 20000000 ∧ 0 < g1 ∧ eSt (nI D) (lN s') (lN s) (nI g) = (lN s1, nI g1) ∧ SPm s1 g1 (eMt (poF (lN s') (lN D) 0 D s') (poF (lN s') (lN D) 1 D s') mu ml).1 (eMt (poF (lN s') (lN D) 0 D s') (poF (lN s') (lN D) 1 D s') mu ml).2 := by
  unfold eSt eMt
  have e0 : (nI g = 0) ↔ g = 0 := nI_eq (b := 0) (by omega) (by decide)
  by_cases h0 : g = 0
  · rw [if_pos (e0.mpr h0), if_pos ((SPm_0 h b2).mpr h0)]
    exact ⟨s', D, b3, b4, hD, rfl, SPm_new hD b3 b4⟩
  · rw [if_neg (fun z => h0 (e0.mp z)), if_neg (fun z => h0 ((SPm_0 h b2).mp z))]
    by_cases hc : lN s * (nI D).toInt64 ≤ lN s' * (nI g).toInt64
    · rw [if_pos hc, if_pos ((cmp_iff h (by omega) hD b1 b2 b3 b4).2.mp hc)]
      exact ⟨s, g, b1, b2, by omega, rfl, h⟩
    · rw [if_neg hc, if_neg (fun z => hc ((cmp_iff h (by omega) hD b1 b2 b3 b4).2.mpr z))]
      exact ⟨s', D, b3, b4, hD, rfl, SPm_new hD b3 b4⟩
