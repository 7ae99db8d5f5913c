-- WHAT IS READ OF A PILE
theorem pk_three {k : Nat} {q : PE} {mSl mTk mLy mGr mLS : Nat → Int32} {mMU mML mEU mEL : Nat → Int64} (hk : k < 4) (h : PK k q mSl mTk mLy mGr mLS mMU mML mEU mEL) :
    mSl (nI k).toNatClampNeg = q.2.1 0 ∧ mTk (nI k).toNatClampNeg = q.2.1 3 ∧ mLy (nI k).toNatClampNeg = q.2.1 1 ∧ ¬ q.2.1 1 < 0 ∧ q.2.1 1 ≤ 20 ∧ ¬ (q.2.1 0).toInt64 = 0 ∧ q.2.1 3 ≤ q.2.1 0 := by
  obtain ⟨S, T, Y, G, SH, h1, h2, h3, h4, h5, h6, hc, hm, hp⟩ := h
  obtain ⟨c0, c1, c2, c3, c4, c5, c6, c7⟩ := hc
  rw [nI_clamp (by omega), hm.1, hm.2.1, hm.2.2.1, c0, c1, c3]
  refine ⟨rfl, rfl, rfl, nI_pos (by omega), nI_le (b := 20) h4 (by decide), ?_, nI_le h3 (by omega)⟩
  rw [nI_l (by omega)]
  intro z
  have := (pk_lEQ (b := 0) (by omega) (by decide)).mp z
  omega
/-- the latest slice, as both tell it -/
theorem latest {k : Nat} {q : PE} {mSl mTk mLy mGr mLS : Nat → Int32} {mMU mML mEU mEL : Nat → Int64} (hk : k < 4) (h : PK k q mSl mTk mLy mGr mLS mMU mML mEU mEL) (ht : ¬ q.2.1 3 = 0) :
    mgiF mSl mLy mGr (nI k) (mTk (nI k).toNatClampNeg - 1) = (q.2.1 5).toInt64 ∧ (∀ x : Int32, okE x → mhiF mSl mLy mGr mLS (nI k) (mTk (nI k).toNatClampNeg - 1) x = q.2.2.2 0 x.toNatClampNeg) ∧ (∃ D, D < 2 ^ 31 ∧ q.2.1 5 = nI D) ∧ ∀ x : Int32, okE x → ∃ B, B < 2 ^ 62 ∧ q.2.2.2 0 x.toNatClampNeg = lN B := by
  obtain ⟨S, T, Y, G, SH, h1, h2, h3, h4, h5, h6, hc, hm, hp⟩ := h
  obtain ⟨c0, c1, c2, c3, c4, c5, c6, c7⟩ := hc
  have hT : 0 < T := by
    rcases Nat.eq_zero_or_pos T with g | g
    · exact absurd (by rw [c3, g]; rfl) ht
    · exact g
  obtain ⟨c8, c9⟩ := c7 hT
  have hT1 : T - 1 + 1 ≤ S := by omega
  have hDle := sum_nd_le (G := G) hT1 h4 h5
  have e1 : nI T - 1 = nI (T - 1) := pk_sub (b := 1) hT
  rw [nI_clamp (by omega), hm.2.1, e1, c8, nI_l (by omega)]
  refine ⟨mgi_nat hm hk h1 h2 hT1 h4 h5 20 0 rfl (by omega), fun x hx => ?_, ⟨_, by omega, rfl⟩, fun x hx => ?_⟩
  · obtain ⟨i, hi, rfl⟩ := vq_nat (N := 4) (n := 4) (by decide) hx.1 hx.2
    rw [nI_clamp (by omega), c9 i hi]
    exact mhi_nat hm hk h1 h2 hT1 h4 h5 h6 hi 20 0 rfl (by omega)
  · obtain ⟨i, hi, rfl⟩ := vq_nat (N := 4) (n := 4) (by decide) hx.1 hx.2
    rw [nI_clamp (by omega), c9 i hi]
    have := sum_nh_le (e := i) hT1 h4 h5 h6
    exact ⟨_, by omega, rfl⟩
theorem ext0 {x : Int32} : x.toInt64 = 0 ↔ x = 0 := by
  constructor
  · intro h
    have h1 := congrArg Int64.toInt h
    rw [Int32.toInt_toInt64] at h1
    rw [← Int32.toInt_inj, h1]; rfl
  · intro h; rw [h]; rfl
theorem lN_big {B : Nat} (h : B < 2 ^ 62) : -2 ^ 63 < (lN B).toInt := by
  rw [pk_lT (by omega)]; omega
theorem allF_0 {g : Int64} {b n : Int32} (hb : b = 0) (hn : n = 0) : allF b n g = g := by
  unfold allF; rw [if_pos hb, if_pos hn]
theorem toInt_ne {v : Int64} (h : ¬ v = 0) : v.toInt ≠ 0 := fun z => h (by rw [← Int64.toInt_inj, z]; rfl)
theorem kx_0 {b x k : Int32} (hb : b = 0) : kxF b x k = 4 * x + k := by unfold kxF; rw [if_pos hb]
theorem bad3 {i1 k q : Int32} (hi : i1 = 1) (hk : okE k) (hq : okQ q) : or3 i1 (inF k 0 3) (inF q 0 1) = 0 := by
  unfold or3
  rw [hi, inF_okE, inF_okQ, if_pos hk, if_pos hq, if_neg b10, if_neg b10, if_neg b10]
theorem bad2 {i1 q : Int32} (hi : i1 = 1) (hq : okQ q) : orN i1 (inF q 0 1) = 0 := by
  unfold orN
  rw [hi, inF_okQ, if_pos hq, if_neg b10, if_neg b10]
theorem none0 {b i1 t : Int32} (hb : b = 0) (hi : i1 = 1) (ht : ¬ t = 0) : andB b (unF i1 t) = 0 := by
  have h1 : unF i1 t = 0 := by unfold unF; rw [hi, if_neg b10, if_neg ht]
  unfold andB
  rw [h1, if_pos hb, if_pos rfl]
/-- how far shares spread, as both tell it -/
theorem spread_at {k : Nat} {q : PE} {mSl mTk mLy mGr mLS : Nat → Int32} {mMU mML mEU mEL : Nat → Int64} (hk : k < 4) (h : PK k q mSl mTk mLy mGr mLS mMU mML mEU mEL) {x : Int32} (hx : okE x) :
    (mML (4 * nI k + x).toNatClampNeg = 0 ↔ q.2.1 4 = 0) ∧ (¬ q.2.1 4 = 0 → ∀ p : Int32,
      -2 ^ 63 < ((mMU (4 * nI k + x).toNatClampNeg * mEL (4 * nI k + x).toNatClampNeg) - (mEU (4 * nI k + x).toNatClampNeg * mML (4 * nI k + x).toNatClampNeg)).toInt ∧ -2 ^ 63 < (mML (4 * nI k + x).toNatClampNeg * mEL (4 * nI k + x).toNatClampNeg).toInt ∧ (mML (4 * nI k + x).toNatClampNeg * mEL (4 * nI k + x).toNatClampNeg).toInt ≠ 0 ∧
      lowF ((q.2.2.2 1 x.toNatClampNeg * (q.2.2.1 3 x.toNatClampNeg).toInt64) - (q.2.2.2 2 x.toNatClampNeg * (q.2.2.1 2 x.toNatClampNeg).toInt64)) ((q.2.2.1 2 x.toNatClampNeg).toInt64 * (q.2.2.1 3 x.toNatClampNeg).toInt64) p = poF ((mMU (4 * nI k + x).toNatClampNeg * mEL (4 * nI k + x).toNatClampNeg) - (mEU (4 * nI k + x).toNatClampNeg * mML (4 * nI k + x).toNatClampNeg)) (mML (4 * nI k + x).toNatClampNeg * mEL (4 * nI k + x).toNatClampNeg) p (mML (4 * nI k + x).toNatClampNeg * mEL (4 * nI k + x).toNatClampNeg).toInt.natAbs ((mMU (4 * nI k + x).toNatClampNeg * mEL (4 * nI k + x).toNatClampNeg) - (mEU (4 * nI k + x).toNatClampNeg * mML (4 * nI k + x).toNatClampNeg)).toInt.natAbs) := by
  obtain ⟨e, he, rfl⟩ := vq_nat (N := 4) (n := 4) (by decide) hx.1 hx.2
  obtain ⟨S, T, Y, G, SH, h1, h2, h3, h4, h5, h6, hc, hm, hp⟩ := h
  obtain ⟨c0, c1, c2, c3, c4, c5, c6, c7⟩ := hc
  obtain ⟨s1, g1, s2, g2, b1, b2, b3, b4, r1, r2, r3, r4, p1, p2, z1, z2⟩ := hp e he
  have hq := sum_nq_le (G := G) h3 h4 h5
  have e4 : q.2.1 4 = 0 ↔ sumN (fun l => nq S (G l) T) Y = 0 := by
    rw [c4, show (0 : Int32) = nI 0 from rfl]
    exact nI_eq (by omega) (by decide)
  rw [ix_16 hk he, nI_clamp (by omega), r1, r2, r3, r4]
  refine ⟨by rw [SPm_0 p1 b2, e4, z1], fun hz p => ?_⟩
  have hg1 : 0 < g1 := by
    rcases Nat.eq_zero_or_pos g1 with g | g
    · exact absurd (e4.mpr (z1.mp g)) hz
    · exact g
  have hg2 : 0 < g2 := by
    rcases Nat.eq_zero_or_pos g2 with g | g
    · exact absurd (e4.mpr (z2.mp g)) hz
    · exact g
  rcases p1 with ⟨w, _⟩ | ⟨_, u1, l1⟩
  · omega
  rcases p2 with ⟨w, _⟩ | ⟨_, u2, l2⟩
  · omega
  rw [u1, l1, u2, l2, nI_l (by omega), nI_l (by omega), lN_mul, lN_mul, lN_mul, lN_mul, lN_mul, lN_mul]
  obtain ⟨d1, d2, d3, d4⟩ := low_facts (s := s1) hg1
  obtain ⟨f1, f2, f3, f4⟩ := low_facts (s := s2) hg2
  have q1 := div_bnd (g := Nat.gcd g1 s1) b1
  have q2 := div_bnd (g := Nat.gcd g1 s1) b2
  have q3 := div_bnd (g := Nat.gcd g2 s2) b3
  have q4 := div_bnd (g := Nat.gcd g2 s2) b4
  generalize s1 / Nat.gcd g1 s1 = U1 at *
  generalize g1 / Nat.gcd g1 s1 = V1 at *
  generalize s2 / Nat.gcd g2 s2 = U2 at *
  generalize g2 / Nat.gcd g2 s2 = V2 at *
  generalize Nat.gcd g1 s1 = k1 at *
  generalize Nat.gcd g2 s2 = k2 at *
  have n1 := Nat.mul_le_mul b1 b4
  have n2 := Nat.mul_le_mul b3 b2
  have n3 := Nat.mul_le_mul q1 q4
  have n4 := Nat.mul_le_mul q3 q2
  have n5 := Nat.mul_le_mul q2 q4
  have n6 := Nat.mul_le_mul b2 b4
  have t1 : (lN (U1 * V2) - lN (U2 * V1)).toInt = ((U1 * V2 : Nat) : Int) - ((U2 * V1 : Nat) : Int) := by
    rw [Int64.toInt_sub, pk_lT (by omega), pk_lT (by omega), l64 (by omega) (by omega)]
  have t2 : (lN (s1 * g2) - lN (s2 * g1)).toInt = ((s1 * g2 : Nat) : Int) - ((s2 * g1 : Nat) : Int) := by
    rw [Int64.toInt_sub, pk_lT (by omega), pk_lT (by omega), l64 (by omega) (by omega)]
  have t3 : (lN (V1 * V2)).toInt = ((V1 * V2 : Nat) : Int) := pk_lT (by omega)
  have t4 : (lN (g1 * g2)).toInt = ((g1 * g2 : Nat) : Int) := pk_lT (by omega)
  have v0 := Nat.mul_pos d4 f4
  have v1 := Nat.mul_pos hg1 hg2
  have k0 := Nat.mul_pos d1 f1
  have A1 : -2 ^ 63 < (lN (U1 * V2) - lN (U2 * V1)).toInt := by rw [t1]; omega
  have A2 : -2 ^ 63 < (lN (V1 * V2)).toInt := by rw [t3]; omega
  have A3 : (lN (V1 * V2)).toInt ≠ 0 := by rw [t3]; omega
  refine ⟨A1, A2, A3, ?_⟩
  rw [← Int64.toInt_inj, low_spec p (by rw [t2]; omega) (by rw [t4]; omega) (by rw [t4]; omega), po_spec p A1 A2 A3, t1, t2, t3, t4]
  have m1 : s1 * g2 = (k1 * k2) * (U1 * V2) := by rw [← d2, ← f3]; simp only [Nat.mul_assoc, Nat.mul_left_comm, Nat.mul_comm]
  have m2 : s2 * g1 = (k1 * k2) * (U2 * V1) := by rw [← f2, ← d3]; simp only [Nat.mul_assoc, Nat.mul_left_comm, Nat.mul_comm]
  have m3 : g1 * g2 = (k1 * k2) * (V1 * V2) := by rw [← d3, ← f3]; simp only [Nat.mul_assoc, Nat.mul_left_comm, Nat.mul_comm]
  have w1 : ((s1 * g2 : Nat) : Int) - ((s2 * g1 : Nat) : Int) = ((k1 * k2 : Nat) : Int) * (((U1 * V2 : Nat) : Int) - ((U2 * V1 : Nat) : Int)) := by
    rw [Int.mul_sub, m1, m2, Int.natCast_mul (k1 * k2), Int.natCast_mul (k1 * k2)]
  have w2 : ((g1 * g2 : Nat) : Int) = ((k1 * k2 : Nat) : Int) * ((V1 * V2 : Nat) : Int) := by
    rw [m3, Int.natCast_mul (k1 * k2)]
  rw [w1, w2]
  exact frI_scale p k0
theorem pa_eq (w a b c d f : Int32) : pileAtF w a b c d f = paF w a b c d f := by
  have h : ∀ v : Int32, ∀ n : Int, v.toInt = n → ((w.toInt = n) ↔ w = v) := fun v n hv => by
    rw [← hv]; exact Int32.toInt_inj
  unfold pileAtF paF
  simp only [h 0 0 (by decide), h 1 1 (by decide), h 2 2 (by decide), h 3 3 (by decide)]
theorem pileAt_at {k : Nat} {q : PE} {mSl mTk mLy mGr mLS : Nat → Int32} {mMU mML mEU mEL : Nat → Int64} (hk : k < 4) (h : PK k q mSl mTk mLy mGr mLS mMU mML mEU mEL) (w : Int32) :
    pileAtF w (q.2.1 0) (q.2.1 3) (q.2.1 1) (q.2.1 2) (q.2.1 4) = paF w (mSl (nI k).toNatClampNeg) (mTk (nI k).toNatClampNeg) (mLy (nI k).toNatClampNeg) (mgoF mLy mGr (nI k)) (mpaF mSl mTk mLy mGr (nI k)).toInt32 := by
  have h9 := pk_three hk h
  obtain ⟨S, T, Y, G, SH, h1, h2, h3, h4, h5, h6, hc, hm, hp⟩ := h
  obtain ⟨c0, c1, c2, c3, c4, c5, c6, c7⟩ := hc
  have e1 : mgoF mLy mGr (nI k) = q.2.1 2 := by
    rw [c2]; exact mgo_nat hk h4 hm.2.2.1 hm.2.2.2.1 20 0 rfl (by omega)
  have e2 : (mpaF mSl mTk mLy mGr (nI k)).toInt32 = q.2.1 4 := by
    rw [c4]
    exact (congrArg Int64.toInt32 (mpa_nat hm hk h1 h2 h3 h4 h5 20 0 rfl (by omega))).trans (lN_i _)
  rw [h9.1, h9.2.1, h9.2.2.1, e1, e2, pa_eq]
