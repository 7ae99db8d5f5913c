-- WHAT A CALL DOES TO A PILE
theorem c40 : (0 : Int32).toNatClampNeg = 0 ∧ (1 : Int32).toNatClampNeg = 1 ∧ (2 : Int32).toNatClampNeg = 2 ∧ (3 : Int32).toNatClampNeg = 3 := by decide
theorem al4_at (f fSh : Nat → Int32) (y : Int32) {Y l e : Nat} (hY : Y < 20) (he : e < 4) : al4 f (nI Y) fSh y (l * 4 + e) = if l = Y then fSh (y * 4 + nI e).toNatClampNeg else f (l * 4 + e) := by
  have i0 : (nI Y * 4 + 0).toNatClampNeg = Y * 4 + 0 := ix_le (e := 0) hY (by omega)
  have i1 : (nI Y * 4 + 1).toNatClampNeg = Y * 4 + 1 := ix_le (e := 1) hY (by omega)
  have i2 : (nI Y * 4 + 2).toNatClampNeg = Y * 4 + 2 := ix_le (e := 2) hY (by omega)
  have i3 : (nI Y * 4 + 3).toNatClampNeg = Y * 4 + 3 := ix_le (e := 3) hY (by omega)
  unfold al4 alS
  rw [i0, i1, i2, i3]
  by_cases h : l = Y
  · subst h
    rw [if_pos rfl]
    rcases (show e = 0 ∨ e = 1 ∨ e = 2 ∨ e = 3 by omega) with rfl | rfl | rfl | rfl
    · rw [pk_un (by omega), pk_un (by omega), pk_un (by omega), pk_us]; rfl
    · rw [pk_un (by omega), pk_un (by omega), pk_us]; rfl
    · rw [pk_un (by omega), pk_us]; rfl
    · rw [pk_us]; rfl
  · rw [if_neg h, pk_un (by omega), pk_un (by omega), pk_un (by omega), pk_un (by omega)]
theorem ml4_at (f mSh : Nat → Int32) (y : Int32) {k Y j l e : Nat} (hk : k < 4) (hY : Y < 20) (hl : l < 20) (he : e < 4) : ml4 f (20 * nI k + nI Y) mSh y (4 * (20 * j + l) + e) = if j = k ∧ l = Y then mSh (4 * y + nI e).toNatClampNeg else f (4 * (20 * j + l) + e) := by
  have i0 : (4 * (20 * nI k + nI Y) + 0).toNatClampNeg = 4 * (20 * k + Y) + 0 := ix_4 (e := 0) hk hY (by omega)
  have i1 : (4 * (20 * nI k + nI Y) + 1).toNatClampNeg = 4 * (20 * k + Y) + 1 := ix_4 (e := 1) hk hY (by omega)
  have i2 : (4 * (20 * nI k + nI Y) + 2).toNatClampNeg = 4 * (20 * k + Y) + 2 := ix_4 (e := 2) hk hY (by omega)
  have i3 : (4 * (20 * nI k + nI Y) + 3).toNatClampNeg = 4 * (20 * k + Y) + 3 := ix_4 (e := 3) hk hY (by omega)
  unfold ml4 mlS
  rw [i0, i1, i2, i3]
  by_cases h : j = k ∧ l = Y
  · obtain ⟨rfl, rfl⟩ := h
    rw [if_pos ⟨rfl, rfl⟩]
    rcases (show e = 0 ∨ e = 1 ∨ e = 2 ∨ e = 3 by omega) with rfl | rfl | rfl | rfl
    · rw [pk_un (by omega), pk_un (by omega), pk_un (by omega), pk_us]; rfl
    · rw [pk_un (by omega), pk_un (by omega), pk_us]; rfl
    · rw [pk_un (by omega), pk_us]; rfl
    · rw [pk_us]; rfl
  · rw [if_neg h, pk_un (by omega), pk_un (by omega), pk_un (by omega), pk_un (by omega)]
theorem okR_nat {x : Int32} {n : Nat} {M : Int32} (hM : M.toInt = n) (h : okR x 0 M) : ∃ j, j ≤ n ∧ x = nI j := nI_of2 hM h.1 h.2
theorem okR_nat1 {x : Int32} {n : Nat} {M : Int32} (hM : M.toInt = n) (h : okR x 1 M) : ∃ j, 1 ≤ j ∧ j ≤ n ∧ x = nI j := by
  have h0 : ¬ x < 0 := by
    intro z
    apply h.1
    have h1 : (1 : Int32).toInt = 1 := by decide
    have h0 : (0 : Int32).toInt = 0 := by decide
    rw [Int32.lt_iff_toInt_lt] at z ⊢
    omega
  obtain ⟨j, hj, rfl⟩ := nI_of2 hM h0 h.2
  refine ⟨j, ?_, hj, rfl⟩
  rcases Nat.eq_zero_or_pos j with g | g
  · exact absurd (by rw [g]; decide) h.1
  · exact g
theorem lay_d {kg a : Int32} (h1 : okR kg 1 1000) (h2 : okR a 0 900) : ∃ D, D ≤ 1000000 ∧ kg * (1000 - a) = nI D := by
  obtain ⟨i, hi, hi2, rfl⟩ := okR_nat1 (M := 1000) (n := 1000) (by decide) h1
  obtain ⟨j, hj, rfl⟩ := okR_nat (M := 900) (n := 900) (by decide) h2
  refine ⟨i * (1000 - j), ?_, ?_⟩
  · exact Nat.mul_le_mul hi2 (show 1000 - j ≤ 1000 by omega)
  · rw [show (1000 : Int32) = nI 1000 from rfl, pk_sub (by omega), pk_mul]
/-- the pile that is laid upon -/
abbrev qLay (q : PE) (fSh : Nat → Int32) (y d : Int32) : PE := mkP q.1 (q.2.1 0) (q.2.1 1 + 1) (q.2.1 2 + d) (q.2.1 3) (q.2.1 4) (q.2.1 5) (upd (q.2.2.1 0) (q.2.1 1).toNatClampNeg d) (al4 (q.2.2.1 1) (q.2.1 1) fSh y) (q.2.2.1 2) (q.2.2.1 3) (q.2.2.2 0) (q.2.2.2 1) (q.2.2.2 2)
theorem nq_sum0 {S Y : Nat} {G : Nat → Nat} : sumN (fun l => nq S (G l) 0) Y = 0 := (sumN_0 Y).mpr (fun l _ => nq_0)
theorem lay_PK {k : Nat} {q : PE} {fMo fSh mSl mTk mLy mGr mLS : Nat → Int32} {mMU mML mEU mEL : Nat → Int64} (hk : k < 4) (h : PK k q mSl mTk mLy mGr mLS mMU mML mEU mEL) (ht : q.2.1 3 ≤ 0) (hy : q.2.1 1 < 20) {y kg : Int32} (hkg : okR kg 1 1000) (hMo : okR (fMo y.toNatClampNeg) 0 900) (hSh : ∀ i, okR (fSh i) 0 10000) :
    PK k (qLay q fSh y (kg * (1000 - fMo y.toNatClampNeg))) mSl mTk (upd mLy (nI k).toNatClampNeg (mLy (nI k).toNatClampNeg + 1)) (upd mGr (20 * nI k + mLy (nI k).toNatClampNeg).toNatClampNeg (kg * (1000 - fMo y.toNatClampNeg))) (ml4 mLS (20 * nI k + mLy (nI k).toNatClampNeg) fSh y) mMU mML mEU mEL
    ∧ q.2.1 2 + kg * (1000 - fMo y.toNatClampNeg) = mgoF (upd mLy (nI k).toNatClampNeg (mLy (nI k).toNatClampNeg + 1)) (upd mGr (20 * nI k + mLy (nI k).toNatClampNeg).toNatClampNeg (kg * (1000 - fMo y.toNatClampNeg))) (nI k)
    ∧ ∀ j, j < 4 → j ≠ k → SR j mSl mTk mLy mGr mLS mSl mTk (upd mLy (nI k).toNatClampNeg (mLy (nI k).toNatClampNeg + 1)) (upd mGr (20 * nI k + mLy (nI k).toNatClampNeg).toNatClampNeg (kg * (1000 - fMo y.toNatClampNeg))) (ml4 mLS (20 * nI k + mLy (nI k).toNatClampNeg) fSh y) mMU mML mEU mEL mMU mML mEU mEL := by
  obtain ⟨S, T, Y, G, SH, h1, h2, h3, h4, h5, h6, hc, hm, hp⟩ := h
  obtain ⟨D, hD, hd⟩ := lay_d (a := fMo y.toNatClampNeg) hkg hMo
  obtain ⟨c0, c1, c2, c3, c4, c5, c6, c7⟩ := hc
  obtain ⟨m0, m1, m2, m3, m4⟩ := hm
  have hk1 : (nI k).toNatClampNeg = k := nI_clamp (by omega)
  have hT : T = 0 := by
    rw [c3] at ht
    have := (nI_leI (a := T) (b := 0) (by omega) (by decide)).mp ht
    omega
  subst hT
  have hY : Y < 20 := by
    rw [c1] at hy
    exact (nI_ltI (b := 20) (by omega) (by decide)).mp hy
  have hs : ∃ s : Nat → Nat, ∀ e, s e ≤ 10000 ∧ (e < 4 → fSh (y * 4 + nI e).toNatClampNeg = nI (s e)) := by
    refine ⟨fun e => (fSh (y * 4 + nI e).toNatClampNeg).toNatClampNeg, fun e => ?_⟩
    obtain ⟨j, hj, hj2⟩ := okR_nat (M := 10000) (n := 10000) (by decide) (hSh (y * 4 + nI e).toNatClampNeg)
    show (fSh (y * 4 + nI e).toNatClampNeg).toNatClampNeg ≤ 10000 ∧ (e < 4 → fSh (y * 4 + nI e).toNatClampNeg = nI ((fSh (y * 4 + nI e).toNatClampNeg).toNatClampNeg))
    rw [hj2, nI_clamp (by omega)]
    exact ⟨hj, fun _ => rfl⟩
  obtain ⟨s, hs⟩ := hs
  rw [hk1, m2, nI_1, hd, ix_20 hk hY]
  have hG' : ∀ l, l < Y → (if l = Y then D else G l) = G l := fun l hl => if_neg (by omega)
  have hsum : sumN (fun l => if l = Y then D else G l) (Y + 1) = sumN G Y + D := by
    show sumN (fun l => if l = Y then D else G l) Y + (if Y = Y then D else G Y) = _
    rw [if_pos rfl, sumN_congr Y hG']
  have hgr : ∀ l, l < 20 → upd mGr (20 * k + Y) (nI D) (20 * k + l) = nI (if l = Y then D else G l) := by
    intro l hl
    by_cases g : l = Y
    · rw [g, pk_us, if_pos rfl]
    · rw [pk_un (by omega), if_neg g, m3 l hl]
  refine ⟨⟨S, 0, Y + 1, fun l => if l = Y then D else G l, fun l e => if l = Y then s e else SH l e, h1, h2, h3, by omega, fun l => ?_, fun l e => ?_, ⟨c0, ?_, ?_, c3, ?_, fun l hl => ?_, fun l e hl he => ?_, fun z => absurd z (by omega)⟩, ⟨m0, m1, ?_, hgr, fun l e hl he => ?_⟩, fun e he => ?_⟩, ?_, fun j hj hjk => ⟨rfl, rfl, pk_un hjk, fun l hl => pk_un (by omega), fun l e hl he => ?_, fun e he => ⟨rfl, rfl, rfl, rfl⟩⟩⟩
  · show (if l = Y then D else G l) ≤ 1000000
    by_cases g : l = Y
    · rw [if_pos g]; exact hD
    · rw [if_neg g]; exact h5 l
  · show (if l = Y then s e else SH l e) ≤ 10000
    by_cases g : l = Y
    · rw [if_pos g]; exact (hs e).1
    · rw [if_neg g]; exact h6 l e
  · show q.2.1 1 + 1 = nI (Y + 1)
    rw [c1, nI_1]
  · show q.2.1 2 + nI D = nI (sumN (fun l => if l = Y then D else G l) (Y + 1))
    rw [c2, nI_add, hsum]
  · show q.2.1 4 = _
    rw [c4, nq_sum0, nq_sum0]
  · show upd (q.2.2.1 0) (q.2.1 1).toNatClampNeg (nI D) l = nI (if l = Y then D else G l)
    rw [c1, nI_clamp (by omega)]
    by_cases g : l = Y
    · rw [g, pk_us, if_pos rfl]
    · rw [pk_un g, if_neg g, c5 l hl]
  · show al4 (q.2.2.1 1) (q.2.1 1) fSh y (l * 4 + e) = nI (if l = Y then s e else SH l e)
    rw [c1, al4_at _ _ _ hY he]
    by_cases g : l = Y
    · rw [if_pos g, if_pos g]; exact (hs e).2 he
    · rw [if_neg g, if_neg g]; exact c6 l e hl he
  · exact pk_us
  · show ml4 mLS (20 * nI k + nI Y) fSh y (4 * (20 * k + l) + e) = nI (if l = Y then s e else SH l e)
    rw [ml4_at _ _ _ hk hY hl he]
    by_cases g : l = Y
    · rw [if_pos ⟨rfl, g⟩, vq_comm4, if_pos g]; exact (hs e).2 he
    · rw [if_neg (fun z => g z.2), if_neg g]; exact m4 l e hl he
  · have := hp e he
    rw [nq_sum0] at this ⊢
    exact this
  · rw [c2, nI_add, ← hsum]
    exact (mgo_nat hk (by omega) pk_us hgr 20 0 rfl (by omega)).symm
  · rw [ml4_at _ _ _ hk hY hl he, if_neg (fun z => hjk z.1)]
