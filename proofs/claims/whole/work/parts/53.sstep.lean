-- A SLICE OF A PILE
abbrev ltS (q : PE) : Int32 := tkG (q.2.1 0) (q.2.1 3) (q.2.2.1 0) (q.2.1 1) 20 0 0
abbrev LTS (q : PE) : Nat → Int64 := tkS (q.2.1 0) (q.2.1 3) (q.2.2.1 0) (q.2.2.1 1) (q.2.1 1) 20 0 (cl4 (q.2.2.2 0))
abbrev qSl (q : PE) : PE := mkP q.1 (q.2.1 0) (q.2.1 1) (q.2.1 2) (q.2.1 3 + 1) (q.2.1 4 + ltS q) (ltS q) (q.2.2.1 0) (q.2.2.1 1) (tnG (ltS q) (LTS q) (q.2.2.2 1, q.2.2.1 2)).2 (tnE (ltS q) (LTS q) (q.2.2.2 2, q.2.2.1 3)).2 (LTS q) (tnG (ltS q) (LTS q) (q.2.2.2 1, q.2.2.1 2)).1 (tnE (ltS q) (LTS q) (q.2.2.2 2, q.2.2.1 3)).1
/-- a row of two behind four steps of the reference -/
def s4F (w : Int64 → Int64 → (Nat → Int64) × (Nat → Int64) → Int32 → (Nat → Int64) × (Nat → Int64)) (al : Int64) (hd : Int32 → Int64) (ga : Nat) (he : Nat → Nat) (x : Int32) (u : (Nat → Int64) × (Nat → Int64)) : (Nat → Int64) × (Nat → Int64) :=
  if al ≤ 0 then u else w (poF (hd 3) al 0 ga (he 3)) (poF (hd 3) al 1 ga (he 3)) (w (poF (hd 2) al 0 ga (he 2)) (poF (hd 2) al 1 ga (he 2)) (w (poF (hd 1) al 0 ga (he 1)) (poF (hd 1) al 1 ga (he 1)) (w (poF (hd 0) al 0 ga (he 0)) (poF (hd 0) al 1 ga (he 0)) u (4 * x + 0)) (4 * x + 1)) (4 * x + 2)) (4 * x + 3)
theorem sum_nd_le {S T Y : Nat} {G : Nat → Nat} (hT : T + 1 ≤ S) (hY : Y ≤ 20) (hG : ∀ l, G l ≤ 1000000) : sumN (fun l => nd S (G l) T) Y ≤ 20000000 := by
  have h1 := sumN_le (f := fun l => nd S (G l) T) (b := 1000000) Y (fun l _ => Nat.le_trans (nd_le hT) (hG l))
  have h2 : Y * 1000000 ≤ 20 * 1000000 := Nat.mul_le_mul_right _ hY
  omega
theorem sum_nq_le {S T Y : Nat} {G : Nat → Nat} (hT : T ≤ S) (hY : Y ≤ 20) (hG : ∀ l, G l ≤ 1000000) : sumN (fun l => nq S (G l) T) Y ≤ 20000000 := by
  have h1 := sumN_le (f := fun l => nq S (G l) T) (b := 1000000) Y (fun l _ => Nat.le_trans (nq_le hT) (hG l))
  have h2 : Y * 1000000 ≤ 20 * 1000000 := Nat.mul_le_mul_right _ hY
  omega
theorem sum_nh_le {S T Y e : Nat} {G : Nat → Nat} {SH : Nat → Nat → Nat} (hT : T + 1 ≤ S) (hY : Y ≤ 20) (hG : ∀ l, G l ≤ 1000000) (hH : ∀ l e, SH l e ≤ 10000) : sumN (fun l => nd S (G l) T * SH l e) Y ≤ 200000000000 := by
  have h1 := sumN_le (f := fun l => nd S (G l) T * SH l e) (b := 1000000 * 10000) Y (fun l _ => Nat.mul_le_mul (Nat.le_trans (nd_le hT) (hG l)) (hH l e))
  have h2 : Y * (1000000 * 10000) ≤ 20 * (1000000 * 10000) := Nat.mul_le_mul_right _ hY
  omega
theorem sum_next {S T Y : Nat} {G : Nat → Nat} : sumN (fun l => nq S (G l) (T + 1)) Y = sumN (fun l => nq S (G l) T) Y + sumN (fun l => nd S (G l) T) Y := by
  rw [← sumN_add]
  exact sumN_congr Y (fun l _ => nd_add.symm)
theorem slice_PK {k : Nat} {q : PE} {mSl mTk mLy mGr mLS : Nat → Int32} {mMU mML mEU mEL : Nat → Int64} (hk : k < 4) (h : PK k q mSl mTk mLy mGr mLS mMU mML mEU mEL) (ht : q.2.1 3 < q.2.1 0) :
    ∃ (ga : Nat) (he : Nat → Nat),
      (¬ mgiF mSl mLy mGr (nI k) (mTk (nI k).toNatClampNeg) ≤ 0 → mgiF mSl mLy mGr (nI k) (mTk (nI k).toNatClampNeg) = lN ga ∧ ga < 2 ^ 63 ∧ 0 < ga ∧ ∀ e, e < 4 → mhiF mSl mLy mGr mLS (nI k) (mTk (nI k).toNatClampNeg) (nI e) = lN (he e) ∧ he e < 2 ^ 63)
      ∧ ltS q = (mgiF mSl mLy mGr (nI k) (mTk (nI k).toNatClampNeg)).toInt32
      ∧ PK k (qSl q) mSl (upd mTk (nI k).toNatClampNeg (mTk (nI k).toNatClampNeg + 1)) mLy mGr mLS (s4F smP (mgiF mSl mLy mGr (nI k) (mTk (nI k).toNatClampNeg)) (mhiF mSl mLy mGr mLS (nI k) (mTk (nI k).toNatClampNeg)) ga he (nI k) (mMU, mML)).1 (s4F smP (mgiF mSl mLy mGr (nI k) (mTk (nI k).toNatClampNeg)) (mhiF mSl mLy mGr mLS (nI k) (mTk (nI k).toNatClampNeg)) ga he (nI k) (mMU, mML)).2 (s4F seP (mgiF mSl mLy mGr (nI k) (mTk (nI k).toNatClampNeg)) (mhiF mSl mLy mGr mLS (nI k) (mTk (nI k).toNatClampNeg)) ga he (nI k) (mEU, mEL)).1 (s4F seP (mgiF mSl mLy mGr (nI k) (mTk (nI k).toNatClampNeg)) (mhiF mSl mLy mGr mLS (nI k) (mTk (nI k).toNatClampNeg)) ga he (nI k) (mEU, mEL)).2
      ∧ ∀ j, j < 4 → j ≠ k → SR j mSl mTk mLy mGr mLS mSl (upd mTk (nI k).toNatClampNeg (mTk (nI k).toNatClampNeg + 1)) mLy mGr mLS mMU mML mEU mEL (s4F smP (mgiF mSl mLy mGr (nI k) (mTk (nI k).toNatClampNeg)) (mhiF mSl mLy mGr mLS (nI k) (mTk (nI k).toNatClampNeg)) ga he (nI k) (mMU, mML)).1 (s4F smP (mgiF mSl mLy mGr (nI k) (mTk (nI k).toNatClampNeg)) (mhiF mSl mLy mGr mLS (nI k) (mTk (nI k).toNatClampNeg)) ga he (nI k) (mMU, mML)).2 (s4F seP (mgiF mSl mLy mGr (nI k) (mTk (nI k).toNatClampNeg)) (mhiF mSl mLy mGr mLS (nI k) (mTk (nI k).toNatClampNeg)) ga he (nI k) (mEU, mEL)).1 (s4F seP (mgiF mSl mLy mGr (nI k) (mTk (nI k).toNatClampNeg)) (mhiF mSl mLy mGr mLS (nI k) (mTk (nI k).toNatClampNeg)) ga he (nI k) (mEU, mEL)).2 := by
  obtain ⟨S, T, Y, G, SH, h1, h2, h3, h4, h5, h6, hc, hm, hp⟩ := h
  have hk1 : (nI k).toNatClampNeg = k := nI_clamp (by omega)
  obtain ⟨c0, c1, c2, c3, c4, c5, c6, c7⟩ := hc
  have hT : T + 1 ≤ S := by
    rw [c3, c0] at ht
    exact (nI_ltI (by omega) (by omega)).mp ht
  have hDle := sum_nd_le (G := G) hT h4 h5
  have hBle : ∀ e, sumN (fun l => nd S (G l) T * SH l e) Y ≤ 200000000000 := fun e => sum_nh_le hT h4 h5 h6
  have elt : ltS q = nI (sumN (fun l => nd S (G l) T) Y) := by
    show tkG (q.2.1 0) (q.2.1 3) (q.2.2.1 0) (q.2.1 1) 20 0 0 = _
    rw [c0, c3, c1]
    exact tkG_nat h1 h2 hT h4 h5 c5 20 0 rfl (by omega)
  have eLT : ∀ e, e < 4 → LTS q e = lN (sumN (fun l => nd S (G l) T * SH l e) Y) := by
    show ∀ e, e < 4 → tkS (q.2.1 0) (q.2.1 3) (q.2.2.1 0) (q.2.2.1 1) (q.2.1 1) 20 0 (cl4 (q.2.2.2 0)) e = _
    rw [c0, c3, c1]
    exact tkS_nat h1 h2 hT h4 h5 h6 c5 c6 20 0 (cl4 (q.2.2.2 0)) rfl (by omega) (fun e he => cl4_at _ he)
  rw [hk1]
  have eal : mgiF mSl mLy mGr (nI k) (mTk k) = lN (sumN (fun l => nd S (G l) T) Y) := by
    rw [hm.2.1]
    exact mgi_nat hm hk h1 h2 hT h4 h5 20 0 rfl (by omega)
  have ehd : ∀ e, e < 4 → mhiF mSl mLy mGr mLS (nI k) (mTk k) (nI e) = lN (sumN (fun l => nd S (G l) T * SH l e) Y) := by
    intro e he
    rw [hm.2.1]
    exact mhi_nat hm hk h1 h2 hT h4 h5 h6 he 20 0 rfl (by omega)
  have hsum := sum_next (S := S) (T := T) (Y := Y) (G := G)
  refine ⟨sumN (fun l => nd S (G l) T) Y, fun e => sumN (fun l => nd S (G l) T * SH l e) Y, fun hz => ⟨eal, by omega, ?_, fun e he => ⟨ehd e he, by have := hBle e; show sumN (fun l => nd S (G l) T * SH l e) Y < 2 ^ 63; omega⟩⟩, ?_, ?_⟩
  · rcases Nat.eq_zero_or_pos (sumN (fun l => nd S (G l) T) Y) with g | g
    · exact absurd (by rw [eal, g]; decide) hz
    · exact g
  · rw [elt, eal, lN_i]
  have hD0 : (lN (sumN (fun l => nd S (G l) T) Y) ≤ 0) ↔ sumN (fun l => nd S (G l) T) Y = 0 := by
    rw [show (0 : Int64) = lN 0 from rfl, pk_lLE (by omega) (by decide)]; omega
  have hD1 : (nI (sumN (fun l => nd S (G l) T) Y) ≤ 0) ↔ sumN (fun l => nd S (G l) T) Y = 0 := by
    rw [show (0 : Int32) = nI 0 from rfl, nI_leI (by omega) (by decide)]; omega
  have hPC : PKc S (T + 1) Y G SH (qSl q) := by
    refine ⟨c0, c1, c2, ?_, ?_, c5, c6, fun _ => ⟨elt, eLT⟩⟩
    · show q.2.1 3 + 1 = _
      rw [c3, nI_1]
    · show q.2.1 4 + ltS q = _
      rw [c4, elt, nI_add, hsum]
  have hPM : PKm S (T + 1) Y G SH k mSl (upd mTk k (mTk k + 1)) mLy mGr mLS := ⟨hm.1, by rw [pk_us, hm.2.1, nI_1], hm.2.2⟩
  rw [eal]
  by_cases hD : sumN (fun l => nd S (G l) T) Y = 0
  · have e4 : ∀ w x u, s4F w (lN (sumN (fun l => nd S (G l) T) Y)) (mhiF mSl mLy mGr mLS (nI k) (mTk k)) (sumN (fun l => nd S (G l) T) Y) (fun e => sumN (fun l => nd S (G l) T * SH l e) Y) x u = u := fun w x u => by unfold s4F; rw [if_pos (hD0.mpr hD)]
    have eg : ∀ u, tnG (ltS q) (LTS q) u = u := fun u => by unfold tnG; rw [elt, if_pos (hD1.mpr hD)]
    have ee : ∀ u, tnE (ltS q) (LTS q) u = u := fun u => by unfold tnE; rw [elt, if_pos (hD1.mpr hD)]
    rw [e4, e4]
    refine ⟨⟨S, T + 1, Y, G, SH, h1, h2, hT, h4, h5, h6, hPC, hPM, fun e he => ?_⟩, fun j hj hjk => ⟨rfl, pk_un hjk, rfl, fun l hl => rfl, fun l e hl he => rfl, fun e he => ⟨rfl, rfl, rfl, rfl⟩⟩⟩
    have := hp e he
    rw [hsum, hD, Nat.add_zero]
    obtain ⟨s1, g1, s2, g2, b1, b2, b3, b4, r1, r2, r3, r4, p1, p2, z1, z2⟩ := this
    refine ⟨s1, g1, s2, g2, b1, b2, b3, b4, ?_, ?_, ?_, ?_, p1, p2, z1, z2⟩
    · show (tnG (ltS q) (LTS q) (q.2.2.2 1, q.2.2.1 2)).1 e = _
      rw [eg]; exact r1
    · show (tnG (ltS q) (LTS q) (q.2.2.2 1, q.2.2.1 2)).2 e = _
      rw [eg]; exact r2
    · show (tnE (ltS q) (LTS q) (q.2.2.2 2, q.2.2.1 3)).1 e = _
      rw [ee]; exact r3
    · show (tnE (ltS q) (LTS q) (q.2.2.2 2, q.2.2.1 3)).2 e = _
      rw [ee]; exact r4
  · have hDp : 0 < sumN (fun l => nd S (G l) T) Y := by omega
    have hlt : ¬ ltS q ≤ 0 := by rw [elt]; exact fun z => hD (hD1.mp z)
    have eM := sm4_at (fun e => poF (mhiF mSl mLy mGr mLS (nI k) (mTk k) (nI e)) (lN (sumN (fun l => nd S (G l) T) Y)) 0 (sumN (fun l => nd S (G l) T) Y) (sumN (fun l => nd S (G l) T * SH l e) Y)) (fun e => poF (mhiF mSl mLy mGr mLS (nI k) (mTk k) (nI e)) (lN (sumN (fun l => nd S (G l) T) Y)) 1 (sumN (fun l => nd S (G l) T) Y) (sumN (fun l => nd S (G l) T * SH l e) Y)) (mMU, mML) hk
    have eE := se4_at (fun e => poF (mhiF mSl mLy mGr mLS (nI k) (mTk k) (nI e)) (lN (sumN (fun l => nd S (G l) T) Y)) 0 (sumN (fun l => nd S (G l) T) Y) (sumN (fun l => nd S (G l) T * SH l e) Y)) (fun e => poF (mhiF mSl mLy mGr mLS (nI k) (mTk k) (nI e)) (lN (sumN (fun l => nd S (G l) T) Y)) 1 (sumN (fun l => nd S (G l) T) Y) (sumN (fun l => nd S (G l) T * SH l e) Y)) (mEU, mEL) hk
    have uM : ∀ w u, s4F w (lN (sumN (fun l => nd S (G l) T) Y)) (mhiF mSl mLy mGr mLS (nI k) (mTk k)) (sumN (fun l => nd S (G l) T) Y) (fun e => sumN (fun l => nd S (G l) T * SH l e) Y) (nI k) u = _ := fun w u => by unfold s4F; rw [if_neg (fun z => hD (hD0.mp z))]
    rw [uM, uM]
    refine ⟨⟨S, T + 1, Y, G, SH, h1, h2, hT, h4, h5, h6, hPC, hPM, fun e he => ?_⟩, fun j hj hjk => ⟨rfl, pk_un hjk, rfl, fun l hl => rfl, fun l e hl he => rfl, fun e he => ⟨(eM.2 _ (fun e2 h2 => by omega)).1, (eM.2 _ (fun e2 h2 => by omega)).2, (eE.2 _ (fun e2 h2 => by omega)).1, (eE.2 _ (fun e2 h2 => by omega)).2⟩⟩⟩
    obtain ⟨s1, g1, s2, g2, b1, b2, b3, b4, r1, r2, r3, r4, p1, p2, z1, z2⟩ := hp e he
    obtain ⟨s1', g1', v1, v2, v3, v4, v5⟩ := gStep p1 hDp b1 b2 (hBle e) hDle
    obtain ⟨s2', g2', w1, w2, w3, w4, w5⟩ := eStep p2 hDp b3 b4 (hBle e) hDle
    have tg := tnG_at (ltS q) (LTS q) (q.2.2.2 1, q.2.2.1 2) hlt he
    have te := tnE_at (ltS q) (LTS q) (q.2.2.2 2, q.2.2.1 3) hlt he
    rw [elt, eLT e he] at tg te
    have eM1 := eM.1 e he
    have eE1 := eE.1 e he
    refine ⟨s1', g1', s2', g2', v1, v2, w1, w2, ?_, ?_, ?_, ?_, ?_, ?_, ?_, ?_⟩
    · show (tnG (ltS q) (LTS q) (q.2.2.2 1, q.2.2.1 2)).1 e = _
      rw [elt, tg.1]
      show (gSt _ _ (q.2.2.2 1 e) (q.2.2.1 2 e)).1 = _
      rw [r1, r2, v4]
    · show (tnG (ltS q) (LTS q) (q.2.2.2 1, q.2.2.1 2)).2 e = _
      rw [elt, tg.2]
      show (gSt _ _ (q.2.2.2 1 e) (q.2.2.1 2 e)).2 = _
      rw [r1, r2, v4]
    · show (tnE (ltS q) (LTS q) (q.2.2.2 2, q.2.2.1 3)).1 e = _
      rw [elt, te.1]
      show (eSt _ _ (q.2.2.2 2 e) (q.2.2.1 3 e)).1 = _
      rw [r3, r4, w4]
    · show (tnE (ltS q) (LTS q) (q.2.2.2 2, q.2.2.1 3)).2 e = _
      rw [elt, te.2]
      show (eSt _ _ (q.2.2.2 2 e) (q.2.2.1 3 e)).2 = _
      rw [r3, r4, w4]
    · rw [← ehd e he] at v5
      exact eM1.1 ▸ eM1.2 ▸ v5
    · rw [← ehd e he] at w5
      exact eE1.1 ▸ eE1.2 ▸ w5
    · rw [hsum]; omega
    · rw [hsum]; omega
