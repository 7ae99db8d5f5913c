-- PILES FROM CALL TO CALL
theorem isP_1 {k n : Nat} (hk : k < n) (hn : n ≤ 4) : inF (nI k) 0 (nI n - 1) = 1 := by
  have e : nI n - 1 = nI (n - 1) := pk_sub (b := 1) (by omega)
  rw [e, inF_ok, if_pos ⟨nI_pos (by omega), nI_le (by omega) (by omega)⟩]
theorem isP_0 {x : Int32} {n : Nat} (hn : n ≤ 4) (h : ¬ ∃ k, k < n ∧ x = nI k) : inF x 0 (nI n - 1) = 0 := by
  unfold inF
  by_cases h1 : x < 0
  · rw [if_pos h1]
  · obtain ⟨j, hj, rfl⟩ := nI_of h1
    rw [if_neg h1, if_pos]
    have h2 : n ≤ j := by
      rcases Nat.lt_or_ge j n with g | g
      · exact absurd ⟨j, g, rfl⟩ h
      · exact g
    have e : (nI n - 1).toInt = (n : Int) - 1 := pk_sub_toInt (b := 1) (by omega) (by decide)
    rw [Int32.lt_iff_toInt_lt, e, nI_toInt hj]
    omega
theorem no_pile {x zPc : Int32} {fPi : Nat → Option Nat} {pls : List PE} {a1 a2 a3 a4 a5 : Nat → Int32} {b1 b2 b3 b4 : Nat → Int64} (hI : IP zPc fPi pls a1 a2 a3 a4 a5 b1 b2 b3 b4) (h : ¬ ∃ k, k < pls.length ∧ x = nI k) : okP x → fPi x.toNatClampNeg = none := by
  intro hx
  obtain ⟨j, hj, rfl⟩ := nI_of hx.1
  rw [nI_clamp hj, hI.2.2.1]
  have h2 : pls.length ≤ j := by
    rcases Nat.lt_or_ge j pls.length with g | g
    · exact absurd ⟨j, g, rfl⟩ h
    · exact g
  rw [List.getElem?_eq_none h2]
  rfl
theorem the_pile {zPc : Int32} {fPi : Nat → Option Nat} {pls : List PE} {a1 a2 a3 a4 a5 : Nat → Int32} {b1 b2 b3 b4 : Nat → Int64} (hI : IP zPc fPi pls a1 a2 a3 a4 a5 b1 b2 b3 b4) {k : Nat} (hk : k < pls.length) :
    ∃ (L1 L2 : List PE) (q : PE), pls = L1 ++ q :: L2 ∧ L1.length = k ∧ fPi (nI k).toNatClampNeg = some (q.1 0) ∧ PK k q a1 a2 a3 a4 a5 b1 b2 b3 b4 ∧ okP (nI k) ∧ k < 4 := by
  have h4 := hI.1
  refine ⟨pls.take k, pls.drop (k + 1), pls[k], ?_, ?_, ?_, hI.2.2.2.1 k _ (List.getElem?_eq_getElem hk), ⟨nI_pos (by omega), nI_ge (b := 4) (by omega) (by decide)⟩, by omega⟩
  · rw [List.getElem_cons_drop, List.take_append_drop]
  · rw [List.length_take]; omega
  · rw [nI_clamp (by omega), hI.2.2.1, List.getElem?_eq_getElem hk]; rfl
/-- the rows of another pile are as they were -/
def SR (j : Nat) (mSl mTk mLy mGr mLS mSl' mTk' mLy' mGr' mLS' : Nat → Int32) (mMU mML mEU mEL mMU' mML' mEU' mEL' : Nat → Int64) : Prop :=
  mSl' j = mSl j ∧ mTk' j = mTk j ∧ mLy' j = mLy j ∧ (∀ l, l < 20 → mGr' (20 * j + l) = mGr (20 * j + l)) ∧ (∀ l e, l < 20 → e < 4 → mLS' (4 * (20 * j + l) + e) = mLS (4 * (20 * j + l) + e)) ∧
  ∀ e, e < 4 → mMU' (4 * j + e) = mMU (4 * j + e) ∧ mML' (4 * j + e) = mML (4 * j + e) ∧ mEU' (4 * j + e) = mEU (4 * j + e) ∧ mEL' (4 * j + e) = mEL (4 * j + e)
theorem PK_same {j : Nat} {q : PE} {mSl mTk mLy mGr mLS mSl' mTk' mLy' mGr' mLS' : Nat → Int32} {mMU mML mEU mEL mMU' mML' mEU' mEL' : Nat → Int64} (h : PK j q mSl mTk mLy mGr mLS mMU mML mEU mEL) (hs : SR j mSl mTk mLy mGr mLS mSl' mTk' mLy' mGr' mLS' mMU mML mEU mEL mMU' mML' mEU' mEL') : PK j q mSl' mTk' mLy' mGr' mLS' mMU' mML' mEU' mEL' := by
  obtain ⟨S, T, Y, G, SH, h1, h2, h3, h4, h5, h6, hc, hm, hp⟩ := h
  obtain ⟨r1, r2, r3, r4, r5, r6⟩ := hs
  refine ⟨S, T, Y, G, SH, h1, h2, h3, h4, h5, h6, hc, ⟨r1.trans hm.1, r2.trans hm.2.1, r3.trans hm.2.2.1, fun l hl => (r4 l hl).trans (hm.2.2.2.1 l hl), fun l e hl he => (r5 l e hl he).trans (hm.2.2.2.2 l e hl he)⟩, fun e he => ?_⟩
  obtain ⟨s1, g1, s2, g2, k1, k2, k3, k4, k5, k6, k7, k8, k9, k10, k11⟩ := hp e he
  obtain ⟨u1, u2, u3, u4⟩ := r6 e he
  exact ⟨s1, g1, s2, g2, k1, k2, k3, k4, k5, k6, k7, k8, by rw [u1, u2]; exact k9, by rw [u3, u4]; exact k10, k11⟩
theorem PZ_same {j : Nat} {mSl mTk mLy mGr mLS mSl' mTk' mLy' mGr' mLS' : Nat → Int32} {mMU mML mEU mEL mMU' mML' mEU' mEL' : Nat → Int64} (h : PZ j mTk mLy mGr mLS mML mEL) (hs : SR j mSl mTk mLy mGr mLS mSl' mTk' mLy' mGr' mLS' mMU mML mEU mEL mMU' mML' mEU' mEL') : PZ j mTk' mLy' mGr' mLS' mML' mEL' := by
  obtain ⟨r1, r2, r3, r4, r5, r6⟩ := hs
  exact ⟨r2.trans h.1, r3.trans h.2.1, fun l hl => (r4 l hl).trans (h.2.2.1 l hl), fun l e hl he => (r5 l e hl he).trans (h.2.2.2.1 l e hl he), fun e he => ⟨(r6 e he).2.1.trans (h.2.2.2.2 e he).1, (r6 e he).2.2.2.trans (h.2.2.2.2 e he).2⟩⟩
theorem IP_set {zPc : Int32} {fPi : Nat → Option Nat} {L1 L2 : List PE} {q q' : PE} {mSl mTk mLy mGr mLS mSl' mTk' mLy' mGr' mLS' : Nat → Int32} {mMU mML mEU mEL mMU' mML' mEU' mEL' : Nat → Int64} (h : IP zPc fPi (L1 ++ q :: L2) mSl mTk mLy mGr mLS mMU mML mEU mEL) (ha : q'.1 0 = q.1 0)
    (hq : PK L1.length q' mSl' mTk' mLy' mGr' mLS' mMU' mML' mEU' mEL') (hs : ∀ j, j < 4 → j ≠ L1.length → SR j mSl mTk mLy mGr mLS mSl' mTk' mLy' mGr' mLS' mMU mML mEU mEL mMU' mML' mEU' mEL') : IP zPc fPi (L1 ++ q' :: L2) mSl' mTk' mLy' mGr' mLS' mMU' mML' mEU' mEL' := by
  obtain ⟨h1, h2, h3, h4, h5⟩ := h
  have hlen : (L1 ++ q' :: L2).length = (L1 ++ q :: L2).length := by simp
  have hne : ∀ i, i ≠ L1.length → (L1 ++ q' :: L2)[i]? = (L1 ++ q :: L2)[i]? := by
    intro i hi
    rcases Nat.lt_or_ge i L1.length with g | g
    · rw [List.getElem?_append_left g, List.getElem?_append_left g]
    · rw [List.getElem?_append_right g, List.getElem?_append_right g]
      obtain ⟨d, hd⟩ : ∃ d, i - L1.length = d + 1 := ⟨i - L1.length - 1, by omega⟩
      rw [hd]; rfl
  have hat : ∀ r : PE, (L1 ++ r :: L2)[L1.length]? = some r := by
    intro r
    rw [List.getElem?_append_right (Nat.le_refl _), Nat.sub_self]; rfl
  refine ⟨by rw [hlen]; exact h1, by rw [hlen]; exact h2, fun i => ?_, fun k r hk => ?_, fun k hk hk4 => ?_⟩
  · rw [h3 i]
    by_cases g : i = L1.length
    · rw [g, hat, hat]
      show some (q.1 0) = some (q'.1 0)
      rw [ha]
    · rw [hne i g]
  · by_cases g : k = L1.length
    · rw [g, hat] at hk
      cases hk
      rw [g]; exact hq
    · rw [hne k g] at hk
      have hl := (List.getElem?_eq_some_iff.mp hk).1
      exact PK_same (h4 k r hk) (hs k (by omega) g)
  · rw [hlen] at hk
    have h6 : L1.length < (L1 ++ q :: L2).length := by simp
    exact PZ_same (h5 k hk hk4) (hs k hk4 (by omega))
theorem IP_push {zPc x : Int32} {fPi : Nat → Option Nat} {pls : List PE} {ad : Nat → Nat} {mSl mTk mLy mGr mLS : Nat → Int32} {mMU mML mEU mEL : Nat → Int64} (h : IP zPc fPi pls mSl mTk mLy mGr mLS mMU mML mEU mEL) (h4 : zPc < 4) (hx : okR x 1 65536) :
    IP (zPc + 1) (va_up fPi zPc.toNatClampNeg (some (ad 0))) (pls ++ [mkP ad x 0 0 0 0 0 (fun _ => 0) (fun _ => 0) (fun _ => 0) (fun _ => 0) (fun _ => 0) (fun _ => 0) (fun _ => 0)]) (upd mSl zPc.toNatClampNeg x) mTk mLy mGr mLS mMU mML mEU mEL := by
  obtain ⟨h1, rfl, h3, h5, h6⟩ := h
  have hl : pls.length < 4 := (nI_ltI (b := 4) (by omega) (by decide)).mp h4
  rw [nI_clamp (by omega)]
  have hx0 : ¬ x < 0 := by
    intro z
    apply hx.1
    have h1 : (1 : Int32).toInt = 1 := by decide
    have h0 : (0 : Int32).toInt = 0 := by decide
    rw [Int32.lt_iff_toInt_lt] at z ⊢
    omega
  obtain ⟨S, hS, rfl⟩ : ∃ S, S ≤ 65536 ∧ x = nI S := nI_of2 (M := 65536) (by decide) hx0 hx.2
  have hS1 : 1 ≤ S := by
    rcases Nat.eq_zero_or_pos S with g | g
    · exact absurd (by rw [g]; decide) hx.1
    · exact g
  refine ⟨by simp; omega, by simp; exact nI_1 _, fun i => ?_, fun k r hk => ?_, fun k hk hk4 => ?_⟩
  · by_cases g : i = pls.length
    · subst g
      simp [va_up, mkP]
    · simp only [va_up, if_neg g, h3 i]
      rcases Nat.lt_or_ge i pls.length with g2 | g2
      · rw [List.getElem?_append_left g2]
      · rw [List.getElem?_eq_none g2, List.getElem?_eq_none (by simp; omega)]
  · by_cases g : k = pls.length
    · subst g
      rw [List.getElem?_append_right (Nat.le_refl _), Nat.sub_self] at hk
      cases hk
      obtain ⟨z1, z2, z3, z4, z5⟩ := h6 pls.length (Nat.le_refl _) hl
      refine ⟨S, 0, 0, fun _ => 0, fun _ _ => 0, hS1, hS, by omega, by omega, fun _ => Nat.zero_le _, fun _ _ => Nat.zero_le _, ⟨rfl, rfl, rfl, rfl, rfl, fun _ _ => rfl, fun _ _ _ _ => rfl, fun z => absurd z (by omega)⟩, ⟨pk_us, z1, z2, z3, z4⟩, fun e he => ?_⟩
      exact ⟨0, 0, 0, 0, by omega, by omega, by omega, by omega, rfl, rfl, rfl, rfl, Or.inl ⟨rfl, (z5 e he).1⟩, Or.inl ⟨rfl, (z5 e he).2⟩, by simp [sumN], by simp [sumN]⟩
    · have hk2 : pls[k]? = some r := by
        rcases Nat.lt_or_ge k pls.length with g2 | g2
        · rw [List.getElem?_append_left g2] at hk; exact hk
        · rw [List.getElem?_eq_none (by simp; omega)] at hk; cases hk
      refine PK_same (h5 k r hk2) ⟨pk_un g, rfl, rfl, fun _ _ => rfl, fun _ _ _ _ => rfl, fun _ _ => ⟨rfl, rfl, rfl, rfl⟩⟩
  · exact h6 k (by simp at hk; omega) hk4
