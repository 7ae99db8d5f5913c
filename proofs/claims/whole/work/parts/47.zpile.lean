-- PILES FROM CALL TO CALL
theorem isP_1 {k n : Nat} (hk : k < n) (hn : n ≤ 4) : inF (nI k) 0 (nI n - 1) = 1 := by
  have e : nI n - 1 = nI (n - 1) := pk_sub (b := 1) (by omega)
  rw [e, inF_ok, if_pos ⟨nI_pos (by omega), nI_le (by omega) (by omega)⟩]
theorem isP_0 {x : Int32} {n : Nat} (hn : n ≤ 4) (h : ¬ ∃ k, k < n ∧ x = nI k) : inF x 0 (nI n - 1) = 0 := by
  unfold inF
  by_cases h1 : x < 0
  · rw [if_pos h1]
  · obtain ⟨j, hj, rfl⟩ := nI_of h1
    rw [if_neg h1, if_pos]
    have h2 : n ≤ j := by
      rcases Nat.lt_or_ge j n with g | g
      · exact absurd ⟨j, g, rfl⟩ h
      · exact g
    have e : (nI n - 1).toInt = (n : Int) - 1 := pk_sub_toInt (b := 1) (by omega) (by decide)
    rw [Int32.lt_iff_toInt_lt, e, nI_toInt hj]
    omega
theorem no_pile {n : Nat} {x zPc : Int32} {fPi : Nat → Option Nat} {pls : List PE} {a1 a2 a3 a4 a5 : Nat → Int32} {b1 b2 b3 b4 : Nat → Int64} (hI : IPn n zPc fPi pls a1 a2 a3 a4 a5 b1 b2 b3 b4) (h : ¬ ∃ k, k < n ∧ x = nI k) : okP x → zPc ≤ x := by
  intro hx
  have h4 := hI.1
  obtain ⟨j, hj, rfl⟩ := nI_of hx.1
  have h2 : n ≤ j := by
    rcases Nat.lt_or_ge j n with g | g
    · exact absurd ⟨j, g, rfl⟩ h
    · exact g
  rw [hI.2.1, nI_leI (by omega) hj]
  exact h2
theorem at_mid {pls : List PE} {k : Nat} (hk : k < pls.length) : ∃ (L1 L2 : List PE) (q : PE), pls = L1 ++ q :: L2 ∧ L1.length = k ∧ pls[k]? = some q := by
  refine ⟨pls.take k, pls.drop (k + 1), pls[k], ?_, ?_, List.getElem?_eq_getElem hk⟩
  · rw [List.getElem_cons_drop, List.take_append_drop]
  · rw [List.length_take]; omega
theorem the_pile {n : Nat} {zPc : Int32} {fPi : Nat → Option Nat} {pls : List PE} {a1 a2 a3 a4 a5 : Nat → Int32} {b1 b2 b3 b4 : Nat → Int64} (hI : IPn n zPc fPi pls a1 a2 a3 a4 a5 b1 b2 b3 b4) {k : Nat} (hk : k < n) :
    ∃ (L1 L2 : List PE) (q : PE), pls = L1 ++ q :: L2 ∧ L1.length = k ∧ fPi (nI k).toNatClampNeg = some (q.1 0) ∧ PK k q a1 a2 a3 a4 a5 b1 b2 b3 b4 ∧ okP (nI k) ∧ k < 4 ∧ ¬ zPc ≤ nI k := by
  have h4 := hI.1
  obtain ⟨L1, L2, q, e1, e2, e3⟩ := at_mid (pls := pls) (k := k) (by rw [hI.2.2.1]; omega)
  refine ⟨L1, L2, q, e1, e2, ?_, hI.2.2.2.2.1 k q hk e3, ⟨nI_pos (by omega), nI_ge (b := 4) (by omega) (by decide)⟩, by omega, ?_⟩
  · rw [nI_clamp (by omega), hI.2.2.2.1, e3]; rfl
  · rw [hI.2.1]; exact nI_ge (b := n) (by omega) (by omega)
/-- the rows of another pile are as they were -/
def SR (j : Nat) (mSl mTk mLy mGr mLS mSl' mTk' mLy' mGr' mLS' : Nat → Int32) (mMU mML mEU mEL mMU' mML' mEU' mEL' : Nat → Int64) : Prop :=
  mSl' j = mSl j ∧ mTk' j = mTk j ∧ mLy' j = mLy j ∧ (∀ l, l < 20 → mGr' (20 * j + l) = mGr (20 * j + l)) ∧ (∀ l e, l < 20 → e < 4 → mLS' (4 * (20 * j + l) + e) = mLS (4 * (20 * j + l) + e)) ∧
  ∀ e, e < 4 → mMU' (4 * j + e) = mMU (4 * j + e) ∧ mML' (4 * j + e) = mML (4 * j + e) ∧ mEU' (4 * j + e) = mEU (4 * j + e) ∧ mEL' (4 * j + e) = mEL (4 * j + e)
theorem PK_same {j : Nat} {q : PE} {mSl mTk mLy mGr mLS mSl' mTk' mLy' mGr' mLS' : Nat → Int32} {mMU mML mEU mEL mMU' mML' mEU' mEL' : Nat → Int64} (h : PK j q mSl mTk mLy mGr mLS mMU mML mEU mEL) (hs : SR j mSl mTk mLy mGr mLS mSl' mTk' mLy' mGr' mLS' mMU mML mEU mEL mMU' mML' mEU' mEL') : PK j q mSl' mTk' mLy' mGr' mLS' mMU' mML' mEU' mEL' := by
  obtain ⟨S, T, Y, G, SH, h1, h2, h3, h4, h5, h6, hc, hm, hp⟩ := h
  obtain ⟨r1, r2, r3, r4, r5, r6⟩ := hs
  refine ⟨S, T, Y, G, SH, h1, h2, h3, h4, h5, h6, hc, ⟨r1.trans hm.1, r2.trans hm.2.1, r3.trans hm.2.2.1, fun l hl => (r4 l hl).trans (hm.2.2.2.1 l hl), fun l e hl he => (r5 l e hl he).trans (hm.2.2.2.2 l e hl he)⟩, fun e he => ?_⟩
  obtain ⟨s1, g1, s2, g2, k1, k2, k3, k4, k5, k6, k7, k8, k9, k10, k11⟩ := hp e he
  obtain ⟨u1, u2, u3, u4⟩ := r6 e he
  exact ⟨s1, g1, s2, g2, k1, k2, k3, k4, k5, k6, k7, k8, by rw [u1, u2]; exact k9, by rw [u3, u4]; exact k10, k11⟩
theorem PZ_same {j : Nat} {mSl mTk mLy mGr mLS mSl' mTk' mLy' mGr' mLS' : Nat → Int32} {mMU mML mEU mEL mMU' mML' mEU' mEL' : Nat → Int64} (h : PZ j mTk mLy mGr mLS mML mEL) (hs : SR j mSl mTk mLy mGr mLS mSl' mTk' mLy' mGr' mLS' mMU mML mEU mEL mMU' mML' mEU' mEL') : PZ j mTk' mLy' mGr' mLS' mML' mEL' := by
  obtain ⟨r1, r2, r3, r4, r5, r6⟩ := hs
  exact ⟨r2.trans h.1, r3.trans h.2.1, fun l hl => (r4 l hl).trans (h.2.2.1 l hl), fun l e hl he => (r5 l e hl he).trans (h.2.2.2.1 l e hl he), fun e he => ⟨(r6 e he).2.1.trans (h.2.2.2.2 e he).1, (r6 e he).2.2.2.trans (h.2.2.2.2 e he).2⟩⟩
theorem mid_at {L1 L2 : List PE} {r : PE} : (L1 ++ r :: L2)[L1.length]? = some r := by
  rw [List.getElem?_append_right (Nat.le_refl _), Nat.sub_self]; rfl
theorem mid_ne {L1 L2 : List PE} {r r' : PE} {i : Nat} (hi : i ≠ L1.length) : (L1 ++ r :: L2)[i]? = (L1 ++ r' :: L2)[i]? := by
  rcases Nat.lt_or_ge i L1.length with g | g
  · rw [List.getElem?_append_left g, List.getElem?_append_left g]
  · rw [List.getElem?_append_right g, List.getElem?_append_right g]
    obtain ⟨d, hd⟩ : ∃ d, i - L1.length = d + 1 := ⟨i - L1.length - 1, by omega⟩
    rw [hd]; rfl
theorem IP_set {n : Nat} {zPc : Int32} {fPi : Nat → Option Nat} {L1 L2 : List PE} {q q' : PE} {mSl mTk mLy mGr mLS mSl' mTk' mLy' mGr' mLS' : Nat → Int32} {mMU mML mEU mEL mMU' mML' mEU' mEL' : Nat → Int64} (hkn : L1.length < n) (h : IPn n zPc fPi (L1 ++ q :: L2) mSl mTk mLy mGr mLS mMU mML mEU mEL) (ha : q'.1 0 = q.1 0)
    (hq : PK L1.length q' mSl' mTk' mLy' mGr' mLS' mMU' mML' mEU' mEL') (hs : ∀ j, j < 4 → j ≠ L1.length → SR j mSl mTk mLy mGr mLS mSl' mTk' mLy' mGr' mLS' mMU mML mEU mEL mMU' mML' mEU' mEL') : IPn n zPc fPi (L1 ++ q' :: L2) mSl' mTk' mLy' mGr' mLS' mMU' mML' mEU' mEL' := by
  obtain ⟨h1, h2, h7, h3, h4, h5, h6⟩ := h
  have hlen : (L1 ++ q' :: L2).length = (L1 ++ q :: L2).length := by simp
  refine ⟨h1, h2, by rw [hlen]; exact h7, fun i => ?_, fun k r hkn2 hk => ?_, fun k hk hk4 => ?_, fun k r hkn2 hk => ?_⟩
  · rw [h3 i]
    by_cases g : i = L1.length
    · rw [g, mid_at, mid_at]
      show some (q.1 0) = some (q'.1 0)
      rw [ha]
    · rw [mid_ne g (r := q) (r' := q')]
  · by_cases g : k = L1.length
    · rw [g, mid_at] at hk
      cases hk
      rw [g]; exact hq
    · rw [mid_ne g (r := q') (r' := q)] at hk
      exact PK_same (h4 k r hkn2 hk) (hs k (by omega) g)
  · exact PZ_same (h5 k hk hk4) (hs k hk4 (by omega))
  · rw [mid_ne (by omega) (r := q') (r' := q)] at hk
    exact h6 k r hkn2 hk
/-- the pile that is made: its rows lay there -/
abbrev qPi (q : PE) (x : Int32) : PE := mkP q.1 x (q.2.1 1) (q.2.1 2) (q.2.1 3) (q.2.1 4) (q.2.1 5) (q.2.2.1 0) (q.2.2.1 1) (q.2.2.1 2) (q.2.2.1 3) (q.2.2.2 0) (q.2.2.2 1) (q.2.2.2 2)
theorem the_next {n : Nat} {zPc : Int32} {fPi : Nat → Option Nat} {pls : List PE} {mSl mTk mLy mGr mLS : Nat → Int32} {mMU mML mEU mEL : Nat → Int64} (h : IPn n zPc fPi pls mSl mTk mLy mGr mLS mMU mML mEU mEL) (h4 : zPc < 4) :
    ∃ (L1 L2 : List PE) (q : PE), pls = L1 ++ q :: L2 ∧ fPi zPc.toNatClampNeg = some (q.1 0) ∧ ∀ x : Int32, okR x 1 65536 → IP (zPc + 1) fPi (L1 ++ qPi q x :: L2) (upd mSl zPc.toNatClampNeg x) mTk mLy mGr mLS mMU mML mEU mEL := by
  obtain ⟨h1, rfl, h7, h3, h5, h6, h8⟩ := h
  have hl : n < 4 := (nI_ltI (b := 4) (by omega) (by decide)).mp h4
  obtain ⟨L1, L2, q, rfl, rfl, e3⟩ := at_mid (pls := pls) (k := n) (by omega)
  rw [nI_clamp (by omega)]
  refine ⟨L1, L2, q, rfl, ?_, fun x hx => ?_⟩
  · rw [h3, e3]; rfl
  have hx0 : ¬ x < 0 := by
    intro z
    apply hx.1
    have h1 : (1 : Int32).toInt = 1 := by decide
    have h0 : (0 : Int32).toInt = 0 := by decide
    rw [Int32.lt_iff_toInt_lt] at z ⊢
    omega
  obtain ⟨S, hS, rfl⟩ : ∃ S, S ≤ 65536 ∧ x = nI S := nI_of2 (M := 65536) (by decide) hx0 hx.2
  have hS1 : 1 ≤ S := by
    rcases Nat.eq_zero_or_pos S with g | g
    · exact absurd (by rw [g]; decide) hx.1
    · exact g
  have hlen : (L1 ++ qPi q (nI S) :: L2).length = (L1 ++ q :: L2).length := by simp
  obtain ⟨y1, y2, y3, y4, y5, y6, y7, y8, y9, y10⟩ := h8 _ q (Nat.le_refl _) e3
  refine ⟨L1.length + 1, by omega, nI_1 _, by rw [hlen]; exact h7, fun i => ?_, fun k r hkn hk => ?_, fun k hk hk4 => h6 k (by omega) hk4, fun k r hkn hk => ?_⟩
  · rw [h3 i]
    by_cases g : i = L1.length
    · rw [g, mid_at, mid_at]; rfl
    · rw [mid_ne g (r := q) (r' := qPi q (nI S))]
  · by_cases g : k = L1.length
    · subst g
      rw [mid_at] at hk
      cases hk
      obtain ⟨z1, z2, z3, z4, z5⟩ := h6 L1.length (Nat.le_refl _) hl
      refine ⟨S, 0, 0, fun _ => 0, fun _ _ => 0, hS1, hS, by omega, by omega, fun _ => Nat.zero_le _, fun _ _ => Nat.zero_le _, ⟨rfl, y1, y2, y3, y4, fun l _ => y5 l, fun l e _ _ => y6 _, fun z => absurd z (by omega)⟩, ⟨pk_us, z1, z2, z3, z4⟩, fun e he => ?_⟩
      exact ⟨0, 0, 0, 0, by omega, by omega, by omega, by omega, y9 e, y7 e, y10 e, y8 e, Or.inl ⟨rfl, (z5 e he).1⟩, Or.inl ⟨rfl, (z5 e he).2⟩, by simp [sumN], by simp [sumN]⟩
    · rw [mid_ne g (r := qPi q (nI S)) (r' := q)] at hk
      exact PK_same (h5 k r (by omega) hk) ⟨pk_un g, rfl, rfl, fun _ _ => rfl, fun _ _ _ _ => rfl, fun _ _ => ⟨rfl, rfl, rfl, rfl⟩⟩
  · rw [mid_ne (by omega) (r := qPi q (nI S)) (r' := q)] at hk
    exact h8 k r (by omega) hk
theorem va_up4 (a0 a1 a2 a3 : Nat) (i : Nat) : va_up (va_up (va_up (va_up (fun _ => none) (0 : Int32).toNatClampNeg (some a0)) (1 : Int32).toNatClampNeg (some a1)) (2 : Int32).toNatClampNeg (some a2)) (3 : Int32).toNatClampNeg (some a3) i = ([a0, a1, a2, a3] : List Nat)[i]? := by
  rw [show (0 : Int32).toNatClampNeg = 0 from by decide, show (1 : Int32).toNatClampNeg = 1 from by decide, show (2 : Int32).toNatClampNeg = 2 from by decide, show (3 : Int32).toNatClampNeg = 3 from by decide]
  match i with
  | 0 => rfl
  | 1 => rfl
  | 2 => rfl
  | 3 => rfl
  | i + 4 => simp [va_up]
/-- four piles, none of them made yet -/
theorem IP_four {P0 P1 P2 P3 : PE} (h0 : PQ P0) (h1 : PQ P1) (h2 : PQ P2) (h3 : PQ P3) :
    IP 0 (va_up (va_up (va_up (va_up (fun _ => none) (0 : Int32).toNatClampNeg (some (P0.1 0))) (1 : Int32).toNatClampNeg (some (P1.1 0))) (2 : Int32).toNatClampNeg (some (P2.1 0))) (3 : Int32).toNatClampNeg (some (P3.1 0))) [P0, P1, P2, P3] (fun _ => 0) (fun _ => 0) (fun _ => 0) (fun _ => 0) (fun _ => 0) (fun _ => 0) (fun _ => 0) (fun _ => 0) (fun _ => 0) := by
  refine ⟨0, by decide, rfl, rfl, fun i => ?_, fun k q h => absurd h (Nat.not_lt_zero _), fun k _ _ => ⟨rfl, rfl, fun _ _ => rfl, fun _ _ _ _ => rfl, fun _ _ => ⟨rfl, rfl⟩⟩, fun k q _ h => ?_⟩
  · rw [va_up4]
    show (List.map (fun q : PE => q.1 0) [P0, P1, P2, P3])[i]? = _
    rw [List.getElem?_map]
  · match k, h with
    | 0, h => cases h; exact h0
    | 1, h => cases h; exact h1
    | 2, h => cases h; exact h2
    | 3, h => cases h; exact h3
    | k + 4, h => simp at h
theorem PQ_mk {ad : Nat → Nat} : PQ (mkP ad 0 0 0 0 0 0 (fun _ => 0) (fun _ => 0) (fun _ => 0) (fun _ => 0) (fun _ => 0) (fun _ => 0) (fun _ => 0)) :=
  ⟨rfl, rfl, rfl, rfl, fun _ => rfl, fun _ => rfl, fun _ => rfl, fun _ => rfl, fun _ => rfl, fun _ => rfl⟩
