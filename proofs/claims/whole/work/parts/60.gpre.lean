-- WHICH PILE
theorem pl_out {cs : Nat → ClassId} {X : va_W} {L1 L2 : List PE} {q : PE} : ((X ++ pcells cs q) ++ vq_pl cs (L1 ++ L2)).Perm (X ++ vq_pl cs (L1 ++ q :: L2)) := by
  rw [vq_pl_two, vq_pl_mid]
  exact mid_perm X (pcells cs q) (vq_pl cs L1) (vq_pl cs L2)
theorem thF_1 {a b c d : Int32} (h : a = 1) : thF a b c d = 1 := by
  unfold thF; rw [h, if_neg b10]
theorem orN_1 {a b : Int32} (h : a = 0) : orN a b = 1 := if_pos h
theorem or3_1 {a b c : Int32} (h : a = 0) : or3 a b c = 1 := if_pos h
theorem nB_1 {a : Int32} (h : a = 0) : nB a = 1 := if_pos h
theorem IP_setk {n k : Nat} {zPc : Int32} {fPi : Nat → Option Nat} {L1 L2 : List PE} {q q' : PE} {mSl mTk mLy mGr mLS mSl' mTk' mLy' mGr' mLS' : Nat → Int32} {mMU mML mEU mEL mMU' mML' mEU' mEL' : Nat → Int64} (hlen : L1.length = k) (hk : k < n) (h : IPn n zPc fPi (L1 ++ q :: L2) mSl mTk mLy mGr mLS mMU mML mEU mEL) (ha : q'.1 0 = q.1 0)
    (hq : PK k q' mSl' mTk' mLy' mGr' mLS' mMU' mML' mEU' mEL') (hs : ∀ j, j < 4 → j ≠ k → SR j mSl mTk mLy mGr mLS mSl' mTk' mLy' mGr' mLS' mMU mML mEU mEL mMU' mML' mEU' mEL') : IP zPc fPi (L1 ++ q' :: L2) mSl' mTk' mLy' mGr' mLS' mMU' mML' mEU' mEL' := by
  subst hlen
  exact ⟨n, IP_set hk h ha hq hs⟩
/-- of a pile that isn't there the reference holds no layer -/
theorem no_ly {n : Nat} {zPc : Int32} {fPi : Nat → Option Nat} {pls : List PE} {a1 a2 a3 a4 a5 : Nat → Int32} {b1 b2 b3 b4 : Nat → Int64} (hI : IPn n zPc fPi pls a1 a2 a3 a4 a5 b1 b2 b3 b4) {x : Int32} (h : ¬ ∃ k, k < n ∧ x = nI k) (hx : okE x) : ¬ a3 x.toNatClampNeg < 0 ∧ a3 x.toNatClampNeg ≤ 20 := by
  obtain ⟨j, hj, rfl⟩ := vq_nat (N := 4) (n := 4) (by decide) hx.1 hx.2
  have h2 : n ≤ j := by
    rcases Nat.lt_or_ge j n with g | g
    · exact absurd ⟨j, g, rfl⟩ h
    · exact g
  rw [nI_clamp (by omega), (hI.2.2.2.2.2.1 j h2 hj).2.1]
  exact ⟨by decide, by decide⟩
