-- WHICH PILE
theorem pl_out {cs : Nat → ClassId} {X : va_W} {L1 L2 : List PE} {q : PE} : ((X ++ pcells cs q) ++ vq_pl cs (L1 ++ L2)).Perm (X ++ vq_pl cs (L1 ++ q :: L2)) := by
  rw [vq_pl_two, vq_pl_mid]
  exact mid_perm X (pcells cs q) (vq_pl cs L1) (vq_pl cs L2)
theorem pl_push {cs : Nat → ClassId} {X : va_W} {pls : List PE} {q : PE} : (X ++ vq_pl cs (pls ++ [q])).Perm ((X ++ pcells cs q) ++ vq_pl cs pls) := by
  rw [vq_pl_two, vq_pl_one]
  exact (end_perm X (pcells cs q) (vq_pl cs pls)).symm
theorem thF_1 {a b c d : Int32} (h : a = 1) : thF a b c d = 1 := by
  unfold thF; rw [h, if_neg b10]
theorem orN_1 {a b : Int32} (h : a = 0) : orN a b = 1 := if_pos h
theorem or3_1 {a b c : Int32} (h : a = 0) : or3 a b c = 1 := if_pos h
theorem nB_1 {a : Int32} (h : a = 0) : nB a = 1 := if_pos h
theorem IP_setk {k : Nat} {zPc : Int32} {fPi : Nat → Option Nat} {L1 L2 : List PE} {q q' : PE} {mSl mTk mLy mGr mLS mSl' mTk' mLy' mGr' mLS' : Nat → Int32} {mMU mML mEU mEL mMU' mML' mEU' mEL' : Nat → Int64} (hlen : L1.length = k) (h : IP zPc fPi (L1 ++ q :: L2) mSl mTk mLy mGr mLS mMU mML mEU mEL) (ha : q'.1 0 = q.1 0)
    (hq : PK k q' mSl' mTk' mLy' mGr' mLS' mMU' mML' mEU' mEL') (hs : ∀ j, j < 4 → j ≠ k → SR j mSl mTk mLy mGr mLS mSl' mTk' mLy' mGr' mLS' mMU mML mEU mEL mMU' mML' mEU' mEL') : IP zPc fPi (L1 ++ q' :: L2) mSl' mTk' mLy' mGr' mLS' mMU' mML' mEU' mEL' := by
  subst hlen
  exact IP_set h ha hq hs
/-- of a pile that isn't there the reference holds no layer -/
theorem no_ly {zPc : Int32} {fPi : Nat → Option Nat} {pls : List PE} {a1 a2 a3 a4 a5 : Nat → Int32} {b1 b2 b3 b4 : Nat → Int64} (hI : IP zPc fPi pls a1 a2 a3 a4 a5 b1 b2 b3 b4) {x : Int32} (h : ¬ ∃ k, k < pls.length ∧ x = nI k) (hx : okE x) : ¬ a3 x.toNatClampNeg < 0 ∧ a3 x.toNatClampNeg ≤ 20 := by
  obtain ⟨j, hj, rfl⟩ := vq_nat (N := 4) (n := 4) (by decide) hx.1 hx.2
  have h2 : pls.length ≤ j := by
    rcases Nat.lt_or_ge j pls.length with g | g
    · exact absurd ⟨j, g, rfl⟩ h
    · exact g
  rw [nI_clamp (by omega), (hI.2.2.2.2 j h2 hj).2.1]
  exact ⟨by decide, by decide⟩
theorem vq_t230 : (.methodLink R_LW 97 y_LW_pile : Cond) ∈ vq_G := vq_at1 (i := 230) rfl rfl
theorem vq_t231 : (.static y_LW_pile : Cond) ∈ vq_G := vq_at1 (i := 231) rfl rfl
theorem vq_t581 : (.methodLink R_LW 99 y_MO_pile : Cond) ∈ vq_G := vq_at3 (i := 101) rfl rfl
theorem vq_t582 : (.instanceMethod y_MO_pile : Cond) ∈ vq_G := vq_at3 (i := 102) rfl rfl
theorem vq_t583 : (.selects R_MO y_MO_pile y_MO_pile : Cond) ∈ vq_G := vq_at3 (i := 103) rfl rfl
