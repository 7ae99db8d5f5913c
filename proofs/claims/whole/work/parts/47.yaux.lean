-- SMALL THINGS FOR THE CASES
theorem i32_s (x : Int32) : x + 1 - 1 = x := Int32.add_sub_cancel x 1
theorem i32_999 (a : Int32) : a + 999 = a + 1000 - 1 := by
  rw [show (999 : Int32) = 1000 - 1 by decide, Int32.sub_eq_add_neg, Int32.sub_eq_add_neg, Int32.add_assoc]
theorem st_loop (fDy fMa fKi : Nat → Int32) (cn to x : Int32) : ∀ n i acc, stockL fDy fMa fKi cn to x n i acc = mstL fDy fMa fKi cn to x n i acc := by
  intro n
  induction n with
  | zero => intro i acc; rfl
  | succ n ih =>
    intro i acc
    rw [stockL, mstL]
    by_cases h : cn ≤ nI i
    · rw [if_pos h, if_pos h]
    · rw [if_neg h, if_neg h, ih]
      congr 1
      unfold mstV
      by_cases h1 : fMa (nI i).toNatClampNeg = x
      · rw [if_pos h1, if_pos h1]
        by_cases h2 : to < fDy (nI i).toNatClampNeg
        · rw [if_pos h2, if_pos h2, Int32.add_zero]
        · rw [if_neg h2, if_neg h2]
      · rw [if_neg h1, if_neg h1, Int32.add_zero]
theorem st_eq (fLa fDy fMa fKi : Nat → Int32) (cn to x : Int32) : stockF fLa fDy fMa fKi cn to x = mstF fLa fDy fMa fKi cn to x := st_loop fDy fMa fKi cn to x 40 0 _
theorem up1 {x N M : Int32} (h0 : ¬ x < 0) (h : x < N) (n : Nat) (hN : N = nI n) (hn : n < 2 ^ 30) : ¬ x + 1 < 0 ∧ x + 1 ≤ N := by
  subst hN
  obtain ⟨j, hj, rfl⟩ := nI_of h0
  have h1 := (nI_ltI hj (by omega)).mp h
  rw [nI_1]
  exact ⟨nI_pos (by omega), nI_le (by omega) (by omega)⟩
theorem i32_64 (x : Int32) : -2 ^ 63 < x.toInt64.toInt := by
  rw [Int32.toInt_toInt64]
  have := x.le_toInt
  omega
theorem mix_val {bad a b aim q : Int32} (hb : bad = 0) (h : ¬ a = b) (ha : okR a 0 10000) (hb2 : okR b 0 10000) :
    (lwF bad (a - b)).toInt64.toInt ≠ 0 ∧ lowF (aim - b).toInt64 (a - b).toInt64 q = poF (upF bad (aim - b)).toInt64 (lwF bad (a - b)).toInt64 q (lwF bad (a - b)).toInt64.toInt.natAbs (upF bad (aim - b)).toInt64.toInt.natAbs := by
  have e1 : upF bad (aim - b) = aim - b := by unfold upF; rw [if_pos hb]
  have e2 : lwF bad (a - b) = a - b := by unfold lwF; rw [if_pos hb]
  rw [e1, e2]
  obtain ⟨i, hi, rfl⟩ := nI_of2 (M := 10000) (n := 10000) (by decide) ha.1 ha.2
  obtain ⟨j, hj, rfl⟩ := nI_of2 (M := 10000) (n := 10000) (by decide) hb2.1 hb2.2
  have e3 : (nI i - nI j).toInt = (i : Int) - j := pk_sub_toInt (by omega) (by omega)
  have hne : i ≠ j := fun z => h (by rw [z])
  have h0 : (nI i - nI j).toInt64.toInt ≠ 0 := by rw [Int32.toInt_toInt64, e3]; omega
  exact ⟨h0, low_po q (i32_64 _) (i32_64 _) h0⟩
-- points
theorem mft_step {px py px' py' : Nat → Int32} {n : Nat} {x y : Int32} (hn : n < 20) (h1 : ∀ l, l < n → px' l = px l ∧ py' l = py l) (h2 : px' n = x ∧ py' n = y) : ∀ m i a b c d, i + m = 20 → i ≤ n →
    mftL px' py' (nI (n + 1)) m i a b c d = ((mftL px py (nI n) m i a b c d).1 + x.toInt64, (mftL px py (nI n) m i a b c d).2.1 + y.toInt64, (mftL px py (nI n) m i a b c d).2.2.1 + x.toInt64 * x.toInt64, (mftL px py (nI n) m i a b c d).2.2.2 + x.toInt64 * y.toInt64) := by
  intro m
  induction m with
  | zero => intro i a b c d h3 h4; omega
  | succ m ih =>
    intro i a b c d h3 h4
    have hc : (nI (n + 1) ≤ nI i) ↔ n + 1 ≤ i := nI_leI (by omega) (by omega)
    have hd : (nI n ≤ nI i) ↔ n ≤ i := nI_leI (by omega) (by omega)
    rw [mftL, mftL, if_neg (fun z => absurd (hc.mp z) (by omega)), nI_clamp (by omega)]
    by_cases h : n ≤ i
    · have e : i = n := by omega
      rw [if_pos (hd.mpr h), e, h2.1, h2.2]
      cases m with
      | zero => rfl
      | succ m =>
        have hc2 : (nI (n + 1) ≤ nI (n + 1)) := nI_le (Nat.le_refl _) (by omega)
        rw [mftL, if_pos hc2]
    · rw [if_neg (fun z => h (hd.mp z)), (h1 i (by omega)).1, (h1 i (by omega)).2]
      exact ih (i + 1) _ _ _ _ (by omega) (by omega)
theorem IL_step {zN : Int32} {zX zY zXX zXY : Int64} {mPx mPy : Nat → Int32} {x y : Int32} (h : IL zN zX zY zXX zXY mPx mPy) (hz : zN < 20) (hx : okR x 0 10000) (hy : okR y 0 10000) :
    IL (zN + 1) (zX + x.toInt64) (zY + y.toInt64) (zXX + x.toInt64 * x.toInt64) (zXY + x.toInt64 * y.toInt64) (upd mPx zN.toNatClampNeg x) (upd mPy zN.toNatClampNeg y) := by
  obtain ⟨n, a, b, c, d, rfl, hn, ha, hb, hc, hd, rfl, rfl, rfl, rfl, hm⟩ := h
  have h1 : n < 20 := (nI_ltI (b := 20) (by omega) (by decide)).mp hz
  obtain ⟨i, hi, rfl⟩ := nI_of2 (M := 10000) (n := 10000) (by decide) hx.1 hx.2
  obtain ⟨j, hj, rfl⟩ := nI_of2 (M := 10000) (n := 10000) (by decide) hy.1 hy.2
  have hii : i * i ≤ 10000 * 10000 := Nat.mul_le_mul hi hi
  have hij : i * j ≤ 10000 * 10000 := Nat.mul_le_mul hi hj
  have e1 : (nI i).toInt64 = lN i := nI_l (by omega)
  have e2 : (nI j).toInt64 = lN j := nI_l (by omega)
  refine ⟨n + 1, a + i, b + j, c + i * i, d + i * j, nI_1 n, by omega, by omega, by omega, by omega, by omega, ?_, ?_, ?_, ?_, ?_⟩
  · rw [e1, lN_add]
  · rw [e2, lN_add]
  · rw [e1, lN_mul, lN_add]
  · rw [e1, e2, lN_mul, lN_add]
  · unfold mftF at hm ⊢
    rw [nI_1, nI_clamp (by omega), mft_step (px := mPx) (py := mPy) (x := nI i) (y := nI j) h1 (fun l hl => ⟨pk_un (by omega), pk_un (by omega)⟩) ⟨pk_us, pk_us⟩ 20 0 0 0 0 0 rfl (Nat.zero_le _), hm]
theorem lN_sub_toInt {a b : Nat} (ha : a < 2 ^ 62) (hb : b < 2 ^ 62) : (lN a - lN b).toInt = (a : Int) - b := by
  rw [Int64.toInt_sub, pk_lT (by omega), pk_lT (by omega), l64 (by omega) (by omega)]
theorem fit_bounds {zN : Int32} {zX zY zXX zXY : Int64} {mPx mPy : Nat → Int32} (h : IL zN zX zY zXX zXY mPx mPy) (w : Int32) :
    -2 ^ 63 < (zN.toInt64 * zXX - zX * zX).toInt ∧ -2 ^ 63 < (if w = 0 then zN.toInt64 * zXY - zX * zY else zY * zXX - zX * zXY).toInt := by
  obtain ⟨n, a, b, c, d, rfl, hn, ha, hb, hc, hd, rfl, rfl, rfl, rfl, hm⟩ := h
  have e0 : (nI n).toInt64 = lN n := nI_l (by omega)
  have b1 : n * c ≤ 20 * 2000000000 := Nat.mul_le_mul hn (by omega)
  have b2 : a * a ≤ 200000 * 200000 := Nat.mul_le_mul (by omega) (by omega)
  have b3 : n * d ≤ 20 * 2000000000 := Nat.mul_le_mul hn (by omega)
  have b4 : a * b ≤ 200000 * 200000 := Nat.mul_le_mul (by omega) (by omega)
  have b5 : b * c ≤ 200000 * 2000000000 := Nat.mul_le_mul (by omega) (by omega)
  have b6 : a * d ≤ 200000 * 2000000000 := Nat.mul_le_mul (by omega) (by omega)
  rw [e0]
  simp only [lN_mul]
  refine ⟨by rw [lN_sub_toInt (by omega) (by omega)]; omega, ?_⟩
  by_cases h : w = 0
  · rw [if_pos h, lN_sub_toInt (by omega) (by omega)]; omega
  · rw [if_neg h, lN_sub_toInt (by omega) (by omega)]; omega
