-- FRACTIONS IN LOWEST TERMS
theorem l64 {i : Int} (h1 : -2 ^ 63 ≤ i) (h2 : i < 2 ^ 63) : i.bmod (2 ^ 64) = i := Int.bmod_eq_of_le (by omega) (by omega)
theorem tneg {x : Int64} (h : -2 ^ 63 < x.toInt) : (-x).toInt = -x.toInt := by
  have := x.toInt_lt
  rw [Int64.toInt_neg, l64 (by omega) (by omega)]
theorem nmin {x : Int64} (h : -2 ^ 63 < x.toInt) : x ≠ Int64.minValue := by
  intro z
  rw [z] at h
  exact absurd h (by decide)
theorem abs_nat {v : Int64} (h : -2 ^ 63 < v.toInt) : (if 0 ≤ v then v else (-v)) = lN v.toInt.natAbs ∧ v.toInt.natAbs < 2 ^ 63 := by
  have h2 := v.toInt_lt
  have hb : v.toInt.natAbs < 2 ^ 63 := by omega
  refine ⟨?_, hb⟩
  by_cases g : 0 ≤ v
  · rw [if_pos g, ← Int64.toInt_inj, pk_lT hb]
    rw [Int64.le_iff_toInt_le, Int64.toInt_zero] at g
    omega
  · rw [if_neg g, ← Int64.toInt_inj, pk_lT hb, tneg h]
    rw [Int64.le_iff_toInt_le, Int64.toInt_zero] at g
    omega
theorem abs_lt (v : Int64) : (if 0 < v then v else -v) = (if 0 ≤ v then v else (-v)) := by
  by_cases g : 0 < v
  · rw [if_pos g, if_pos]
    rw [Int64.lt_iff_toInt_lt] at g
    rw [Int64.le_iff_toInt_le]; omega
  · rw [if_neg g]
    by_cases k : 0 ≤ v
    · rw [if_pos k]
      have e : v = 0 := by
        rw [← Int64.toInt_inj]
        rw [Int64.lt_iff_toInt_lt] at g
        rw [Int64.le_iff_toInt_le] at k
        omega
      rw [e]; rfl
    · rw [if_neg k]
theorem gcdF_nat {u v : Int64} (hu : -2 ^ 63 < u.toInt) (hv : -2 ^ 63 < v.toInt) : gcdF u v = lN (Nat.gcd v.toInt.natAbs u.toInt.natAbs) := by
  unfold gcdF
  rw [abs_lt, abs_lt, (abs_nat hu).1, (abs_nat hv).1, gcdL_nat 100 _ _ (abs_nat hu).2 (abs_nat hv).2, gcdN_gcd (abs_nat hv).2, Nat.gcd_comm]
/-- the number that is told of U over V -/
def frI (U V : Int) (q : Int32) : Int := ((if 0 ≤ V then 1 else -1) * (if q = 0 then U else V)).tdiv (Nat.gcd V.natAbs U.natAbs : Nat)
theorem gcd_lt {v : Int64} (hv : -2 ^ 63 < v.toInt) (h0 : v.toInt ≠ 0) (b : Nat) : 0 < Nat.gcd v.toInt.natAbs b ∧ Nat.gcd v.toInt.natAbs b < 2 ^ 63 := by
  have h1 : 0 < v.toInt.natAbs := by omega
  exact ⟨Nat.gcd_pos_of_pos_left b h1, Nat.lt_of_le_of_lt (Nat.gcd_le_left b h1) (abs_nat hv).2⟩
theorem tdiv_lt {a : Int} {n : Nat} (h : -2 ^ 63 < a) (h2 : a < 2 ^ 63) : -2 ^ 63 < a.tdiv n ∧ a.tdiv n < 2 ^ 63 := by
  have h3 : (a.tdiv n).natAbs ≤ a.natAbs := by
    rw [Int.natAbs_tdiv]
    exact Nat.div_le_self _ _
  omega
theorem low_spec {u v : Int64} (q : Int32) (hu : -2 ^ 63 < u.toInt) (hv : -2 ^ 63 < v.toInt) (h0 : v.toInt ≠ 0) : (lowF u v q).toInt = frI u.toInt v.toInt q := by
  obtain ⟨g1, g2⟩ := gcd_lt hv h0 u.toInt.natAbs
  unfold lowF
  rw [gcdF_nat hu hv]
  have hz : ¬ lN (Nat.gcd v.toInt.natAbs u.toInt.natAbs) = 0 := fun z => by
    have := (pk_lEQ (b := 0) g2 (by decide)).mp z
    omega
  rw [if_neg hz]
  have hX : -2 ^ 63 < (if q = 0 then u else v).toInt := by
    by_cases h : q = 0
    · rw [if_pos h]; exact hu
    · rw [if_neg h]; exact hv
  have hXI : (if q = 0 then u else v).toInt = if q = 0 then u.toInt else v.toInt := by
    by_cases h : q = 0
    · rw [if_pos h, if_pos h]
    · rw [if_neg h, if_neg h]
  have hd : ((if q = 0 then u else v) / lN (Nat.gcd v.toInt.natAbs u.toInt.natAbs)).toInt = (if q = 0 then u.toInt else v.toInt).tdiv (Nat.gcd v.toInt.natAbs u.toInt.natAbs : Nat) := by
    rw [Int64.toInt_div_of_ne_left _ _ (nmin hX), pk_lT g2, hXI]
  unfold frI
  by_cases k : 0 ≤ v
  · have k2 : 0 ≤ v.toInt := by rw [Int64.le_iff_toInt_le, Int64.toInt_zero] at k; exact k
    rw [if_pos k, hd, if_pos k2, Int.one_mul]
  · have k2 : ¬ 0 ≤ v.toInt := by rw [Int64.le_iff_toInt_le, Int64.toInt_zero] at k; exact k
    rw [if_neg k, if_neg k2]
    have hb := tdiv_lt (n := Nat.gcd v.toInt.natAbs u.toInt.natAbs) hX (if q = 0 then u else v).toInt_lt
    rw [hXI] at hb
    rw [tneg (by rw [hd]; exact hb.1), hd, Int.neg_mul, Int.one_mul, Int.neg_tdiv]
theorem po_spec {u v : Int64} (q : Int32) (hu : -2 ^ 63 < u.toInt) (hv : -2 ^ 63 < v.toInt) (h0 : v.toInt ≠ 0) : (poF u v q v.toInt.natAbs u.toInt.natAbs).toInt = frI u.toInt v.toInt q := by
  obtain ⟨g1, g2⟩ := gcd_lt hv h0 u.toInt.natAbs
  have hX : -2 ^ 63 < (if q = 0 then u else v).toInt := by
    by_cases h : q = 0
    · rw [if_pos h]; exact hu
    · rw [if_neg h]; exact hv
  have hX2 := (if q = 0 then u else v).toInt_lt
  have hXI : (if q = 0 then u else v).toInt = if q = 0 then u.toInt else v.toInt := by
    by_cases h : q = 0
    · rw [if_pos h, if_pos h]
    · rw [if_neg h, if_neg h]
  unfold poF frI
  by_cases k : 0 ≤ v
  · rw [if_pos k, if_pos (show 0 ≤ v.toInt by rw [Int64.le_iff_toInt_le, Int64.toInt_zero] at k; exact k), Int64.one_mul, Int64.toInt_div_of_ne_left _ _ (nmin hX), pk_lT g2, hXI, Int.one_mul]
  · rw [if_neg k, if_neg (show ¬ 0 ≤ v.toInt by rw [Int64.le_iff_toInt_le, Int64.toInt_zero] at k; exact k)]
    have e : (-1 * (if q = 0 then u else v)).toInt = -(if q = 0 then u else v).toInt := by
      rw [← Int64.neg_eq_neg_one_mul, tneg hX]
    rw [Int64.toInt_div_of_ne_left _ _ (nmin (by rw [e]; omega)), pk_lT g2, e, hXI, Int.neg_mul, Int.one_mul]
/-- class and reference tell the same of the same fraction -/
theorem low_po {u v : Int64} (q : Int32) (hu : -2 ^ 63 < u.toInt) (hv : -2 ^ 63 < v.toInt) (h0 : v.toInt ≠ 0) : lowF u v q = poF u v q v.toInt.natAbs u.toInt.natAbs := by
  rw [← Int64.toInt_inj, low_spec q hu hv h0, po_spec q hu hv h0]
/-- .. and of one that is widened by c -/
theorem frI_scale {U V : Int} (q : Int32) {c : Nat} (hc : 0 < c) : frI (c * U) (c * V) q = frI U V q := by
  have hc' : (0 : Int) < c := by omega
  have e1 : Nat.gcd ((c : Int) * V).natAbs ((c : Int) * U).natAbs = c * Nat.gcd V.natAbs U.natAbs := by
    rw [Int.natAbs_mul, Int.natAbs_mul, Int.natAbs_natCast, Nat.gcd_mul_left]
  have e2 : (0 ≤ (c : Int) * V) ↔ 0 ≤ V := by
    constructor
    · intro h
      by_cases g : V < 0
      · exact absurd h (Int.not_le.mpr (Int.mul_neg_of_pos_of_neg hc' g))
      · omega
    · intro h; exact Int.mul_nonneg (by omega) h
  have e3 : (if q = 0 then (c : Int) * U else c * V) = c * (if q = 0 then U else V) := by
    by_cases h : q = 0
    · rw [if_pos h, if_pos h]
    · rw [if_neg h, if_neg h]
  unfold frI
  rw [e1, e3]
  simp only [e2]
  rw [Int.natCast_mul, ← Int.mul_assoc, Int.mul_comm _ (c : Int), Int.mul_assoc, Int.mul_tdiv_mul_of_pos _ _ hc']
/-- what partOf asks of its fraction -/
theorem po_hyps {u v : Int64} (hu : -2 ^ 63 < u.toInt) (hv : -2 ^ 63 < v.toInt) (h0 : v.toInt ≠ 0) : (if 0 ≤ v then v else (-v)) = lN v.toInt.natAbs ∧ (if 0 ≤ u then u else (-u)) = lN u.toInt.natAbs ∧ v.toInt.natAbs < 2 ^ 63 ∧ u.toInt.natAbs < 2 ^ 63 ∧ ¬ lN (Nat.gcd v.toInt.natAbs u.toInt.natAbs) = 0 :=
  ⟨(abs_nat hv).1, (abs_nat hu).1, (abs_nat hv).2, (abs_nat hu).2, po_nz (abs_nat hv).2 (by omega)⟩
