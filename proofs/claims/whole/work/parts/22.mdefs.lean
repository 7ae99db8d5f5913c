-- EUCLID
def fibU : Nat → Nat
  | 0 => 1
  | 1 => 2
  | n + 2 => fibU (n + 1) + fibU n
theorem fibU_pos : ∀ n, 0 < fibU n
  | 0 => by decide
  | 1 => by decide
  | n + 2 => by
    have := fibU_pos n
    show 0 < fibU (n + 1) + fibU n
    omega
def gcdN : Nat → Nat → Nat → Nat
  | 0, a, _ => a
  | n + 1, a, b => if b = 0 then a else gcdN n b (a % b)
theorem gcd_step (a b : Nat) : Nat.gcd a b = Nat.gcd b (a % b) := by
  rw [Nat.gcd_comm a b, Nat.gcd_rec b a, Nat.gcd_comm]
theorem gcdN_two : ∀ n, (∀ a b, b < fibU n → gcdN n a b = Nat.gcd a b) ∧ (∀ a b, b < fibU (n + 1) → gcdN (n + 1) a b = Nat.gcd a b) := by
  intro n
  induction n with
  | zero =>
    refine ⟨fun a b h => ?_, fun a b h => ?_⟩
    · have h0 : b = 0 := by
        have h1 : fibU 0 = 1 := rfl
        omega
      subst h0
      simp [gcdN]
    · have h1 : fibU (0 + 1) = 2 := rfl
      rcases (show b = 0 ∨ b = 1 by omega) with rfl | rfl
      · simp [gcdN]
      · simp [gcdN]
  | succ n ih =>
    refine ⟨ih.2, fun a b h => ?_⟩
    show (if b = 0 then a else gcdN (n + 1) b (a % b)) = _
    by_cases hb : b = 0
    · rw [if_pos hb, hb, Nat.gcd_zero_right]
    · rw [if_neg hb, gcd_step a b]
      have hr : a % b < b := Nat.mod_lt _ (by omega)
      generalize a % b = r at hr
      by_cases h1 : r < fibU (n + 1)
      · exact ih.2 b r h1
      · have h2 : fibU (n + 2) = fibU (n + 1) + fibU n := rfl
        have h3 := fibU_pos (n + 1)
        have h0 : ¬ r = 0 := by omega
        show (if r = 0 then b else gcdN n r (b % r)) = _
        rw [if_neg h0, gcd_step b r]
        refine ih.1 r (b % r) ?_
        have h5 : b % r ≤ b - r := by
          have h6 : b % r = (b - r) % r := by rw [Nat.mod_eq_sub_mod (by omega)]
          rw [h6]
          exact Nat.mod_le _ _
        have h7 : b < fibU (n + 2) := h
        omega
theorem gcdN_gcd {a b : Nat} (hb : b < 2 ^ 63) : gcdN 100 a b = Nat.gcd a b :=
  (gcdN_two 100).1 a b (Nat.lt_of_lt_of_le hb (by decide +kernel))
theorem gcdL_nat : ∀ (n a b : Nat), a < 2 ^ 63 → b < 2 ^ 63 → gcdL n (lN a) (lN b) = lN (gcdN n a b)
  | 0, a, b, _, _ => rfl
  | n + 1, a, b, ha, hb => by
    have h0 : (lN b = 0) ↔ b = 0 := pk_lEQ hb (by decide)
    rw [gcdL, gcdN]
    by_cases h : b = 0
    · rw [if_pos (h0.mpr h), if_pos h]
    · rw [if_neg (fun z => h (h0.mp z)), if_neg h, pk_lRem ha (by omega) hb]
      exact gcdL_nat n b (a % b) hb (Nat.lt_of_lt_of_le (Nat.mod_lt _ (by omega)) (Nat.le_of_lt hb))
-- WHAT THE REFERENCE'S METHODS ANSWER, as functions of numbers
section VQK
variable {p : Program} {l : Launch} {e : Env} {R : Room} {s : State} {m : MethodId} {args : Array Value} {below : List Frame} {meth : Method} {c : Code} {H : Heap} {locs : List Loc} {cells slots : Nat} {Q : State → Prop}
theorem vq_cut {g g' : JFrame} (f : W p l e R s m args below meth c H locs cells slots Q g' → W p l e R s m args below meth c H locs cells slots Q g) (k : W p l e R s m args below meth c H locs cells slots Q g') : W p l e R s m args below meth c H locs cells slots Q g := f k
end VQK
def inF (v lo hi : Int32) : Int32 := if v < lo then 0 else if hi < v then 0 else 1
theorem inF_or (v lo hi : Int32) : inF v lo hi = 0 ∨ inF v lo hi = 1 := by
  unfold inF
  by_cases h1 : v < lo
  · left; rw [if_pos h1]
  · by_cases h2 : hi < v
    · left; rw [if_neg h1, if_pos h2]
    · right; rw [if_neg h1, if_neg h2]
theorem narB_in (v lo hi : Int32) : narrow .boolean (.int (inF v lo hi)) = .int (inF v lo hi) := by
  rcases inF_or v lo hi with h | h <;> rw [h] <;> rfl
def thF (a b c d : Int32) : Int32 := if a = 0 then (if b = 0 then (if c = 0 then (if d = 0 then 0 else 4) else 3) else 2) else 1
def thB (t : Int32) : Int32 := if t ≤ 0 then 0 else 1
