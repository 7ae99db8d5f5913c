-- EUCLID
def fibU : Nat → Nat
  | 0 => 1
  | 1 => 2
  | n + 2 => fibU (n + 1) + fibU n
theorem fibU_pos : ∀ n, 0 < fibU n
  | 0 => by decide
  | 1 => by decide
  | n + 2 => by
    have := fibU_pos n
    show 0 < fibU (n + 1) + fibU n
    omega
def gcdN : Nat → Nat → Nat → Nat
  | 0, a, _ => a
  | n + 1, a, b => if b = 0 then a else gcdN n b (a % b)
theorem gcd_step (a b : Nat) : Nat.gcd a b = Nat.gcd b (a % b) := by
  rw [Nat.gcd_comm a b, Nat.gcd_rec b a, Nat.gcd_comm]
theorem gcdN_two : ∀ n, (∀ a b, b < fibU n → gcdN n a b = Nat.gcd a b) ∧ (∀ a b, b < fibU (n + 1) → gcdN (n + 1) a b = Nat.gcd a b) := by
  intro n
  induction n with
  | zero =>
    refine ⟨fun a b h => ?_, fun a b h => ?_⟩
    · have h0 : b = 0 := by
        have h1 : fibU 0 = 1 := rfl
        omega
      subst h0
      simp [gcdN]
    · have h1 : fibU (0 + 1) = 2 := rfl
      rcases (show b = 0 ∨ b = 1 by omega) with rfl | rfl
      · simp [gcdN]
      · simp [gcdN]
  | succ n ih =>
    refine ⟨ih.2, fun a b h => ?_⟩
    show (if b = 0 then a else gcdN (n + 1) b (a % b)) = _
    by_cases hb : b = 0
    · rw [if_pos hb, hb, Nat.gcd_zero_right]
    · rw [if_neg hb, gcd_step a b]
      have hr : a % b < b := Nat.mod_lt _ (by omega)
      generalize a % b = r at hr
      by_cases h1 : r < fibU (n + 1)
      · exact ih.2 b r h1
      · have h2 : fibU (n + 2) = fibU (n + 1) + fibU n := rfl
        have h3 := fibU_pos (n + 1)
        have h0 : ¬ r = 0 := by omega
        show (if r = 0 then b else gcdN n r (b % r)) = _
        rw [if_neg h0, gcd_step b r]
        refine ih.1 r (b % r) ?_
        have h5 : b % r ≤ b - r := by
          have h6 : b % r = (b - r) % r := by rw [Nat.mod_eq_sub_mod (by omega)]
          rw [h6]
          exact Nat.mod_le _ _
        have h7 : b < fibU (n + 2) := h
        omega
theorem gcdN_gcd {a b : Nat} (hb : b < 2 ^ 63) : gcdN 100 a b = Nat.gcd a b :=
  (gcdN_two 100).1 a b (Nat.lt_of_lt_of_le hb (by decide +kernel))
theorem gcdL_nat : ∀ (n a b : Nat), a < 2 ^ 63 → b < 2 ^ 63 → gcdL n (lN a) (lN b) = lN (gcdN n a b)
  | 0, a, b, _, _ => rfl
  | n + 1, a, b, ha, hb => by
    have h0 : (lN b = 0) ↔ b = 0 := pk_lEQ hb (by decide)
    rw [gcdL, gcdN]
    by_cases h : b = 0
    · rw [if_pos (h0.mpr h), if_pos h]
    · rw [if_neg (fun z => h (h0.mp z)), if_neg h, pk_lRem ha (by omega) hb]
      exact gcdL_nat n b (a % b) hb (Nat.lt_of_lt_of_le (Nat.mod_lt _ (by omega)) (Nat.le_of_lt hb))
-- WHAT THE REFERENCE'S METHODS ANSWER, as functions of numbers
section VQK
variable {p : Program} {l : Launch} {e : Env} {R : Room} {s : State} {m : MethodId} {args : Array Value} {below : List Frame} {meth : Method} {c : Code} {H : Heap} {locs : List Loc} {cells slots : Nat} {Q : State → Prop}
theorem vq_cut {g g' : JFrame} (f : W p l e R s m args below meth c H locs cells slots Q g' → W p l e R s m args below meth c H locs cells slots Q g) (k : W p l e R s m args below meth c H locs cells slots Q g') : W p l e R s m args below meth c H locs cells slots Q g := f k
end VQK
def inF (v lo hi : Int32) : Int32 := if v < lo then 0 else if hi < v then 0 else 1
theorem inF_or (v lo hi : Int32) : inF v lo hi = 0 ∨ inF v lo hi = 1 := by
  unfold inF
  by_cases h1 : v < lo
  · left; rw [if_pos h1]
  · by_cases h2 : hi < v
    · left; rw [if_neg h1, if_pos h2]
    · right; rw [if_neg h1, if_neg h2]
theorem narB_in (v lo hi : Int32) : narrow .boolean (.int (inF v lo hi)) = .int (inF v lo hi) := by
  rcases inF_or v lo hi with h | h <;> rw [h] <;> rfl
def thF (a b c d : Int32) : Int32 := if a = 0 then (if b = 0 then (if c = 0 then (if d = 0 then 0 else 4) else 3) else 2) else 1
def thB (t : Int32) : Int32 := if t ≤ 0 then 0 else 1
def mstV (mDy mMa mKi : Nat → Int32) (to x : Int32) (i : Nat) : Int32 := if mMa (nI i).toNatClampNeg = x then (if to < mDy (nI i).toNatClampNeg then 0 else mKi (nI i).toNatClampNeg) else 0
def mstL (mDy mMa mKi : Nat → Int32) (cn to x : Int32) : Nat → Nat → Int32 → Int32
  | 0, _, acc => acc
  | n + 1, i, acc => if cn ≤ nI i then acc else mstL mDy mMa mKi cn to x n (i + 1) (acc + mstV mDy mMa mKi to x i)
def mstF (mLa mDy mMa mKi : Nat → Int32) (cn to x : Int32) : Int32 := mstL mDy mMa mKi cn to x 40 0 (-(mLa x.toNatClampNeg))
def mgoL (mLy mGr : Nat → Int32) (x : Int32) : Nat → Nat → Int32 → Int32
  | 0, _, acc => acc
  | n + 1, i, acc => if mLy x.toNatClampNeg ≤ nI i then acc else mgoL mLy mGr x n (i + 1) (acc + mGr (20 * x + nI i).toNatClampNeg)
def mgoF (mLy mGr : Nat → Int32) (x : Int32) : Int32 := mgoL mLy mGr x 20 0 0
def ahF (gr : Int32) (k : Int64) (al : Int32) : Int64 := (gr.toInt64 * k) / al.toInt64
def mtkF (mSl mGr : Nat → Int32) (x y k : Int32) : Int64 := ahF (mGr (20 * x + y).toNatClampNeg) (k.toInt64 + 1) (mSl x.toNatClampNeg) - ahF (mGr (20 * x + y).toNatClampNeg) k.toInt64 (mSl x.toNatClampNeg)
def mgiL (mSl mLy mGr : Nat → Int32) (x k : Int32) : Nat → Nat → Int64 → Int64
  | 0, _, acc => acc
  | n + 1, i, acc => if mLy x.toNatClampNeg ≤ nI i then acc else mgiL mSl mLy mGr x k n (i + 1) (acc + mtkF mSl mGr x (nI i) k)
def mgiF (mSl mLy mGr : Nat → Int32) (x k : Int32) : Int64 := mgiL mSl mLy mGr x k 20 0 0
def mhiL (mSl mLy mGr mLS : Nat → Int32) (x k y : Int32) : Nat → Nat → Int64 → Int64
  | 0, _, acc => acc
  | n + 1, i, acc => if mLy x.toNatClampNeg ≤ nI i then acc else mhiL mSl mLy mGr mLS x k y n (i + 1) (acc + mtkF mSl mGr x (nI i) k * (mLS (4 * (20 * x + nI i) + y).toNatClampNeg).toInt64)
def mhiF (mSl mLy mGr mLS : Nat → Int32) (x k y : Int32) : Int64 := mhiL mSl mLy mGr mLS x k y 20 0 0
def unF (a t : Int32) : Int32 := if a = 0 then 0 else (if t = 0 then 1 else 0)
theorem vq_inE {x : Int32} (h : okE x) : vp_in x 4 := vq_in 4 rfl h.1 h.2
theorem vq_ix80 {x : Int32} (h : okE x) {i : Nat} (hi : i < 20) : vp_in (20 * x + nI i) 80 := by
  obtain ⟨j, hj, rfl⟩ := vq_nat (N := 4) (n := 4) (by decide) h.1 h.2
  rw [show (20 : Int32) = nI 20 from rfl, pk_mul, nI_add]
  exact vp_in_nI (by omega) (by decide)
theorem vq_ix320 {x y : Int32} (h : okE x) {i : Nat} (hi : i < 20) (hy : okE y) : vp_in (4 * (20 * x + nI i) + y) 320 := by
  obtain ⟨j, hj, rfl⟩ := vq_nat (N := 4) (n := 4) (by decide) h.1 h.2
  obtain ⟨k, hk, rfl⟩ := vq_nat (N := 4) (n := 4) (by decide) hy.1 hy.2
  rw [show (20 : Int32) = nI 20 from rfl, show (4 : Int32) = nI 4 from rfl, pk_mul, nI_add, pk_mul, nI_add]
  exact vp_in_nI (by omega) (by decide)
theorem inF_1 {v lo hi : Int32} (h : ¬ inF v lo hi = 0) : ¬ v < lo ∧ ¬ hi < v := by
  unfold inF at h
  by_cases h1 : v < lo
  · rw [if_pos h1] at h; exact absurd rfl h
  · by_cases h2 : hi < v
    · rw [if_neg h1, if_pos h2] at h; exact absurd rfl h
    · exact ⟨h1, h2⟩
theorem inF_M {x : Int32} (h : ¬ inF x 0 7 = 0) : okM x := by
  obtain ⟨h1, h2⟩ := inF_1 h
  refine ⟨h1, ?_⟩
  rw [Int32.lt_iff_toInt_lt] at h2 ⊢
  have h3 : (7 : Int32).toInt = 7 := by decide
  have h4 : (8 : Int32).toInt = 8 := by decide
  omega
theorem inF_E {x : Int32} (h : ¬ inF x 0 3 = 0) : okE x := by
  obtain ⟨h1, h2⟩ := inF_1 h
  refine ⟨h1, ?_⟩
  rw [Int32.lt_iff_toInt_lt] at h2 ⊢
  have h3 : (3 : Int32).toInt = 3 := by decide
  have h4 : (4 : Int32).toInt = 4 := by decide
  omega
theorem inF_P {x n : Int32} (hn : ¬ n < 0) (h4 : n ≤ 4) (h : ¬ inF x 0 (n - 1) = 0) : okE x := by
  obtain ⟨h1, h2⟩ := inF_1 h
  refine ⟨h1, ?_⟩
  obtain ⟨j, hj, rfl⟩ := nI_of hn
  have h5 : j ≤ 4 := by
    rw [Int32.le_iff_toInt_le, nI_toInt hj] at h4
    have : (4 : Int32).toInt = 4 := by decide
    omega
  have h6 : (nI j - 1).toInt = (j : Int) - 1 := pk_sub_toInt (a := j) (b := 1) (by omega) (by decide)
  rw [Int32.lt_iff_toInt_lt] at h2 ⊢
  have h7 : (4 : Int32).toInt = 4 := by decide
  omega
def nB (v : Int32) : Int32 := if v = 0 then 1 else 0
def orN (a b : Int32) : Int32 := if a = 0 then 1 else (if b = 0 then 1 else 0)
def or3 (a b c : Int32) : Int32 := if a = 0 then 1 else (if b = 0 then 1 else (if c = 0 then 1 else 0))
def eqB (a b : Int32) : Int32 := if a = b then 1 else 0
def lateF (b t : Int32) : Int32 := if b = 0 then (if t ≤ 0 then 0 else 1) else 0
def muchF (b ly st kg : Int32) : Int32 := if b = 0 then (if ly = 20 then 1 else (if kg ≤ st then 0 else 1)) else 0
def sel {α : Type} (t : Int32) (a b : α) : α := if thB t = 0 then a else b
def mlS (f : Nat → Int32) (l : Int32) (mSh : Nat → Int32) (y k : Int32) : Nat → Int32 := upd f (4 * l + k).toNatClampNeg (mSh (4 * y + k).toNatClampNeg)
def ml4 (f : Nat → Int32) (l : Int32) (mSh : Nat → Int32) (y : Int32) : Nat → Int32 := mlS (mlS (mlS (mlS f l mSh y 0) l mSh y 1) l mSh y 2) l mSh y 3
theorem b10 : ¬ (1 : Int32) = 0 := by decide
theorem thB_all {a b c d : Int32} (h : thB (thF a b c d) = 0) : a = 0 ∧ b = 0 ∧ c = 0 ∧ d = 0 := by
  unfold thB thF at h
  by_cases h1 : a = 0
  · by_cases h2 : b = 0
    · by_cases h3 : c = 0
      · by_cases h4 : d = 0
        · exact ⟨h1, h2, h3, h4⟩
        · rw [if_pos h1, if_pos h2, if_pos h3, if_neg h4] at h; exact absurd h (by decide)
      · rw [if_pos h1, if_pos h2, if_neg h3] at h; exact absurd h (by decide)
    · rw [if_pos h1, if_neg h2] at h; exact absurd h (by decide)
  · rw [if_neg h1] at h; exact absurd h (by decide)
theorem nB_0 {v : Int32} (h : nB v = 0) : ¬ v = 0 := by
  intro z
  unfold nB at h
  rw [if_pos z] at h
  exact b10 h
theorem orN_0 {a b : Int32} (h : orN a b = 0) : ¬ a = 0 ∧ ¬ b = 0 := by
  unfold orN at h
  by_cases h1 : a = 0
  · rw [if_pos h1] at h; exact absurd h b10
  · by_cases h2 : b = 0
    · rw [if_neg h1, if_pos h2] at h; exact absurd h b10
    · exact ⟨h1, h2⟩
theorem or3_0 {a b c : Int32} (h : or3 a b c = 0) : ¬ a = 0 ∧ ¬ b = 0 ∧ ¬ c = 0 := by
  unfold or3 at h
  by_cases h1 : a = 0
  · rw [if_pos h1] at h; exact absurd h b10
  · by_cases h2 : b = 0
    · rw [if_neg h1, if_pos h2] at h; exact absurd h b10
    · by_cases h3 : c = 0
      · rw [if_neg h1, if_neg h2, if_pos h3] at h; exact absurd h b10
      · exact ⟨h1, h2, h3⟩
theorem eqB_0 {a b : Int32} (h : eqB a b = 0) : ¬ a = b := by
  intro z
  unfold eqB at h
  rw [if_pos z] at h
  exact b10 h
theorem vq_inM {x : Int32} (h : okM x) : vp_in x 8 := vq_in 8 rfl h.1 h.2
theorem vq_comm4 (x : Int32) : 4 * x = x * 4 := Int32.mul_comm 4 x
theorem vq_ix4M {x k : Int32} (h : okM x) (h2 : okE k) : vp_in (4 * x + k) 32 := by
  rw [vq_comm4]; exact vq_ixE h h2
theorem vq_ix4e {x : Int32} (h : okM x) {e : Nat} (he : e < 4) : vp_in (4 * x + nI e) 32 := by
  rw [vq_comm4]; exact vq_ixM h he
theorem lt_of_ne {x N : Int32} (h : x ≤ N) (hn : ¬ x = N) : x < N := by
  rw [Int32.lt_iff_toInt_lt]
  rw [Int32.le_iff_toInt_le] at h
  rcases Int.lt_or_eq_of_le h with g | g
  · exact g
  · exact absurd (Int32.toInt_inj.mp g) hn
theorem vq_lt40 {x : Int32} (h : ¬ x < 0) (h1 : x ≤ 40) (h2 : ¬ x = 40) : vp_in x 40 := vq_in 40 rfl h (lt_of_ne h1 h2)
theorem vq_lt4 {x : Int32} (h : ¬ x < 0) (h1 : x ≤ 4) (h2 : ¬ x = 4) : vp_in x 4 := vq_in 4 rfl h (lt_of_ne h1 h2)
theorem muchF_0 {b ly st kg : Int32} (hb : b = 0) (h : muchF b ly st kg = 0) (h2 : ¬ ly < 0 ∧ ly ≤ 20) : ok20 ly := by
  unfold muchF at h
  rw [if_pos hb] at h
  by_cases h1 : ly = 20
  · rw [if_pos h1] at h; exact absurd h b10
  · exact ⟨h2.1, lt_of_ne h2.2 h1⟩
theorem vq_ixl {x y : Int32} (h : okE x) (h2 : ok20 y) : vp_in (20 * x + y) 80 := by
  obtain ⟨k, hk, rfl⟩ := vq_nat (N := 20) (n := 20) (by decide) h2.1 h2.2
  exact vq_ix80 h hk
theorem vq_ixle {x y : Int32} (h : okE x) (h2 : ok20 y) {e : Nat} (he : e < 4) : vp_in (4 * (20 * x + y) + nI e) 320 := by
  obtain ⟨k, hk, rfl⟩ := vq_nat (N := 20) (n := 20) (by decide) h2.1 h2.2
  exact vq_ix320 h hk ⟨nI_pos (by omega), nI_lt (b := 4) he (by decide)⟩
theorem ok20_s {y : Int32} (h : ok20 y) : y + 1 ≤ 20 := by
  obtain ⟨k, hk, rfl⟩ := vq_nat (N := 20) (n := 20) (by decide) h.1 h.2
  rw [nI_1]
  exact nI_le (b := 20) (by omega) (by decide)
def poF (u v : Int64) (q : Int32) (x y : Nat) : Int64 := ((if 0 ≤ v then 1 else (-1)) * (if q = 0 then u else v)) / lN (Nat.gcd x y)
def noneF (b ly tk sl : Int32) : Int32 := if b = 0 then (if ly = 0 then 1 else (if tk = sl then 1 else 0)) else 0
def andB (b u : Int32) : Int32 := if b = 0 then (if u = 0 then 0 else 1) else 0
def allF (b n : Int32) (g : Int64) : Int64 := if b = 0 then (if n = 0 then g else 1) else 1
def eqL (a : Int64) : Int32 := if a = 0 then 1 else 0
def kxF (b x k : Int32) : Int32 := if b = 0 then 4 * x + k else 0
def smP (a b : Int64) (u : (Nat → Int64) × (Nat → Int64)) (k : Int32) : (Nat → Int64) × (Nat → Int64) :=
  if u.2 k.toNatClampNeg = 0 then (vp_updL u.1 k.toNatClampNeg a, vp_updL u.2 k.toNatClampNeg b) else if a * u.2 k.toNatClampNeg ≤ u.1 k.toNatClampNeg * b then u else (vp_updL u.1 k.toNatClampNeg a, vp_updL u.2 k.toNatClampNeg b)
def seP (a b : Int64) (u : (Nat → Int64) × (Nat → Int64)) (k : Int32) : (Nat → Int64) × (Nat → Int64) :=
  if u.2 k.toNatClampNeg = 0 then (vp_updL u.1 k.toNatClampNeg a, vp_updL u.2 k.toNatClampNeg b) else if u.1 k.toNatClampNeg * b ≤ a * u.2 k.toNatClampNeg then u else (vp_updL u.1 k.toNatClampNeg a, vp_updL u.2 k.toNatClampNeg b)
theorem vq_ix16 {x k : Int32} (h : okE x) (h2 : okE k) : vp_in (4 * x + k) 16 := by
  obtain ⟨j, hj, rfl⟩ := vq_nat (N := 4) (n := 4) (by decide) h.1 h.2
  obtain ⟨i, hi, rfl⟩ := vq_nat (N := 4) (n := 4) (by decide) h2.1 h2.2
  rw [show (4 : Int32) = nI 4 from rfl, pk_mul, nI_add]
  exact vp_in_nI (by omega) (by decide)
theorem vq_kx {x k q n : Int32} (hn : ¬ n < 0) (h4 : n ≤ 4) : vp_in (kxF (or3 (inF x 0 (n - 1)) (inF k 0 3) (inF q 0 1)) x k) 16 := by
  unfold kxF
  by_cases h : or3 (inF x 0 (n - 1)) (inF k 0 3) (inF q 0 1) = 0
  · rw [if_pos h]
    exact vq_ix16 (inF_P hn h4 (or3_0 h).1) (inF_E (or3_0 h).2.1)
  · rw [if_neg h]
    exact vq_in 16 rfl (by decide) (by decide)
theorem po_abs {v : Int64} {x : Nat} (h : v = lN x) (hx : x < 2 ^ 63) : (if 0 ≤ v then v else (-v)) = lN x := by
  rw [if_pos (by rw [h]; exact (pk_lLE (a := 0) (by decide) hx).mpr (Nat.zero_le _))]
  exact h
theorem po_nz {x y : Nat} (hx : x < 2 ^ 63) (h0 : 0 < x) : ¬ lN (Nat.gcd x y) = 0 := by
  intro z
  have h1 : Nat.gcd x y ≤ x := Nat.gcd_le_left y h0
  have h2 : Nat.gcd x y = 0 := (pk_lEQ (b := 0) (by omega) (by decide)).mp z
  have h3 : 0 < Nat.gcd x y := Nat.gcd_pos_of_pos_left y h0
  omega
def mpaL (mSl mTk mLy mGr : Nat → Int32) (x : Int32) : Nat → Nat → Int64 → Int64
  | 0, _, acc => acc
  | n + 1, i, acc => if mLy x.toNatClampNeg ≤ nI i then acc else mpaL mSl mTk mLy mGr x n (i + 1) (acc + ahF (mGr (20 * x + nI i).toNatClampNeg) (mTk x.toNatClampNeg).toInt64 (mSl x.toNatClampNeg))
def mpaF (mSl mTk mLy mGr : Nat → Int32) (x : Int32) : Int64 := mpaL mSl mTk mLy mGr x 20 0 0
def paF (w sl tk ly gr gt : Int32) : Int32 := if w = 0 then sl else if w = 1 then tk else if w = 2 then ly else if w = 3 then gr else gt
def or5 (a b x y c d : Int32) : Int32 := if a = 0 then 1 else (if b = 0 then 1 else (if x = y then 1 else (if c = 0 then 1 else (if d = 0 then 1 else 0))))
theorem or5_0 {a b x y c d : Int32} (h : or5 a b x y c d = 0) : ¬ a = 0 ∧ ¬ b = 0 ∧ ¬ x = y ∧ ¬ c = 0 ∧ ¬ d = 0 := by
  unfold or5 at h
  by_cases h1 : a = 0
  · rw [if_pos h1] at h; exact absurd h b10
  · by_cases h2 : b = 0
    · rw [if_neg h1, if_pos h2] at h; exact absurd h b10
    · by_cases h3 : x = y
      · rw [if_neg h1, if_neg h2, if_pos h3] at h; exact absurd h b10
      · by_cases h4 : c = 0
        · rw [if_neg h1, if_neg h2, if_neg h3, if_pos h4] at h; exact absurd h b10
        · by_cases h5 : d = 0
          · rw [if_neg h1, if_neg h2, if_neg h3, if_neg h4, if_pos h5] at h; exact absurd h b10
          · exact ⟨h1, h2, h3, h4, h5⟩
def upF (b u : Int32) : Int32 := if b = 0 then u else 0
def lwF (b u : Int32) : Int32 := if b = 0 then u else 1
def nevF (up low : Int32) : Int32 := if low = 0 then 1 else (if low ≤ 0 then (if 0 < up then 1 else (if low ≤ up then 0 else 1)) else (if up < 0 then 1 else (if up ≤ low then 0 else 1)))
theorem vq_lt20 {x : Int32} (h : ¬ x < 0) (h1 : x ≤ 20) (h2 : ¬ x = 20) : vp_in x 20 := vq_in 20 rfl h (lt_of_ne h1 h2)
def mftL (mPx mPy : Nat → Int32) (pt : Int32) : Nat → Nat → Int64 → Int64 → Int64 → Int64 → Int64 × Int64 × Int64 × Int64
  | 0, _, sx, sy, sxx, sxy => (sx, sy, sxx, sxy)
  | n + 1, i, sx, sy, sxx, sxy => if pt ≤ nI i then (sx, sy, sxx, sxy) else mftL mPx mPy pt n (i + 1) (sx + (mPx (nI i).toNatClampNeg).toInt64) (sy + (mPy (nI i).toNatClampNeg).toInt64) (sxx + (mPx (nI i).toNatClampNeg).toInt64 * (mPx (nI i).toNatClampNeg).toInt64) (sxy + (mPx (nI i).toNatClampNeg).toInt64 * (mPy (nI i).toNatClampNeg).toInt64)
def mftF (mPx mPy : Nat → Int32) (pt : Int32) : Int64 × Int64 × Int64 × Int64 := mftL mPx mPy pt 20 0 0 0 0 0
def tkB (a t : Int32) : Int32 := if a = 0 then 1 else (if t ≤ 9999 then 0 else 1)
