-- PILES, in natural numbers
def nq (S g t : Nat) : Nat := g * t / S
def nd (S g t : Nat) : Nat := nq S g (t + 1) - nq S g t
def sumN (f : Nat → Nat) : Nat → Nat
  | 0 => 0
  | n + 1 => sumN f n + f n
theorem sumN_le {f : Nat → Nat} {b : Nat} : ∀ n, (∀ l, l < n → f l ≤ b) → sumN f n ≤ n * b
  | 0, _ => by simp [sumN]
  | n + 1, h => by
    have h1 := sumN_le n (fun l hl => h l (by omega))
    have h2 := h n (by omega)
    show sumN f n + f n ≤ (n + 1) * b
    rw [Nat.succ_mul]; omega
theorem sumN_congr {f g : Nat → Nat} : ∀ n, (∀ l, l < n → f l = g l) → sumN f n = sumN g n
  | 0, _ => rfl
  | n + 1, h => by
    show sumN f n + f n = sumN g n + g n
    rw [sumN_congr n (fun l hl => h l (by omega)), h n (by omega)]
theorem sumN_add {f g : Nat → Nat} : ∀ n, sumN (fun l => f l + g l) n = sumN f n + sumN g n
  | 0 => rfl
  | n + 1 => by
    show sumN (fun l => f l + g l) n + (f n + g n) = sumN f n + f n + (sumN g n + g n)
    rw [sumN_add n]; omega
theorem sumN_0 {f : Nat → Nat} : ∀ n, (sumN f n = 0 ↔ ∀ l, l < n → f l = 0)
  | 0 => by simp [sumN]
  | n + 1 => by
    show sumN f n + f n = 0 ↔ _
    have ih := sumN_0 (f := f) n
    constructor
    · intro h l hl
      rcases Nat.lt_or_eq_of_le (Nat.lt_succ_iff.mp hl) with g | g
      · exact ih.mp (by omega) l g
      · rw [g]; omega
    · intro h
      have h1 := ih.mpr (fun l hl => h l (by omega))
      have h2 := h n (by omega)
      omega
theorem nq_le {S g t : Nat} (h : t ≤ S) : nq S g t ≤ g := by
  unfold nq
  rcases Nat.eq_zero_or_pos S with hS | hS
  · rw [hS, Nat.div_zero]; exact Nat.zero_le _
  · have : g * t ≤ g * S := Nat.mul_le_mul_left _ h
    calc g * t / S ≤ g * S / S := Nat.div_le_div_right this
      _ = g := Nat.mul_div_cancel _ hS
theorem nq_mono {S g t : Nat} : nq S g t ≤ nq S g (t + 1) := Nat.div_le_div_right (Nat.mul_le_mul_left _ (Nat.le_succ t))
theorem nq_0 {S g : Nat} : nq S g 0 = 0 := by unfold nq; rw [Nat.mul_zero, Nat.zero_div]
theorem nd_add {S g t : Nat} : nq S g t + nd S g t = nq S g (t + 1) := by
  have := nq_mono (S := S) (g := g) (t := t)
  unfold nd; omega
theorem nd_le {S g t : Nat} (h : t + 1 ≤ S) : nd S g t ≤ g := by
  have := nq_le (g := g) h
  unfold nd; omega
theorem ah_nat {S g t : Nat} (h1 : 1 ≤ S) (h2 : S ≤ 65536) (hg : g ≤ 1000000) (ht : t ≤ 65536) : ahF (nI g) (lN t) (nI S) = lN (nq S g t) := by
  have hm : g * t ≤ 1000000 * 65536 := Nat.mul_le_mul hg ht
  unfold ahF nq
  rw [nI_l (by omega), nI_l (by omega), lN_mul, pk_lDiv (by omega) (by omega) (by omega)]
theorem gb_nat {S g t : Nat} (h1 : 1 ≤ S) (h2 : S ≤ 65536) (hg : g ≤ 1000000) (ht : t ≤ 65536) : gbF (nI S) (nI g) (nI t) = nI (nq S g t) := by
  have hm : g * t ≤ 1000000 * 65536 := Nat.mul_le_mul hg ht
  have h3 : (1 : Int32) ≤ nI S := nI_le (a := 1) h1 (by omega)
  unfold gbF nq
  rw [if_pos h3, nI_l (by omega), nI_l (by omega), nI_l (by omega), lN_mul, pk_lDiv (by omega) (by omega) (by omega), lN_i]
theorem pt_nat {S g t : Nat} (h1 : 1 ≤ S) (h2 : S ≤ 65536) (hg : g ≤ 1000000) (ht : t + 1 ≤ S) : ptF (nI S) (nI g) (nI t) = nI (nd S g t) := by
  unfold ptF
  rw [nI_1, gb_nat h1 h2 hg (by omega), gb_nat h1 h2 hg (by omega), pk_sub nq_mono]
  rfl
theorem cl_k : ∀ k, k < 2 ^ 31 → (nI k).toNatClampNeg = k := fun k h => nI_clamp h
/-- an element of a row of a pile -/
theorem ix_le {l e : Nat} (hl : l < 20) (he : e < 4) : (nI l * 4 + nI e).toNatClampNeg = l * 4 + e := by
  rw [show (4 : Int32) = nI 4 from rfl, pk_mul, nI_add, nI_clamp (by omega)]
theorem ix_20 {k l : Nat} (hk : k < 4) (hl : l < 20) : (20 * nI k + nI l).toNatClampNeg = 20 * k + l := by
  rw [show (20 : Int32) = nI 20 from rfl, pk_mul, nI_add, nI_clamp (by omega)]
theorem ix_4 {k l e : Nat} (hk : k < 4) (hl : l < 20) (he : e < 4) : (4 * (20 * nI k + nI l) + nI e).toNatClampNeg = 4 * (20 * k + l) + e := by
  rw [show (20 : Int32) = nI 20 from rfl, show (4 : Int32) = nI 4 from rfl, pk_mul, nI_add, pk_mul, nI_add, nI_clamp (by omega)]
theorem ix_16 {k e : Nat} (hk : k < 4) (he : e < 4) : (4 * nI k + nI e).toNatClampNeg = 4 * k + e := by
  rw [show (4 : Int32) = nI 4 from rfl, pk_mul, nI_add, nI_clamp (by omega)]
theorem cl4_at (f : Nat → Int64) {e : Nat} (he : e < 4) : cl4 f e = 0 := by
  have c0 : (0 : Int32).toNatClampNeg = 0 := by decide
  have c1 : (1 : Int32).toNatClampNeg = 1 := by decide
  have c2 : (2 : Int32).toNatClampNeg = 2 := by decide
  have c3 : (3 : Int32).toNatClampNeg = 3 := by decide
  rcases (show e = 0 ∨ e = 1 ∨ e = 2 ∨ e = 3 by omega) with rfl | rfl | rfl | rfl <;> simp [cl4, clS, vp_updL, c0, c1, c2, c3]
theorem tol4_at (pt : Int32) (fLS : Nat → Int32) (x : Int32) (f : Nat → Int64) {e : Nat} (he : e < 4) : tol4 pt fLS x f e = f e + pt.toInt64 * (fLS (x * 4 + nI e).toNatClampNeg).toInt64 := by
  have c0 : (0 : Int32).toNatClampNeg = 0 := by decide
  have c1 : (1 : Int32).toNatClampNeg = 1 := by decide
  have c2 : (2 : Int32).toNatClampNeg = 2 := by decide
  have c3 : (3 : Int32).toNatClampNeg = 3 := by decide
  have n0 : nI 0 = 0 := rfl
  have n1 : nI 1 = 1 := rfl
  have n2 : nI 2 = 2 := rfl
  have n3 : nI 3 = 3 := rfl
  rcases (show e = 0 ∨ e = 1 ∨ e = 2 ∨ e = 3 by omega) with rfl | rfl | rfl | rfl <;> simp only [tol4, tolS, vp_updL, c0, c1, c2, c3, n0, n1, n2, n3] <;> simp
theorem tkG_nat {S T Y : Nat} {G : Nat → Nat} {fLG : Nat → Int32} (h1s : 1 ≤ S) (h2s : S ≤ 65536) (hT : T + 1 ≤ S) (hY : Y ≤ 20) (hG : ∀ l, G l ≤ 1000000) (hL : ∀ l, l < 20 → fLG l = nI (G l)) : ∀ n i, i + n = 20 → i ≤ Y → tkG (nI S) (nI T) fLG (nI Y) n i (nI (sumN (fun l => nd S (G l) T) i)) = nI (sumN (fun l => nd S (G l) T) Y) := by
  intro n
  induction n with
  | zero =>
    intro i h1 h2
    have e : i = Y := by omega
    rw [e]; rfl
  | succ n ih =>
    intro i h1 h2
    rw [tkG]
    have hc : (nI Y ≤ nI i) ↔ Y ≤ i := by rw [show (nI Y : Int32) = nI Y from rfl]; exact nI_leI (by omega) (by omega)
    by_cases h : Y ≤ i
    · rw [if_pos (hc.mpr h), show i = Y by omega]
    · rw [if_neg (fun z => h (hc.mp z))]
      have h3 := ih (i + 1) (by omega) (by omega)
      rw [← h3]
      congr 1
      rw [nI_clamp (by omega), hL i (by omega), pt_nat h1s h2s (hG i) hT, nI_add]; rfl
theorem tkS_nat {S T Y : Nat} {G : Nat → Nat} {SH : Nat → Nat → Nat} {fLG fLS : Nat → Int32} (h1s : 1 ≤ S) (h2s : S ≤ 65536) (hT : T + 1 ≤ S) (hY : Y ≤ 20) (hG : ∀ l, G l ≤ 1000000) (hH : ∀ l e, SH l e ≤ 10000) (hL : ∀ l, l < 20 → fLG l = nI (G l)) (hS : ∀ l e, l < 20 → e < 4 → fLS (l * 4 + e) = nI (SH l e)) : ∀ n i (f : Nat → Int64), i + n = 20 → i ≤ Y → (∀ e, e < 4 → f e = lN (sumN (fun l => nd S (G l) T * SH l e) i)) → ∀ e, e < 4 → tkS (nI S) (nI T) fLG fLS (nI Y) n i f e = lN (sumN (fun l => nd S (G l) T * SH l e) Y) := by
  intro n
  induction n with
  | zero =>
    intro i f h1 h2 hf e he
    have e1 : i = Y := by omega
    rw [← e1]; exact hf e he
  | succ n ih =>
    intro i f h1 h2 hf e he
    rw [tkS]
    have hc : (nI Y ≤ nI i) ↔ Y ≤ i := nI_leI (by omega) (by omega)
    by_cases h : Y ≤ i
    · rw [if_pos (hc.mpr h), show Y = i by omega]; exact hf e he
    · rw [if_neg (fun z => h (hc.mp z))]
      refine ih (i + 1) _ (by omega) (by omega) (fun e2 he2 => ?_) e he
      have hd := nd_le (g := G i) hT
      have hg := hG i
      have hs := hH i e2
      rw [tol4_at _ _ _ _ he2, hf e2 he2, nI_clamp (by omega), hL i (by omega), pt_nat h1s h2s (hG i) hT, ix_le (by omega) he2, hS i e2 (by omega) he2, nI_l (by omega), nI_l (by omega), lN_mul, lN_add]
      rfl
/-- what the reference's rows hold of the pile k -/
def PKm (S T Y : Nat) (G : Nat → Nat) (SH : Nat → Nat → Nat) (k : Nat) (mSl mTk mLy mGr mLS : Nat → Int32) : Prop :=
  mSl k = nI S ∧ mTk k = nI T ∧ mLy k = nI Y ∧ (∀ l, l < 20 → mGr (20 * k + l) = nI (G l)) ∧ ∀ l e, l < 20 → e < 4 → mLS (4 * (20 * k + l) + e) = nI (SH l e)
theorem mtk_nat {S T Y t : Nat} {G : Nat → Nat} {SH : Nat → Nat → Nat} {k : Nat} {mSl mTk mLy mGr mLS : Nat → Int32} (hm : PKm S T Y G SH k mSl mTk mLy mGr mLS) (hk : k < 4) (h1s : 1 ≤ S) (h2s : S ≤ 65536) (ht : t + 1 ≤ S) (hG : ∀ l, G l ≤ 1000000) {l : Nat} (hl : l < 20) : mtkF mSl mGr (nI k) (nI l) (nI t) = lN (nd S (G l) t) := by
  unfold mtkF
  rw [ix_20 hk hl, nI_clamp (by omega), hm.1, hm.2.2.2.1 l hl, nI_l (by omega), lN_1, ah_nat h1s h2s (hG l) (by omega), ah_nat h1s h2s (hG l) (by omega), lN_sub nq_mono]
  rfl
theorem mgi_nat {S T Y t : Nat} {G : Nat → Nat} {SH : Nat → Nat → Nat} {k : Nat} {mSl mTk mLy mGr mLS : Nat → Int32} (hm : PKm S T Y G SH k mSl mTk mLy mGr mLS) (hk : k < 4) (h1s : 1 ≤ S) (h2s : S ≤ 65536) (ht : t + 1 ≤ S) (hY : Y ≤ 20) (hG : ∀ l, G l ≤ 1000000) : ∀ n i, i + n = 20 → i ≤ Y → mgiL mSl mLy mGr (nI k) (nI t) n i (lN (sumN (fun l => nd S (G l) t) i)) = lN (sumN (fun l => nd S (G l) t) Y) := by
  intro n
  induction n with
  | zero =>
    intro i h1 h2
    have e : i = Y := by omega
    rw [e]; rfl
  | succ n ih =>
    intro i h1 h2
    rw [mgiL]
    have hc : (mLy (nI k).toNatClampNeg ≤ nI i) ↔ Y ≤ i := by rw [nI_clamp (by omega), hm.2.2.1]; exact nI_leI (by omega) (by omega)
    by_cases h : Y ≤ i
    · rw [if_pos (hc.mpr h), show i = Y by omega]
    · rw [if_neg (fun z => h (hc.mp z))]
      have h3 := ih (i + 1) (by omega) (by omega)
      rw [← h3]
      congr 1
      rw [mtk_nat hm hk h1s h2s ht hG (by omega), lN_add]; rfl
theorem mhi_nat {S T Y t : Nat} {G : Nat → Nat} {SH : Nat → Nat → Nat} {k : Nat} {mSl mTk mLy mGr mLS : Nat → Int32} (hm : PKm S T Y G SH k mSl mTk mLy mGr mLS) (hk : k < 4) (h1s : 1 ≤ S) (h2s : S ≤ 65536) (ht : t + 1 ≤ S) (hY : Y ≤ 20) (hG : ∀ l, G l ≤ 1000000) (hH : ∀ l e, SH l e ≤ 10000) {e : Nat} (he : e < 4) : ∀ n i, i + n = 20 → i ≤ Y → mhiL mSl mLy mGr mLS (nI k) (nI t) (nI e) n i (lN (sumN (fun l => nd S (G l) t * SH l e) i)) = lN (sumN (fun l => nd S (G l) t * SH l e) Y) := by
  intro n
  induction n with
  | zero =>
    intro i h1 h2
    have e : i = Y := by omega
    rw [e]; rfl
  | succ n ih =>
    intro i h1 h2
    rw [mhiL]
    have hc : (mLy (nI k).toNatClampNeg ≤ nI i) ↔ Y ≤ i := by rw [nI_clamp (by omega), hm.2.2.1]; exact nI_leI (by omega) (by omega)
    by_cases h : Y ≤ i
    · rw [if_pos (hc.mpr h), show i = Y by omega]
    · rw [if_neg (fun z => h (hc.mp z))]
      have h3 := ih (i + 1) (by omega) (by omega)
      rw [← h3]
      congr 1
      rw [mtk_nat hm hk h1s h2s ht hG (by omega), ix_4 hk (by omega) he, hm.2.2.2.2 i e (by omega) he, nI_l (by have := hH i e; omega), lN_mul, lN_add]; rfl
theorem mgo_nat {Y : Nat} {G : Nat → Nat} {k : Nat} {mLy mGr : Nat → Int32} (hk : k < 4) (hY : Y ≤ 20) (hl : mLy k = nI Y) (hg : ∀ l, l < 20 → mGr (20 * k + l) = nI (G l)) : ∀ n i, i + n = 20 → i ≤ Y → mgoL mLy mGr (nI k) n i (nI (sumN G i)) = nI (sumN G Y) := by
  intro n
  induction n with
  | zero =>
    intro i h1 h2
    have e : i = Y := by omega
    rw [e]; rfl
  | succ n ih =>
    intro i h1 h2
    rw [mgoL]
    have hc : (mLy (nI k).toNatClampNeg ≤ nI i) ↔ Y ≤ i := by rw [nI_clamp (by omega), hl]; exact nI_leI (by omega) (by omega)
    by_cases h : Y ≤ i
    · rw [if_pos (hc.mpr h), show i = Y by omega]
    · rw [if_neg (fun z => h (hc.mp z))]
      have h3 := ih (i + 1) (by omega) (by omega)
      rw [← h3]
      congr 1
      rw [ix_20 hk (by omega), hg i (by omega), nI_add]; rfl
theorem mpa_nat {S T Y : Nat} {G : Nat → Nat} {SH : Nat → Nat → Nat} {k : Nat} {mSl mTk mLy mGr mLS : Nat → Int32} (hm : PKm S T Y G SH k mSl mTk mLy mGr mLS) (hk : k < 4) (h1s : 1 ≤ S) (h2s : S ≤ 65536) (ht : T ≤ S) (hY : Y ≤ 20) (hG : ∀ l, G l ≤ 1000000) : ∀ n i, i + n = 20 → i ≤ Y → mpaL mSl mTk mLy mGr (nI k) n i (lN (sumN (fun l => nq S (G l) T) i)) = lN (sumN (fun l => nq S (G l) T) Y) := by
  intro n
  induction n with
  | zero =>
    intro i h1 h2
    have e : i = Y := by omega
    rw [e]; rfl
  | succ n ih =>
    intro i h1 h2
    rw [mpaL]
    have hc : (mLy (nI k).toNatClampNeg ≤ nI i) ↔ Y ≤ i := by rw [nI_clamp (by omega), hm.2.2.1]; exact nI_leI (by omega) (by omega)
    by_cases h : Y ≤ i
    · rw [if_pos (hc.mpr h), show i = Y by omega]
    · rw [if_neg (fun z => h (hc.mp z))]
      have h3 := ih (i + 1) (by omega) (by omega)
      rw [← h3]
      congr 1
      rw [ix_20 hk (by omega), nI_clamp (by omega), hm.1, hm.2.1, hm.2.2.2.1 i (by omega), nI_l (by omega), ah_nat h1s h2s (hG i) (by omega), lN_add]; rfl
