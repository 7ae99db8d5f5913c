-- WHAT HOLDS BETWEEN TWO CALLS
/-- a pile: its addresses, its ints (slices, layers, grams, taken, grams taken, latest grams), its rows of ints (grams, shares, greatest grams, least grams), its rows of longs (latest, greatest, least sums) -/
abbrev PE : Type := (Nat → Nat) × (Nat → Int32) × (Nat → Nat → Int32) × (Nat → Nat → Int64)
def mkP (ad : Nat → Nat) (sl ly gr tk gt lt : Int32) (LG LS GG EG : Nat → Int32) (Lt GS ES : Nat → Int64) : PE :=
  (ad, (fun i => match i with | 0 => sl | 1 => ly | 2 => gr | 3 => tk | 4 => gt | _ => lt), (fun i => match i with | 0 => LG | 1 => LS | 2 => GG | _ => EG), (fun i => match i with | 0 => Lt | 1 => GS | _ => ES))
def pcells (cs : Nat → ClassId) (q : PE) : va_W :=
  [(q.1 0, .inr (1, [.int (q.2.1 0), .ref (q.1 1), .ref (q.1 2), .int (q.2.1 1), .int (q.2.1 2), .int (q.2.1 3), .int (q.2.1 4), .int (q.2.1 5), .ref (q.1 3), .ref (q.1 4), .ref (q.1 5), .ref (q.1 6), .ref (q.1 7)])),
   (q.1 1, .inl (cs 0, 20, .inl (q.2.2.1 0))), (q.1 2, .inl (cs 0, 80, .inl (q.2.2.1 1))), (q.1 3, .inl (cs 1, 4, .inr (.inl (q.2.2.2 0)))), (q.1 4, .inl (cs 1, 4, .inr (.inl (q.2.2.2 1)))), (q.1 5, .inl (cs 0, 4, .inl (q.2.2.1 2))), (q.1 6, .inl (cs 1, 4, .inr (.inl (q.2.2.2 2)))), (q.1 7, .inl (cs 0, 4, .inl (q.2.2.1 3)))]
def vq_pl (cs : Nat → ClassId) (pls : List PE) : va_W := pls.flatMap (pcells cs)
theorem vq_pl_mid (cs : Nat → ClassId) (L1 L2 : List PE) (q : PE) : vq_pl cs (L1 ++ q :: L2) = vq_pl cs L1 ++ (pcells cs q ++ vq_pl cs L2) := by
  unfold vq_pl
  rw [List.flatMap_append, List.flatMap_cons]
theorem vq_pl_two (cs : Nat → ClassId) (L1 L2 : List PE) : vq_pl cs (L1 ++ L2) = vq_pl cs L1 ++ vq_pl cs L2 := by
  unfold vq_pl
  rw [List.flatMap_append]
theorem vq_pl_one (cs : Nat → ClassId) (q : PE) : vq_pl cs [q] = pcells cs q := by
  unfold vq_pl
  rw [List.flatMap_cons, List.flatMap_nil, List.append_nil]
/-- class's side of a pile -/
def PKc (S T Y : Nat) (G : Nat → Nat) (SH : Nat → Nat → Nat) (q : PE) : Prop :=
  q.2.1 0 = nI S ∧ q.2.1 1 = nI Y ∧ q.2.1 2 = nI (sumN G Y) ∧ q.2.1 3 = nI T ∧ q.2.1 4 = nI (sumN (fun l => nq S (G l) T) Y) ∧ (∀ l, l < 20 → q.2.2.1 0 l = nI (G l)) ∧ (∀ l e, l < 20 → e < 4 → q.2.2.1 1 (l * 4 + e) = nI (SH l e)) ∧
  (0 < T → q.2.1 5 = nI (sumN (fun l => nd S (G l) (T - 1)) Y) ∧ ∀ e, e < 4 → q.2.2.2 0 e = lN (sumN (fun l => nd S (G l) (T - 1) * SH l e) Y))
/-- a share that is kept: by sum and grams in the class, in lowest terms in the reference -/
def SPm (s g : Nat) (mu ml : Int64) : Prop := (g = 0 ∧ ml = 0) ∨ (0 < g ∧ mu = lN (s / Nat.gcd g s) ∧ ml = lN (g / Nat.gcd g s))
def PKs (tot : Nat) (k : Nat) (q : PE) (mMU mML mEU mEL : Nat → Int64) (e : Nat) : Prop :=
  ∃ s1 g1 s2 g2 : Nat, s1 ≤ 200000000000 ∧ g1 ≤ 20000000 ∧ s2 ≤ 200000000000 ∧ g2 ≤ 20000000 ∧ q.2.2.2 1 e = lN s1 ∧ q.2.2.1 2 e = nI g1 ∧ q.2.2.2 2 e = lN s2 ∧ q.2.2.1 3 e = nI g2 ∧ SPm s1 g1 (mMU (4 * k + e)) (mML (4 * k + e)) ∧ SPm s2 g2 (mEU (4 * k + e)) (mEL (4 * k + e)) ∧ (g1 = 0 ↔ tot = 0) ∧ (g2 = 0 ↔ tot = 0)
def PK (k : Nat) (q : PE) (mSl mTk mLy mGr mLS : Nat → Int32) (mMU mML mEU mEL : Nat → Int64) : Prop :=
  ∃ (S T Y : Nat) (G : Nat → Nat) (SH : Nat → Nat → Nat), 1 ≤ S ∧ S ≤ 65536 ∧ T ≤ S ∧ Y ≤ 20 ∧ (∀ l, G l ≤ 1000000) ∧ (∀ l e, SH l e ≤ 10000) ∧ PKc S T Y G SH q ∧ PKm S T Y G SH k mSl mTk mLy mGr mLS ∧ ∀ e, e < 4 → PKs (sumN (fun l => nq S (G l) T) Y) k q mMU mML mEU mEL e
/-- the reference's rows of a pile that isn't made yet -/
def PZ (k : Nat) (mTk mLy mGr mLS : Nat → Int32) (mML mEL : Nat → Int64) : Prop :=
  mTk k = 0 ∧ mLy k = 0 ∧ (∀ l, l < 20 → mGr (20 * k + l) = 0) ∧ (∀ l e, l < 20 → e < 4 → mLS (4 * (20 * k + l) + e) = 0) ∧ ∀ e, e < 4 → mML (4 * k + e) = 0 ∧ mEL (4 * k + e) = 0
/-- class's side of a pile that isn't made yet: its rows are laid, nothing stands in them -/
def PQ (q : PE) : Prop :=
  q.2.1 1 = 0 ∧ q.2.1 2 = 0 ∧ q.2.1 3 = 0 ∧ q.2.1 4 = 0 ∧ (∀ i, q.2.2.1 0 i = 0) ∧ (∀ i, q.2.2.1 1 i = 0) ∧ (∀ i, q.2.2.1 2 i = 0) ∧ (∀ i, q.2.2.1 3 i = 0) ∧ (∀ i, q.2.2.2 1 i = 0) ∧ ∀ i, q.2.2.2 2 i = 0
def IPn (n : Nat) (zPc : Int32) (fPi : Nat → Option Nat) (pls : List PE) (mSl mTk mLy mGr mLS : Nat → Int32) (mMU mML mEU mEL : Nat → Int64) : Prop :=
  n ≤ 4 ∧ zPc = nI n ∧ pls.length = 4 ∧ (∀ i, fPi i = (pls[i]?).map (fun q => q.1 0)) ∧ (∀ k q, k < n → pls[k]? = some q → PK k q mSl mTk mLy mGr mLS mMU mML mEU mEL) ∧ (∀ k, n ≤ k → k < 4 → PZ k mTk mLy mGr mLS mML mEL) ∧ ∀ k q, n ≤ k → pls[k]? = some q → PQ q
def IP (zPc : Int32) (fPi : Nat → Option Nat) (pls : List PE) (mSl mTk mLy mGr mLS : Nat → Int32) (mMU mML mEU mEL : Nat → Int64) : Prop :=
  ∃ n, IPn n zPc fPi pls mSl mTk mLy mGr mLS mMU mML mEU mEL
def IL (zN : Int32) (zX zY zXX zXY : Int64) (mPx mPy : Nat → Int32) : Prop :=
  ∃ n a b c d : Nat, zN = nI n ∧ n ≤ 20 ∧ a ≤ n * 10000 ∧ b ≤ n * 10000 ∧ c ≤ n * 100000000 ∧ d ≤ n * 100000000 ∧ zX = lN a ∧ zY = lN b ∧ zXX = lN c ∧ zXY = lN d ∧ mftF mPx mPy zN = (zX, zY, zXX, zXY)
def I0 (zCn zTo zN : Int32) : Prop := ¬ zCn < 0 ∧ zCn ≤ 40 ∧ ¬ zTo < 0 ∧ zTo ≤ 9999 ∧ ¬ zN < 0 ∧ zN ≤ 20
def Inv (zCn zPc zTo zN : Int32) (zX zY zXX zXY : Int64) (fMo fSh : Nat → Int32) (fPi : Nat → Option Nat) (pls : List PE) (mSl mTk mLy mGr mLS mPx mPy : Nat → Int32) (mMU mML mEU mEL : Nat → Int64) : Prop :=
  I0 zCn zTo zN ∧ (∀ i, okR (fMo i) 0 900) ∧ (∀ i, okR (fSh i) 0 10000) ∧ IL zN zX zY zXX zXY mPx mPy ∧ IP zPc fPi pls mSl mTk mLy mGr mLS mMU mML mEU mEL
theorem upd_all {f : Nat → Int32} {lo hi x : Int32} {k : Nat} (h : ∀ i, okR (f i) lo hi) (hx : okR x lo hi) : ∀ i, okR (upd f k x i) lo hi := by
  intro i
  by_cases g : i = k
  · rw [g, pk_us]; exact hx
  · rw [pk_un g]; exact h i
