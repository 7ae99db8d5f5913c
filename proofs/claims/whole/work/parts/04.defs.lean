-- WHAT THE CLASS'S METHODS ANSWER, as functions of numbers
abbrev xI : String := "java/lang/IndexOutOfBoundsException"
abbrev xS : String := "java/lang/IllegalStateException"
abbrev xA : String := "java/lang/IllegalArgumentException"
abbrev xU : String := "java/lang/UnsupportedOperationException"
abbrev okM (x : Int32) : Prop := ¬ x < 0 ∧ x < 8
abbrev okE (x : Int32) : Prop := ¬ x < 0 ∧ x < 4
abbrev okQ (x : Int32) : Prop := ¬ x < 0 ∧ x ≤ 1
abbrev okP (x : Int32) : Prop := ¬ x < 0 ∧ ¬ 4 ≤ x
abbrev ok20 (x : Int32) : Prop := ¬ x < 0 ∧ x < 20
abbrev okR (x lo hi : Int32) : Prop := ¬ x < lo ∧ x ≤ hi
def gcdL : Nat → Int64 → Int64 → Int64
  | 0, dv, _ => dv
  | n + 1, dv, rs => if rs = 0 then dv else gcdL n rs (dv - dv / rs * rs)
def gcdF (u v : Int64) : Int64 := gcdL 100 (if 0 < u then u else -u) (if 0 < v then v else -v)
def lowF (u v : Int64) (q : Int32) : Int64 := if gcdF u v = 0 then 0 else if 0 ≤ v then (if q = 0 then u else v) / gcdF u v else -((if q = 0 then u else v) / gcdF u v)
def stockL (fDy fMa fKi : Nat → Int32) (cn to x : Int32) : Nat → Nat → Int32 → Int32
  | 0, _, acc => acc
  | n + 1, i, acc => if cn ≤ nI i then acc else stockL fDy fMa fKi cn to x n (i + 1) (if fMa (nI i).toNatClampNeg = x then (if to < fDy (nI i).toNatClampNeg then acc else acc + fKi (nI i).toNatClampNeg) else acc)
def stockF (fLa fDy fMa fKi : Nat → Int32) (cn to x : Int32) : Int32 := stockL fDy fMa fKi cn to x 40 0 (-(fLa x.toNatClampNeg))
def gbF (sl g y : Int32) : Int32 := if 1 ≤ sl then ((g.toInt64 * y.toInt64) / sl.toInt64).toInt32 else 0
def ptF (sl g tk : Int32) : Int32 := gbF sl g (tk + 1) - gbF sl g tk
def alS (fLS : Nat → Int32) (ly : Int32) (fSh : Nat → Int32) (x k : Int32) : Nat → Int32 := upd fLS (ly * 4 + k).toNatClampNeg (fSh (x * 4 + k).toNatClampNeg)
def al4 (fLS : Nat → Int32) (ly : Int32) (fSh : Nat → Int32) (x : Int32) : Nat → Int32 := alS (alS (alS (alS fLS ly fSh x 0) ly fSh x 1) ly fSh x 2) ly fSh x 3
def clS (f : Nat → Int64) (k : Int32) : Nat → Int64 := vp_updL f k.toNatClampNeg 0
def cl4 (f : Nat → Int64) : Nat → Int64 := clS (clS (clS (clS f 0) 1) 2) 3
def tolS (pt : Int32) (fLS : Nat → Int32) (x : Int32) (f : Nat → Int64) (k : Int32) : Nat → Int64 := vp_updL f k.toNatClampNeg (f k.toNatClampNeg + pt.toInt64 * (fLS (x * 4 + k).toNatClampNeg).toInt64)
def tol4 (pt : Int32) (fLS : Nat → Int32) (x : Int32) (f : Nat → Int64) : Nat → Int64 := tolS pt fLS x (tolS pt fLS x (tolS pt fLS x (tolS pt fLS x f 0) 1) 2) 3
def tkG (sl tk : Int32) (fLG : Nat → Int32) (ly : Int32) : Nat → Nat → Int32 → Int32
  | 0, _, lt => lt
  | n + 1, i, lt => if ly ≤ nI i then lt else tkG sl tk fLG ly n (i + 1) (lt + ptF sl (fLG (nI i).toNatClampNeg) tk)
def tkS (sl tk : Int32) (fLG fLS : Nat → Int32) (ly : Int32) : Nat → Nat → (Nat → Int64) → (Nat → Int64)
  | 0, _, f => f
  | n + 1, i, f => if ly ≤ nI i then f else tkS sl tk fLG fLS ly n (i + 1) (tol4 (ptF sl (fLG (nI i).toNatClampNeg) tk) fLS (nI i) f)
def ngS (lt : Int32) (fLt fGS : Nat → Int64) (fGG : Nat → Int32) (k : Int32) : Nat → Int64 :=
  if fGG k.toNatClampNeg = 0 then vp_updL fGS k.toNatClampNeg (fLt k.toNatClampNeg) else if fLt k.toNatClampNeg * (fGG k.toNatClampNeg).toInt64 ≤ fGS k.toNatClampNeg * lt.toInt64 then fGS else vp_updL fGS k.toNatClampNeg (fLt k.toNatClampNeg)
def ngG (lt : Int32) (fLt fGS : Nat → Int64) (fGG : Nat → Int32) (k : Int32) : Nat → Int32 :=
  if fGG k.toNatClampNeg = 0 then upd fGG k.toNatClampNeg lt else if fLt k.toNatClampNeg * (fGG k.toNatClampNeg).toInt64 ≤ fGS k.toNatClampNeg * lt.toInt64 then fGG else upd fGG k.toNatClampNeg lt
def neS (lt : Int32) (fLt fES : Nat → Int64) (fEG : Nat → Int32) (k : Int32) : Nat → Int64 :=
  if fEG k.toNatClampNeg = 0 then vp_updL fES k.toNatClampNeg (fLt k.toNatClampNeg) else if fES k.toNatClampNeg * lt.toInt64 ≤ fLt k.toNatClampNeg * (fEG k.toNatClampNeg).toInt64 then fES else vp_updL fES k.toNatClampNeg (fLt k.toNatClampNeg)
def neG (lt : Int32) (fLt fES : Nat → Int64) (fEG : Nat → Int32) (k : Int32) : Nat → Int32 :=
  if fEG k.toNatClampNeg = 0 then upd fEG k.toNatClampNeg lt else if fES k.toNatClampNeg * lt.toInt64 ≤ fLt k.toNatClampNeg * (fEG k.toNatClampNeg).toInt64 then fEG else upd fEG k.toNatClampNeg lt
def ngP (lt : Int32) (fLt : Nat → Int64) (u : (Nat → Int64) × (Nat → Int32)) (k : Int32) : (Nat → Int64) × (Nat → Int32) := (ngS lt fLt u.1 u.2 k, ngG lt fLt u.1 u.2 k)
def neP (lt : Int32) (fLt : Nat → Int64) (u : (Nat → Int64) × (Nat → Int32)) (k : Int32) : (Nat → Int64) × (Nat → Int32) := (neS lt fLt u.1 u.2 k, neG lt fLt u.1 u.2 k)
def tnG (lt : Int32) (fLt : Nat → Int64) (u : (Nat → Int64) × (Nat → Int32)) : (Nat → Int64) × (Nat → Int32) := if lt ≤ 0 then u else ngP lt fLt (ngP lt fLt (ngP lt fLt (ngP lt fLt u 0) 1) 2) 3
def tnE (lt : Int32) (fLt : Nat → Int64) (u : (Nat → Int64) × (Nat → Int32)) : (Nat → Int64) × (Nat → Int32) := if lt ≤ 0 then u else neP lt fLt (neP lt fLt (neP lt fLt (neP lt fLt u 0) 1) 2) 3
def pileAtF (w sl tk ly gr gt : Int32) : Int32 := if w.toInt = 0 then sl else if w.toInt = 1 then tk else if w.toInt = 2 then ly else if w.toInt = 3 then gr else gt
def fitF (w n : Int32) (x y xx xy : Int64) : Int64 := if w = 0 then n.toInt64 * xy - x * y else y * xx - x * xy
-- WHAT THEY THROW
def X_moisture (x y : Int32) : Option String := if okM x then if okR y 0 900 then none else some xA else some xI
def X_element (x k y : Int32) : Option String := if okM x then if okE k then if okR y 0 10000 then none else some xA else some xI else some xI
def X_ship (cn to day x kg lo : Int32) : Option String := if okM x then if cn < 40 then if okR day to 9999 then if okR kg 1 1000 then if okR lo 0 999 then none else some xA else some xA else some xA else some xS else some xI
def X_stock (x : Int32) : Option String := if okM x then none else some xI
def X_pile (pc x : Int32) : Option String := if pc < 4 then if okR x 1 65536 then none else some xA else some xS
def X_lay (y kg tk ly st : Int32) : Option String := if okM y then if tk ≤ 0 then if okR kg 1 1000 then if ly < 20 then if kg ≤ st then none else some xU else some xU else some xA else some xS else some xI
def X_slice (ly tk sl : Int32) : Option String := if ly = 0 then some xS else if tk < sl then none else some xS
def X_share (k q tk lt : Int32) : Option String := if okE k then if okQ q then if ¬ tk = 0 then if lt = 0 then some xU else none else some xS else some xI else some xI
def X_basicity (q tk : Int32) (b : Int64) : Option String := if okQ q then if ¬ tk = 0 then if b = 0 then some xU else none else some xS else some xI
def X_spread (k q gt : Int32) : Option String := if okE k then if okQ q then if gt = 0 then some xS else none else some xI else some xI
def X_pileAt (w : Int32) : Option String := if w.toInt < 0 ∨ 4 < w.toInt then some xI else none
def X_mix (x y k aim q a b : Int32) : Option String := if okM x then if okM y then if x = y then some xI else if okE k then if okQ q then if okR aim 0 10000 then if a = b then some xU else if aim < (if b < a then b else a) then some xU else if aim ≤ (if a < b then b else a) then none else some xU else some xA else some xI else some xI else some xI else some xI
def X_point (n x y : Int32) : Option String := if n < 20 then if okR x 0 10000 then if okR y 0 10000 then none else some xA else some xA else some xS
def X_fit (w q : Int32) (lw : Int64) : Option String := if w < 0 then some xI else if w ≤ 1 then if okQ q then if lw = 0 then some xU else none else some xI else some xI
def X_tick (x to : Int32) : Option String := if okR x 1 1000 then if okR (to + x) 0 9999 then none else some xA else some xA
-- INDICES
theorem vq_nz {x : Int32} (h : 1 ≤ x) : ¬ x.toInt64 = 0 := by
  intro z
  have h1 := congrArg Int64.toInt z
  rw [Int32.toInt_toInt64] at h1
  rw [Int32.le_iff_toInt_le] at h
  have h2 : (1 : Int32).toInt = 1 := by decide
  have h3 : (0 : Int64).toInt = 0 := by decide
  omega
theorem vq_nat {x N : Int32} {n : Nat} (hN : N.toInt = n) (h1 : ¬ x < 0) (h2 : x < N) : ∃ j : Nat, j < n ∧ x = nI j := by
  obtain ⟨j, hj, rfl⟩ := nI_of h1
  refine ⟨j, ?_, rfl⟩
  rw [Int32.lt_iff_toInt_lt, nI_toInt hj] at h2
  omega
theorem vq_ixM {x : Int32} (h : okM x) {e : Nat} (he : e < 4) : vp_in (x * 4 + nI e) 32 := by
  obtain ⟨j, hj, rfl⟩ := vq_nat (N := 8) (n := 8) (by decide) h.1 h.2
  rw [show (4 : Int32) = nI 4 from rfl, pk_mul, nI_add]
  exact vp_in_nI (by omega) (by decide)
theorem vq_ixL {x : Int32} (h : ok20 x) {e : Nat} (he : e < 4) : vp_in (x * 4 + nI e) 80 := by
  obtain ⟨j, hj, rfl⟩ := vq_nat (N := 20) (n := 20) (by decide) h.1 h.2
  rw [show (4 : Int32) = nI 4 from rfl, pk_mul, nI_add]
  exact vp_in_nI (by omega) (by decide)
theorem vq_ixE {x k : Int32} (h : okM x) (h2 : okE k) : vp_in (x * 4 + k) 32 := by
  obtain ⟨i, hi, rfl⟩ := vq_nat (N := 4) (n := 4) (by decide) h2.1 h2.2
  exact vq_ixM h hi
