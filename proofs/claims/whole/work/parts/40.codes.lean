-- THE CODES: what the class throws and the number that the reference gives
theorem b00 : (0 : Int32) = 0 := rfl
def cX (l : List String) (X : Option String) : Int32 := match X with
  | none => 0
  | some E => cdF l E
theorem inF_ok (v lo hi : Int32) : inF v lo hi = if okR v lo hi then 1 else 0 := by
  unfold inF
  by_cases h1 : v < lo
  · rw [if_pos h1, if_neg (fun h => h.1 h1)]
  · by_cases h2 : hi < v
    · rw [if_neg h1, if_pos h2, if_neg (fun h => (Int32.not_le.mpr h2) h.2)]
    · rw [if_neg h1, if_neg h2, if_pos ⟨h1, Int32.not_lt.mp h2⟩]
theorem okM_R (x : Int32) : okM x ↔ okR x 0 7 := by
  have h3 : (7 : Int32).toInt = 7 := by decide
  have h4 : (8 : Int32).toInt = 8 := by decide
  constructor
  · rintro ⟨a, b⟩
    refine ⟨a, ?_⟩
    rw [Int32.lt_iff_toInt_lt] at b
    rw [Int32.le_iff_toInt_le]; omega
  · rintro ⟨a, b⟩
    refine ⟨a, ?_⟩
    rw [Int32.le_iff_toInt_le] at b
    rw [Int32.lt_iff_toInt_lt]; omega
theorem okE_R (x : Int32) : okE x ↔ okR x 0 3 := by
  have h3 : (3 : Int32).toInt = 3 := by decide
  have h4 : (4 : Int32).toInt = 4 := by decide
  constructor
  · rintro ⟨a, b⟩
    refine ⟨a, ?_⟩
    rw [Int32.lt_iff_toInt_lt] at b
    rw [Int32.le_iff_toInt_le]; omega
  · rintro ⟨a, b⟩
    refine ⟨a, ?_⟩
    rw [Int32.le_iff_toInt_le] at b
    rw [Int32.lt_iff_toInt_lt]; omega
theorem inF_okM (x : Int32) : inF x 0 7 = if okM x then 1 else 0 := by
  rw [inF_ok]
  by_cases h : okM x
  · rw [if_pos h, if_pos ((okM_R x).mp h)]
  · rw [if_neg h, if_neg (fun z => h ((okM_R x).mpr z))]
theorem inF_okE (x : Int32) : inF x 0 3 = if okE x then 1 else 0 := by
  rw [inF_ok]
  by_cases h : okE x
  · rw [if_pos h, if_pos ((okE_R x).mp h)]
  · rw [if_neg h, if_neg (fun z => h ((okE_R x).mpr z))]
theorem inF_okQ (x : Int32) : inF x 0 1 = if okQ x then 1 else 0 := inF_ok x 0 1
theorem sel_0 {α : Type} {t : Int32} {a b : α} (h : t = 0) : sel t a b = a := by
  rw [h]; rfl
theorem sel_n {α : Type} {t : Int32} {a b : α} (h : thB t = 1) : sel t a b = b := by
  unfold sel
  rw [h, if_neg b10]
theorem lt_iff_ne {x N : Int32} (h : x ≤ N) : x < N ↔ ¬ x = N := by
  constructor
  · intro g e
    rw [e, Int32.lt_iff_toInt_lt] at g
    omega
  · exact lt_of_ne h
theorem eqB_lt {x N : Int32} (h : x ≤ N) : eqB x N = if x < N then 0 else 1 := by
  unfold eqB
  by_cases g : x = N
  · rw [if_pos g, if_neg (fun z => (lt_iff_ne h).mp z g)]
  · rw [if_neg g, if_pos ((lt_iff_ne h).mpr g)]
theorem K_moisture (x y : Int32) : thF (nB (inF x 0 7)) (nB (inF y 0 900)) 0 0 = cX [xI, xA] (X_moisture x y) := by
  by_cases h1 : okM x
  · by_cases h2 : okR y 0 900
    · simp only [X_moisture, inF_okM, inF_okE, inF_okQ, nB, orN, or3, inF_ok y 0 900, thF, if_pos h1, if_pos h2, if_neg b10, ↓reduceIte]
      rfl
    · simp only [X_moisture, inF_okM, inF_okE, inF_okQ, nB, orN, or3, inF_ok y 0 900, thF, if_pos h1, if_neg h2, if_neg b10, ↓reduceIte]
      rfl
  · simp only [X_moisture, inF_okM, inF_okE, inF_okQ, nB, orN, or3, inF_ok y 0 900, thF, if_neg h1, if_neg b10, ↓reduceIte]
    rfl
theorem XE_moisture (x y : Int32) {E : String} (h : X_moisture x y = some E) : E = xI ∨ E = xA := by
  by_cases h1 : okM x
  · by_cases h2 : okR y 0 900
    · exact absurd h (by simp only [X_moisture, if_pos h1, if_pos h2]; exact fun z => nomatch z)
    · simp only [X_moisture, if_pos h1, if_neg h2] at h
      obtain rfl := Option.some.inj h
      exact Or.inr (rfl)
  · simp only [X_moisture, if_neg h1] at h
    obtain rfl := Option.some.inj h
    exact Or.inl rfl
theorem K_element (x k y : Int32) : thF (orN (inF x 0 7) (inF k 0 3)) (nB (inF y 0 10000)) 0 0 = cX [xI, xA] (X_element x k y) := by
  by_cases h1 : okM x
  · by_cases h2 : okE k
    · by_cases h3 : okR y 0 10000
      · simp only [X_element, inF_okM, inF_okE, inF_okQ, nB, orN, or3, inF_ok y 0 10000, thF, if_pos h1, if_pos h2, if_pos h3, if_neg b10, ↓reduceIte]
        rfl
      · simp only [X_element, inF_okM, inF_okE, inF_okQ, nB, orN, or3, inF_ok y 0 10000, thF, if_pos h1, if_pos h2, if_neg h3, if_neg b10, ↓reduceIte]
        rfl
    · simp only [X_element, inF_okM, inF_okE, inF_okQ, nB, orN, or3, inF_ok y 0 10000, thF, if_pos h1, if_neg h2, if_neg b10, ↓reduceIte]
      rfl
  · simp only [X_element, inF_okM, inF_okE, inF_okQ, nB, orN, or3, inF_ok y 0 10000, thF, if_neg h1, if_neg b10, ↓reduceIte]
    rfl
theorem XE_element (x k y : Int32) {E : String} (h : X_element x k y = some E) : E = xI ∨ E = xA := by
  by_cases h1 : okM x
  · by_cases h2 : okE k
    · by_cases h3 : okR y 0 10000
      · exact absurd h (by simp only [X_element, if_pos h1, if_pos h2, if_pos h3]; exact fun z => nomatch z)
      · simp only [X_element, if_pos h1, if_pos h2, if_neg h3] at h
        obtain rfl := Option.some.inj h
        exact Or.inr (rfl)
    · simp only [X_element, if_pos h1, if_neg h2] at h
      obtain rfl := Option.some.inj h
      exact Or.inl rfl
  · simp only [X_element, if_neg h1] at h
    obtain rfl := Option.some.inj h
    exact Or.inl rfl
theorem K_ship (cn to day x kg lo : Int32) (hz : cn ≤ 40) : thF (nB (inF x 0 7)) (eqB cn 40) (or3 (inF day to 9999) (inF kg 1 1000) (inF lo 0 999)) 0 = cX [xI, xS, xA] (X_ship cn to day x kg lo) := by
  rw [eqB_lt hz]
  by_cases h1 : okM x
  · by_cases h2 : cn < 40
    · by_cases h3 : okR day to 9999
      · by_cases h4 : okR kg 1 1000
        · by_cases h5 : okR lo 0 999
          · simp only [X_ship, inF_okM, inF_okE, inF_okQ, nB, orN, or3, inF_ok day to 9999, inF_ok kg 1 1000, inF_ok lo 0 999, thF, if_pos h1, if_pos h2, if_pos h3, if_pos h4, if_pos h5, if_neg b10, ↓reduceIte]
            rfl
          · simp only [X_ship, inF_okM, inF_okE, inF_okQ, nB, orN, or3, inF_ok day to 9999, inF_ok kg 1 1000, inF_ok lo 0 999, thF, if_pos h1, if_pos h2, if_pos h3, if_pos h4, if_neg h5, if_neg b10, ↓reduceIte]
            rfl
        · simp only [X_ship, inF_okM, inF_okE, inF_okQ, nB, orN, or3, inF_ok day to 9999, inF_ok kg 1 1000, inF_ok lo 0 999, thF, if_pos h1, if_pos h2, if_pos h3, if_neg h4, if_neg b10, ↓reduceIte]
          rfl
      · simp only [X_ship, inF_okM, inF_okE, inF_okQ, nB, orN, or3, inF_ok day to 9999, inF_ok kg 1 1000, inF_ok lo 0 999, thF, if_pos h1, if_pos h2, if_neg h3, if_neg b10, ↓reduceIte]
        rfl
    · simp only [X_ship, inF_okM, inF_okE, inF_okQ, nB, orN, or3, inF_ok day to 9999, inF_ok kg 1 1000, inF_ok lo 0 999, thF, if_pos h1, if_neg h2, if_neg b10, ↓reduceIte]
      rfl
  · simp only [X_ship, inF_okM, inF_okE, inF_okQ, nB, orN, or3, inF_ok day to 9999, inF_ok kg 1 1000, inF_ok lo 0 999, thF, if_neg h1, if_neg b10, ↓reduceIte]
    rfl
theorem XE_ship (cn to day x kg lo : Int32) {E : String} (h : X_ship cn to day x kg lo = some E) : E = xI ∨ E = xS ∨ E = xA := by
  by_cases h1 : okM x
  · by_cases h2 : cn < 40
    · by_cases h3 : okR day to 9999
      · by_cases h4 : okR kg 1 1000
        · by_cases h5 : okR lo 0 999
          · exact absurd h (by simp only [X_ship, if_pos h1, if_pos h2, if_pos h3, if_pos h4, if_pos h5]; exact fun z => nomatch z)
          · simp only [X_ship, if_pos h1, if_pos h2, if_pos h3, if_pos h4, if_neg h5] at h
            obtain rfl := Option.some.inj h
            exact Or.inr (Or.inr (rfl))
        · simp only [X_ship, if_pos h1, if_pos h2, if_pos h3, if_neg h4] at h
          obtain rfl := Option.some.inj h
          exact Or.inr (Or.inr (rfl))
      · simp only [X_ship, if_pos h1, if_pos h2, if_neg h3] at h
        obtain rfl := Option.some.inj h
        exact Or.inr (Or.inr (rfl))
    · simp only [X_ship, if_pos h1, if_neg h2] at h
      obtain rfl := Option.some.inj h
      exact Or.inr (Or.inl rfl)
  · simp only [X_ship, if_neg h1] at h
    obtain rfl := Option.some.inj h
    exact Or.inl rfl
theorem K_stock (x : Int32) : thF (nB (inF x 0 7)) 0 0 0 = cX [xI] (X_stock x) := by
  by_cases h1 : okM x
  · simp only [X_stock, inF_okM, inF_okE, inF_okQ, nB, orN, or3, thF, if_pos h1, if_neg b10, ↓reduceIte]
    rfl
  · simp only [X_stock, inF_okM, inF_okE, inF_okQ, nB, orN, or3, thF, if_neg h1, if_neg b10, ↓reduceIte]
    rfl
theorem XE_stock (x : Int32) {E : String} (h : X_stock x = some E) : E = xI := by
  by_cases h1 : okM x
  · exact absurd h (by simp only [X_stock, if_pos h1]; exact fun z => nomatch z)
  · simp only [X_stock, if_neg h1] at h
    obtain rfl := Option.some.inj h
    exact rfl
theorem K_pile (pc x : Int32) (hz : pc ≤ 4) : thF (eqB pc 4) (nB (inF x 1 65536)) 0 0 = cX [xS, xA] (X_pile pc x) := by
  rw [eqB_lt hz]
  by_cases h1 : pc < 4
  · by_cases h2 : okR x 1 65536
    · simp only [X_pile, inF_okM, inF_okE, inF_okQ, nB, orN, or3, inF_ok x 1 65536, thF, if_pos h1, if_pos h2, if_neg b10, ↓reduceIte]
      rfl
    · simp only [X_pile, inF_okM, inF_okE, inF_okQ, nB, orN, or3, inF_ok x 1 65536, thF, if_pos h1, if_neg h2, if_neg b10, ↓reduceIte]
      rfl
  · simp only [X_pile, inF_okM, inF_okE, inF_okQ, nB, orN, or3, inF_ok x 1 65536, thF, if_neg h1, if_neg b10, ↓reduceIte]
    rfl
theorem XE_pile (pc x : Int32) {E : String} (h : X_pile pc x = some E) : E = xS ∨ E = xA := by
  by_cases h1 : pc < 4
  · by_cases h2 : okR x 1 65536
    · exact absurd h (by simp only [X_pile, if_pos h1, if_pos h2]; exact fun z => nomatch z)
    · simp only [X_pile, if_pos h1, if_neg h2] at h
      obtain rfl := Option.some.inj h
      exact Or.inr (rfl)
  · simp only [X_pile, if_neg h1] at h
    obtain rfl := Option.some.inj h
    exact Or.inl rfl
theorem K_point (n x y : Int32) (hz : n ≤ 20) : thF (eqB n 20) (orN (inF x 0 10000) (inF y 0 10000)) 0 0 = cX [xS, xA] (X_point n x y) := by
  rw [eqB_lt hz]
  by_cases h1 : n < 20
  · by_cases h2 : okR x 0 10000
    · by_cases h3 : okR y 0 10000
      · simp only [X_point, inF_okM, inF_okE, inF_okQ, nB, orN, or3, inF_ok x 0 10000, inF_ok y 0 10000, thF, if_pos h1, if_pos h2, if_pos h3, if_neg b10, ↓reduceIte]
        rfl
      · simp only [X_point, inF_okM, inF_okE, inF_okQ, nB, orN, or3, inF_ok x 0 10000, inF_ok y 0 10000, thF, if_pos h1, if_pos h2, if_neg h3, if_neg b10, ↓reduceIte]
        rfl
    · simp only [X_point, inF_okM, inF_okE, inF_okQ, nB, orN, or3, inF_ok x 0 10000, inF_ok y 0 10000, thF, if_pos h1, if_neg h2, if_neg b10, ↓reduceIte]
      rfl
  · simp only [X_point, inF_okM, inF_okE, inF_okQ, nB, orN, or3, inF_ok x 0 10000, inF_ok y 0 10000, thF, if_neg h1, if_neg b10, ↓reduceIte]
    rfl
theorem XE_point (n x y : Int32) {E : String} (h : X_point n x y = some E) : E = xS ∨ E = xA := by
  by_cases h1 : n < 20
  · by_cases h2 : okR x 0 10000
    · by_cases h3 : okR y 0 10000
      · exact absurd h (by simp only [X_point, if_pos h1, if_pos h2, if_pos h3]; exact fun z => nomatch z)
      · simp only [X_point, if_pos h1, if_pos h2, if_neg h3] at h
        obtain rfl := Option.some.inj h
        exact Or.inr (rfl)
    · simp only [X_point, if_pos h1, if_neg h2] at h
      obtain rfl := Option.some.inj h
      exact Or.inr (rfl)
  · simp only [X_point, if_neg h1] at h
    obtain rfl := Option.some.inj h
    exact Or.inl rfl
theorem muchG {ly : Int32} (h : ly ≤ 20) (b st kg : Int32) : muchF b ly st kg = if b = 0 then (if ly < 20 then (if kg ≤ st then 0 else 1) else 1) else 0 := by
  unfold muchF
  by_cases g : ly = 20
  · rw [if_pos g, if_neg (fun z => (lt_iff_ne h).mp z g)]
  · rw [if_neg g, if_pos ((lt_iff_ne h).mpr g)]
theorem noneG {tk sl : Int32} (h : tk ≤ sl) (b ly : Int32) : noneF b ly tk sl = if b = 0 then (if ly = 0 then 1 else (if tk < sl then 0 else 1)) else 0 := by
  unfold noneF
  by_cases g : tk = sl
  · rw [if_pos g, if_neg (fun z => (lt_iff_ne h).mp z g)]
  · rw [if_neg g, if_pos ((lt_iff_ne h).mpr g)]
theorem unG (tk : Int32) : unF 1 tk = if ¬ tk = 0 then 0 else 1 := by
  unfold unF
  rw [if_neg b10]
  by_cases g : tk = 0
  · rw [if_pos g, if_neg (fun z => z g)]
  · rw [if_neg g, if_pos g]
theorem eqG {al : Int64} {P : Prop} [Decidable P] (h : al = 0 ↔ P) : eqL al = if P then 1 else 0 := by
  unfold eqL
  by_cases g : P
  · rw [if_pos (h.mpr g), if_pos g]
  · rw [if_neg (fun z => g (h.mp z)), if_neg g]
theorem inF_R {w : Int32} : inF w 0 4 = if w.toInt < 0 ∨ 4 < w.toInt then 0 else 1 := by
  have h3 : (4 : Int32).toInt = 4 := by decide
  unfold inF
  by_cases h : w.toInt < 0 ∨ 4 < w.toInt
  · rw [if_pos h]
    by_cases h1 : w < 0
    · rw [if_pos h1]
    · rw [if_neg h1, if_pos]
      rw [Int32.lt_iff_toInt_lt, Int32.toInt_zero] at h1
      rw [Int32.lt_iff_toInt_lt]; omega
  · rw [if_neg h, if_neg, if_neg]
    · rw [Int32.lt_iff_toInt_lt]; omega
    · rw [Int32.lt_iff_toInt_lt, Int32.toInt_zero]; omega
theorem tkG9 {to x : Int32} (h0 : ¬ to < 0) (h9 : to ≤ 9999) : tkB (inF x 1 1000) (to + x) = if okR x 1 1000 then (if okR (to + x) 0 9999 then 0 else 1) else 1 := by
  unfold tkB
  rw [inF_ok]
  by_cases h : okR x 1 1000
  · rw [if_pos h, if_pos h, if_neg b10]
    obtain ⟨i, hi, rfl⟩ := nI_of h0
    have hx0 : ¬ x < 0 := by
      intro z
      apply h.1
      rw [Int32.lt_iff_toInt_lt] at z ⊢
      have : (1 : Int32).toInt = 1 := by decide
      rw [Int32.toInt_zero] at z
      omega
    obtain ⟨j, hj, rfl⟩ := nI_of hx0
    have hi9 : i ≤ 9999 := by
      rw [Int32.le_iff_toInt_le, nI_toInt hi] at h9
      have : (9999 : Int32).toInt = 9999 := by decide
      omega
    have hj9 : j ≤ 1000 := by
      have h2 := h.2
      rw [Int32.le_iff_toInt_le, nI_toInt hj] at h2
      have : (1000 : Int32).toInt = 1000 := by decide
      omega
    rw [nI_add]
    by_cases g : nI (i + j) ≤ 9999
    · rw [if_pos g, if_pos ⟨nI_pos (by omega), g⟩]
    · rw [if_neg g, if_neg (fun z => g z.2)]
  · rw [if_neg h, if_neg h, if_pos b00]
theorem K_lay (y kg tk ly st : Int32) {i1 : Int32} (hi : i1 = 1) (hly : ly ≤ 20) : thF (orN i1 (inF y 0 7)) (lateF (orN i1 (inF y 0 7)) tk) (nB (inF kg 1 1000)) (muchF (orN i1 (inF y 0 7)) ly st kg) = cX [xI, xS, xA, xU] (X_lay y kg tk ly st) := by
  subst hi
  by_cases h1 : okM y
  · by_cases h2 : tk ≤ 0
    · by_cases h3 : okR kg 1 1000
      · by_cases h4 : ly < 20
        · by_cases h5 : kg ≤ st
          · simp only [X_lay, inF_okM, inF_okE, inF_okQ, nB, orN, or3, inF_ok kg 1 1000, lateF, muchG hly, thF, if_pos h1, if_pos h2, if_pos h3, if_pos h4, if_pos h5, if_neg b10, ↓reduceIte]
            rfl
          · simp only [X_lay, inF_okM, inF_okE, inF_okQ, nB, orN, or3, inF_ok kg 1 1000, lateF, muchG hly, thF, if_pos h1, if_pos h2, if_pos h3, if_pos h4, if_neg h5, if_neg b10, ↓reduceIte]
            rfl
        · simp only [X_lay, inF_okM, inF_okE, inF_okQ, nB, orN, or3, inF_ok kg 1 1000, lateF, muchG hly, thF, if_pos h1, if_pos h2, if_pos h3, if_neg h4, if_neg b10, ↓reduceIte]
          rfl
      · simp only [X_lay, inF_okM, inF_okE, inF_okQ, nB, orN, or3, inF_ok kg 1 1000, lateF, muchG hly, thF, if_pos h1, if_pos h2, if_neg h3, if_neg b10, ↓reduceIte]
        rfl
    · simp only [X_lay, inF_okM, inF_okE, inF_okQ, nB, orN, or3, inF_ok kg 1 1000, lateF, muchG hly, thF, if_pos h1, if_neg h2, if_neg b10, ↓reduceIte]
      rfl
  · simp only [X_lay, inF_okM, inF_okE, inF_okQ, nB, orN, or3, inF_ok kg 1 1000, lateF, muchG hly, thF, if_neg h1, if_neg b10, ↓reduceIte]
    rfl
theorem XE_lay (y kg tk ly st : Int32) {E : String} (h : X_lay y kg tk ly st = some E) : E = xI ∨ E = xS ∨ E = xA ∨ E = xU := by
  by_cases h1 : okM y
  · by_cases h2 : tk ≤ 0
    · by_cases h3 : okR kg 1 1000
      · by_cases h4 : ly < 20
        · by_cases h5 : kg ≤ st
          · exact absurd h (by simp only [X_lay, if_pos h1, if_pos h2, if_pos h3, if_pos h4, if_pos h5]; exact fun z => nomatch z)
          · simp only [X_lay, if_pos h1, if_pos h2, if_pos h3, if_pos h4, if_neg h5] at h
            obtain rfl := Option.some.inj h
            exact Or.inr (Or.inr (Or.inr (rfl)))
        · simp only [X_lay, if_pos h1, if_pos h2, if_pos h3, if_neg h4] at h
          obtain rfl := Option.some.inj h
          exact Or.inr (Or.inr (Or.inr (rfl)))
      · simp only [X_lay, if_pos h1, if_pos h2, if_neg h3] at h
        obtain rfl := Option.some.inj h
        exact Or.inr (Or.inr (Or.inl rfl))
    · simp only [X_lay, if_pos h1, if_neg h2] at h
      obtain rfl := Option.some.inj h
      exact Or.inr (Or.inl rfl)
  · simp only [X_lay, if_neg h1] at h
    obtain rfl := Option.some.inj h
    exact Or.inl rfl
theorem K_slice (ly tk sl : Int32) {i1 : Int32} (hi : i1 = 1) (hts : tk ≤ sl) : thF (nB i1) (noneF (nB i1) ly tk sl) 0 0 = cX [xI, xS] (X_slice ly tk sl) := by
  subst hi
  by_cases h1 : ly = 0
  · simp only [X_slice, inF_okM, inF_okE, inF_okQ, nB, orN, or3, noneG hts, thF, if_pos h1, if_neg b10, ↓reduceIte]
    rfl
  · by_cases h2 : tk < sl
    · simp only [X_slice, inF_okM, inF_okE, inF_okQ, nB, orN, or3, noneG hts, thF, if_neg h1, if_pos h2, if_neg b10, ↓reduceIte]
      rfl
    · simp only [X_slice, inF_okM, inF_okE, inF_okQ, nB, orN, or3, noneG hts, thF, if_neg h1, if_neg h2, if_neg b10, ↓reduceIte]
      rfl
theorem XE_slice (ly tk sl : Int32) {E : String} (h : X_slice ly tk sl = some E) : E = xI ∨ E = xS := by
  by_cases h1 : ly = 0
  · simp only [X_slice, if_pos h1] at h
    obtain rfl := Option.some.inj h
    exact Or.inr (rfl)
  · by_cases h2 : tk < sl
    · exact absurd h (by simp only [X_slice, if_neg h1, if_pos h2]; exact fun z => nomatch z)
    · simp only [X_slice, if_neg h1, if_neg h2] at h
      obtain rfl := Option.some.inj h
      exact Or.inr (rfl)
theorem K_share (k q tk lt : Int32) {i1 : Int32} (hi : i1 = 1) {al : Int64} (hal : ¬ tk = 0 → (al = 0 ↔ lt = 0)) : thF (or3 i1 (inF k 0 3) (inF q 0 1)) (andB (or3 i1 (inF k 0 3) (inF q 0 1)) (unF i1 tk)) (eqL (allF (or3 i1 (inF k 0 3) (inF q 0 1)) (andB (or3 i1 (inF k 0 3) (inF q 0 1)) (unF i1 tk)) al)) 0 = cX [xI, xS, xU] (X_share k q tk lt) := by
  subst hi
  by_cases h1 : okE k
  · by_cases h2 : okQ q
    · by_cases h3 : ¬ tk = 0
      · by_cases h4 : lt = 0
        · simp only [X_share, inF_okM, inF_okE, inF_okQ, nB, orN, or3, andB, unG, allF, eqG (hal h3), thF, if_pos h1, if_pos h2, if_pos h3, if_pos h4, if_neg b10, ↓reduceIte]
          rfl
        · simp only [X_share, inF_okM, inF_okE, inF_okQ, nB, orN, or3, andB, unG, allF, eqG (hal h3), thF, if_pos h1, if_pos h2, if_pos h3, if_neg h4, if_neg b10, ↓reduceIte]
          rfl
      · simp only [X_share, inF_okM, inF_okE, inF_okQ, nB, orN, or3, andB, unG, allF, thF, if_pos h1, if_pos h2, if_neg h3, if_neg b10, ↓reduceIte]
        rfl
    · simp only [X_share, inF_okM, inF_okE, inF_okQ, nB, orN, or3, andB, unG, allF, thF, if_pos h1, if_neg h2, if_neg b10, ↓reduceIte]
      rfl
  · simp only [X_share, inF_okM, inF_okE, inF_okQ, nB, orN, or3, andB, unG, allF, thF, if_neg h1, if_neg b10, ↓reduceIte]
    rfl
theorem XE_share (k q tk lt : Int32) {E : String} (h : X_share k q tk lt = some E) : E = xI ∨ E = xS ∨ E = xU := by
  by_cases h1 : okE k
  · by_cases h2 : okQ q
    · by_cases h3 : ¬ tk = 0
      · by_cases h4 : lt = 0
        · simp only [X_share, if_pos h1, if_pos h2, if_pos h3, if_pos h4] at h
          obtain rfl := Option.some.inj h
          exact Or.inr (Or.inr (rfl))
        · exact absurd h (by simp only [X_share, if_pos h1, if_pos h2, if_pos h3, if_neg h4]; exact fun z => nomatch z)
      · simp only [X_share, if_pos h1, if_pos h2, if_neg h3] at h
        obtain rfl := Option.some.inj h
        exact Or.inr (Or.inl rfl)
    · simp only [X_share, if_pos h1, if_neg h2] at h
      obtain rfl := Option.some.inj h
      exact Or.inl rfl
  · simp only [X_share, if_neg h1] at h
    obtain rfl := Option.some.inj h
    exact Or.inl rfl
theorem K_basicity (q tk : Int32) (b : Int64) {i1 : Int32} (hi : i1 = 1) {al : Int64} (hal : ¬ tk = 0 → (al = 0 ↔ b = 0)) : thF (orN i1 (inF q 0 1)) (andB (orN i1 (inF q 0 1)) (unF i1 tk)) (eqL (allF (orN i1 (inF q 0 1)) (andB (orN i1 (inF q 0 1)) (unF i1 tk)) al)) 0 = cX [xI, xS, xU] (X_basicity q tk b) := by
  subst hi
  by_cases h1 : okQ q
  · by_cases h2 : ¬ tk = 0
    · by_cases h3 : b = 0
      · simp only [X_basicity, inF_okM, inF_okE, inF_okQ, nB, orN, or3, andB, unG, allF, eqG (hal h2), thF, if_pos h1, if_pos h2, if_pos h3, if_neg b10, ↓reduceIte]
        rfl
      · simp only [X_basicity, inF_okM, inF_okE, inF_okQ, nB, orN, or3, andB, unG, allF, eqG (hal h2), thF, if_pos h1, if_pos h2, if_neg h3, if_neg b10, ↓reduceIte]
        rfl
    · simp only [X_basicity, inF_okM, inF_okE, inF_okQ, nB, orN, or3, andB, unG, allF, thF, if_pos h1, if_neg h2, if_neg b10, ↓reduceIte]
      rfl
  · simp only [X_basicity, inF_okM, inF_okE, inF_okQ, nB, orN, or3, andB, unG, allF, thF, if_neg h1, if_neg b10, ↓reduceIte]
    rfl
theorem XE_basicity (q tk : Int32) (b : Int64) {E : String} (h : X_basicity q tk b = some E) : E = xI ∨ E = xS ∨ E = xU := by
  by_cases h1 : okQ q
  · by_cases h2 : ¬ tk = 0
    · by_cases h3 : b = 0
      · simp only [X_basicity, if_pos h1, if_pos h2, if_pos h3] at h
        obtain rfl := Option.some.inj h
        exact Or.inr (Or.inr (rfl))
      · exact absurd h (by simp only [X_basicity, if_pos h1, if_pos h2, if_neg h3]; exact fun z => nomatch z)
    · simp only [X_basicity, if_pos h1, if_neg h2] at h
      obtain rfl := Option.some.inj h
      exact Or.inr (Or.inl rfl)
  · simp only [X_basicity, if_neg h1] at h
    obtain rfl := Option.some.inj h
    exact Or.inl rfl
theorem K_spread (k q gt : Int32) {i1 : Int32} (hi : i1 = 1) {al : Int64} (hal : okE k → okQ q → (al = 0 ↔ gt = 0)) : thF (or3 i1 (inF k 0 3) (inF q 0 1)) (eqL al) 0 0 = cX [xI, xS] (X_spread k q gt) := by
  subst hi
  by_cases h1 : okE k
  · by_cases h2 : okQ q
    · by_cases h3 : gt = 0
      · simp only [X_spread, inF_okM, inF_okE, inF_okQ, nB, orN, or3, eqG (hal h1 h2), thF, if_pos h1, if_pos h2, if_pos h3, if_neg b10, ↓reduceIte]
        rfl
      · simp only [X_spread, inF_okM, inF_okE, inF_okQ, nB, orN, or3, eqG (hal h1 h2), thF, if_pos h1, if_pos h2, if_neg h3, if_neg b10, ↓reduceIte]
        rfl
    · simp only [X_spread, inF_okM, inF_okE, inF_okQ, nB, orN, or3, thF, if_pos h1, if_neg h2, if_neg b10, ↓reduceIte]
      rfl
  · simp only [X_spread, inF_okM, inF_okE, inF_okQ, nB, orN, or3, thF, if_neg h1, if_neg b10, ↓reduceIte]
    rfl
theorem XE_spread (k q gt : Int32) {E : String} (h : X_spread k q gt = some E) : E = xI ∨ E = xS := by
  by_cases h1 : okE k
  · by_cases h2 : okQ q
    · by_cases h3 : gt = 0
      · simp only [X_spread, if_pos h1, if_pos h2, if_pos h3] at h
        obtain rfl := Option.some.inj h
        exact Or.inr (rfl)
      · exact absurd h (by simp only [X_spread, if_pos h1, if_pos h2, if_neg h3]; exact fun z => nomatch z)
    · simp only [X_spread, if_pos h1, if_neg h2] at h
      obtain rfl := Option.some.inj h
      exact Or.inl rfl
  · simp only [X_spread, if_neg h1] at h
    obtain rfl := Option.some.inj h
    exact Or.inl rfl
theorem K_pileAt (w : Int32) {i1 : Int32} (hi : i1 = 1) : thF (orN i1 (inF w 0 4)) 0 0 0 = cX [xI] (X_pileAt w) := by
  subst hi
  by_cases h1 : w.toInt < 0 ∨ 4 < w.toInt
  · simp only [X_pileAt, inF_R, orN, thF, if_pos h1, if_neg b10, ↓reduceIte]
    rfl
  · simp only [X_pileAt, inF_R, orN, thF, if_neg h1, if_neg b10, ↓reduceIte]
    rfl
theorem XE_pileAt (w : Int32) {E : String} (h : X_pileAt w = some E) : E = xI := by
  by_cases h1 : w.toInt < 0 ∨ 4 < w.toInt
  · simp only [X_pileAt, if_pos h1] at h
    obtain rfl := Option.some.inj h
    exact rfl
  · exact absurd h (by simp only [X_pileAt, if_neg h1]; exact fun z => nomatch z)
theorem fitW (w : Int32) : inF w 0 1 = if w < 0 then 0 else (if w ≤ 1 then 1 else 0) := by
  unfold inF
  by_cases h : w < 0
  · rw [if_pos h, if_pos h]
  · rw [if_neg h, if_neg h]
    by_cases g : (1 : Int32) < w
    · rw [if_pos g, if_neg (Int32.not_le.mpr g)]
    · rw [if_neg g, if_pos (Int32.not_lt.mp g)]
theorem K_fit (w q : Int32) (lw : Int64) : thF (orN (inF w 0 1) (inF q 0 1)) (eqL lw) 0 0 = cX [xI, xU] (X_fit w q lw) := by
  by_cases h1 : w < 0
  · simp only [X_fit, fitW w, inF_okQ q, orN, eqL, thF, if_pos h1, if_neg b10, ↓reduceIte]
    rfl
  · by_cases h2 : w ≤ 1
    · by_cases h3 : okQ q
      · by_cases h4 : lw = 0
        · simp only [X_fit, fitW w, inF_okQ q, orN, eqL, thF, if_neg h1, if_pos h2, if_pos h3, if_pos h4, if_neg b10, ↓reduceIte]
          rfl
        · simp only [X_fit, fitW w, inF_okQ q, orN, eqL, thF, if_neg h1, if_pos h2, if_pos h3, if_neg h4, if_neg b10, ↓reduceIte]
          rfl
      · simp only [X_fit, fitW w, inF_okQ q, orN, eqL, thF, if_neg h1, if_pos h2, if_neg h3, if_neg b10, ↓reduceIte]
        rfl
    · simp only [X_fit, fitW w, inF_okQ q, orN, eqL, thF, if_neg h1, if_neg h2, if_neg b10, ↓reduceIte]
      rfl
theorem XE_fit (w q : Int32) (lw : Int64) {E : String} (h : X_fit w q lw = some E) : E = xI ∨ E = xU := by
  by_cases h1 : w < 0
  · simp only [X_fit, if_pos h1] at h
    obtain rfl := Option.some.inj h
    exact Or.inl rfl
  · by_cases h2 : w ≤ 1
    · by_cases h3 : okQ q
      · by_cases h4 : lw = 0
        · simp only [X_fit, if_neg h1, if_pos h2, if_pos h3, if_pos h4] at h
          obtain rfl := Option.some.inj h
          exact Or.inr (rfl)
        · exact absurd h (by simp only [X_fit, if_neg h1, if_pos h2, if_pos h3, if_neg h4]; exact fun z => nomatch z)
      · simp only [X_fit, if_neg h1, if_pos h2, if_neg h3] at h
        obtain rfl := Option.some.inj h
        exact Or.inl rfl
    · simp only [X_fit, if_neg h1, if_neg h2] at h
      obtain rfl := Option.some.inj h
      exact Or.inl rfl
theorem K_tick (x to : Int32) (h0 : ¬ to < 0) (h9 : to ≤ 9999) : thF (tkB (inF x 1 1000) (to + x)) 0 0 0 = cX [xA] (X_tick x to) := by
  by_cases h1 : okR x 1 1000
  · by_cases h2 : okR (to + x) 0 9999
    · simp only [X_tick, tkG9 h0 h9, thF, if_pos h1, if_pos h2, if_neg b10, ↓reduceIte]
      rfl
    · simp only [X_tick, tkG9 h0 h9, thF, if_pos h1, if_neg h2, if_neg b10, ↓reduceIte]
      rfl
  · simp only [X_tick, tkG9 h0 h9, thF, if_neg h1, if_neg b10, ↓reduceIte]
    rfl
theorem XE_tick (x to : Int32) {E : String} (h : X_tick x to = some E) : E = xA := by
  by_cases h1 : okR x 1 1000
  · by_cases h2 : okR (to + x) 0 9999
    · exact absurd h (by simp only [X_tick, if_pos h1, if_pos h2]; exact fun z => nomatch z)
    · simp only [X_tick, if_pos h1, if_neg h2] at h
      obtain rfl := Option.some.inj h
      exact rfl
  · simp only [X_tick, if_neg h1] at h
    obtain rfl := Option.some.inj h
    exact rfl
theorem nevG {a b aim : Int32} (ha : okR a 0 10000) (hb : okR b 0 10000) (hm : okR aim 0 10000) : nevF (aim - b) (a - b) = if a = b then 1 else if aim < (if b < a then b else a) then 1 else if aim ≤ (if a < b then b else a) then 0 else 1 := by
  have t0 : ∀ z : Int32, okR z 0 10000 → ∃ n : Nat, n ≤ 10000 ∧ z = nI n := fun z hz => nI_of2 (M := 10000) (by decide) hz.1 hz.2
  obtain ⟨i, hi, rfl⟩ := t0 a ha
  obtain ⟨j, hj, rfl⟩ := t0 b hb
  obtain ⟨m, hm', rfl⟩ := t0 aim hm
  have e1 : (nI m - nI j).toInt = (m : Int) - j := pk_sub_toInt (by omega) (by omega)
  have e2 : (nI i - nI j).toInt = (i : Int) - j := pk_sub_toInt (by omega) (by omega)
  have z0 : (nI i - nI j = 0) ↔ i = j := by
    rw [← Int32.toInt_inj, e2, Int32.toInt_zero]; omega
  have c0 : (nI i = nI j) ↔ i = j := nI_eq (by omega) (by omega)
  have z1 : (nI i - nI j ≤ 0) ↔ i ≤ j := by rw [Int32.le_iff_toInt_le, e2, Int32.toInt_zero]; omega
  have z2 : (0 < nI m - nI j) ↔ j < m := by rw [Int32.lt_iff_toInt_lt, e1, Int32.toInt_zero]; omega
  have z3 : (nI i - nI j ≤ nI m - nI j) ↔ i ≤ m := by rw [Int32.le_iff_toInt_le, e1, e2]; omega
  have z4 : (nI m - nI j < 0) ↔ m < j := by rw [Int32.lt_iff_toInt_lt, e1, Int32.toInt_zero]; omega
  have z5 : (nI m - nI j ≤ nI i - nI j) ↔ m ≤ i := by rw [Int32.le_iff_toInt_le, e1, e2]; omega
  have k1 : (nI j < nI i) ↔ j < i := nI_ltI (by omega) (by omega)
  have k2 : (nI i < nI j) ↔ i < j := nI_ltI (by omega) (by omega)
  unfold nevF
  simp only [z0, c0, z1, z2, z3, z4, z5, k1, k2]
  by_cases q1 : i = j
  · rw [if_pos q1, if_pos q1]
  · rw [if_neg q1, if_neg q1]
    by_cases q2 : i ≤ j
    · rw [if_pos q2, if_neg (show ¬ j < i by omega), if_pos (show i < j by omega)]
      have k3 : (nI m < nI i) ↔ m < i := nI_ltI (by omega) (by omega)
      have k4 : (nI m ≤ nI j) ↔ m ≤ j := nI_leI (by omega) (by omega)
      simp only [k3, k4]
      by_cases q3 : j < m
      · rw [if_pos q3, if_neg (show ¬ m < i by omega), if_neg (show ¬ m ≤ j by omega)]
      · rw [if_neg q3]
        by_cases q4 : i ≤ m
        · rw [if_pos q4, if_neg (show ¬ m < i by omega), if_pos (show m ≤ j by omega)]
        · rw [if_neg q4, if_pos (show m < i by omega)]
    · rw [if_neg q2, if_pos (show j < i by omega), if_neg (show ¬ i < j by omega)]
      have k3 : (nI m < nI j) ↔ m < j := nI_ltI (by omega) (by omega)
      have k4 : (nI m ≤ nI i) ↔ m ≤ i := nI_leI (by omega) (by omega)
      simp only [k3, k4]
theorem K_mix (x y k aim q a b : Int32) (ha : okR a 0 10000) (hb : okR b 0 10000) : thF (or5 (inF x 0 7) (inF y 0 7) x y (inF k 0 3) (inF q 0 1)) (nB (inF aim 0 10000)) (nevF (upF (or5 (inF x 0 7) (inF y 0 7) x y (inF k 0 3) (inF q 0 1)) (aim - b)) (lwF (or5 (inF x 0 7) (inF y 0 7) x y (inF k 0 3) (inF q 0 1)) (a - b))) 0 = cX [xI, xA, xU] (X_mix x y k aim q a b) := by
  by_cases h1 : okM x
  · by_cases h2 : okM y
    · by_cases h3 : x = y
      · simp only [X_mix, inF_okM, inF_okE, inF_okQ, nB, orN, or3, inF_ok aim 0 10000, or5, upF, lwF, thF, if_pos h1, if_pos h2, if_pos h3, if_neg b10, ↓reduceIte]
        rfl
      · by_cases h4 : okE k
        · by_cases h5 : okQ q
          · by_cases h6 : okR aim 0 10000
            · by_cases h7 : a = b
              · simp only [X_mix, inF_okM, inF_okE, inF_okQ, nB, orN, or3, inF_ok aim 0 10000, or5, upF, lwF, nevG ha hb h6, thF, if_pos h1, if_pos h2, if_neg h3, if_pos h4, if_pos h5, if_pos h6, if_pos h7, if_neg b10, ↓reduceIte]
                rfl
              · by_cases h8 : aim < (if b < a then b else a)
                · simp only [X_mix, inF_okM, inF_okE, inF_okQ, nB, orN, or3, inF_ok aim 0 10000, or5, upF, lwF, nevG ha hb h6, thF, if_pos h1, if_pos h2, if_neg h3, if_pos h4, if_pos h5, if_pos h6, if_neg h7, if_pos h8, if_neg b10, ↓reduceIte]
                  rfl
                · by_cases h9 : aim ≤ (if a < b then b else a)
                  · simp only [X_mix, inF_okM, inF_okE, inF_okQ, nB, orN, or3, inF_ok aim 0 10000, or5, upF, lwF, nevG ha hb h6, thF, if_pos h1, if_pos h2, if_neg h3, if_pos h4, if_pos h5, if_pos h6, if_neg h7, if_neg h8, if_pos h9, if_neg b10, ↓reduceIte]
                    rfl
                  · simp only [X_mix, inF_okM, inF_okE, inF_okQ, nB, orN, or3, inF_ok aim 0 10000, or5, upF, lwF, nevG ha hb h6, thF, if_pos h1, if_pos h2, if_neg h3, if_pos h4, if_pos h5, if_pos h6, if_neg h7, if_neg h8, if_neg h9, if_neg b10, ↓reduceIte]
                    rfl
            · simp only [X_mix, inF_okM, inF_okE, inF_okQ, nB, orN, or3, inF_ok aim 0 10000, or5, upF, lwF, thF, if_pos h1, if_pos h2, if_neg h3, if_pos h4, if_pos h5, if_neg h6, if_neg b10, ↓reduceIte]
              rfl
          · simp only [X_mix, inF_okM, inF_okE, inF_okQ, nB, orN, or3, inF_ok aim 0 10000, or5, upF, lwF, thF, if_pos h1, if_pos h2, if_neg h3, if_pos h4, if_neg h5, if_neg b10, ↓reduceIte]
            rfl
        · simp only [X_mix, inF_okM, inF_okE, inF_okQ, nB, orN, or3, inF_ok aim 0 10000, or5, upF, lwF, thF, if_pos h1, if_pos h2, if_neg h3, if_neg h4, if_neg b10, ↓reduceIte]
          rfl
    · simp only [X_mix, inF_okM, inF_okE, inF_okQ, nB, orN, or3, inF_ok aim 0 10000, or5, upF, lwF, thF, if_pos h1, if_neg h2, if_neg b10, ↓reduceIte]
      rfl
  · simp only [X_mix, inF_okM, inF_okE, inF_okQ, nB, orN, or3, inF_ok aim 0 10000, or5, upF, lwF, thF, if_neg h1, if_neg b10, ↓reduceIte]
    rfl
theorem XE_mix (x y k aim q a b : Int32) {E : String} (h : X_mix x y k aim q a b = some E) : E = xI ∨ E = xA ∨ E = xU := by
  by_cases h1 : okM x
  · by_cases h2 : okM y
    · by_cases h3 : x = y
      · simp only [X_mix, if_pos h1, if_pos h2, if_pos h3] at h
        obtain rfl := Option.some.inj h
        exact Or.inl rfl
      · by_cases h4 : okE k
        · by_cases h5 : okQ q
          · by_cases h6 : okR aim 0 10000
            · by_cases h7 : a = b
              · simp only [X_mix, if_pos h1, if_pos h2, if_neg h3, if_pos h4, if_pos h5, if_pos h6, if_pos h7] at h
                obtain rfl := Option.some.inj h
                exact Or.inr (Or.inr (rfl))
              · by_cases h8 : aim < (if b < a then b else a)
                · simp only [X_mix, if_pos h1, if_pos h2, if_neg h3, if_pos h4, if_pos h5, if_pos h6, if_neg h7, if_pos h8] at h
                  obtain rfl := Option.some.inj h
                  exact Or.inr (Or.inr (rfl))
                · by_cases h9 : aim ≤ (if a < b then b else a)
                  · exact absurd h (by simp only [X_mix, if_pos h1, if_pos h2, if_neg h3, if_pos h4, if_pos h5, if_pos h6, if_neg h7, if_neg h8, if_pos h9]; exact fun z => nomatch z)
                  · simp only [X_mix, if_pos h1, if_pos h2, if_neg h3, if_pos h4, if_pos h5, if_pos h6, if_neg h7, if_neg h8, if_neg h9] at h
                    obtain rfl := Option.some.inj h
                    exact Or.inr (Or.inr (rfl))
            · simp only [X_mix, if_pos h1, if_pos h2, if_neg h3, if_pos h4, if_pos h5, if_neg h6] at h
              obtain rfl := Option.some.inj h
              exact Or.inr (Or.inl rfl)
          · simp only [X_mix, if_pos h1, if_pos h2, if_neg h3, if_pos h4, if_neg h5] at h
            obtain rfl := Option.some.inj h
            exact Or.inl rfl
        · simp only [X_mix, if_pos h1, if_pos h2, if_neg h3, if_neg h4] at h
          obtain rfl := Option.some.inj h
          exact Or.inl rfl
    · simp only [X_mix, if_pos h1, if_neg h2] at h
      obtain rfl := Option.some.inj h
      exact Or.inl rfl
  · simp only [X_mix, if_neg h1] at h
    obtain rfl := Option.some.inj h
    exact Or.inl rfl
