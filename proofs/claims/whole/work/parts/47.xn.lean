-- WHERE NOTHING IS THROWN
theorem XN_moisture {x y : Int32} (h : X_moisture x y = none) : (okM x) ∧ (okR y 0 900) := by
  by_cases h1 : okM x
  · by_cases h2 : okR y 0 900
    · exact ⟨h1, h2⟩
    · exact absurd h (by simp only [X_moisture, if_pos h1, if_neg h2]; exact fun z => nomatch z)
  · exact absurd h (by simp only [X_moisture, if_neg h1]; exact fun z => nomatch z)
theorem XN_element {x k y : Int32} (h : X_element x k y = none) : (okM x) ∧ (okE k) ∧ (okR y 0 10000) := by
  by_cases h1 : okM x
  · by_cases h2 : okE k
    · by_cases h3 : okR y 0 10000
      · exact ⟨h1, h2, h3⟩
      · exact absurd h (by simp only [X_element, if_pos h1, if_pos h2, if_neg h3]; exact fun z => nomatch z)
    · exact absurd h (by simp only [X_element, if_pos h1, if_neg h2]; exact fun z => nomatch z)
  · exact absurd h (by simp only [X_element, if_neg h1]; exact fun z => nomatch z)
theorem XN_ship {cn to day x kg lo : Int32} (h : X_ship cn to day x kg lo = none) : (okM x) ∧ (cn < 40) ∧ (okR day to 9999) ∧ (okR kg 1 1000) ∧ (okR lo 0 999) := by
  by_cases h1 : okM x
  · by_cases h2 : cn < 40
    · by_cases h3 : okR day to 9999
      · by_cases h4 : okR kg 1 1000
        · by_cases h5 : okR lo 0 999
          · exact ⟨h1, h2, h3, h4, h5⟩
          · exact absurd h (by simp only [X_ship, if_pos h1, if_pos h2, if_pos h3, if_pos h4, if_neg h5]; exact fun z => nomatch z)
        · exact absurd h (by simp only [X_ship, if_pos h1, if_pos h2, if_pos h3, if_neg h4]; exact fun z => nomatch z)
      · exact absurd h (by simp only [X_ship, if_pos h1, if_pos h2, if_neg h3]; exact fun z => nomatch z)
    · exact absurd h (by simp only [X_ship, if_pos h1, if_neg h2]; exact fun z => nomatch z)
  · exact absurd h (by simp only [X_ship, if_neg h1]; exact fun z => nomatch z)
theorem XN_stock {x : Int32} (h : X_stock x = none) : (okM x) := by
  by_cases h1 : okM x
  · exact h1
  · exact absurd h (by simp only [X_stock, if_neg h1]; exact fun z => nomatch z)
theorem XN_pile {pc x : Int32} (h : X_pile pc x = none) : (pc < 4) ∧ (okR x 1 65536) := by
  by_cases h1 : pc < 4
  · by_cases h2 : okR x 1 65536
    · exact ⟨h1, h2⟩
    · exact absurd h (by simp only [X_pile, if_pos h1, if_neg h2]; exact fun z => nomatch z)
  · exact absurd h (by simp only [X_pile, if_neg h1]; exact fun z => nomatch z)
theorem XN_point {n x y : Int32} (h : X_point n x y = none) : (n < 20) ∧ (okR x 0 10000) ∧ (okR y 0 10000) := by
  by_cases h1 : n < 20
  · by_cases h2 : okR x 0 10000
    · by_cases h3 : okR y 0 10000
      · exact ⟨h1, h2, h3⟩
      · exact absurd h (by simp only [X_point, if_pos h1, if_pos h2, if_neg h3]; exact fun z => nomatch z)
    · exact absurd h (by simp only [X_point, if_pos h1, if_neg h2]; exact fun z => nomatch z)
  · exact absurd h (by simp only [X_point, if_neg h1]; exact fun z => nomatch z)
theorem XN_lay {y kg tk ly st : Int32} (h : X_lay y kg tk ly st = none) : (okM y) ∧ (tk ≤ 0) ∧ (okR kg 1 1000) ∧ (ly < 20) ∧ (kg ≤ st) := by
  by_cases h1 : okM y
  · by_cases h2 : tk ≤ 0
    · by_cases h3 : okR kg 1 1000
      · by_cases h4 : ly < 20
        · by_cases h5 : kg ≤ st
          · exact ⟨h1, h2, h3, h4, h5⟩
          · exact absurd h (by simp only [X_lay, if_pos h1, if_pos h2, if_pos h3, if_pos h4, if_neg h5]; exact fun z => nomatch z)
        · exact absurd h (by simp only [X_lay, if_pos h1, if_pos h2, if_pos h3, if_neg h4]; exact fun z => nomatch z)
      · exact absurd h (by simp only [X_lay, if_pos h1, if_pos h2, if_neg h3]; exact fun z => nomatch z)
    · exact absurd h (by simp only [X_lay, if_pos h1, if_neg h2]; exact fun z => nomatch z)
  · exact absurd h (by simp only [X_lay, if_neg h1]; exact fun z => nomatch z)
theorem XN_slice {ly tk sl : Int32} (h : X_slice ly tk sl = none) : (¬ (ly = 0)) ∧ (tk < sl) := by
  by_cases h1 : ly = 0
  · exact absurd h (by simp only [X_slice, if_pos h1]; exact fun z => nomatch z)
  · by_cases h2 : tk < sl
    · exact ⟨h1, h2⟩
    · exact absurd h (by simp only [X_slice, if_neg h1, if_neg h2]; exact fun z => nomatch z)
theorem XN_share {k q tk lt : Int32} (h : X_share k q tk lt = none) : (okE k) ∧ (okQ q) ∧ (¬ tk = 0) ∧ (¬ (lt = 0)) := by
  by_cases h1 : okE k
  · by_cases h2 : okQ q
    · by_cases h3 : ¬ tk = 0
      · by_cases h4 : lt = 0
        · exact absurd h (by simp only [X_share, if_pos h1, if_pos h2, if_pos h3, if_pos h4]; exact fun z => nomatch z)
        · exact ⟨h1, h2, h3, h4⟩
      · exact absurd h (by simp only [X_share, if_pos h1, if_pos h2, if_neg h3]; exact fun z => nomatch z)
    · exact absurd h (by simp only [X_share, if_pos h1, if_neg h2]; exact fun z => nomatch z)
  · exact absurd h (by simp only [X_share, if_neg h1]; exact fun z => nomatch z)
theorem XN_basicity {q tk : Int32} {b : Int64} (h : X_basicity q tk b = none) : (okQ q) ∧ (¬ tk = 0) ∧ (¬ (b = 0)) := by
  by_cases h1 : okQ q
  · by_cases h2 : ¬ tk = 0
    · by_cases h3 : b = 0
      · exact absurd h (by simp only [X_basicity, if_pos h1, if_pos h2, if_pos h3]; exact fun z => nomatch z)
      · exact ⟨h1, h2, h3⟩
    · exact absurd h (by simp only [X_basicity, if_pos h1, if_neg h2]; exact fun z => nomatch z)
  · exact absurd h (by simp only [X_basicity, if_neg h1]; exact fun z => nomatch z)
theorem XN_spread {k q gt : Int32} (h : X_spread k q gt = none) : (okE k) ∧ (okQ q) ∧ (¬ (gt = 0)) := by
  by_cases h1 : okE k
  · by_cases h2 : okQ q
    · by_cases h3 : gt = 0
      · exact absurd h (by simp only [X_spread, if_pos h1, if_pos h2, if_pos h3]; exact fun z => nomatch z)
      · exact ⟨h1, h2, h3⟩
    · exact absurd h (by simp only [X_spread, if_pos h1, if_neg h2]; exact fun z => nomatch z)
  · exact absurd h (by simp only [X_spread, if_neg h1]; exact fun z => nomatch z)
theorem XN_pileAt {w : Int32} (h : X_pileAt w = none) : (¬ (w.toInt < 0 ∨ 4 < w.toInt)) := by
  by_cases h1 : w.toInt < 0 ∨ 4 < w.toInt
  · exact absurd h (by simp only [X_pileAt, if_pos h1]; exact fun z => nomatch z)
  · exact h1
theorem XN_fit {w q : Int32} {lw : Int64} (h : X_fit w q lw = none) : (¬ (w < 0)) ∧ (w ≤ 1) ∧ (okQ q) ∧ (¬ (lw = 0)) := by
  by_cases h1 : w < 0
  · exact absurd h (by simp only [X_fit, if_pos h1]; exact fun z => nomatch z)
  · by_cases h2 : w ≤ 1
    · by_cases h3 : okQ q
      · by_cases h4 : lw = 0
        · exact absurd h (by simp only [X_fit, if_neg h1, if_pos h2, if_pos h3, if_pos h4]; exact fun z => nomatch z)
        · exact ⟨h1, h2, h3, h4⟩
      · exact absurd h (by simp only [X_fit, if_neg h1, if_pos h2, if_neg h3]; exact fun z => nomatch z)
    · exact absurd h (by simp only [X_fit, if_neg h1, if_neg h2]; exact fun z => nomatch z)
theorem XN_tick {x to : Int32} (h : X_tick x to = none) : (okR x 1 1000) ∧ (okR (to + x) 0 9999) := by
  by_cases h1 : okR x 1 1000
  · by_cases h2 : okR (to + x) 0 9999
    · exact ⟨h1, h2⟩
    · exact absurd h (by simp only [X_tick, if_pos h1, if_neg h2]; exact fun z => nomatch z)
  · exact absurd h (by simp only [X_tick, if_neg h1]; exact fun z => nomatch z)
theorem XN_mix {x y k aim q a b : Int32} (h : X_mix x y k aim q a b = none) : (okM x) ∧ (okM y) ∧ (¬ (x = y)) ∧ (okE k) ∧ (okQ q) ∧ (okR aim 0 10000) ∧ (¬ (a = b)) ∧ (¬ (aim < (if b < a then b else a))) ∧ (aim ≤ (if a < b then b else a)) := by
  by_cases h1 : okM x
  · by_cases h2 : okM y
    · by_cases h3 : x = y
      · exact absurd h (by simp only [X_mix, if_pos h1, if_pos h2, if_pos h3]; exact fun z => nomatch z)
      · by_cases h4 : okE k
        · by_cases h5 : okQ q
          · by_cases h6 : okR aim 0 10000
            · by_cases h7 : a = b
              · exact absurd h (by simp only [X_mix, if_pos h1, if_pos h2, if_neg h3, if_pos h4, if_pos h5, if_pos h6, if_pos h7]; exact fun z => nomatch z)
              · by_cases h8 : aim < (if b < a then b else a)
                · exact absurd h (by simp only [X_mix, if_pos h1, if_pos h2, if_neg h3, if_pos h4, if_pos h5, if_pos h6, if_neg h7, if_pos h8]; exact fun z => nomatch z)
                · by_cases h9 : aim ≤ (if a < b then b else a)
                  · exact ⟨h1, h2, h3, h4, h5, h6, h7, h8, h9⟩
                  · exact absurd h (by simp only [X_mix, if_pos h1, if_pos h2, if_neg h3, if_pos h4, if_pos h5, if_pos h6, if_neg h7, if_neg h8, if_neg h9]; exact fun z => nomatch z)
            · exact absurd h (by simp only [X_mix, if_pos h1, if_pos h2, if_neg h3, if_pos h4, if_pos h5, if_neg h6]; exact fun z => nomatch z)
          · exact absurd h (by simp only [X_mix, if_pos h1, if_pos h2, if_neg h3, if_pos h4, if_neg h5]; exact fun z => nomatch z)
        · exact absurd h (by simp only [X_mix, if_pos h1, if_pos h2, if_neg h3, if_neg h4]; exact fun z => nomatch z)
    · exact absurd h (by simp only [X_mix, if_pos h1, if_neg h2]; exact fun z => nomatch z)
  · exact absurd h (by simp only [X_mix, if_neg h1]; exact fun z => nomatch z)
