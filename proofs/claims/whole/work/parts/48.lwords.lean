theorem vq_t0 : (.initialized R_LW : Cond) ∈ vq_G := vq_at1 (i := 0) rfl rfl
theorem vq_t134 : (.methodLink R_LW 75 y_LW_moisture : Cond) ∈ vq_G := vq_at1 (i := 134) rfl rfl
theorem vq_t135 : (.static y_LW_moisture : Cond) ∈ vq_G := vq_at1 (i := 135) rfl rfl
theorem vq_t234 : (.methodLink R_LW 85 y_LW_element : Cond) ∈ vq_G := vq_at1 (i := 234) rfl rfl
theorem vq_t235 : (.static y_LW_element : Cond) ∈ vq_G := vq_at1 (i := 235) rfl rfl
theorem vq_t245 : (.methodLink R_LW 89 y_LW_ship : Cond) ∈ vq_G := vq_at2 (i := 5) rfl rfl
theorem vq_t246 : (.static y_LW_ship : Cond) ∈ vq_G := vq_at2 (i := 6) rfl rfl
theorem vq_t272 : (.methodLink R_LW 93 y_LW_stock : Cond) ∈ vq_G := vq_at2 (i := 32) rfl rfl
theorem vq_t273 : (.static y_LW_stock : Cond) ∈ vq_G := vq_at2 (i := 33) rfl rfl
theorem vq_t417 : (.methodLink R_LW 120 y_LW_mix : Cond) ∈ vq_G := vq_at2 (i := 177) rfl rfl
theorem vq_t418 : (.static y_LW_mix : Cond) ∈ vq_G := vq_at2 (i := 178) rfl rfl
theorem vq_t432 : (.methodLink R_LW 124 y_LW_point : Cond) ∈ vq_G := vq_at2 (i := 192) rfl rfl
theorem vq_t433 : (.static y_LW_point : Cond) ∈ vq_G := vq_at2 (i := 193) rfl rfl
theorem vq_t444 : (.methodLink R_LW 127 y_LW_fit : Cond) ∈ vq_G := vq_at2 (i := 204) rfl rfl
theorem vq_t445 : (.static y_LW_fit : Cond) ∈ vq_G := vq_at2 (i := 205) rfl rfl
theorem vq_t464 : (.methodLink R_LW 130 y_LW_tick : Cond) ∈ vq_G := vq_at2 (i := 224) rfl rfl
theorem vq_t465 : (.static y_LW_tick : Cond) ∈ vq_G := vq_at2 (i := 225) rfl rfl
theorem vq_t544 : (.methodLink R_LW 81 y_MO_thrown : Cond) ∈ vq_G := vq_at3 (i := 64) rfl rfl
theorem vq_t545 : (.instanceMethod y_MO_thrown : Cond) ∈ vq_G := vq_at3 (i := 65) rfl rfl
theorem vq_t546 : (.selects R_MO y_MO_thrown y_MO_thrown : Cond) ∈ vq_G := vq_at3 (i := 66) rfl rfl
theorem vq_t548 : (.methodLink R_LW 80 y_MO_moisture : Cond) ∈ vq_G := vq_at3 (i := 68) rfl rfl
theorem vq_t549 : (.instanceMethod y_MO_moisture : Cond) ∈ vq_G := vq_at3 (i := 69) rfl rfl
theorem vq_t550 : (.selects R_MO y_MO_moisture y_MO_moisture : Cond) ∈ vq_G := vq_at3 (i := 70) rfl rfl
theorem vq_t562 : (.methodLink R_LW 88 y_MO_element : Cond) ∈ vq_G := vq_at3 (i := 82) rfl rfl
theorem vq_t563 : (.instanceMethod y_MO_element : Cond) ∈ vq_G := vq_at3 (i := 83) rfl rfl
theorem vq_t564 : (.selects R_MO y_MO_element y_MO_element : Cond) ∈ vq_G := vq_at3 (i := 84) rfl rfl
theorem vq_t569 : (.methodLink R_LW 92 y_MO_ship : Cond) ∈ vq_G := vq_at3 (i := 89) rfl rfl
theorem vq_t570 : (.instanceMethod y_MO_ship : Cond) ∈ vq_G := vq_at3 (i := 90) rfl rfl
theorem vq_t571 : (.selects R_MO y_MO_ship y_MO_ship : Cond) ∈ vq_G := vq_at3 (i := 91) rfl rfl
theorem vq_t573 : (.methodLink R_LW 96 y_MO_stock : Cond) ∈ vq_G := vq_at3 (i := 93) rfl rfl
theorem vq_t574 : (.instanceMethod y_MO_stock : Cond) ∈ vq_G := vq_at3 (i := 94) rfl rfl
theorem vq_t575 : (.selects R_MO y_MO_stock y_MO_stock : Cond) ∈ vq_G := vq_at3 (i := 95) rfl rfl
theorem vq_t649 : (.methodLink R_LW 123 y_MO_mix : Cond) ∈ vq_G := vq_at3 (i := 169) rfl rfl
theorem vq_t650 : (.instanceMethod y_MO_mix : Cond) ∈ vq_G := vq_at3 (i := 170) rfl rfl
theorem vq_t651 : (.selects R_MO y_MO_mix y_MO_mix : Cond) ∈ vq_G := vq_at3 (i := 171) rfl rfl
theorem vq_t653 : (.methodLink R_LW 126 y_MO_point : Cond) ∈ vq_G := vq_at3 (i := 173) rfl rfl
theorem vq_t654 : (.instanceMethod y_MO_point : Cond) ∈ vq_G := vq_at3 (i := 174) rfl rfl
theorem vq_t655 : (.selects R_MO y_MO_point y_MO_point : Cond) ∈ vq_G := vq_at3 (i := 175) rfl rfl
theorem vq_t657 : (.methodLink R_LW 129 y_MO_fit : Cond) ∈ vq_G := vq_at3 (i := 177) rfl rfl
theorem vq_t658 : (.instanceMethod y_MO_fit : Cond) ∈ vq_G := vq_at3 (i := 178) rfl rfl
theorem vq_t659 : (.selects R_MO y_MO_fit y_MO_fit : Cond) ∈ vq_G := vq_at3 (i := 179) rfl rfl
theorem vq_t661 : (.methodLink R_LW 132 y_MO_tick : Cond) ∈ vq_G := vq_at3 (i := 181) rfl rfl
theorem vq_t662 : (.instanceMethod y_MO_tick : Cond) ∈ vq_G := vq_at3 (i := 182) rfl rfl
theorem vq_t663 : (.selects R_MO y_MO_tick y_MO_tick : Cond) ∈ vq_G := vq_at3 (i := 183) rfl rfl
