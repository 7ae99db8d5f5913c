theorem vq_t0 : (.initialized R_LW : Cond) ∈ vq_G := vq_at1 (i := 0) rfl rfl
theorem vq_t81 : (.methodLink R_LW 75 y_LW_moisture : Cond) ∈ vq_G := vq_at1 (i := 81) rfl rfl
theorem vq_t82 : (.static y_LW_moisture : Cond) ∈ vq_G := vq_at1 (i := 82) rfl rfl
theorem vq_t181 : (.methodLink R_LW 85 y_LW_element : Cond) ∈ vq_G := vq_at1 (i := 181) rfl rfl
theorem vq_t182 : (.static y_LW_element : Cond) ∈ vq_G := vq_at1 (i := 182) rfl rfl
theorem vq_t544 : (.methodLink R_LW 81 y_MO_thrown : Cond) ∈ vq_G := vq_at3 (i := 64) rfl rfl
theorem vq_t545 : (.instanceMethod y_MO_thrown : Cond) ∈ vq_G := vq_at3 (i := 65) rfl rfl
theorem vq_t546 : (.selects R_MO y_MO_thrown y_MO_thrown : Cond) ∈ vq_G := vq_at3 (i := 66) rfl rfl
theorem vq_t548 : (.methodLink R_LW 80 y_MO_moisture : Cond) ∈ vq_G := vq_at3 (i := 68) rfl rfl
theorem vq_t549 : (.instanceMethod y_MO_moisture : Cond) ∈ vq_G := vq_at3 (i := 69) rfl rfl
theorem vq_t550 : (.selects R_MO y_MO_moisture y_MO_moisture : Cond) ∈ vq_G := vq_at3 (i := 70) rfl rfl
theorem vq_t562 : (.methodLink R_LW 88 y_MO_element : Cond) ∈ vq_G := vq_at3 (i := 82) rfl rfl
theorem vq_t563 : (.instanceMethod y_MO_element : Cond) ∈ vq_G := vq_at3 (i := 83) rfl rfl
theorem vq_t564 : (.selects R_MO y_MO_element y_MO_element : Cond) ∈ vq_G := vq_at3 (i := 84) rfl rfl
