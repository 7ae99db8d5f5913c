theorem vq_t477 : (.fieldLink R_MO 62 "BlendRowsModel" "thrown" "I" : Cond) ∈ vq_G := vq_at2 (i := 237) rfl rfl
theorem vq_t486 : (.fieldLink R_MO 70 "BlendRowsModel" "piles" "I" : Cond) ∈ vq_G := vq_at3 (i := 6) rfl rfl
theorem vq_t555 : (.methodLink R_MO 66 y_MO_in : Cond) ∈ vq_G := vq_at3 (i := 75) rfl rfl
theorem vq_t556 : (.static y_MO_in : Cond) ∈ vq_G := vq_at3 (i := 76) rfl rfl
theorem vq_t625 : (.constantLong R_MO 73 (-1) : Cond) ∈ vq_G := vq_at3 (i := 145) rfl rfl
