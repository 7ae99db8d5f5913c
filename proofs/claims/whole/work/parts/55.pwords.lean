theorem vq_t283 : (.methodLink R_LW 97 y_LW_pile : Cond) ∈ vq_G := vq_at2 (i := 43) rfl rfl
theorem vq_t284 : (.static y_LW_pile : Cond) ∈ vq_G := vq_at2 (i := 44) rfl rfl
theorem vq_t292 : (.methodLink R_LW 100 y_LW_lay : Cond) ∈ vq_G := vq_at2 (i := 52) rfl rfl
theorem vq_t293 : (.static y_LW_lay : Cond) ∈ vq_G := vq_at2 (i := 53) rfl rfl
theorem vq_t327 : (.methodLink R_LW 104 y_LW_slice : Cond) ∈ vq_G := vq_at2 (i := 87) rfl rfl
theorem vq_t328 : (.static y_LW_slice : Cond) ∈ vq_G := vq_at2 (i := 88) rfl rfl
theorem vq_t360 : (.methodLink R_LW 107 y_LW_share : Cond) ∈ vq_G := vq_at2 (i := 120) rfl rfl
theorem vq_t361 : (.static y_LW_share : Cond) ∈ vq_G := vq_at2 (i := 121) rfl rfl
theorem vq_t385 : (.methodLink R_LW 110 y_LW_basicity : Cond) ∈ vq_G := vq_at2 (i := 145) rfl rfl
theorem vq_t386 : (.static y_LW_basicity : Cond) ∈ vq_G := vq_at2 (i := 146) rfl rfl
theorem vq_t393 : (.methodLink R_LW 114 y_LW_spread : Cond) ∈ vq_G := vq_at2 (i := 153) rfl rfl
theorem vq_t394 : (.static y_LW_spread : Cond) ∈ vq_G := vq_at2 (i := 154) rfl rfl
theorem vq_t409 : (.methodLink R_LW 117 y_LW_pileAt : Cond) ∈ vq_G := vq_at2 (i := 169) rfl rfl
theorem vq_t410 : (.static y_LW_pileAt : Cond) ∈ vq_G := vq_at2 (i := 170) rfl rfl
theorem vq_t581 : (.methodLink R_LW 99 y_MO_pile : Cond) ∈ vq_G := vq_at3 (i := 101) rfl rfl
theorem vq_t582 : (.instanceMethod y_MO_pile : Cond) ∈ vq_G := vq_at3 (i := 102) rfl rfl
theorem vq_t583 : (.selects R_MO y_MO_pile y_MO_pile : Cond) ∈ vq_G := vq_at3 (i := 103) rfl rfl
theorem vq_t586 : (.methodLink R_LW 103 y_MO_lay : Cond) ∈ vq_G := vq_at3 (i := 106) rfl rfl
theorem vq_t587 : (.instanceMethod y_MO_lay : Cond) ∈ vq_G := vq_at3 (i := 107) rfl rfl
theorem vq_t588 : (.selects R_MO y_MO_lay y_MO_lay : Cond) ∈ vq_G := vq_at3 (i := 108) rfl rfl
theorem vq_t598 : (.methodLink R_LW 106 y_MO_slice : Cond) ∈ vq_G := vq_at3 (i := 118) rfl rfl
theorem vq_t599 : (.instanceMethod y_MO_slice : Cond) ∈ vq_G := vq_at3 (i := 119) rfl rfl
theorem vq_t600 : (.selects R_MO y_MO_slice y_MO_slice : Cond) ∈ vq_G := vq_at3 (i := 120) rfl rfl
theorem vq_t626 : (.methodLink R_LW 109 y_MO_share : Cond) ∈ vq_G := vq_at3 (i := 146) rfl rfl
theorem vq_t627 : (.instanceMethod y_MO_share : Cond) ∈ vq_G := vq_at3 (i := 147) rfl rfl
theorem vq_t628 : (.selects R_MO y_MO_share y_MO_share : Cond) ∈ vq_G := vq_at3 (i := 148) rfl rfl
theorem vq_t637 : (.methodLink R_LW 113 y_MO_basicity : Cond) ∈ vq_G := vq_at3 (i := 157) rfl rfl
theorem vq_t638 : (.instanceMethod y_MO_basicity : Cond) ∈ vq_G := vq_at3 (i := 158) rfl rfl
theorem vq_t639 : (.selects R_MO y_MO_basicity y_MO_basicity : Cond) ∈ vq_G := vq_at3 (i := 159) rfl rfl
theorem vq_t641 : (.methodLink R_LW 116 y_MO_spread : Cond) ∈ vq_G := vq_at3 (i := 161) rfl rfl
theorem vq_t642 : (.instanceMethod y_MO_spread : Cond) ∈ vq_G := vq_at3 (i := 162) rfl rfl
theorem vq_t643 : (.selects R_MO y_MO_spread y_MO_spread : Cond) ∈ vq_G := vq_at3 (i := 163) rfl rfl
theorem vq_t645 : (.methodLink R_LW 119 y_MO_pileAt : Cond) ∈ vq_G := vq_at3 (i := 165) rfl rfl
theorem vq_t646 : (.instanceMethod y_MO_pileAt : Cond) ∈ vq_G := vq_at3 (i := 166) rfl rfl
theorem vq_t647 : (.selects R_MO y_MO_pileAt y_MO_pileAt : Cond) ∈ vq_G := vq_at3 (i := 167) rfl rfl
