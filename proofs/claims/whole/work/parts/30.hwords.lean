theorem vq_t136 : (.codeWith y_LW_moisture b_LW_moisture 4 (some .int) [(0, 6, 9, 13), (0, 6, 12, 15)] : Cond) ∈ vq_G := vq_at1 (i := 136) rfl rfl
theorem vq_t137 : (.classLink R_LW 13 "java/lang/IndexOutOfBoundsException" : Cond) ∈ vq_G := vq_at1 (i := 137) rfl rfl
theorem vq_t138 : (.classLink R_LW 15 "java/lang/IllegalArgumentException" : Cond) ∈ vq_G := vq_at1 (i := 138) rfl rfl
theorem vq_t139 : (.methodLink R_LW 7 y_BR_moisture : Cond) ∈ vq_G := vq_at1 (i := 139) rfl rfl
theorem vq_t140 : (.instanceMethod y_BR_moisture : Cond) ∈ vq_G := vq_at1 (i := 140) rfl rfl
theorem vq_t141 : (.selects R_BR y_BR_moisture y_BR_moisture : Cond) ∈ vq_G := vq_at1 (i := 141) rfl rfl
theorem vq_t236 : (.codeWith y_LW_element b_LW_element 5 (some .int) [(0, 7, 10, 13), (0, 7, 14, 15)] : Cond) ∈ vq_G := vq_at1 (i := 236) rfl rfl
theorem vq_t237 : (.methodLink R_LW 17 y_BR_element : Cond) ∈ vq_G := vq_at1 (i := 237) rfl rfl
theorem vq_t238 : (.instanceMethod y_BR_element : Cond) ∈ vq_G := vq_at1 (i := 238) rfl rfl
theorem vq_t239 : (.selects R_BR y_BR_element y_BR_element : Cond) ∈ vq_G := vq_at1 (i := 239) rfl rfl
theorem vq_t247 : (.codeWith y_LW_ship b_LW_ship 7 (some .int) [(0, 14, 17, 13), (0, 14, 21, 25), (0, 14, 25, 15)] : Cond) ∈ vq_G := vq_at2 (i := 7) rfl rfl
theorem vq_t248 : (.classLink R_LW 25 "java/lang/IllegalStateException" : Cond) ∈ vq_G := vq_at2 (i := 8) rfl rfl
theorem vq_t249 : (.methodLink R_LW 21 y_BR_ship : Cond) ∈ vq_G := vq_at2 (i := 9) rfl rfl
theorem vq_t250 : (.instanceMethod y_BR_ship : Cond) ∈ vq_G := vq_at2 (i := 10) rfl rfl
theorem vq_t251 : (.selects R_BR y_BR_ship y_BR_ship : Cond) ∈ vq_G := vq_at2 (i := 11) rfl rfl
theorem vq_t274 : (.codeWith y_LW_stock b_LW_stock 4 (some .int) [(0, 9, 12, 13)] : Cond) ∈ vq_G := vq_at2 (i := 34) rfl rfl
theorem vq_t275 : (.methodLink R_LW 27 y_BR_stock : Cond) ∈ vq_G := vq_at2 (i := 35) rfl rfl
theorem vq_t276 : (.instanceMethod y_BR_stock : Cond) ∈ vq_G := vq_at2 (i := 36) rfl rfl
theorem vq_t277 : (.selects R_BR y_BR_stock y_BR_stock : Cond) ∈ vq_G := vq_at2 (i := 37) rfl rfl
theorem vq_t285 : (.codeWith y_LW_pile b_LW_pile 4 (some .int) [(0, 9, 12, 25), (0, 9, 15, 15)] : Cond) ∈ vq_G := vq_at2 (i := 45) rfl rfl
theorem vq_t286 : (.methodLink R_LW 31 y_BR_pile : Cond) ∈ vq_G := vq_at2 (i := 46) rfl rfl
theorem vq_t287 : (.instanceMethod y_BR_pile : Cond) ∈ vq_G := vq_at2 (i := 47) rfl rfl
theorem vq_t288 : (.selects R_BR y_BR_pile y_BR_pile : Cond) ∈ vq_G := vq_at2 (i := 48) rfl rfl
theorem vq_t294 : (.codeWith y_LW_lay b_LW_lay 6 (some .int) [(0, 12, 15, 13), (0, 12, 19, 25), (0, 12, 23, 15), (0, 12, 27, 38)] : Cond) ∈ vq_G := vq_at2 (i := 54) rfl rfl
theorem vq_t295 : (.classLink R_LW 38 "java/lang/UnsupportedOperationException" : Cond) ∈ vq_G := vq_at2 (i := 55) rfl rfl
theorem vq_t296 : (.methodLink R_LW 34 y_BR_lay : Cond) ∈ vq_G := vq_at2 (i := 56) rfl rfl
theorem vq_t297 : (.instanceMethod y_BR_lay : Cond) ∈ vq_G := vq_at2 (i := 57) rfl rfl
theorem vq_t298 : (.selects R_BR y_BR_lay y_BR_lay : Cond) ∈ vq_G := vq_at2 (i := 58) rfl rfl
theorem vq_t329 : (.codeWith y_LW_slice b_LW_slice 4 (some .int) [(0, 9, 12, 13), (0, 9, 15, 25)] : Cond) ∈ vq_G := vq_at2 (i := 89) rfl rfl
theorem vq_t330 : (.methodLink R_LW 40 y_BR_slice : Cond) ∈ vq_G := vq_at2 (i := 90) rfl rfl
theorem vq_t331 : (.instanceMethod y_BR_slice : Cond) ∈ vq_G := vq_at2 (i := 91) rfl rfl
theorem vq_t332 : (.selects R_BR y_BR_slice y_BR_slice : Cond) ∈ vq_G := vq_at2 (i := 92) rfl rfl
theorem vq_t362 : (.codeWith y_LW_share b_LW_share 6 (some .int) [(0, 11, 14, 13), (0, 11, 18, 25), (0, 11, 22, 38)] : Cond) ∈ vq_G := vq_at2 (i := 122) rfl rfl
theorem vq_t363 : (.methodLink R_LW 43 y_BR_share : Cond) ∈ vq_G := vq_at2 (i := 123) rfl rfl
theorem vq_t364 : (.instanceMethod y_BR_share : Cond) ∈ vq_G := vq_at2 (i := 124) rfl rfl
theorem vq_t365 : (.selects R_BR y_BR_share y_BR_share : Cond) ∈ vq_G := vq_at2 (i := 125) rfl rfl
theorem vq_t387 : (.codeWith y_LW_basicity b_LW_basicity 5 (some .int) [(0, 9, 12, 13), (0, 9, 16, 25), (0, 9, 20, 38)] : Cond) ∈ vq_G := vq_at2 (i := 147) rfl rfl
theorem vq_t388 : (.methodLink R_LW 47 y_BR_basicity : Cond) ∈ vq_G := vq_at2 (i := 148) rfl rfl
theorem vq_t389 : (.instanceMethod y_BR_basicity : Cond) ∈ vq_G := vq_at2 (i := 149) rfl rfl
theorem vq_t390 : (.selects R_BR y_BR_basicity y_BR_basicity : Cond) ∈ vq_G := vq_at2 (i := 150) rfl rfl
theorem vq_t395 : (.codeWith y_LW_spread b_LW_spread 6 (some .int) [(0, 11, 14, 13), (0, 11, 18, 25)] : Cond) ∈ vq_G := vq_at2 (i := 155) rfl rfl
theorem vq_t396 : (.methodLink R_LW 51 y_BR_spread : Cond) ∈ vq_G := vq_at2 (i := 156) rfl rfl
theorem vq_t397 : (.instanceMethod y_BR_spread : Cond) ∈ vq_G := vq_at2 (i := 157) rfl rfl
theorem vq_t398 : (.selects R_BR y_BR_spread y_BR_spread : Cond) ∈ vq_G := vq_at2 (i := 158) rfl rfl
theorem vq_t411 : (.codeWith y_LW_pileAt b_LW_pileAt 5 (some .int) [(0, 10, 13, 13)] : Cond) ∈ vq_G := vq_at2 (i := 171) rfl rfl
theorem vq_t412 : (.methodLink R_LW 54 y_BR_pileAt : Cond) ∈ vq_G := vq_at2 (i := 172) rfl rfl
theorem vq_t413 : (.instanceMethod y_BR_pileAt : Cond) ∈ vq_G := vq_at2 (i := 173) rfl rfl
theorem vq_t414 : (.selects R_BR y_BR_pileAt y_BR_pileAt : Cond) ∈ vq_G := vq_at2 (i := 174) rfl rfl
theorem vq_t419 : (.codeWith y_LW_mix b_LW_mix 8 (some .int) [(0, 15, 18, 13), (0, 15, 22, 15), (0, 15, 26, 38)] : Cond) ∈ vq_G := vq_at2 (i := 179) rfl rfl
theorem vq_t420 : (.methodLink R_LW 58 y_BR_mix : Cond) ∈ vq_G := vq_at2 (i := 180) rfl rfl
theorem vq_t421 : (.instanceMethod y_BR_mix : Cond) ∈ vq_G := vq_at2 (i := 181) rfl rfl
theorem vq_t422 : (.selects R_BR y_BR_mix y_BR_mix : Cond) ∈ vq_G := vq_at2 (i := 182) rfl rfl
theorem vq_t434 : (.codeWith y_LW_point b_LW_point 5 (some .int) [(0, 10, 13, 25), (0, 10, 17, 15)] : Cond) ∈ vq_G := vq_at2 (i := 194) rfl rfl
theorem vq_t435 : (.methodLink R_LW 62 y_BR_point : Cond) ∈ vq_G := vq_at2 (i := 195) rfl rfl
theorem vq_t436 : (.instanceMethod y_BR_point : Cond) ∈ vq_G := vq_at2 (i := 196) rfl rfl
theorem vq_t437 : (.selects R_BR y_BR_point y_BR_point : Cond) ∈ vq_G := vq_at2 (i := 197) rfl rfl
theorem vq_t446 : (.codeWith y_LW_fit b_LW_fit 5 (some .int) [(0, 9, 12, 13), (0, 9, 16, 38)] : Cond) ∈ vq_G := vq_at2 (i := 206) rfl rfl
theorem vq_t447 : (.methodLink R_LW 65 y_BR_fit : Cond) ∈ vq_G := vq_at2 (i := 207) rfl rfl
theorem vq_t448 : (.instanceMethod y_BR_fit : Cond) ∈ vq_G := vq_at2 (i := 208) rfl rfl
theorem vq_t449 : (.selects R_BR y_BR_fit y_BR_fit : Cond) ∈ vq_G := vq_at2 (i := 209) rfl rfl
theorem vq_t466 : (.codeWith y_LW_tick b_LW_tick 4 (some .int) [(0, 9, 12, 15)] : Cond) ∈ vq_G := vq_at2 (i := 226) rfl rfl
theorem vq_t467 : (.methodLink R_LW 68 y_BR_tick : Cond) ∈ vq_G := vq_at2 (i := 227) rfl rfl
theorem vq_t468 : (.instanceMethod y_BR_tick : Cond) ∈ vq_G := vq_at2 (i := 228) rfl rfl
theorem vq_t469 : (.selects R_BR y_BR_tick y_BR_tick : Cond) ∈ vq_G := vq_at2 (i := 229) rfl rfl
abbrev w_LW_moisture : List Cond := .codeWith y_LW_moisture b_LW_moisture 4 (some .int) [(0, 6, 9, 13), (0, 6, 12, 15)] :: vq_G
abbrev w_LW_element : List Cond := .codeWith y_LW_element b_LW_element 5 (some .int) [(0, 7, 10, 13), (0, 7, 14, 15)] :: vq_G
abbrev w_LW_ship : List Cond := .codeWith y_LW_ship b_LW_ship 7 (some .int) [(0, 14, 17, 13), (0, 14, 21, 25), (0, 14, 25, 15)] :: vq_G
abbrev w_LW_stock : List Cond := .codeWith y_LW_stock b_LW_stock 4 (some .int) [(0, 9, 12, 13)] :: vq_G
abbrev w_LW_pile : List Cond := .codeWith y_LW_pile b_LW_pile 4 (some .int) [(0, 9, 12, 25), (0, 9, 15, 15)] :: vq_G
abbrev w_LW_lay : List Cond := .codeWith y_LW_lay b_LW_lay 6 (some .int) [(0, 12, 15, 13), (0, 12, 19, 25), (0, 12, 23, 15), (0, 12, 27, 38)] :: vq_G
abbrev w_LW_slice : List Cond := .codeWith y_LW_slice b_LW_slice 4 (some .int) [(0, 9, 12, 13), (0, 9, 15, 25)] :: vq_G
abbrev w_LW_share : List Cond := .codeWith y_LW_share b_LW_share 6 (some .int) [(0, 11, 14, 13), (0, 11, 18, 25), (0, 11, 22, 38)] :: vq_G
abbrev w_LW_basicity : List Cond := .codeWith y_LW_basicity b_LW_basicity 5 (some .int) [(0, 9, 12, 13), (0, 9, 16, 25), (0, 9, 20, 38)] :: vq_G
abbrev w_LW_spread : List Cond := .codeWith y_LW_spread b_LW_spread 6 (some .int) [(0, 11, 14, 13), (0, 11, 18, 25)] :: vq_G
abbrev w_LW_pileAt : List Cond := .codeWith y_LW_pileAt b_LW_pileAt 5 (some .int) [(0, 10, 13, 13)] :: vq_G
abbrev w_LW_mix : List Cond := .codeWith y_LW_mix b_LW_mix 8 (some .int) [(0, 15, 18, 13), (0, 15, 22, 15), (0, 15, 26, 38)] :: vq_G
abbrev w_LW_point : List Cond := .codeWith y_LW_point b_LW_point 5 (some .int) [(0, 10, 13, 25), (0, 10, 17, 15)] :: vq_G
abbrev w_LW_fit : List Cond := .codeWith y_LW_fit b_LW_fit 5 (some .int) [(0, 9, 12, 13), (0, 9, 16, 38)] :: vq_G
abbrev w_LW_tick : List Cond := .codeWith y_LW_tick b_LW_tick 4 (some .int) [(0, 9, 12, 15)] :: vq_G
theorem d_LW_moisture_0 : decode b_LW_moisture 0 = .ok (.aload_n 0, 1) := by decide +kernel
theorem d_LW_moisture_1 : decode b_LW_moisture 1 = .ok (.iload_n 1, 1) := by decide +kernel
theorem d_LW_moisture_2 : decode b_LW_moisture 2 = .ok (.iload_n 2, 1) := by decide +kernel
theorem d_LW_moisture_3 : decode b_LW_moisture 3 = .ok (.invokevirtual 7, 3) := by decide +kernel
theorem d_LW_moisture_6 : decode b_LW_moisture 6 = .ok (.goto 9, 3) := by decide +kernel
theorem d_LW_moisture_9 : decode b_LW_moisture 9 = .ok (.astore_n 3, 1) := by decide +kernel
theorem d_LW_moisture_10 : decode b_LW_moisture 10 = .ok (.iconst 1, 1) := by decide +kernel
theorem d_LW_moisture_11 : decode b_LW_moisture 11 = .ok (.ireturn, 1) := by decide +kernel
theorem d_LW_moisture_12 : decode b_LW_moisture 12 = .ok (.astore_n 3, 1) := by decide +kernel
theorem d_LW_moisture_13 : decode b_LW_moisture 13 = .ok (.iconst 2, 1) := by decide +kernel
theorem d_LW_moisture_14 : decode b_LW_moisture 14 = .ok (.ireturn, 1) := by decide +kernel
theorem d_LW_moisture_15 : decode b_LW_moisture 15 = .ok (.iconst 0, 1) := by decide +kernel
theorem d_LW_moisture_16 : decode b_LW_moisture 16 = .ok (.ireturn, 1) := by decide +kernel
theorem d_LW_element_0 : decode b_LW_element 0 = .ok (.aload_n 0, 1) := by decide +kernel
theorem d_LW_element_1 : decode b_LW_element 1 = .ok (.iload_n 1, 1) := by decide +kernel
theorem d_LW_element_2 : decode b_LW_element 2 = .ok (.iload_n 2, 1) := by decide +kernel
theorem d_LW_element_3 : decode b_LW_element 3 = .ok (.iload_n 3, 1) := by decide +kernel
theorem d_LW_element_4 : decode b_LW_element 4 = .ok (.invokevirtual 17, 3) := by decide +kernel
theorem d_LW_element_7 : decode b_LW_element 7 = .ok (.goto 11, 3) := by decide +kernel
theorem d_LW_element_10 : decode b_LW_element 10 = .ok (.astore 4, 2) := by decide +kernel
theorem d_LW_element_12 : decode b_LW_element 12 = .ok (.iconst 1, 1) := by decide +kernel
theorem d_LW_element_13 : decode b_LW_element 13 = .ok (.ireturn, 1) := by decide +kernel
theorem d_LW_element_14 : decode b_LW_element 14 = .ok (.astore 4, 2) := by decide +kernel
theorem d_LW_element_16 : decode b_LW_element 16 = .ok (.iconst 2, 1) := by decide +kernel
theorem d_LW_element_17 : decode b_LW_element 17 = .ok (.ireturn, 1) := by decide +kernel
theorem d_LW_element_18 : decode b_LW_element 18 = .ok (.iconst 0, 1) := by decide +kernel
theorem d_LW_element_19 : decode b_LW_element 19 = .ok (.ireturn, 1) := by decide +kernel
theorem d_LW_ship_0 : decode b_LW_ship 0 = .ok (.aload 5, 2) := by decide +kernel
theorem d_LW_ship_2 : decode b_LW_ship 2 = .ok (.iconst 0, 1) := by decide +kernel
theorem d_LW_ship_3 : decode b_LW_ship 3 = .ok (.aload_n 0, 1) := by decide +kernel
theorem d_LW_ship_4 : decode b_LW_ship 4 = .ok (.iload_n 1, 1) := by decide +kernel
theorem d_LW_ship_5 : decode b_LW_ship 5 = .ok (.iload_n 2, 1) := by decide +kernel
theorem d_LW_ship_6 : decode b_LW_ship 6 = .ok (.iload_n 3, 1) := by decide +kernel
theorem d_LW_ship_7 : decode b_LW_ship 7 = .ok (.iload 4, 2) := by decide +kernel
theorem d_LW_ship_9 : decode b_LW_ship 9 = .ok (.invokevirtual 21, 3) := by decide +kernel
theorem d_LW_ship_12 : decode b_LW_ship 12 = .ok (.i2l, 1) := by decide +kernel
theorem d_LW_ship_13 : decode b_LW_ship 13 = .ok (.lastore, 1) := by decide +kernel
theorem d_LW_ship_14 : decode b_LW_ship 14 = .ok (.goto 15, 3) := by decide +kernel
theorem d_LW_ship_17 : decode b_LW_ship 17 = .ok (.astore 6, 2) := by decide +kernel
theorem d_LW_ship_19 : decode b_LW_ship 19 = .ok (.iconst 1, 1) := by decide +kernel
theorem d_LW_ship_20 : decode b_LW_ship 20 = .ok (.ireturn, 1) := by decide +kernel
theorem d_LW_ship_21 : decode b_LW_ship 21 = .ok (.astore 6, 2) := by decide +kernel
theorem d_LW_ship_23 : decode b_LW_ship 23 = .ok (.iconst 2, 1) := by decide +kernel
theorem d_LW_ship_24 : decode b_LW_ship 24 = .ok (.ireturn, 1) := by decide +kernel
theorem d_LW_ship_25 : decode b_LW_ship 25 = .ok (.astore 6, 2) := by decide +kernel
theorem d_LW_ship_27 : decode b_LW_ship 27 = .ok (.iconst 3, 1) := by decide +kernel
theorem d_LW_ship_28 : decode b_LW_ship 28 = .ok (.ireturn, 1) := by decide +kernel
theorem d_LW_ship_29 : decode b_LW_ship 29 = .ok (.iconst 0, 1) := by decide +kernel
theorem d_LW_ship_30 : decode b_LW_ship 30 = .ok (.ireturn, 1) := by decide +kernel
theorem d_LW_stock_0 : decode b_LW_stock 0 = .ok (.aload_n 2, 1) := by decide +kernel
theorem d_LW_stock_1 : decode b_LW_stock 1 = .ok (.iconst 0, 1) := by decide +kernel
theorem d_LW_stock_2 : decode b_LW_stock 2 = .ok (.aload_n 0, 1) := by decide +kernel
theorem d_LW_stock_3 : decode b_LW_stock 3 = .ok (.iload_n 1, 1) := by decide +kernel
theorem d_LW_stock_4 : decode b_LW_stock 4 = .ok (.invokevirtual 27, 3) := by decide +kernel
theorem d_LW_stock_7 : decode b_LW_stock 7 = .ok (.i2l, 1) := by decide +kernel
theorem d_LW_stock_8 : decode b_LW_stock 8 = .ok (.lastore, 1) := by decide +kernel
theorem d_LW_stock_9 : decode b_LW_stock 9 = .ok (.goto 6, 3) := by decide +kernel
theorem d_LW_stock_12 : decode b_LW_stock 12 = .ok (.astore_n 3, 1) := by decide +kernel
theorem d_LW_stock_13 : decode b_LW_stock 13 = .ok (.iconst 1, 1) := by decide +kernel
theorem d_LW_stock_14 : decode b_LW_stock 14 = .ok (.ireturn, 1) := by decide +kernel
theorem d_LW_stock_15 : decode b_LW_stock 15 = .ok (.iconst 0, 1) := by decide +kernel
theorem d_LW_stock_16 : decode b_LW_stock 16 = .ok (.ireturn, 1) := by decide +kernel
theorem d_LW_pile_0 : decode b_LW_pile 0 = .ok (.aload_n 2, 1) := by decide +kernel
theorem d_LW_pile_1 : decode b_LW_pile 1 = .ok (.iconst 0, 1) := by decide +kernel
theorem d_LW_pile_2 : decode b_LW_pile 2 = .ok (.aload_n 0, 1) := by decide +kernel
theorem d_LW_pile_3 : decode b_LW_pile 3 = .ok (.iload_n 1, 1) := by decide +kernel
theorem d_LW_pile_4 : decode b_LW_pile 4 = .ok (.invokevirtual 31, 3) := by decide +kernel
theorem d_LW_pile_7 : decode b_LW_pile 7 = .ok (.i2l, 1) := by decide +kernel
theorem d_LW_pile_8 : decode b_LW_pile 8 = .ok (.lastore, 1) := by decide +kernel
theorem d_LW_pile_9 : decode b_LW_pile 9 = .ok (.goto 9, 3) := by decide +kernel
theorem d_LW_pile_12 : decode b_LW_pile 12 = .ok (.astore_n 3, 1) := by decide +kernel
theorem d_LW_pile_13 : decode b_LW_pile 13 = .ok (.iconst 1, 1) := by decide +kernel
theorem d_LW_pile_14 : decode b_LW_pile 14 = .ok (.ireturn, 1) := by decide +kernel
theorem d_LW_pile_15 : decode b_LW_pile 15 = .ok (.astore_n 3, 1) := by decide +kernel
theorem d_LW_pile_16 : decode b_LW_pile 16 = .ok (.iconst 2, 1) := by decide +kernel
theorem d_LW_pile_17 : decode b_LW_pile 17 = .ok (.ireturn, 1) := by decide +kernel
theorem d_LW_pile_18 : decode b_LW_pile 18 = .ok (.iconst 0, 1) := by decide +kernel
theorem d_LW_pile_19 : decode b_LW_pile 19 = .ok (.ireturn, 1) := by decide +kernel
theorem d_LW_lay_0 : decode b_LW_lay 0 = .ok (.aload 4, 2) := by decide +kernel
theorem d_LW_lay_2 : decode b_LW_lay 2 = .ok (.iconst 0, 1) := by decide +kernel
theorem d_LW_lay_3 : decode b_LW_lay 3 = .ok (.aload_n 0, 1) := by decide +kernel
theorem d_LW_lay_4 : decode b_LW_lay 4 = .ok (.iload_n 1, 1) := by decide +kernel
theorem d_LW_lay_5 : decode b_LW_lay 5 = .ok (.iload_n 2, 1) := by decide +kernel
theorem d_LW_lay_6 : decode b_LW_lay 6 = .ok (.iload_n 3, 1) := by decide +kernel
theorem d_LW_lay_7 : decode b_LW_lay 7 = .ok (.invokevirtual 34, 3) := by decide +kernel
theorem d_LW_lay_10 : decode b_LW_lay 10 = .ok (.i2l, 1) := by decide +kernel
theorem d_LW_lay_11 : decode b_LW_lay 11 = .ok (.lastore, 1) := by decide +kernel
theorem d_LW_lay_12 : decode b_LW_lay 12 = .ok (.goto 19, 3) := by decide +kernel
theorem d_LW_lay_15 : decode b_LW_lay 15 = .ok (.astore 5, 2) := by decide +kernel
theorem d_LW_lay_17 : decode b_LW_lay 17 = .ok (.iconst 1, 1) := by decide +kernel
theorem d_LW_lay_18 : decode b_LW_lay 18 = .ok (.ireturn, 1) := by decide +kernel
theorem d_LW_lay_19 : decode b_LW_lay 19 = .ok (.astore 5, 2) := by decide +kernel
theorem d_LW_lay_21 : decode b_LW_lay 21 = .ok (.iconst 2, 1) := by decide +kernel
theorem d_LW_lay_22 : decode b_LW_lay 22 = .ok (.ireturn, 1) := by decide +kernel
theorem d_LW_lay_23 : decode b_LW_lay 23 = .ok (.astore 5, 2) := by decide +kernel
theorem d_LW_lay_25 : decode b_LW_lay 25 = .ok (.iconst 3, 1) := by decide +kernel
theorem d_LW_lay_26 : decode b_LW_lay 26 = .ok (.ireturn, 1) := by decide +kernel
theorem d_LW_lay_27 : decode b_LW_lay 27 = .ok (.astore 5, 2) := by decide +kernel
theorem d_LW_lay_29 : decode b_LW_lay 29 = .ok (.iconst 4, 1) := by decide +kernel
theorem d_LW_lay_30 : decode b_LW_lay 30 = .ok (.ireturn, 1) := by decide +kernel
theorem d_LW_lay_31 : decode b_LW_lay 31 = .ok (.iconst 0, 1) := by decide +kernel
theorem d_LW_lay_32 : decode b_LW_lay 32 = .ok (.ireturn, 1) := by decide +kernel
theorem d_LW_slice_0 : decode b_LW_slice 0 = .ok (.aload_n 2, 1) := by decide +kernel
theorem d_LW_slice_1 : decode b_LW_slice 1 = .ok (.iconst 0, 1) := by decide +kernel
theorem d_LW_slice_2 : decode b_LW_slice 2 = .ok (.aload_n 0, 1) := by decide +kernel
theorem d_LW_slice_3 : decode b_LW_slice 3 = .ok (.iload_n 1, 1) := by decide +kernel
theorem d_LW_slice_4 : decode b_LW_slice 4 = .ok (.invokevirtual 40, 3) := by decide +kernel
theorem d_LW_slice_7 : decode b_LW_slice 7 = .ok (.i2l, 1) := by decide +kernel
theorem d_LW_slice_8 : decode b_LW_slice 8 = .ok (.lastore, 1) := by decide +kernel
theorem d_LW_slice_9 : decode b_LW_slice 9 = .ok (.goto 9, 3) := by decide +kernel
theorem d_LW_slice_12 : decode b_LW_slice 12 = .ok (.astore_n 3, 1) := by decide +kernel
theorem d_LW_slice_13 : decode b_LW_slice 13 = .ok (.iconst 1, 1) := by decide +kernel
theorem d_LW_slice_14 : decode b_LW_slice 14 = .ok (.ireturn, 1) := by decide +kernel
theorem d_LW_slice_15 : decode b_LW_slice 15 = .ok (.astore_n 3, 1) := by decide +kernel
theorem d_LW_slice_16 : decode b_LW_slice 16 = .ok (.iconst 2, 1) := by decide +kernel
theorem d_LW_slice_17 : decode b_LW_slice 17 = .ok (.ireturn, 1) := by decide +kernel
theorem d_LW_slice_18 : decode b_LW_slice 18 = .ok (.iconst 0, 1) := by decide +kernel
theorem d_LW_slice_19 : decode b_LW_slice 19 = .ok (.ireturn, 1) := by decide +kernel
theorem d_LW_share_0 : decode b_LW_share 0 = .ok (.aload 4, 2) := by decide +kernel
theorem d_LW_share_2 : decode b_LW_share 2 = .ok (.iconst 0, 1) := by decide +kernel
theorem d_LW_share_3 : decode b_LW_share 3 = .ok (.aload_n 0, 1) := by decide +kernel
theorem d_LW_share_4 : decode b_LW_share 4 = .ok (.iload_n 1, 1) := by decide +kernel
theorem d_LW_share_5 : decode b_LW_share 5 = .ok (.iload_n 2, 1) := by decide +kernel
theorem d_LW_share_6 : decode b_LW_share 6 = .ok (.iload_n 3, 1) := by decide +kernel
theorem d_LW_share_7 : decode b_LW_share 7 = .ok (.invokevirtual 43, 3) := by decide +kernel
theorem d_LW_share_10 : decode b_LW_share 10 = .ok (.lastore, 1) := by decide +kernel
theorem d_LW_share_11 : decode b_LW_share 11 = .ok (.goto 15, 3) := by decide +kernel
theorem d_LW_share_14 : decode b_LW_share 14 = .ok (.astore 5, 2) := by decide +kernel
theorem d_LW_share_16 : decode b_LW_share 16 = .ok (.iconst 1, 1) := by decide +kernel
theorem d_LW_share_17 : decode b_LW_share 17 = .ok (.ireturn, 1) := by decide +kernel
theorem d_LW_share_18 : decode b_LW_share 18 = .ok (.astore 5, 2) := by decide +kernel
theorem d_LW_share_20 : decode b_LW_share 20 = .ok (.iconst 2, 1) := by decide +kernel
theorem d_LW_share_21 : decode b_LW_share 21 = .ok (.ireturn, 1) := by decide +kernel
theorem d_LW_share_22 : decode b_LW_share 22 = .ok (.astore 5, 2) := by decide +kernel
theorem d_LW_share_24 : decode b_LW_share 24 = .ok (.iconst 3, 1) := by decide +kernel
theorem d_LW_share_25 : decode b_LW_share 25 = .ok (.ireturn, 1) := by decide +kernel
theorem d_LW_share_26 : decode b_LW_share 26 = .ok (.iconst 0, 1) := by decide +kernel
theorem d_LW_share_27 : decode b_LW_share 27 = .ok (.ireturn, 1) := by decide +kernel
theorem d_LW_basicity_0 : decode b_LW_basicity 0 = .ok (.aload_n 3, 1) := by decide +kernel
theorem d_LW_basicity_1 : decode b_LW_basicity 1 = .ok (.iconst 0, 1) := by decide +kernel
theorem d_LW_basicity_2 : decode b_LW_basicity 2 = .ok (.aload_n 0, 1) := by decide +kernel
theorem d_LW_basicity_3 : decode b_LW_basicity 3 = .ok (.iload_n 1, 1) := by decide +kernel
theorem d_LW_basicity_4 : decode b_LW_basicity 4 = .ok (.iload_n 2, 1) := by decide +kernel
theorem d_LW_basicity_5 : decode b_LW_basicity 5 = .ok (.invokevirtual 47, 3) := by decide +kernel
theorem d_LW_basicity_8 : decode b_LW_basicity 8 = .ok (.lastore, 1) := by decide +kernel
theorem d_LW_basicity_9 : decode b_LW_basicity 9 = .ok (.goto 15, 3) := by decide +kernel
theorem d_LW_basicity_12 : decode b_LW_basicity 12 = .ok (.astore 4, 2) := by decide +kernel
theorem d_LW_basicity_14 : decode b_LW_basicity 14 = .ok (.iconst 1, 1) := by decide +kernel
theorem d_LW_basicity_15 : decode b_LW_basicity 15 = .ok (.ireturn, 1) := by decide +kernel
theorem d_LW_basicity_16 : decode b_LW_basicity 16 = .ok (.astore 4, 2) := by decide +kernel
theorem d_LW_basicity_18 : decode b_LW_basicity 18 = .ok (.iconst 2, 1) := by decide +kernel
theorem d_LW_basicity_19 : decode b_LW_basicity 19 = .ok (.ireturn, 1) := by decide +kernel
theorem d_LW_basicity_20 : decode b_LW_basicity 20 = .ok (.astore 4, 2) := by decide +kernel
theorem d_LW_basicity_22 : decode b_LW_basicity 22 = .ok (.iconst 3, 1) := by decide +kernel
theorem d_LW_basicity_23 : decode b_LW_basicity 23 = .ok (.ireturn, 1) := by decide +kernel
theorem d_LW_basicity_24 : decode b_LW_basicity 24 = .ok (.iconst 0, 1) := by decide +kernel
theorem d_LW_basicity_25 : decode b_LW_basicity 25 = .ok (.ireturn, 1) := by decide +kernel
theorem d_LW_spread_0 : decode b_LW_spread 0 = .ok (.aload 4, 2) := by decide +kernel
theorem d_LW_spread_2 : decode b_LW_spread 2 = .ok (.iconst 0, 1) := by decide +kernel
theorem d_LW_spread_3 : decode b_LW_spread 3 = .ok (.aload_n 0, 1) := by decide +kernel
theorem d_LW_spread_4 : decode b_LW_spread 4 = .ok (.iload_n 1, 1) := by decide +kernel
theorem d_LW_spread_5 : decode b_LW_spread 5 = .ok (.iload_n 2, 1) := by decide +kernel
theorem d_LW_spread_6 : decode b_LW_spread 6 = .ok (.iload_n 3, 1) := by decide +kernel
theorem d_LW_spread_7 : decode b_LW_spread 7 = .ok (.invokevirtual 51, 3) := by decide +kernel
theorem d_LW_spread_10 : decode b_LW_spread 10 = .ok (.lastore, 1) := by decide +kernel
theorem d_LW_spread_11 : decode b_LW_spread 11 = .ok (.goto 11, 3) := by decide +kernel
theorem d_LW_spread_14 : decode b_LW_spread 14 = .ok (.astore 5, 2) := by decide +kernel
theorem d_LW_spread_16 : decode b_LW_spread 16 = .ok (.iconst 1, 1) := by decide +kernel
theorem d_LW_spread_17 : decode b_LW_spread 17 = .ok (.ireturn, 1) := by decide +kernel
theorem d_LW_spread_18 : decode b_LW_spread 18 = .ok (.astore 5, 2) := by decide +kernel
theorem d_LW_spread_20 : decode b_LW_spread 20 = .ok (.iconst 2, 1) := by decide +kernel
theorem d_LW_spread_21 : decode b_LW_spread 21 = .ok (.ireturn, 1) := by decide +kernel
theorem d_LW_spread_22 : decode b_LW_spread 22 = .ok (.iconst 0, 1) := by decide +kernel
theorem d_LW_spread_23 : decode b_LW_spread 23 = .ok (.ireturn, 1) := by decide +kernel
theorem d_LW_pileAt_0 : decode b_LW_pileAt 0 = .ok (.aload_n 3, 1) := by decide +kernel
theorem d_LW_pileAt_1 : decode b_LW_pileAt 1 = .ok (.iconst 0, 1) := by decide +kernel
theorem d_LW_pileAt_2 : decode b_LW_pileAt 2 = .ok (.aload_n 0, 1) := by decide +kernel
theorem d_LW_pileAt_3 : decode b_LW_pileAt 3 = .ok (.iload_n 1, 1) := by decide +kernel
theorem d_LW_pileAt_4 : decode b_LW_pileAt 4 = .ok (.iload_n 2, 1) := by decide +kernel
theorem d_LW_pileAt_5 : decode b_LW_pileAt 5 = .ok (.invokevirtual 54, 3) := by decide +kernel
theorem d_LW_pileAt_8 : decode b_LW_pileAt 8 = .ok (.i2l, 1) := by decide +kernel
theorem d_LW_pileAt_9 : decode b_LW_pileAt 9 = .ok (.lastore, 1) := by decide +kernel
theorem d_LW_pileAt_10 : decode b_LW_pileAt 10 = .ok (.goto 7, 3) := by decide +kernel
theorem d_LW_pileAt_13 : decode b_LW_pileAt 13 = .ok (.astore 4, 2) := by decide +kernel
theorem d_LW_pileAt_15 : decode b_LW_pileAt 15 = .ok (.iconst 1, 1) := by decide +kernel
theorem d_LW_pileAt_16 : decode b_LW_pileAt 16 = .ok (.ireturn, 1) := by decide +kernel
theorem d_LW_pileAt_17 : decode b_LW_pileAt 17 = .ok (.iconst 0, 1) := by decide +kernel
theorem d_LW_pileAt_18 : decode b_LW_pileAt 18 = .ok (.ireturn, 1) := by decide +kernel
theorem d_LW_mix_0 : decode b_LW_mix 0 = .ok (.aload 6, 2) := by decide +kernel
theorem d_LW_mix_2 : decode b_LW_mix 2 = .ok (.iconst 0, 1) := by decide +kernel
theorem d_LW_mix_3 : decode b_LW_mix 3 = .ok (.aload_n 0, 1) := by decide +kernel
theorem d_LW_mix_4 : decode b_LW_mix 4 = .ok (.iload_n 1, 1) := by decide +kernel
theorem d_LW_mix_5 : decode b_LW_mix 5 = .ok (.iload_n 2, 1) := by decide +kernel
theorem d_LW_mix_6 : decode b_LW_mix 6 = .ok (.iload_n 3, 1) := by decide +kernel
theorem d_LW_mix_7 : decode b_LW_mix 7 = .ok (.iload 4, 2) := by decide +kernel
theorem d_LW_mix_9 : decode b_LW_mix 9 = .ok (.iload 5, 2) := by decide +kernel
theorem d_LW_mix_11 : decode b_LW_mix 11 = .ok (.invokevirtual 58, 3) := by decide +kernel
theorem d_LW_mix_14 : decode b_LW_mix 14 = .ok (.lastore, 1) := by decide +kernel
theorem d_LW_mix_15 : decode b_LW_mix 15 = .ok (.goto 15, 3) := by decide +kernel
theorem d_LW_mix_18 : decode b_LW_mix 18 = .ok (.astore 7, 2) := by decide +kernel
theorem d_LW_mix_20 : decode b_LW_mix 20 = .ok (.iconst 1, 1) := by decide +kernel
theorem d_LW_mix_21 : decode b_LW_mix 21 = .ok (.ireturn, 1) := by decide +kernel
theorem d_LW_mix_22 : decode b_LW_mix 22 = .ok (.astore 7, 2) := by decide +kernel
theorem d_LW_mix_24 : decode b_LW_mix 24 = .ok (.iconst 2, 1) := by decide +kernel
theorem d_LW_mix_25 : decode b_LW_mix 25 = .ok (.ireturn, 1) := by decide +kernel
theorem d_LW_mix_26 : decode b_LW_mix 26 = .ok (.astore 7, 2) := by decide +kernel
theorem d_LW_mix_28 : decode b_LW_mix 28 = .ok (.iconst 3, 1) := by decide +kernel
theorem d_LW_mix_29 : decode b_LW_mix 29 = .ok (.ireturn, 1) := by decide +kernel
theorem d_LW_mix_30 : decode b_LW_mix 30 = .ok (.iconst 0, 1) := by decide +kernel
theorem d_LW_mix_31 : decode b_LW_mix 31 = .ok (.ireturn, 1) := by decide +kernel
theorem d_LW_point_0 : decode b_LW_point 0 = .ok (.aload_n 3, 1) := by decide +kernel
theorem d_LW_point_1 : decode b_LW_point 1 = .ok (.iconst 0, 1) := by decide +kernel
theorem d_LW_point_2 : decode b_LW_point 2 = .ok (.aload_n 0, 1) := by decide +kernel
theorem d_LW_point_3 : decode b_LW_point 3 = .ok (.iload_n 1, 1) := by decide +kernel
theorem d_LW_point_4 : decode b_LW_point 4 = .ok (.iload_n 2, 1) := by decide +kernel
theorem d_LW_point_5 : decode b_LW_point 5 = .ok (.invokevirtual 62, 3) := by decide +kernel
theorem d_LW_point_8 : decode b_LW_point 8 = .ok (.i2l, 1) := by decide +kernel
theorem d_LW_point_9 : decode b_LW_point 9 = .ok (.lastore, 1) := by decide +kernel
theorem d_LW_point_10 : decode b_LW_point 10 = .ok (.goto 11, 3) := by decide +kernel
theorem d_LW_point_13 : decode b_LW_point 13 = .ok (.astore 4, 2) := by decide +kernel
theorem d_LW_point_15 : decode b_LW_point 15 = .ok (.iconst 1, 1) := by decide +kernel
theorem d_LW_point_16 : decode b_LW_point 16 = .ok (.ireturn, 1) := by decide +kernel
theorem d_LW_point_17 : decode b_LW_point 17 = .ok (.astore 4, 2) := by decide +kernel
theorem d_LW_point_19 : decode b_LW_point 19 = .ok (.iconst 2, 1) := by decide +kernel
theorem d_LW_point_20 : decode b_LW_point 20 = .ok (.ireturn, 1) := by decide +kernel
theorem d_LW_point_21 : decode b_LW_point 21 = .ok (.iconst 0, 1) := by decide +kernel
theorem d_LW_point_22 : decode b_LW_point 22 = .ok (.ireturn, 1) := by decide +kernel
theorem d_LW_fit_0 : decode b_LW_fit 0 = .ok (.aload_n 3, 1) := by decide +kernel
theorem d_LW_fit_1 : decode b_LW_fit 1 = .ok (.iconst 0, 1) := by decide +kernel
theorem d_LW_fit_2 : decode b_LW_fit 2 = .ok (.aload_n 0, 1) := by decide +kernel
theorem d_LW_fit_3 : decode b_LW_fit 3 = .ok (.iload_n 1, 1) := by decide +kernel
theorem d_LW_fit_4 : decode b_LW_fit 4 = .ok (.iload_n 2, 1) := by decide +kernel
theorem d_LW_fit_5 : decode b_LW_fit 5 = .ok (.invokevirtual 65, 3) := by decide +kernel
theorem d_LW_fit_8 : decode b_LW_fit 8 = .ok (.lastore, 1) := by decide +kernel
theorem d_LW_fit_9 : decode b_LW_fit 9 = .ok (.goto 11, 3) := by decide +kernel
theorem d_LW_fit_12 : decode b_LW_fit 12 = .ok (.astore 4, 2) := by decide +kernel
theorem d_LW_fit_14 : decode b_LW_fit 14 = .ok (.iconst 1, 1) := by decide +kernel
theorem d_LW_fit_15 : decode b_LW_fit 15 = .ok (.ireturn, 1) := by decide +kernel
theorem d_LW_fit_16 : decode b_LW_fit 16 = .ok (.astore 4, 2) := by decide +kernel
theorem d_LW_fit_18 : decode b_LW_fit 18 = .ok (.iconst 2, 1) := by decide +kernel
theorem d_LW_fit_19 : decode b_LW_fit 19 = .ok (.ireturn, 1) := by decide +kernel
theorem d_LW_fit_20 : decode b_LW_fit 20 = .ok (.iconst 0, 1) := by decide +kernel
theorem d_LW_fit_21 : decode b_LW_fit 21 = .ok (.ireturn, 1) := by decide +kernel
theorem d_LW_tick_0 : decode b_LW_tick 0 = .ok (.aload_n 2, 1) := by decide +kernel
theorem d_LW_tick_1 : decode b_LW_tick 1 = .ok (.iconst 0, 1) := by decide +kernel
theorem d_LW_tick_2 : decode b_LW_tick 2 = .ok (.aload_n 0, 1) := by decide +kernel
theorem d_LW_tick_3 : decode b_LW_tick 3 = .ok (.iload_n 1, 1) := by decide +kernel
theorem d_LW_tick_4 : decode b_LW_tick 4 = .ok (.invokevirtual 68, 3) := by decide +kernel
theorem d_LW_tick_7 : decode b_LW_tick 7 = .ok (.i2l, 1) := by decide +kernel
theorem d_LW_tick_8 : decode b_LW_tick 8 = .ok (.lastore, 1) := by decide +kernel
theorem d_LW_tick_9 : decode b_LW_tick 9 = .ok (.goto 6, 3) := by decide +kernel
theorem d_LW_tick_12 : decode b_LW_tick 12 = .ok (.astore_n 3, 1) := by decide +kernel
theorem d_LW_tick_13 : decode b_LW_tick 13 = .ok (.iconst 1, 1) := by decide +kernel
theorem d_LW_tick_14 : decode b_LW_tick 14 = .ok (.ireturn, 1) := by decide +kernel
theorem d_LW_tick_15 : decode b_LW_tick 15 = .ok (.iconst 0, 1) := by decide +kernel
theorem d_LW_tick_16 : decode b_LW_tick 16 = .ok (.ireturn, 1) := by decide +kernel
def cdF (l : List String) (E : String) : Int32 := match l with
  | [] => 0
  | a :: r => if E = a then 1 else match r with
    | [] => 0
    | b :: r => if E = b then 2 else match r with
      | [] => 0
      | c :: r => if E = c then 3 else 4
