-- NAMES, laid by program (wip/gen): classes, fields, methods, words by their places in the tables
def R_BR : String := "BlendRows"
def F_BR : u_T := fun k => match k with
  | 0 => ("BlendRows", "moistures", "[I", true)
  | 1 => ("BlendRows", "shares", "[I", true)
  | 2 => ("BlendRows", "laidKilos", "[I", true)
  | 3 => ("BlendRows", "shipDays", "[I", true)
  | 4 => ("BlendRows", "shipMaterials", "[I", true)
  | 5 => ("BlendRows", "shipKilos", "[I", true)
  | 6 => ("BlendRows", "shipCount", "I", false)
  | 7 => ("BlendRows", "piles", "[LBlendRows$Pile;", true)
  | 8 => ("BlendRows", "pileCount", "I", false)
  | 9 => ("BlendRows", "line", "LBlendRows$Line;", true)
  | _ => ("BlendRows", "today", "I", false)
def t_BR : Nat → FieldType := fun k => match k with
  | 0 => (.array .int)
  | 1 => (.array .int)
  | 2 => (.array .int)
  | 3 => (.array .int)
  | 4 => (.array .int)
  | 5 => (.array .int)
  | 6 => .int
  | 7 => (.array (.object "BlendRows$Pile"))
  | 8 => .int
  | 9 => (.object "BlendRows$Line")
  | _ => .int
theorem n_BR : ∀ a, a < 11 → ∀ b, b < 11 → a ≠ b → (F_BR a).2.1 ≠ (F_BR b).2.1 := by decide +kernel
theorem t_BR_ok : ∀ k, k < 11 → parseFieldDescriptor (F_BR k).2.2.1 = some (t_BR k) := by decide +kernel
def R_PI : String := "BlendRows$Pile"
def F_PI : u_T := fun k => match k with
  | 0 => ("BlendRows$Pile", "slices", "I", false)
  | 1 => ("BlendRows$Pile", "layerGrams", "[I", true)
  | 2 => ("BlendRows$Pile", "layerShares", "[I", true)
  | 3 => ("BlendRows$Pile", "layers", "I", false)
  | 4 => ("BlendRows$Pile", "grams", "I", false)
  | 5 => ("BlendRows$Pile", "taken", "I", false)
  | 6 => ("BlendRows$Pile", "gramsTaken", "I", false)
  | 7 => ("BlendRows$Pile", "latestGrams", "I", false)
  | 8 => ("BlendRows$Pile", "latestSums", "[J", true)
  | 9 => ("BlendRows$Pile", "greatestSums", "[J", true)
  | 10 => ("BlendRows$Pile", "greatestGrams", "[I", true)
  | 11 => ("BlendRows$Pile", "leastSums", "[J", true)
  | _ => ("BlendRows$Pile", "leastGrams", "[I", true)
def t_PI : Nat → FieldType := fun k => match k with
  | 0 => .int
  | 1 => (.array .int)
  | 2 => (.array .int)
  | 3 => .int
  | 4 => .int
  | 5 => .int
  | 6 => .int
  | 7 => .int
  | 8 => (.array .long)
  | 9 => (.array .long)
  | 10 => (.array .int)
  | 11 => (.array .long)
  | _ => (.array .int)
theorem n_PI : ∀ a, a < 13 → ∀ b, b < 13 → a ≠ b → (F_PI a).2.1 ≠ (F_PI b).2.1 := by decide +kernel
theorem t_PI_ok : ∀ k, k < 13 → parseFieldDescriptor (F_PI k).2.2.1 = some (t_PI k) := by decide +kernel
def R_LI : String := "BlendRows$Line"
def F_LI : u_T := fun k => match k with
  | 0 => ("BlendRows$Line", "count", "I", false)
  | 1 => ("BlendRows$Line", "sumX", "J", false)
  | 2 => ("BlendRows$Line", "sumY", "J", false)
  | 3 => ("BlendRows$Line", "sumXX", "J", false)
  | _ => ("BlendRows$Line", "sumXY", "J", false)
def t_LI : Nat → FieldType := fun k => match k with
  | 0 => .int
  | 1 => .long
  | 2 => .long
  | 3 => .long
  | _ => .long
theorem n_LI : ∀ a, a < 5 → ∀ b, b < 5 → a ≠ b → (F_LI a).2.1 ≠ (F_LI b).2.1 := by decide +kernel
theorem t_LI_ok : ∀ k, k < 5 → parseFieldDescriptor (F_LI k).2.2.1 = some (t_LI k) := by decide +kernel
def R_MO : String := "BlendRowsModel"
def F_MO : u_T := fun k => match k with
  | 0 => ("BlendRowsModel", "thrown", "I", false)
  | 1 => ("BlendRowsModel", "today", "I", false)
  | 2 => ("BlendRowsModel", "moisture", "[I", true)
  | 3 => ("BlendRowsModel", "shares", "[I", true)
  | 4 => ("BlendRowsModel", "ships", "I", false)
  | 5 => ("BlendRowsModel", "shipDay", "[I", true)
  | 6 => ("BlendRowsModel", "shipMaterial", "[I", true)
  | 7 => ("BlendRowsModel", "shipKilos", "[I", true)
  | 8 => ("BlendRowsModel", "laid", "[I", true)
  | 9 => ("BlendRowsModel", "piles", "I", false)
  | 10 => ("BlendRowsModel", "slices", "[I", true)
  | 11 => ("BlendRowsModel", "taken", "[I", true)
  | 12 => ("BlendRowsModel", "layers", "[I", true)
  | 13 => ("BlendRowsModel", "grams", "[I", true)
  | 14 => ("BlendRowsModel", "layerShare", "[I", true)
  | 15 => ("BlendRowsModel", "mostUp", "[J", true)
  | 16 => ("BlendRowsModel", "mostLow", "[J", true)
  | 17 => ("BlendRowsModel", "leastUp", "[J", true)
  | 18 => ("BlendRowsModel", "leastLow", "[J", true)
  | 19 => ("BlendRowsModel", "points", "I", false)
  | 20 => ("BlendRowsModel", "px", "[I", true)
  | _ => ("BlendRowsModel", "py", "[I", true)
def t_MO : Nat → FieldType := fun k => match k with
  | 0 => .int
  | 1 => .int
  | 2 => (.array .int)
  | 3 => (.array .int)
  | 4 => .int
  | 5 => (.array .int)
  | 6 => (.array .int)
  | 7 => (.array .int)
  | 8 => (.array .int)
  | 9 => .int
  | 10 => (.array .int)
  | 11 => (.array .int)
  | 12 => (.array .int)
  | 13 => (.array .int)
  | 14 => (.array .int)
  | 15 => (.array .long)
  | 16 => (.array .long)
  | 17 => (.array .long)
  | 18 => (.array .long)
  | 19 => .int
  | 20 => (.array .int)
  | _ => (.array .int)
theorem n_MO : ∀ a, a < 22 → ∀ b, b < 22 → a ≠ b → (F_MO a).2.1 ≠ (F_MO b).2.1 := by decide +kernel
theorem t_MO_ok : ∀ k, k < 22 → parseFieldDescriptor (F_MO k).2.2.1 = some (t_MO k) := by decide +kernel
def R_LW : String := "BlendRowsLaw"
abbrev b_BR_init : ByteArray := prog_1_method_1_code
def y_BR_init : MethodName := ⟨R_BR, "<init>", "()V"⟩
abbrev b_BR_moisture : ByteArray := prog_1_method_2_code
def y_BR_moisture : MethodName := ⟨R_BR, "moisture", "(II)V"⟩
abbrev b_BR_element : ByteArray := prog_1_method_3_code
def y_BR_element : MethodName := ⟨R_BR, "element", "(III)V"⟩
abbrev b_BR_ship : ByteArray := prog_1_method_4_code
def y_BR_ship : MethodName := ⟨R_BR, "ship", "(IIII)I"⟩
abbrev b_BR_stock : ByteArray := prog_1_method_5_code
def y_BR_stock : MethodName := ⟨R_BR, "stock", "(I)I"⟩
abbrev b_BR_pile : ByteArray := prog_1_method_6_code
def y_BR_pile : MethodName := ⟨R_BR, "pile", "(I)I"⟩
abbrev b_BR_lay : ByteArray := prog_1_method_7_code
def y_BR_lay : MethodName := ⟨R_BR, "lay", "(III)I"⟩
abbrev b_BR_slice : ByteArray := prog_1_method_8_code
def y_BR_slice : MethodName := ⟨R_BR, "slice", "(I)I"⟩
abbrev b_BR_share : ByteArray := prog_1_method_9_code
def y_BR_share : MethodName := ⟨R_BR, "share", "(III)J"⟩
abbrev b_BR_basicity : ByteArray := prog_1_method_10_code
def y_BR_basicity : MethodName := ⟨R_BR, "basicity", "(II)J"⟩
abbrev b_BR_spread : ByteArray := prog_1_method_11_code
def y_BR_spread : MethodName := ⟨R_BR, "spread", "(III)J"⟩
abbrev b_BR_pileAt : ByteArray := prog_1_method_12_code
def y_BR_pileAt : MethodName := ⟨R_BR, "pileAt", "(II)I"⟩
abbrev b_BR_mix : ByteArray := prog_1_method_13_code
def y_BR_mix : MethodName := ⟨R_BR, "mix", "(IIIII)J"⟩
abbrev b_BR_point : ByteArray := prog_1_method_14_code
def y_BR_point : MethodName := ⟨R_BR, "point", "(II)I"⟩
abbrev b_BR_fit : ByteArray := prog_1_method_15_code
def y_BR_fit : MethodName := ⟨R_BR, "fit", "(II)J"⟩
abbrev b_BR_tick : ByteArray := prog_1_method_16_code
def y_BR_tick : MethodName := ⟨R_BR, "tick", "(I)I"⟩
abbrev b_BR_needMaterial : ByteArray := prog_1_method_17_code
def y_BR_needMaterial : MethodName := ⟨R_BR, "needMaterial", "(I)V"⟩
abbrev b_BR_needElement : ByteArray := prog_1_method_18_code
def y_BR_needElement : MethodName := ⟨R_BR, "needElement", "(I)V"⟩
abbrev b_BR_needPart : ByteArray := prog_1_method_19_code
def y_BR_needPart : MethodName := ⟨R_BR, "needPart", "(I)V"⟩
abbrev b_BR_needRange : ByteArray := prog_1_method_20_code
def y_BR_needRange : MethodName := ⟨R_BR, "needRange", "(III)V"⟩
abbrev b_BR_needTaken : ByteArray := prog_1_method_21_code
def y_BR_needTaken : MethodName := ⟨R_BR, "needTaken", "(LBlendRows$Pile;)V"⟩
abbrev b_BR_needPile : ByteArray := prog_1_method_22_code
def y_BR_needPile : MethodName := ⟨R_BR, "needPile", "(I)LBlendRows$Pile;"⟩
abbrev b_BR_lostKilos : ByteArray := prog_1_method_23_code
def y_BR_lostKilos : MethodName := ⟨R_BR, "lostKilos", "(II)I"⟩
abbrev b_BR_stockOf : ByteArray := prog_1_method_24_code
def y_BR_stockOf : MethodName := ⟨R_BR, "stockOf", "(I)I"⟩
abbrev b_BR_lowestTerms : ByteArray := prog_1_method_25_code
def y_BR_lowestTerms : MethodName := ⟨R_BR, "lowestTerms", "(JJI)J"⟩
abbrev b_BR_commonDivisor : ByteArray := prog_1_method_26_code
def y_BR_commonDivisor : MethodName := ⟨R_BR, "commonDivisor", "(JJ)J"⟩
abbrev b_PI_init : ByteArray := prog_3_method_1_code
def y_PI_init : MethodName := ⟨R_PI, "<init>", "()V"⟩
abbrev b_PI_addLayer : ByteArray := prog_3_method_2_code
def y_PI_addLayer : MethodName := ⟨R_PI, "addLayer", "(I[II)V"⟩
abbrev b_PI_takeNext : ByteArray := prog_3_method_3_code
def y_PI_takeNext : MethodName := ⟨R_PI, "takeNext", "()V"⟩
abbrev b_PI_clearLatest : ByteArray := prog_3_method_4_code
def y_PI_clearLatest : MethodName := ⟨R_PI, "clearLatest", "()V"⟩
abbrev b_PI_takeOfLayer : ByteArray := prog_3_method_5_code
def y_PI_takeOfLayer : MethodName := ⟨R_PI, "takeOfLayer", "(I)V"⟩
abbrev b_PI_gramsBefore : ByteArray := prog_3_method_6_code
def y_PI_gramsBefore : MethodName := ⟨R_PI, "gramsBefore", "(II)I"⟩
abbrev b_PI_noteGreatest : ByteArray := prog_3_method_7_code
def y_PI_noteGreatest : MethodName := ⟨R_PI, "noteGreatest", "(I)V"⟩
abbrev b_PI_noteLeast : ByteArray := prog_3_method_8_code
def y_PI_noteLeast : MethodName := ⟨R_PI, "noteLeast", "(I)V"⟩
abbrev b_PI_spreadUpper : ByteArray := prog_3_method_9_code
def y_PI_spreadUpper : MethodName := ⟨R_PI, "spreadUpper", "(I)J"⟩
abbrev b_PI_spreadLower : ByteArray := prog_3_method_10_code
def y_PI_spreadLower : MethodName := ⟨R_PI, "spreadLower", "(I)J"⟩
abbrev b_LI_init : ByteArray := prog_2_method_1_code
def y_LI_init : MethodName := ⟨R_LI, "<init>", "()V"⟩
abbrev b_LI_addPoint : ByteArray := prog_2_method_2_code
def y_LI_addPoint : MethodName := ⟨R_LI, "addPoint", "(II)V"⟩
abbrev b_LI_slopeUpper : ByteArray := prog_2_method_3_code
def y_LI_slopeUpper : MethodName := ⟨R_LI, "slopeUpper", "()J"⟩
abbrev b_LI_heightUpper : ByteArray := prog_2_method_4_code
def y_LI_heightUpper : MethodName := ⟨R_LI, "heightUpper", "()J"⟩
abbrev b_LI_lower : ByteArray := prog_2_method_5_code
def y_LI_lower : MethodName := ⟨R_LI, "lower", "()J"⟩
abbrev b_MO_init : ByteArray := prog_5_method_1_code
def y_MO_init : MethodName := ⟨R_MO, "<init>", "()V"⟩
abbrev b_MO_thrown : ByteArray := prog_5_method_2_code
def y_MO_thrown : MethodName := ⟨R_MO, "thrown", "()I"⟩
abbrev b_MO_throwing : ByteArray := prog_5_method_3_code
def y_MO_throwing : MethodName := ⟨R_MO, "throwing", "(ZZZZ)Z"⟩
abbrev b_MO_in : ByteArray := prog_5_method_4_code
def y_MO_in : MethodName := ⟨R_MO, "in", "(III)Z"⟩
abbrev b_MO_isMaterial : ByteArray := prog_5_method_5_code
def y_MO_isMaterial : MethodName := ⟨R_MO, "isMaterial", "(I)Z"⟩
abbrev b_MO_isElement : ByteArray := prog_5_method_6_code
def y_MO_isElement : MethodName := ⟨R_MO, "isElement", "(I)Z"⟩
abbrev b_MO_isPart : ByteArray := prog_5_method_7_code
def y_MO_isPart : MethodName := ⟨R_MO, "isPart", "(I)Z"⟩
abbrev b_MO_isPile : ByteArray := prog_5_method_8_code
def y_MO_isPile : MethodName := ⟨R_MO, "isPile", "(I)Z"⟩
abbrev b_MO_partOf : ByteArray := prog_5_method_9_code
def y_MO_partOf : MethodName := ⟨R_MO, "partOf", "(JJI)J"⟩
abbrev b_MO_moisture : ByteArray := prog_5_method_10_code
def y_MO_moisture : MethodName := ⟨R_MO, "moisture", "(II)V"⟩
abbrev b_MO_element : ByteArray := prog_5_method_11_code
def y_MO_element : MethodName := ⟨R_MO, "element", "(III)V"⟩
abbrev b_MO_ship : ByteArray := prog_5_method_12_code
def y_MO_ship : MethodName := ⟨R_MO, "ship", "(IIII)I"⟩
abbrev b_MO_stockOf : ByteArray := prog_5_method_13_code
def y_MO_stockOf : MethodName := ⟨R_MO, "stockOf", "(I)I"⟩
abbrev b_MO_stock : ByteArray := prog_5_method_14_code
def y_MO_stock : MethodName := ⟨R_MO, "stock", "(I)I"⟩
abbrev b_MO_pile : ByteArray := prog_5_method_15_code
def y_MO_pile : MethodName := ⟨R_MO, "pile", "(I)I"⟩
abbrev b_MO_gramsOf : ByteArray := prog_5_method_16_code
def y_MO_gramsOf : MethodName := ⟨R_MO, "gramsOf", "(I)I"⟩
abbrev b_MO_lay : ByteArray := prog_5_method_17_code
def y_MO_lay : MethodName := ⟨R_MO, "lay", "(III)I"⟩
abbrev b_MO_ahead : ByteArray := prog_5_method_18_code
def y_MO_ahead : MethodName := ⟨R_MO, "ahead", "(IJI)J"⟩
abbrev b_MO_takes : ByteArray := prog_5_method_19_code
def y_MO_takes : MethodName := ⟨R_MO, "takes", "(III)J"⟩
abbrev b_MO_gramsIn : ByteArray := prog_5_method_20_code
def y_MO_gramsIn : MethodName := ⟨R_MO, "gramsIn", "(II)J"⟩
abbrev b_MO_heldIn : ByteArray := prog_5_method_21_code
def y_MO_heldIn : MethodName := ⟨R_MO, "heldIn", "(III)J"⟩
abbrev b_MO_spreadBy : ByteArray := prog_5_method_22_code
def y_MO_spreadBy : MethodName := ⟨R_MO, "spreadBy", "(IIJJ)V"⟩
abbrev b_MO_slice : ByteArray := prog_5_method_23_code
def y_MO_slice : MethodName := ⟨R_MO, "slice", "(I)I"⟩
abbrev b_MO_isUntaken : ByteArray := prog_5_method_24_code
def y_MO_isUntaken : MethodName := ⟨R_MO, "isUntaken", "(I)Z"⟩
abbrev b_MO_share : ByteArray := prog_5_method_25_code
def y_MO_share : MethodName := ⟨R_MO, "share", "(III)J"⟩
abbrev b_MO_basicity : ByteArray := prog_5_method_26_code
def y_MO_basicity : MethodName := ⟨R_MO, "basicity", "(II)J"⟩
abbrev b_MO_spread : ByteArray := prog_5_method_27_code
def y_MO_spread : MethodName := ⟨R_MO, "spread", "(III)J"⟩
abbrev b_MO_pileAt : ByteArray := prog_5_method_28_code
def y_MO_pileAt : MethodName := ⟨R_MO, "pileAt", "(II)I"⟩
abbrev b_MO_mix : ByteArray := prog_5_method_29_code
def y_MO_mix : MethodName := ⟨R_MO, "mix", "(IIIII)J"⟩
abbrev b_MO_point : ByteArray := prog_5_method_30_code
def y_MO_point : MethodName := ⟨R_MO, "point", "(II)I"⟩
abbrev b_MO_fit : ByteArray := prog_5_method_31_code
def y_MO_fit : MethodName := ⟨R_MO, "fit", "(II)J"⟩
abbrev b_MO_tick : ByteArray := prog_5_method_32_code
def y_MO_tick : MethodName := ⟨R_MO, "tick", "(I)I"⟩
abbrev b_LW_moisture : ByteArray := method_3_code
def y_LW_moisture : MethodName := ⟨R_LW, "moisture", "(LBlendRows;II)I"⟩
abbrev b_LW_element : ByteArray := method_4_code
def y_LW_element : MethodName := ⟨R_LW, "element", "(LBlendRows;III)I"⟩
abbrev b_LW_ship : ByteArray := method_5_code
def y_LW_ship : MethodName := ⟨R_LW, "ship", "(LBlendRows;IIII[J)I"⟩
abbrev b_LW_stock : ByteArray := method_6_code
def y_LW_stock : MethodName := ⟨R_LW, "stock", "(LBlendRows;I[J)I"⟩
abbrev b_LW_pile : ByteArray := method_7_code
def y_LW_pile : MethodName := ⟨R_LW, "pile", "(LBlendRows;I[J)I"⟩
abbrev b_LW_lay : ByteArray := method_8_code
def y_LW_lay : MethodName := ⟨R_LW, "lay", "(LBlendRows;III[J)I"⟩
abbrev b_LW_slice : ByteArray := method_9_code
def y_LW_slice : MethodName := ⟨R_LW, "slice", "(LBlendRows;I[J)I"⟩
abbrev b_LW_share : ByteArray := method_10_code
def y_LW_share : MethodName := ⟨R_LW, "share", "(LBlendRows;III[J)I"⟩
abbrev b_LW_basicity : ByteArray := method_11_code
def y_LW_basicity : MethodName := ⟨R_LW, "basicity", "(LBlendRows;II[J)I"⟩
abbrev b_LW_spread : ByteArray := method_12_code
def y_LW_spread : MethodName := ⟨R_LW, "spread", "(LBlendRows;III[J)I"⟩
abbrev b_LW_pileAt : ByteArray := method_13_code
def y_LW_pileAt : MethodName := ⟨R_LW, "pileAt", "(LBlendRows;II[J)I"⟩
abbrev b_LW_mix : ByteArray := method_14_code
def y_LW_mix : MethodName := ⟨R_LW, "mix", "(LBlendRows;IIIII[J)I"⟩
abbrev b_LW_point : ByteArray := method_15_code
def y_LW_point : MethodName := ⟨R_LW, "point", "(LBlendRows;II[J)I"⟩
abbrev b_LW_fit : ByteArray := method_16_code
def y_LW_fit : MethodName := ⟨R_LW, "fit", "(LBlendRows;II[J)I"⟩
abbrev b_LW_tick : ByteArray := method_17_code
def y_LW_tick : MethodName := ⟨R_LW, "tick", "(LBlendRows;I[J)I"⟩
abbrev b_LW_law : ByteArray := code
def y_LW_law : MethodName := ⟨R_LW, "law", "([I)Z"⟩
abbrev vq_cl : List vw_C := [(R_BR, F_BR, 11), (R_PI, F_PI, 13), (R_LI, F_LI, 5), (R_MO, F_MO, 22)]
abbrev vq_tys (cs : Nat → ClassId) : List (ClassId × FieldType) := [(cs 0, .int), (cs 1, .long), (cs 2, .object "BlendRows$Pile")]
/-- the words that every method of ours is given: the tables' good ones -/
def vq_G : List Cond := lw_tbl.filter goodWord
theorem vq_at1 {w : Cond} {i : Nat} (h : tables_1_1[i]? = some w) (g : goodWord w = true) : w ∈ vq_G := List.mem_filter.mpr ⟨List.mem_append_right _ (List.mem_append_left _ (List.mem_of_getElem? h)), g⟩
theorem vq_at2 {w : Cond} {i : Nat} (h : tables_1_2[i]? = some w) (g : goodWord w = true) : w ∈ vq_G := List.mem_filter.mpr ⟨List.mem_append_right _ (List.mem_append_right _ (List.mem_append_left _ (List.mem_of_getElem? h))), g⟩
theorem vq_at3 {w : Cond} {i : Nat} (h : tables_1_3[i]? = some w) (g : goodWord w = true) : w ∈ vq_G := List.mem_filter.mpr ⟨List.mem_append_right _ (List.mem_append_right _ (List.mem_append_right _ (List.mem_of_getElem? h))), g⟩
theorem vq_as {w : Cond} {i : Nat} (h : (k2_sels lw_privs)[i]? = some w) (g : goodWord w = true) : w ∈ vq_G := List.mem_filter.mpr ⟨List.mem_append_left _ (List.mem_of_getElem? h), g⟩
-- WORDS, by their places
theorem vq_s1 : (.selects R_BR y_BR_stockOf y_BR_stockOf : Cond) ∈ vq_G := vq_as (i := 1) rfl rfl
theorem vq_s2 : (.selects R_BR y_BR_needPile y_BR_needPile : Cond) ∈ vq_G := vq_as (i := 2) rfl rfl
theorem vq_s3 : (.selects R_PI y_PI_clearLatest y_PI_clearLatest : Cond) ∈ vq_G := vq_as (i := 3) rfl rfl
theorem vq_s4 : (.selects R_PI y_PI_takeOfLayer y_PI_takeOfLayer : Cond) ∈ vq_G := vq_as (i := 4) rfl rfl
theorem vq_s5 : (.selects R_PI y_PI_gramsBefore y_PI_gramsBefore : Cond) ∈ vq_G := vq_as (i := 5) rfl rfl
theorem vq_s6 : (.selects R_PI y_PI_noteGreatest y_PI_noteGreatest : Cond) ∈ vq_G := vq_as (i := 6) rfl rfl
theorem vq_s7 : (.selects R_PI y_PI_noteLeast y_PI_noteLeast : Cond) ∈ vq_G := vq_as (i := 7) rfl rfl
theorem vq_t1 : (.initialized R_BR : Cond) ∈ vq_G := vq_at1 (i := 1) rfl rfl
theorem vq_t2 : (.initialized R_LI : Cond) ∈ vq_G := vq_at1 (i := 2) rfl rfl
theorem vq_t3 : (.initialized R_PI : Cond) ∈ vq_G := vq_at1 (i := 3) rfl rfl
theorem vq_t4 : (.initialized R_MO : Cond) ∈ vq_G := vq_at1 (i := 4) rfl rfl
theorem vq_t8 : (.initialized "java/lang/IndexOutOfBoundsException" : Cond) ∈ vq_G := vq_at1 (i := 8) rfl rfl
theorem vq_t9 : (.initialized "java/lang/IllegalArgumentException" : Cond) ∈ vq_G := vq_at1 (i := 9) rfl rfl
theorem vq_t10 : (.initialized "java/lang/IllegalStateException" : Cond) ∈ vq_G := vq_at1 (i := 10) rfl rfl
theorem vq_t11 : (.initialized "java/lang/UnsupportedOperationException" : Cond) ∈ vq_G := vq_at1 (i := 11) rfl rfl
theorem vq_t12 : (.initialized "java/lang/Math" : Cond) ∈ vq_G := vq_at1 (i := 12) rfl rfl
theorem vq_t14 : (.instantiable R_BR 11 : Cond) ∈ vq_G := vq_at1 (i := 14) rfl rfl
theorem vq_t17 : (.code y_BR_init b_BR_init 2 none : Cond) ∈ vq_G := vq_at1 (i := 17) rfl rfl
theorem vq_t18 : (.methodLink R_BR 1 objectInit : Cond) ∈ vq_G := vq_at1 (i := 18) rfl rfl
theorem vq_t19 : (.instanceMethod objectInit : Cond) ∈ vq_G := vq_at1 (i := 19) rfl rfl
theorem vq_t20 : (.code objectInit ⟨#[0xb1]⟩ 1 none : Cond) ∈ vq_G := vq_at1 (i := 20) rfl rfl
theorem vq_t21 : (.classLink R_BR 28 R_PI : Cond) ∈ vq_G := vq_at1 (i := 21) rfl rfl
theorem vq_t23 : (.classLink R_BR 34 R_LI : Cond) ∈ vq_G := vq_at1 (i := 23) rfl rfl
theorem vq_t24 : (.instantiable R_LI 5 : Cond) ∈ vq_G := vq_at1 (i := 24) rfl rfl
theorem vq_t26 : (.instanceMethod y_LI_init : Cond) ∈ vq_G := vq_at1 (i := 26) rfl rfl
theorem vq_t27 : (.code y_LI_init b_LI_init 1 none : Cond) ∈ vq_G := vq_at1 (i := 27) rfl rfl
theorem vq_t28 : (.methodLink R_LI 1 objectInit : Cond) ∈ vq_G := vq_at1 (i := 28) rfl rfl
theorem vq_t29 : (.fieldLink R_LI 7 "BlendRows$Line" "count" "I" : Cond) ∈ vq_G := vq_at1 (i := 29) rfl rfl
theorem vq_t31 : (.fieldLink R_LI 13 "BlendRows$Line" "sumX" "J" : Cond) ∈ vq_G := vq_at1 (i := 31) rfl rfl
theorem vq_t32 : (.fieldLink R_LI 17 "BlendRows$Line" "sumY" "J" : Cond) ∈ vq_G := vq_at1 (i := 32) rfl rfl
theorem vq_t33 : (.fieldLink R_LI 20 "BlendRows$Line" "sumXX" "J" : Cond) ∈ vq_G := vq_at1 (i := 33) rfl rfl
theorem vq_t34 : (.fieldLink R_LI 23 "BlendRows$Line" "sumXY" "J" : Cond) ∈ vq_G := vq_at1 (i := 34) rfl rfl
theorem vq_t46 : (.arrayClass .int : Cond) ∈ vq_G := vq_at1 (i := 46) rfl rfl
theorem vq_t47 : (.instantiable R_PI 13 : Cond) ∈ vq_G := vq_at1 (i := 47) rfl rfl
theorem vq_t49 : (.instanceMethod y_PI_init : Cond) ∈ vq_G := vq_at1 (i := 49) rfl rfl
theorem vq_t50 : (.code y_PI_init b_PI_init 1 none : Cond) ∈ vq_G := vq_at1 (i := 50) rfl rfl
theorem vq_t51 : (.methodLink R_PI 3 objectInit : Cond) ∈ vq_G := vq_at1 (i := 51) rfl rfl
theorem vq_t52 : (.fieldLink R_PI 67 "BlendRows$Pile" "slices" "I" : Cond) ∈ vq_G := vq_at1 (i := 52) rfl rfl
theorem vq_t54 : (.fieldLink R_PI 9 "BlendRows$Pile" "layerGrams" "[I" : Cond) ∈ vq_G := vq_at1 (i := 54) rfl rfl
theorem vq_t55 : (.fieldLink R_PI 15 "BlendRows$Pile" "layerShares" "[I" : Cond) ∈ vq_G := vq_at1 (i := 55) rfl rfl
theorem vq_t56 : (.fieldLink R_PI 34 "BlendRows$Pile" "layers" "I" : Cond) ∈ vq_G := vq_at1 (i := 56) rfl rfl
theorem vq_t58 : (.fieldLink R_PI 38 "BlendRows$Pile" "grams" "I" : Cond) ∈ vq_G := vq_at1 (i := 58) rfl rfl
theorem vq_t60 : (.fieldLink R_PI 48 "BlendRows$Pile" "taken" "I" : Cond) ∈ vq_G := vq_at1 (i := 60) rfl rfl
theorem vq_t62 : (.fieldLink R_PI 51 "BlendRows$Pile" "gramsTaken" "I" : Cond) ∈ vq_G := vq_at1 (i := 62) rfl rfl
theorem vq_t64 : (.fieldLink R_PI 54 "BlendRows$Pile" "latestGrams" "I" : Cond) ∈ vq_G := vq_at1 (i := 64) rfl rfl
theorem vq_t66 : (.fieldLink R_PI 18 "BlendRows$Pile" "latestSums" "[J" : Cond) ∈ vq_G := vq_at1 (i := 66) rfl rfl
theorem vq_t68 : (.fieldLink R_PI 22 "BlendRows$Pile" "greatestSums" "[J" : Cond) ∈ vq_G := vq_at1 (i := 68) rfl rfl
theorem vq_t69 : (.fieldLink R_PI 25 "BlendRows$Pile" "greatestGrams" "[I" : Cond) ∈ vq_G := vq_at1 (i := 69) rfl rfl
theorem vq_t70 : (.fieldLink R_PI 28 "BlendRows$Pile" "leastSums" "[J" : Cond) ∈ vq_G := vq_at1 (i := 70) rfl rfl
theorem vq_t71 : (.fieldLink R_PI 31 "BlendRows$Pile" "leastGrams" "[I" : Cond) ∈ vq_G := vq_at1 (i := 71) rfl rfl
theorem vq_t99 : (.arrayClass .long : Cond) ∈ vq_G := vq_at1 (i := 99) rfl rfl
theorem vq_t100 : (.fieldLink R_BR 9 "BlendRows" "moistures" "[I" : Cond) ∈ vq_G := vq_at1 (i := 100) rfl rfl
theorem vq_t101 : (.fieldLink R_BR 13 "BlendRows" "shares" "[I" : Cond) ∈ vq_G := vq_at1 (i := 101) rfl rfl
theorem vq_t102 : (.fieldLink R_BR 16 "BlendRows" "laidKilos" "[I" : Cond) ∈ vq_G := vq_at1 (i := 102) rfl rfl
theorem vq_t103 : (.fieldLink R_BR 19 "BlendRows" "shipDays" "[I" : Cond) ∈ vq_G := vq_at1 (i := 103) rfl rfl
theorem vq_t104 : (.fieldLink R_BR 22 "BlendRows" "shipMaterials" "[I" : Cond) ∈ vq_G := vq_at1 (i := 104) rfl rfl
theorem vq_t105 : (.fieldLink R_BR 25 "BlendRows" "shipKilos" "[I" : Cond) ∈ vq_G := vq_at1 (i := 105) rfl rfl
theorem vq_t106 : (.fieldLink R_BR 53 "BlendRows" "shipCount" "I" : Cond) ∈ vq_G := vq_at1 (i := 106) rfl rfl
theorem vq_t107 : (.fieldLink R_BR 30 "BlendRows" "piles" "[LBlendRows$Pile;" : Cond) ∈ vq_G := vq_at1 (i := 107) rfl rfl
theorem vq_t108 : (.fieldLink R_BR 75 "BlendRows" "pileCount" "I" : Cond) ∈ vq_G := vq_at1 (i := 108) rfl rfl
theorem vq_t109 : (.fieldLink R_BR 37 "BlendRows" "line" "LBlendRows$Line;" : Cond) ∈ vq_G := vq_at1 (i := 109) rfl rfl
theorem vq_t110 : (.fieldLink R_BR 64 "BlendRows" "today" "I" : Cond) ∈ vq_G := vq_at1 (i := 110) rfl rfl
theorem vq_t142 : (.code y_BR_moisture b_BR_moisture 3 none : Cond) ∈ vq_G := vq_at1 (i := 142) rfl rfl
theorem vq_t143 : (.methodLink R_BR 42 y_BR_needMaterial : Cond) ∈ vq_G := vq_at1 (i := 143) rfl rfl
theorem vq_t144 : (.static y_BR_needMaterial : Cond) ∈ vq_G := vq_at1 (i := 144) rfl rfl
theorem vq_t145 : (.code y_BR_needMaterial b_BR_needMaterial 1 none : Cond) ∈ vq_G := vq_at1 (i := 145) rfl rfl
theorem vq_t146 : (.classLink R_BR 151 "java/lang/IndexOutOfBoundsException" : Cond) ∈ vq_G := vq_at1 (i := 146) rfl rfl
theorem vq_t215 : (.methodLink R_BR 46 y_BR_needRange : Cond) ∈ vq_G := vq_at1 (i := 215) rfl rfl
theorem vq_t216 : (.static y_BR_needRange : Cond) ∈ vq_G := vq_at1 (i := 216) rfl rfl
theorem vq_t217 : (.code y_BR_needRange b_BR_needRange 3 none : Cond) ∈ vq_G := vq_at1 (i := 217) rfl rfl
theorem vq_t218 : (.classLink R_BR 195 "java/lang/IllegalArgumentException" : Cond) ∈ vq_G := vq_at1 (i := 218) rfl rfl
theorem vq_t240 : (.code y_BR_element b_BR_element 4 none : Cond) ∈ vq_G := vq_at2 (i := 0) rfl rfl
theorem vq_t241 : (.methodLink R_BR 50 y_BR_needElement : Cond) ∈ vq_G := vq_at2 (i := 1) rfl rfl
theorem vq_t242 : (.static y_BR_needElement : Cond) ∈ vq_G := vq_at2 (i := 2) rfl rfl
theorem vq_t243 : (.code y_BR_needElement b_BR_needElement 1 none : Cond) ∈ vq_G := vq_at2 (i := 3) rfl rfl
theorem vq_t252 : (.code y_BR_ship b_BR_ship 6 (some .int) : Cond) ∈ vq_G := vq_at2 (i := 12) rfl rfl
theorem vq_t253 : (.classLink R_BR 57 "java/lang/IllegalStateException" : Cond) ∈ vq_G := vq_at2 (i := 13) rfl rfl
theorem vq_t269 : (.methodLink R_BR 67 y_BR_lostKilos : Cond) ∈ vq_G := vq_at2 (i := 29) rfl rfl
theorem vq_t270 : (.static y_BR_lostKilos : Cond) ∈ vq_G := vq_at2 (i := 30) rfl rfl
theorem vq_t271 : (.code y_BR_lostKilos b_BR_lostKilos 2 (some .int) : Cond) ∈ vq_G := vq_at2 (i := 31) rfl rfl
theorem vq_t278 : (.code y_BR_stock b_BR_stock 2 (some .int) : Cond) ∈ vq_G := vq_at2 (i := 38) rfl rfl
theorem vq_t279 : (.methodLink R_BR 71 y_BR_stockOf : Cond) ∈ vq_G := vq_at2 (i := 39) rfl rfl
theorem vq_t281 : (.instanceMethod y_BR_stockOf : Cond) ∈ vq_G := vq_at2 (i := 41) rfl rfl
theorem vq_t282 : (.code y_BR_stockOf b_BR_stockOf 4 (some .int) : Cond) ∈ vq_G := vq_at2 (i := 42) rfl rfl
theorem vq_t289 : (.code y_BR_pile b_BR_pile 4 (some .int) : Cond) ∈ vq_G := vq_at2 (i := 49) rfl rfl
theorem vq_t291 : (.constant R_BR 80 65536 : Cond) ∈ vq_G := vq_at2 (i := 51) rfl rfl
theorem vq_t299 : (.code y_BR_lay b_BR_lay 5 (some .int) : Cond) ∈ vq_G := vq_at2 (i := 59) rfl rfl
theorem vq_t300 : (.methodLink R_BR 84 y_BR_needPile : Cond) ∈ vq_G := vq_at2 (i := 60) rfl rfl
theorem vq_t302 : (.instanceMethod y_BR_needPile : Cond) ∈ vq_G := vq_at2 (i := 62) rfl rfl
theorem vq_t303 : (.code y_BR_needPile b_BR_needPile 3 (some (.object "BlendRows$Pile")) : Cond) ∈ vq_G := vq_at2 (i := 63) rfl rfl
theorem vq_t306 : (.classLink R_BR 96 "java/lang/UnsupportedOperationException" : Cond) ∈ vq_G := vq_at2 (i := 66) rfl rfl
theorem vq_t323 : (.methodLink R_BR 103 y_PI_addLayer : Cond) ∈ vq_G := vq_at2 (i := 83) rfl rfl
theorem vq_t324 : (.instanceMethod y_PI_addLayer : Cond) ∈ vq_G := vq_at2 (i := 84) rfl rfl
theorem vq_t325 : (.selects R_PI y_PI_addLayer y_PI_addLayer : Cond) ∈ vq_G := vq_at2 (i := 85) rfl rfl
theorem vq_t326 : (.code y_PI_addLayer b_PI_addLayer 5 none : Cond) ∈ vq_G := vq_at2 (i := 86) rfl rfl
theorem vq_t333 : (.code y_BR_slice b_BR_slice 3 (some .int) : Cond) ∈ vq_G := vq_at2 (i := 93) rfl rfl
theorem vq_t336 : (.methodLink R_BR 114 y_PI_takeNext : Cond) ∈ vq_G := vq_at2 (i := 96) rfl rfl
theorem vq_t337 : (.instanceMethod y_PI_takeNext : Cond) ∈ vq_G := vq_at2 (i := 97) rfl rfl
theorem vq_t338 : (.selects R_PI y_PI_takeNext y_PI_takeNext : Cond) ∈ vq_G := vq_at2 (i := 98) rfl rfl
theorem vq_t339 : (.code y_PI_takeNext b_PI_takeNext 2 none : Cond) ∈ vq_G := vq_at2 (i := 99) rfl rfl
theorem vq_t340 : (.methodLink R_PI 41 y_PI_clearLatest : Cond) ∈ vq_G := vq_at2 (i := 100) rfl rfl
theorem vq_t342 : (.instanceMethod y_PI_clearLatest : Cond) ∈ vq_G := vq_at2 (i := 102) rfl rfl
theorem vq_t343 : (.code y_PI_clearLatest b_PI_clearLatest 2 none : Cond) ∈ vq_G := vq_at2 (i := 103) rfl rfl
theorem vq_t344 : (.methodLink R_PI 44 y_PI_takeOfLayer : Cond) ∈ vq_G := vq_at2 (i := 104) rfl rfl
theorem vq_t346 : (.instanceMethod y_PI_takeOfLayer : Cond) ∈ vq_G := vq_at2 (i := 106) rfl rfl
theorem vq_t347 : (.code y_PI_takeOfLayer b_PI_takeOfLayer 4 none : Cond) ∈ vq_G := vq_at2 (i := 107) rfl rfl
theorem vq_t348 : (.methodLink R_PI 63 y_PI_gramsBefore : Cond) ∈ vq_G := vq_at2 (i := 108) rfl rfl
theorem vq_t350 : (.instanceMethod y_PI_gramsBefore : Cond) ∈ vq_G := vq_at2 (i := 110) rfl rfl
theorem vq_t351 : (.code y_PI_gramsBefore b_PI_gramsBefore 3 (some .int) : Cond) ∈ vq_G := vq_at2 (i := 111) rfl rfl
theorem vq_t352 : (.methodLink R_PI 57 y_PI_noteGreatest : Cond) ∈ vq_G := vq_at2 (i := 112) rfl rfl
theorem vq_t354 : (.instanceMethod y_PI_noteGreatest : Cond) ∈ vq_G := vq_at2 (i := 114) rfl rfl
theorem vq_t355 : (.code y_PI_noteGreatest b_PI_noteGreatest 2 none : Cond) ∈ vq_G := vq_at2 (i := 115) rfl rfl
theorem vq_t356 : (.methodLink R_PI 60 y_PI_noteLeast : Cond) ∈ vq_G := vq_at2 (i := 116) rfl rfl
theorem vq_t358 : (.instanceMethod y_PI_noteLeast : Cond) ∈ vq_G := vq_at2 (i := 118) rfl rfl
theorem vq_t359 : (.code y_PI_noteLeast b_PI_noteLeast 2 none : Cond) ∈ vq_G := vq_at2 (i := 119) rfl rfl
theorem vq_t366 : (.code y_BR_share b_BR_share 5 (some .long) : Cond) ∈ vq_G := vq_at2 (i := 126) rfl rfl
theorem vq_t367 : (.methodLink R_BR 120 y_BR_needPart : Cond) ∈ vq_G := vq_at2 (i := 127) rfl rfl
theorem vq_t368 : (.static y_BR_needPart : Cond) ∈ vq_G := vq_at2 (i := 128) rfl rfl
theorem vq_t369 : (.code y_BR_needPart b_BR_needPart 1 none : Cond) ∈ vq_G := vq_at2 (i := 129) rfl rfl
theorem vq_t371 : (.methodLink R_BR 123 y_BR_needTaken : Cond) ∈ vq_G := vq_at2 (i := 131) rfl rfl
theorem vq_t372 : (.static y_BR_needTaken : Cond) ∈ vq_G := vq_at2 (i := 132) rfl rfl
theorem vq_t373 : (.code y_BR_needTaken b_BR_needTaken 1 none : Cond) ∈ vq_G := vq_at2 (i := 133) rfl rfl
theorem vq_t376 : (.methodLink R_BR 133 y_BR_lowestTerms : Cond) ∈ vq_G := vq_at2 (i := 136) rfl rfl
theorem vq_t377 : (.static y_BR_lowestTerms : Cond) ∈ vq_G := vq_at2 (i := 137) rfl rfl
theorem vq_t378 : (.code y_BR_lowestTerms b_BR_lowestTerms 9 (some .long) : Cond) ∈ vq_G := vq_at2 (i := 138) rfl rfl
theorem vq_t379 : (.methodLink R_BR 204 y_BR_commonDivisor : Cond) ∈ vq_G := vq_at2 (i := 139) rfl rfl
theorem vq_t380 : (.static y_BR_commonDivisor : Cond) ∈ vq_G := vq_at2 (i := 140) rfl rfl
theorem vq_t381 : (.code y_BR_commonDivisor b_BR_commonDivisor 11 (some .long) : Cond) ∈ vq_G := vq_at2 (i := 141) rfl rfl
theorem vq_t382 : (.methodLink R_BR 208 Lib.MathLoose.abs_long.x : Cond) ∈ vq_G := vq_at2 (i := 142) rfl rfl
theorem vq_t383 : (.static Lib.MathLoose.abs_long.x : Cond) ∈ vq_G := vq_at2 (i := 143) rfl rfl
theorem vq_t384 : (.code Lib.MathLoose.abs_long.x Lib.MathLoose.abs_long.code 2 (some .long) : Cond) ∈ vq_G := vq_at2 (i := 144) rfl rfl
theorem vq_t391 : (.code y_BR_basicity b_BR_basicity 4 (some .long) : Cond) ∈ vq_G := vq_at2 (i := 151) rfl rfl
theorem vq_t399 : (.code y_BR_spread b_BR_spread 5 (some .long) : Cond) ∈ vq_G := vq_at2 (i := 159) rfl rfl
theorem vq_t401 : (.methodLink R_BR 144 y_PI_spreadUpper : Cond) ∈ vq_G := vq_at2 (i := 161) rfl rfl
theorem vq_t402 : (.instanceMethod y_PI_spreadUpper : Cond) ∈ vq_G := vq_at2 (i := 162) rfl rfl
theorem vq_t403 : (.selects R_PI y_PI_spreadUpper y_PI_spreadUpper : Cond) ∈ vq_G := vq_at2 (i := 163) rfl rfl
theorem vq_t404 : (.code y_PI_spreadUpper b_PI_spreadUpper 2 (some .long) : Cond) ∈ vq_G := vq_at2 (i := 164) rfl rfl
theorem vq_t405 : (.methodLink R_BR 148 y_PI_spreadLower : Cond) ∈ vq_G := vq_at2 (i := 165) rfl rfl
theorem vq_t406 : (.instanceMethod y_PI_spreadLower : Cond) ∈ vq_G := vq_at2 (i := 166) rfl rfl
theorem vq_t407 : (.selects R_PI y_PI_spreadLower y_PI_spreadLower : Cond) ∈ vq_G := vq_at2 (i := 167) rfl rfl
theorem vq_t408 : (.code y_PI_spreadLower b_PI_spreadLower 2 (some .long) : Cond) ∈ vq_G := vq_at2 (i := 168) rfl rfl
theorem vq_t415 : (.code y_BR_pileAt b_BR_pileAt 4 (some .int) : Cond) ∈ vq_G := vq_at2 (i := 175) rfl rfl
theorem vq_t423 : (.code y_BR_mix b_BR_mix 8 (some .long) : Cond) ∈ vq_G := vq_at2 (i := 183) rfl rfl
theorem vq_t425 : (.methodLink R_BR 158 Lib.Math.min.name : Cond) ∈ vq_G := vq_at2 (i := 185) rfl rfl
theorem vq_t426 : (.static Lib.Math.min.name : Cond) ∈ vq_G := vq_at2 (i := 186) rfl rfl
theorem vq_t427 : (.code Lib.Math.min.name Lib.Math.min.code 2 (some .int) : Cond) ∈ vq_G := vq_at2 (i := 187) rfl rfl
theorem vq_t428 : (.methodLink R_BR 163 Lib.Math.max.name : Cond) ∈ vq_G := vq_at2 (i := 188) rfl rfl
theorem vq_t429 : (.static Lib.Math.max.name : Cond) ∈ vq_G := vq_at2 (i := 189) rfl rfl
theorem vq_t430 : (.code Lib.Math.max.name Lib.Math.max.code 2 (some .int) : Cond) ∈ vq_G := vq_at2 (i := 190) rfl rfl
theorem vq_t438 : (.code y_BR_point b_BR_point 3 (some .int) : Cond) ∈ vq_G := vq_at2 (i := 198) rfl rfl
theorem vq_t440 : (.methodLink R_BR 173 y_LI_addPoint : Cond) ∈ vq_G := vq_at2 (i := 200) rfl rfl
theorem vq_t441 : (.instanceMethod y_LI_addPoint : Cond) ∈ vq_G := vq_at2 (i := 201) rfl rfl
theorem vq_t442 : (.selects R_LI y_LI_addPoint y_LI_addPoint : Cond) ∈ vq_G := vq_at2 (i := 202) rfl rfl
theorem vq_t443 : (.code y_LI_addPoint b_LI_addPoint 3 none : Cond) ∈ vq_G := vq_at2 (i := 203) rfl rfl
theorem vq_t450 : (.code y_BR_fit b_BR_fit 5 (some .long) : Cond) ∈ vq_G := vq_at2 (i := 210) rfl rfl
theorem vq_t451 : (.methodLink R_BR 177 y_LI_lower : Cond) ∈ vq_G := vq_at2 (i := 211) rfl rfl
theorem vq_t452 : (.instanceMethod y_LI_lower : Cond) ∈ vq_G := vq_at2 (i := 212) rfl rfl
theorem vq_t453 : (.selects R_LI y_LI_lower y_LI_lower : Cond) ∈ vq_G := vq_at2 (i := 213) rfl rfl
theorem vq_t454 : (.code y_LI_lower b_LI_lower 1 (some .long) : Cond) ∈ vq_G := vq_at2 (i := 214) rfl rfl
theorem vq_t456 : (.methodLink R_BR 183 y_LI_slopeUpper : Cond) ∈ vq_G := vq_at2 (i := 216) rfl rfl
theorem vq_t457 : (.instanceMethod y_LI_slopeUpper : Cond) ∈ vq_G := vq_at2 (i := 217) rfl rfl
theorem vq_t458 : (.selects R_LI y_LI_slopeUpper y_LI_slopeUpper : Cond) ∈ vq_G := vq_at2 (i := 218) rfl rfl
theorem vq_t459 : (.code y_LI_slopeUpper b_LI_slopeUpper 1 (some .long) : Cond) ∈ vq_G := vq_at2 (i := 219) rfl rfl
theorem vq_t460 : (.methodLink R_BR 186 y_LI_heightUpper : Cond) ∈ vq_G := vq_at2 (i := 220) rfl rfl
theorem vq_t461 : (.instanceMethod y_LI_heightUpper : Cond) ∈ vq_G := vq_at2 (i := 221) rfl rfl
theorem vq_t462 : (.selects R_LI y_LI_heightUpper y_LI_heightUpper : Cond) ∈ vq_G := vq_at2 (i := 222) rfl rfl
theorem vq_t463 : (.code y_LI_heightUpper b_LI_heightUpper 1 (some .long) : Cond) ∈ vq_G := vq_at2 (i := 223) rfl rfl
theorem vq_t470 : (.code y_BR_tick b_BR_tick 2 (some .int) : Cond) ∈ vq_G := vq_at2 (i := 230) rfl rfl
theorem vq_t472 : (.instantiable R_MO 22 : Cond) ∈ vq_G := vq_at2 (i := 232) rfl rfl
theorem vq_t475 : (.code y_MO_init b_MO_init 1 none : Cond) ∈ vq_G := vq_at2 (i := 235) rfl rfl
theorem vq_t547 : (.code y_MO_thrown b_MO_thrown 1 (some .int) : Cond) ∈ vq_G := vq_at3 (i := 67) rfl rfl
theorem vq_t551 : (.code y_MO_moisture b_MO_moisture 3 none : Cond) ∈ vq_G := vq_at3 (i := 71) rfl rfl
theorem vq_t554 : (.code y_MO_isMaterial b_MO_isMaterial 1 (some .boolean) : Cond) ∈ vq_G := vq_at3 (i := 74) rfl rfl
theorem vq_t557 : (.code y_MO_in b_MO_in 3 (some .boolean) : Cond) ∈ vq_G := vq_at3 (i := 77) rfl rfl
theorem vq_t561 : (.code y_MO_throwing b_MO_throwing 5 (some .boolean) : Cond) ∈ vq_G := vq_at3 (i := 81) rfl rfl
theorem vq_t565 : (.code y_MO_element b_MO_element 4 none : Cond) ∈ vq_G := vq_at3 (i := 85) rfl rfl
theorem vq_t568 : (.code y_MO_isElement b_MO_isElement 1 (some .boolean) : Cond) ∈ vq_G := vq_at3 (i := 88) rfl rfl
theorem vq_t572 : (.code y_MO_ship b_MO_ship 6 (some .int) : Cond) ∈ vq_G := vq_at3 (i := 92) rfl rfl
theorem vq_t576 : (.code y_MO_stock b_MO_stock 2 (some .int) : Cond) ∈ vq_G := vq_at3 (i := 96) rfl rfl
theorem vq_t580 : (.code y_MO_stockOf b_MO_stockOf 4 (some .int) : Cond) ∈ vq_G := vq_at3 (i := 100) rfl rfl
theorem vq_t584 : (.code y_MO_pile b_MO_pile 2 (some .int) : Cond) ∈ vq_G := vq_at3 (i := 104) rfl rfl
theorem vq_t589 : (.code y_MO_lay b_MO_lay 9 (some .int) : Cond) ∈ vq_G := vq_at3 (i := 109) rfl rfl
theorem vq_t593 : (.code y_MO_isPile b_MO_isPile 2 (some .boolean) : Cond) ∈ vq_G := vq_at3 (i := 113) rfl rfl
theorem vq_t597 : (.code y_MO_gramsOf b_MO_gramsOf 4 (some .int) : Cond) ∈ vq_G := vq_at3 (i := 117) rfl rfl
theorem vq_t601 : (.code y_MO_slice b_MO_slice 7 (some .int) : Cond) ∈ vq_G := vq_at3 (i := 121) rfl rfl
theorem vq_t605 : (.code y_MO_gramsIn b_MO_gramsIn 6 (some .long) : Cond) ∈ vq_G := vq_at3 (i := 125) rfl rfl
theorem vq_t609 : (.code y_MO_takes b_MO_takes 4 (some .long) : Cond) ∈ vq_G := vq_at3 (i := 129) rfl rfl
theorem vq_t613 : (.code y_MO_ahead b_MO_ahead 5 (some .long) : Cond) ∈ vq_G := vq_at3 (i := 133) rfl rfl
theorem vq_t617 : (.code y_MO_heldIn b_MO_heldIn 7 (some .long) : Cond) ∈ vq_G := vq_at3 (i := 137) rfl rfl
theorem vq_t621 : (.code y_MO_spreadBy b_MO_spreadBy 12 none : Cond) ∈ vq_G := vq_at3 (i := 141) rfl rfl
theorem vq_t624 : (.code y_MO_partOf b_MO_partOf 13 (some .long) : Cond) ∈ vq_G := vq_at3 (i := 144) rfl rfl
theorem vq_t629 : (.code y_MO_share b_MO_share 8 (some .long) : Cond) ∈ vq_G := vq_at3 (i := 149) rfl rfl
theorem vq_t632 : (.code y_MO_isPart b_MO_isPart 1 (some .boolean) : Cond) ∈ vq_G := vq_at3 (i := 152) rfl rfl
theorem vq_t636 : (.code y_MO_isUntaken b_MO_isUntaken 2 (some .boolean) : Cond) ∈ vq_G := vq_at3 (i := 156) rfl rfl
theorem vq_t640 : (.code y_MO_basicity b_MO_basicity 7 (some .long) : Cond) ∈ vq_G := vq_at3 (i := 160) rfl rfl
theorem vq_t644 : (.code y_MO_spread b_MO_spread 6 (some .long) : Cond) ∈ vq_G := vq_at3 (i := 164) rfl rfl
theorem vq_t648 : (.code y_MO_pileAt b_MO_pileAt 6 (some .int) : Cond) ∈ vq_G := vq_at3 (i := 168) rfl rfl
theorem vq_t652 : (.code y_MO_mix b_MO_mix 10 (some .long) : Cond) ∈ vq_G := vq_at3 (i := 172) rfl rfl
theorem vq_t656 : (.code y_MO_point b_MO_point 3 (some .int) : Cond) ∈ vq_G := vq_at3 (i := 176) rfl rfl
theorem vq_t660 : (.code y_MO_fit b_MO_fit 13 (some .long) : Cond) ∈ vq_G := vq_at3 (i := 180) rfl rfl
theorem vq_t664 : (.code y_MO_tick b_MO_tick 2 (some .int) : Cond) ∈ vq_G := vq_at3 (i := 184) rfl rfl
theorem vq_arrI : (.arrayClass .int : Cond) ∈ vq_G := vq_t46
theorem vq_arrJ : (.arrayClass .long : Cond) ∈ vq_G := vq_t99
theorem wOI_inst : (.instanceMethod objectInit : Cond) ∈ vq_G := vq_t19
theorem wOI_code : (.code objectInit ⟨#[0xb1]⟩ 1 none : Cond) ∈ vq_G := vq_t20
theorem vq_sub {ws : List Cond} (h1 : ∀ w ∈ ws, w ∈ lw_tbl) (h2 : ∀ w ∈ ws, goodWord w = true) : ∀ w ∈ ws, w ∈ vq_G := fun w h => List.mem_filter.mpr ⟨h1 w h, h2 w h⟩
theorem i_BR : ∀ w ∈ u_ws R_BR F_BR 11, w ∈ vq_G := vq_sub (by decide +kernel) (by decide +kernel)
theorem i_PI : ∀ w ∈ u_ws R_PI F_PI 13, w ∈ vq_G := vq_sub (by decide +kernel) (by decide +kernel)
theorem i_LI : ∀ w ∈ u_ws R_LI F_LI 5, w ∈ vq_G := vq_sub (by decide +kernel) (by decide +kernel)
theorem i_MO : ∀ w ∈ u_ws R_MO F_MO 22, w ∈ vq_G := vq_sub (by decide +kernel) (by decide +kernel)
abbrev w_BR_init : List Cond := .code y_BR_init b_BR_init 2 none :: vq_G
abbrev w_BR_moisture : List Cond := .code y_BR_moisture b_BR_moisture 3 none :: vq_G
abbrev w_BR_element : List Cond := .code y_BR_element b_BR_element 4 none :: vq_G
abbrev w_BR_ship : List Cond := .code y_BR_ship b_BR_ship 6 (some .int) :: vq_G
abbrev w_BR_stock : List Cond := .code y_BR_stock b_BR_stock 2 (some .int) :: vq_G
abbrev w_BR_pile : List Cond := .code y_BR_pile b_BR_pile 4 (some .int) :: vq_G
abbrev w_BR_lay : List Cond := .code y_BR_lay b_BR_lay 5 (some .int) :: vq_G
abbrev w_BR_slice : List Cond := .code y_BR_slice b_BR_slice 3 (some .int) :: vq_G
abbrev w_BR_share : List Cond := .code y_BR_share b_BR_share 5 (some .long) :: vq_G
abbrev w_BR_basicity : List Cond := .code y_BR_basicity b_BR_basicity 4 (some .long) :: vq_G
abbrev w_BR_spread : List Cond := .code y_BR_spread b_BR_spread 5 (some .long) :: vq_G
abbrev w_BR_pileAt : List Cond := .code y_BR_pileAt b_BR_pileAt 4 (some .int) :: vq_G
abbrev w_BR_mix : List Cond := .code y_BR_mix b_BR_mix 8 (some .long) :: vq_G
abbrev w_BR_point : List Cond := .code y_BR_point b_BR_point 3 (some .int) :: vq_G
abbrev w_BR_fit : List Cond := .code y_BR_fit b_BR_fit 5 (some .long) :: vq_G
abbrev w_BR_tick : List Cond := .code y_BR_tick b_BR_tick 2 (some .int) :: vq_G
abbrev w_BR_needMaterial : List Cond := .code y_BR_needMaterial b_BR_needMaterial 1 none :: vq_G
abbrev w_BR_needElement : List Cond := .code y_BR_needElement b_BR_needElement 1 none :: vq_G
abbrev w_BR_needPart : List Cond := .code y_BR_needPart b_BR_needPart 1 none :: vq_G
abbrev w_BR_needRange : List Cond := .code y_BR_needRange b_BR_needRange 3 none :: vq_G
abbrev w_BR_needTaken : List Cond := .code y_BR_needTaken b_BR_needTaken 1 none :: vq_G
abbrev w_BR_needPile : List Cond := .code y_BR_needPile b_BR_needPile 3 (some (.object "BlendRows$Pile")) :: vq_G
abbrev w_BR_lostKilos : List Cond := .code y_BR_lostKilos b_BR_lostKilos 2 (some .int) :: vq_G
abbrev w_BR_stockOf : List Cond := .code y_BR_stockOf b_BR_stockOf 4 (some .int) :: vq_G
abbrev w_BR_lowestTerms : List Cond := .code y_BR_lowestTerms b_BR_lowestTerms 9 (some .long) :: vq_G
abbrev w_BR_commonDivisor : List Cond := .code y_BR_commonDivisor b_BR_commonDivisor 11 (some .long) :: vq_G
abbrev w_PI_init : List Cond := .code y_PI_init b_PI_init 1 none :: vq_G
abbrev w_PI_addLayer : List Cond := .code y_PI_addLayer b_PI_addLayer 5 none :: vq_G
abbrev w_PI_takeNext : List Cond := .code y_PI_takeNext b_PI_takeNext 2 none :: vq_G
abbrev w_PI_clearLatest : List Cond := .code y_PI_clearLatest b_PI_clearLatest 2 none :: vq_G
abbrev w_PI_takeOfLayer : List Cond := .code y_PI_takeOfLayer b_PI_takeOfLayer 4 none :: vq_G
abbrev w_PI_gramsBefore : List Cond := .code y_PI_gramsBefore b_PI_gramsBefore 3 (some .int) :: vq_G
abbrev w_PI_noteGreatest : List Cond := .code y_PI_noteGreatest b_PI_noteGreatest 2 none :: vq_G
abbrev w_PI_noteLeast : List Cond := .code y_PI_noteLeast b_PI_noteLeast 2 none :: vq_G
abbrev w_PI_spreadUpper : List Cond := .code y_PI_spreadUpper b_PI_spreadUpper 2 (some .long) :: vq_G
abbrev w_PI_spreadLower : List Cond := .code y_PI_spreadLower b_PI_spreadLower 2 (some .long) :: vq_G
abbrev w_LI_init : List Cond := .code y_LI_init b_LI_init 1 none :: vq_G
abbrev w_LI_addPoint : List Cond := .code y_LI_addPoint b_LI_addPoint 3 none :: vq_G
abbrev w_LI_slopeUpper : List Cond := .code y_LI_slopeUpper b_LI_slopeUpper 1 (some .long) :: vq_G
abbrev w_LI_heightUpper : List Cond := .code y_LI_heightUpper b_LI_heightUpper 1 (some .long) :: vq_G
abbrev w_LI_lower : List Cond := .code y_LI_lower b_LI_lower 1 (some .long) :: vq_G
abbrev w_MO_init : List Cond := .code y_MO_init b_MO_init 1 none :: vq_G
abbrev w_MO_thrown : List Cond := .code y_MO_thrown b_MO_thrown 1 (some .int) :: vq_G
abbrev w_MO_throwing : List Cond := .code y_MO_throwing b_MO_throwing 5 (some .boolean) :: vq_G
abbrev w_MO_in : List Cond := .code y_MO_in b_MO_in 3 (some .boolean) :: vq_G
abbrev w_MO_isMaterial : List Cond := .code y_MO_isMaterial b_MO_isMaterial 1 (some .boolean) :: vq_G
abbrev w_MO_isElement : List Cond := .code y_MO_isElement b_MO_isElement 1 (some .boolean) :: vq_G
abbrev w_MO_isPart : List Cond := .code y_MO_isPart b_MO_isPart 1 (some .boolean) :: vq_G
abbrev w_MO_isPile : List Cond := .code y_MO_isPile b_MO_isPile 2 (some .boolean) :: vq_G
abbrev w_MO_partOf : List Cond := .code y_MO_partOf b_MO_partOf 13 (some .long) :: vq_G
abbrev w_MO_moisture : List Cond := .code y_MO_moisture b_MO_moisture 3 none :: vq_G
abbrev w_MO_element : List Cond := .code y_MO_element b_MO_element 4 none :: vq_G
abbrev w_MO_ship : List Cond := .code y_MO_ship b_MO_ship 6 (some .int) :: vq_G
abbrev w_MO_stockOf : List Cond := .code y_MO_stockOf b_MO_stockOf 4 (some .int) :: vq_G
abbrev w_MO_stock : List Cond := .code y_MO_stock b_MO_stock 2 (some .int) :: vq_G
abbrev w_MO_pile : List Cond := .code y_MO_pile b_MO_pile 2 (some .int) :: vq_G
abbrev w_MO_gramsOf : List Cond := .code y_MO_gramsOf b_MO_gramsOf 4 (some .int) :: vq_G
abbrev w_MO_lay : List Cond := .code y_MO_lay b_MO_lay 9 (some .int) :: vq_G
abbrev w_MO_ahead : List Cond := .code y_MO_ahead b_MO_ahead 5 (some .long) :: vq_G
abbrev w_MO_takes : List Cond := .code y_MO_takes b_MO_takes 4 (some .long) :: vq_G
abbrev w_MO_gramsIn : List Cond := .code y_MO_gramsIn b_MO_gramsIn 6 (some .long) :: vq_G
abbrev w_MO_heldIn : List Cond := .code y_MO_heldIn b_MO_heldIn 7 (some .long) :: vq_G
abbrev w_MO_spreadBy : List Cond := .code y_MO_spreadBy b_MO_spreadBy 12 none :: vq_G
abbrev w_MO_slice : List Cond := .code y_MO_slice b_MO_slice 7 (some .int) :: vq_G
abbrev w_MO_isUntaken : List Cond := .code y_MO_isUntaken b_MO_isUntaken 2 (some .boolean) :: vq_G
abbrev w_MO_share : List Cond := .code y_MO_share b_MO_share 8 (some .long) :: vq_G
abbrev w_MO_basicity : List Cond := .code y_MO_basicity b_MO_basicity 7 (some .long) :: vq_G
abbrev w_MO_spread : List Cond := .code y_MO_spread b_MO_spread 6 (some .long) :: vq_G
abbrev w_MO_pileAt : List Cond := .code y_MO_pileAt b_MO_pileAt 6 (some .int) :: vq_G
abbrev w_MO_mix : List Cond := .code y_MO_mix b_MO_mix 10 (some .long) :: vq_G
abbrev w_MO_point : List Cond := .code y_MO_point b_MO_point 3 (some .int) :: vq_G
abbrev w_MO_fit : List Cond := .code y_MO_fit b_MO_fit 13 (some .long) :: vq_G
abbrev w_MO_tick : List Cond := .code y_MO_tick b_MO_tick 2 (some .int) :: vq_G
abbrev vq_NF : List (String × Nat × String × String × String × String) := [(R_BR, 88, "BlendRows$Pile", "taken", "I", "BlendRows"), (R_BR, 81, "BlendRows$Pile", "slices", "I", "BlendRows"), (R_BR, 93, "BlendRows$Pile", "layers", "I", "BlendRows"), (R_BR, 107, "BlendRows$Pile", "grams", "I", "BlendRows"), (R_BR, 117, "BlendRows$Pile", "latestGrams", "I", "BlendRows"), (R_BR, 129, "BlendRows$Pile", "latestSums", "[J", "BlendRows"), (R_BR, 139, "BlendRows$Pile", "gramsTaken", "I", "BlendRows"), (R_BR, 168, "BlendRows$Line", "count", "I", "BlendRows")]
theorem vq_nf0 : (R_BR, 88, "BlendRows$Pile", "taken", "I", "BlendRows") ∈ vq_NF := List.mem_of_getElem? (i := 0) rfl
theorem vq_nf1 : (R_BR, 81, "BlendRows$Pile", "slices", "I", "BlendRows") ∈ vq_NF := List.mem_of_getElem? (i := 1) rfl
theorem vq_nf2 : (R_BR, 93, "BlendRows$Pile", "layers", "I", "BlendRows") ∈ vq_NF := List.mem_of_getElem? (i := 2) rfl
theorem vq_nf3 : (R_BR, 107, "BlendRows$Pile", "grams", "I", "BlendRows") ∈ vq_NF := List.mem_of_getElem? (i := 3) rfl
theorem vq_nf4 : (R_BR, 117, "BlendRows$Pile", "latestGrams", "I", "BlendRows") ∈ vq_NF := List.mem_of_getElem? (i := 4) rfl
theorem vq_nf5 : (R_BR, 129, "BlendRows$Pile", "latestSums", "[J", "BlendRows") ∈ vq_NF := List.mem_of_getElem? (i := 5) rfl
theorem vq_nf6 : (R_BR, 139, "BlendRows$Pile", "gramsTaken", "I", "BlendRows") ∈ vq_NF := List.mem_of_getElem? (i := 6) rfl
theorem vq_nf7 : (R_BR, 168, "BlendRows$Line", "count", "I", "BlendRows") ∈ vq_NF := List.mem_of_getElem? (i := 7) rfl
abbrev vq_NM : List (String × Nat × MethodName × String) := [(R_BR, 36, y_LI_init, "BlendRows"), (R_BR, 41, y_PI_init, "BlendRows")]
theorem vq_nm0 : (R_BR, 36, y_LI_init, "BlendRows") ∈ vq_NM := List.mem_of_getElem? (i := 0) rfl
theorem vq_nm1 : (R_BR, 41, y_PI_init, "BlendRows") ∈ vq_NM := List.mem_of_getElem? (i := 1) rfl
abbrev vq_SW : List (String × Nat × String) := [(R_BR, 189, "no such material"), (R_BR, 191, "no such element"), (R_BR, 193, "no such part"), (R_BR, 197, "out of range"), (R_BR, 200, "no slice was taken"), (R_BR, 202, "no such pile"), (R_BR, 59, "no more ships"), (R_BR, 78, "no more piles"), (R_BR, 101, "the stock is less"), (R_BR, 98, "no more layers"), (R_BR, 91, "a slice was taken"), (R_BR, 112, "all slices were taken"), (R_BR, 110, "no layers"), (R_BR, 127, "the slice had no grams"), (R_BR, 137, "nothing of element 1"), (R_BR, 142, "no slice with grams was taken"), (R_BR, 153, "no such what"), (R_BR, 166, "no such mix"), (R_BR, 156, "the materials are one"), (R_BR, 171, "no more points"), (R_BR, 181, "no such line")]
theorem vq_sw0 : (R_BR, 189, "no such material") ∈ vq_SW := List.mem_of_getElem? (i := 0) rfl
theorem vq_sw1 : (R_BR, 191, "no such element") ∈ vq_SW := List.mem_of_getElem? (i := 1) rfl
theorem vq_sw2 : (R_BR, 193, "no such part") ∈ vq_SW := List.mem_of_getElem? (i := 2) rfl
theorem vq_sw3 : (R_BR, 197, "out of range") ∈ vq_SW := List.mem_of_getElem? (i := 3) rfl
theorem vq_sw4 : (R_BR, 200, "no slice was taken") ∈ vq_SW := List.mem_of_getElem? (i := 4) rfl
theorem vq_sw5 : (R_BR, 202, "no such pile") ∈ vq_SW := List.mem_of_getElem? (i := 5) rfl
theorem vq_sw6 : (R_BR, 59, "no more ships") ∈ vq_SW := List.mem_of_getElem? (i := 6) rfl
theorem vq_sw7 : (R_BR, 78, "no more piles") ∈ vq_SW := List.mem_of_getElem? (i := 7) rfl
theorem vq_sw8 : (R_BR, 101, "the stock is less") ∈ vq_SW := List.mem_of_getElem? (i := 8) rfl
theorem vq_sw9 : (R_BR, 98, "no more layers") ∈ vq_SW := List.mem_of_getElem? (i := 9) rfl
theorem vq_sw10 : (R_BR, 91, "a slice was taken") ∈ vq_SW := List.mem_of_getElem? (i := 10) rfl
theorem vq_sw11 : (R_BR, 112, "all slices were taken") ∈ vq_SW := List.mem_of_getElem? (i := 11) rfl
theorem vq_sw12 : (R_BR, 110, "no layers") ∈ vq_SW := List.mem_of_getElem? (i := 12) rfl
theorem vq_sw13 : (R_BR, 127, "the slice had no grams") ∈ vq_SW := List.mem_of_getElem? (i := 13) rfl
theorem vq_sw14 : (R_BR, 137, "nothing of element 1") ∈ vq_SW := List.mem_of_getElem? (i := 14) rfl
theorem vq_sw15 : (R_BR, 142, "no slice with grams was taken") ∈ vq_SW := List.mem_of_getElem? (i := 15) rfl
theorem vq_sw16 : (R_BR, 153, "no such what") ∈ vq_SW := List.mem_of_getElem? (i := 16) rfl
theorem vq_sw17 : (R_BR, 166, "no such mix") ∈ vq_SW := List.mem_of_getElem? (i := 17) rfl
theorem vq_sw18 : (R_BR, 156, "the materials are one") ∈ vq_SW := List.mem_of_getElem? (i := 18) rfl
theorem vq_sw19 : (R_BR, 171, "no more points") ∈ vq_SW := List.mem_of_getElem? (i := 19) rfl
theorem vq_sw20 : (R_BR, 181, "no such line") ∈ vq_SW := List.mem_of_getElem? (i := 20) rfl
abbrev vq_AO : List String := ["BlendRows$Pile"]
theorem vq_gL {ws : List Cond} (h : ∀ w ∈ ws, w ∈ vq_G) : GoodIn vq_G ws := fun w hw => ⟨h w hw, good_of_word (List.mem_filter.mp (h w hw)).2⟩
theorem vq_gI {c : Cond} (h : c ∈ vq_G) : GoodIn vq_G (c :: vq_G) := vq_gL (List.forall_mem_cons.mpr ⟨h, fun _ h => h⟩)
theorem vq_gS {own : String} {i : Nat} {y : MethodName} {b : ByteArray} {n : Nat} {r : Option FieldType} (h1 : Cond.methodLink own i y ∈ vq_G) (h2 : Cond.static y ∈ vq_G) (h3 : Cond.initialized own ∈ vq_G) (h4 : Cond.code y b n r ∈ vq_G) : GoodIn vq_G (wsS own i y (.code y b n r :: vq_G)) :=
  vq_gL (List.forall_mem_append.mpr ⟨List.forall_mem_cons.mpr ⟨h1, List.forall_mem_cons.mpr ⟨h2, List.forall_mem_cons.mpr ⟨h3, fun _ h => absurd h List.not_mem_nil⟩⟩⟩, List.forall_mem_cons.mpr ⟨h4, fun _ h => h⟩⟩)
theorem vq_gV {own C : String} {i : Nat} {y : MethodName} {b : ByteArray} {n : Nat} {r : Option FieldType} (h1 : Cond.methodLink own i y ∈ vq_G) (h2 : Cond.instanceMethod y ∈ vq_G) (h3 : Cond.selects C y y ∈ vq_G) (h5 : Cond.initialized C ∈ vq_G) (h4 : Cond.code y b n r ∈ vq_G) : GoodIn vq_G (wsV own i C y (.code y b n r :: vq_G)) :=
  vq_gL (List.forall_mem_append.mpr ⟨List.forall_mem_cons.mpr ⟨h1, List.forall_mem_cons.mpr ⟨h2, List.forall_mem_cons.mpr ⟨h3, List.forall_mem_cons.mpr ⟨h5, fun _ h => absurd h List.not_mem_nil⟩⟩⟩⟩, List.forall_mem_cons.mpr ⟨h4, fun _ h => h⟩⟩)
theorem vq_hG {c : Cond} {args : Array Value} {s : State} (h : ∀ w ∈ (c :: vq_G), w.before args s = true) : ∀ w ∈ vq_G, w.before args s = true := fun w hw => h w (List.mem_cons_of_mem _ hw)
abbrev vq_E : List String := ["java/lang/IndexOutOfBoundsException", "java/lang/IllegalStateException", "java/lang/IllegalArgumentException", "java/lang/UnsupportedOperationException"]
abbrev vq_DE : List MethodName := [⟨"java/lang/RuntimeException", "<init>", "(Ljava/lang/String;)V"⟩, ⟨"java/lang/Exception", "<init>", "(Ljava/lang/String;)V"⟩, ⟨"java/lang/Throwable", "<init>", "(Ljava/lang/String;)V"⟩]
abbrev vq_N : List String := ["java/lang/RuntimeException", "java/lang/Exception"]
theorem vq_ax0 : ∀ w ∈ (vx_atS R_BR 155 "java/lang/IndexOutOfBoundsException" vq_N).filter goodWord, w ∈ vq_G := vq_sub (by decide +kernel) (by decide +kernel)
theorem vq_ay0 : ∀ w ∈ (vx_atS R_BR 155 "java/lang/IndexOutOfBoundsException" vq_N).filter (fun w => !goodWord w), w ∈ (Cond.castable "java/lang/IndexOutOfBoundsException" "java/lang/IndexOutOfBoundsException" :: vq_DE.map Cond.declares) := by decide +kernel
theorem vq_ao0 : ∀ w ∈ vx_atS R_BR 155 "java/lang/IndexOutOfBoundsException" vq_N, vx_ot w = true := by decide +kernel
theorem vq_ax1 : ∀ w ∈ (vx_atS R_BR 199 "java/lang/IllegalArgumentException" vq_N).filter goodWord, w ∈ vq_G := vq_sub (by decide +kernel) (by decide +kernel)
theorem vq_ay1 : ∀ w ∈ (vx_atS R_BR 199 "java/lang/IllegalArgumentException" vq_N).filter (fun w => !goodWord w), w ∈ (Cond.castable "java/lang/IllegalArgumentException" "java/lang/IllegalArgumentException" :: vq_DE.map Cond.declares) := by decide +kernel
theorem vq_ao1 : ∀ w ∈ vx_atS R_BR 199 "java/lang/IllegalArgumentException" vq_N, vx_ot w = true := by decide +kernel
theorem vq_ax2 : ∀ w ∈ (vx_atS R_BR 61 "java/lang/IllegalStateException" vq_N).filter goodWord, w ∈ vq_G := vq_sub (by decide +kernel) (by decide +kernel)
theorem vq_ay2 : ∀ w ∈ (vx_atS R_BR 61 "java/lang/IllegalStateException" vq_N).filter (fun w => !goodWord w), w ∈ (Cond.castable "java/lang/IllegalStateException" "java/lang/IllegalStateException" :: vq_DE.map Cond.declares) := by decide +kernel
theorem vq_ao2 : ∀ w ∈ vx_atS R_BR 61 "java/lang/IllegalStateException" vq_N, vx_ot w = true := by decide +kernel
theorem vq_ax3 : ∀ w ∈ (vx_atS R_BR 100 "java/lang/UnsupportedOperationException" vq_N).filter goodWord, w ∈ vq_G := vq_sub (by decide +kernel) (by decide +kernel)
theorem vq_ay3 : ∀ w ∈ (vx_atS R_BR 100 "java/lang/UnsupportedOperationException" vq_N).filter (fun w => !goodWord w), w ∈ (Cond.castable "java/lang/UnsupportedOperationException" "java/lang/UnsupportedOperationException" :: vq_DE.map Cond.declares) := by decide +kernel
theorem vq_ao3 : ∀ w ∈ vx_atS R_BR 100 "java/lang/UnsupportedOperationException" vq_N, vx_ot w = true := by decide +kernel
/-- the words of a place that throws -/
def vq_TW (own : String) (ik is ic : Nat) (cls text : String) : Prop :=
  Cond.classLink own ik cls ∈ vq_G ∧ Cond.initialized cls ∈ vq_G ∧ (own, is, text) ∈ vq_SW ∧ (∀ w ∈ (vx_atS own ic cls vq_N).filter goodWord, w ∈ vq_G) ∧ (∀ w ∈ (vx_atS own ic cls vq_N).filter (fun w => !goodWord w), w ∈ (Cond.castable cls cls :: vq_DE.map Cond.declares)) ∧ (∀ w ∈ Cond.classLink own ik cls :: Cond.initialized cls :: vx_atS own ic cls vq_N, vx_ot w = true) ∧ Bundle.fit cls = true ∧ cls ∈ vq_E
theorem vq_tw0 : vq_TW R_BR 151 189 155 "java/lang/IndexOutOfBoundsException" "no such material" := ⟨vq_t146, vq_t8, vq_sw0, vq_ax0, vq_ay0, List.forall_mem_cons.mpr ⟨rfl, List.forall_mem_cons.mpr ⟨rfl, vq_ao0⟩⟩, by decide +kernel, by decide +kernel⟩
theorem vq_tw1 : vq_TW R_BR 151 191 155 "java/lang/IndexOutOfBoundsException" "no such element" := ⟨vq_t146, vq_t8, vq_sw1, vq_ax0, vq_ay0, List.forall_mem_cons.mpr ⟨rfl, List.forall_mem_cons.mpr ⟨rfl, vq_ao0⟩⟩, by decide +kernel, by decide +kernel⟩
theorem vq_tw2 : vq_TW R_BR 151 193 155 "java/lang/IndexOutOfBoundsException" "no such part" := ⟨vq_t146, vq_t8, vq_sw2, vq_ax0, vq_ay0, List.forall_mem_cons.mpr ⟨rfl, List.forall_mem_cons.mpr ⟨rfl, vq_ao0⟩⟩, by decide +kernel, by decide +kernel⟩
theorem vq_tw3 : vq_TW R_BR 195 197 199 "java/lang/IllegalArgumentException" "out of range" := ⟨vq_t218, vq_t9, vq_sw3, vq_ax1, vq_ay1, List.forall_mem_cons.mpr ⟨rfl, List.forall_mem_cons.mpr ⟨rfl, vq_ao1⟩⟩, by decide +kernel, by decide +kernel⟩
theorem vq_tw4 : vq_TW R_BR 57 200 61 "java/lang/IllegalStateException" "no slice was taken" := ⟨vq_t253, vq_t10, vq_sw4, vq_ax2, vq_ay2, List.forall_mem_cons.mpr ⟨rfl, List.forall_mem_cons.mpr ⟨rfl, vq_ao2⟩⟩, by decide +kernel, by decide +kernel⟩
theorem vq_tw5 : vq_TW R_BR 151 202 155 "java/lang/IndexOutOfBoundsException" "no such pile" := ⟨vq_t146, vq_t8, vq_sw5, vq_ax0, vq_ay0, List.forall_mem_cons.mpr ⟨rfl, List.forall_mem_cons.mpr ⟨rfl, vq_ao0⟩⟩, by decide +kernel, by decide +kernel⟩
theorem vq_tw6 : vq_TW R_BR 57 59 61 "java/lang/IllegalStateException" "no more ships" := ⟨vq_t253, vq_t10, vq_sw6, vq_ax2, vq_ay2, List.forall_mem_cons.mpr ⟨rfl, List.forall_mem_cons.mpr ⟨rfl, vq_ao2⟩⟩, by decide +kernel, by decide +kernel⟩
theorem vq_tw7 : vq_TW R_BR 57 78 61 "java/lang/IllegalStateException" "no more piles" := ⟨vq_t253, vq_t10, vq_sw7, vq_ax2, vq_ay2, List.forall_mem_cons.mpr ⟨rfl, List.forall_mem_cons.mpr ⟨rfl, vq_ao2⟩⟩, by decide +kernel, by decide +kernel⟩
theorem vq_tw8 : vq_TW R_BR 96 101 100 "java/lang/UnsupportedOperationException" "the stock is less" := ⟨vq_t306, vq_t11, vq_sw8, vq_ax3, vq_ay3, List.forall_mem_cons.mpr ⟨rfl, List.forall_mem_cons.mpr ⟨rfl, vq_ao3⟩⟩, by decide +kernel, by decide +kernel⟩
theorem vq_tw9 : vq_TW R_BR 96 98 100 "java/lang/UnsupportedOperationException" "no more layers" := ⟨vq_t306, vq_t11, vq_sw9, vq_ax3, vq_ay3, List.forall_mem_cons.mpr ⟨rfl, List.forall_mem_cons.mpr ⟨rfl, vq_ao3⟩⟩, by decide +kernel, by decide +kernel⟩
theorem vq_tw10 : vq_TW R_BR 57 91 61 "java/lang/IllegalStateException" "a slice was taken" := ⟨vq_t253, vq_t10, vq_sw10, vq_ax2, vq_ay2, List.forall_mem_cons.mpr ⟨rfl, List.forall_mem_cons.mpr ⟨rfl, vq_ao2⟩⟩, by decide +kernel, by decide +kernel⟩
theorem vq_tw11 : vq_TW R_BR 57 112 61 "java/lang/IllegalStateException" "all slices were taken" := ⟨vq_t253, vq_t10, vq_sw11, vq_ax2, vq_ay2, List.forall_mem_cons.mpr ⟨rfl, List.forall_mem_cons.mpr ⟨rfl, vq_ao2⟩⟩, by decide +kernel, by decide +kernel⟩
theorem vq_tw12 : vq_TW R_BR 57 110 61 "java/lang/IllegalStateException" "no layers" := ⟨vq_t253, vq_t10, vq_sw12, vq_ax2, vq_ay2, List.forall_mem_cons.mpr ⟨rfl, List.forall_mem_cons.mpr ⟨rfl, vq_ao2⟩⟩, by decide +kernel, by decide +kernel⟩
theorem vq_tw13 : vq_TW R_BR 96 127 100 "java/lang/UnsupportedOperationException" "the slice had no grams" := ⟨vq_t306, vq_t11, vq_sw13, vq_ax3, vq_ay3, List.forall_mem_cons.mpr ⟨rfl, List.forall_mem_cons.mpr ⟨rfl, vq_ao3⟩⟩, by decide +kernel, by decide +kernel⟩
theorem vq_tw14 : vq_TW R_BR 96 137 100 "java/lang/UnsupportedOperationException" "nothing of element 1" := ⟨vq_t306, vq_t11, vq_sw14, vq_ax3, vq_ay3, List.forall_mem_cons.mpr ⟨rfl, List.forall_mem_cons.mpr ⟨rfl, vq_ao3⟩⟩, by decide +kernel, by decide +kernel⟩
theorem vq_tw15 : vq_TW R_BR 57 142 61 "java/lang/IllegalStateException" "no slice with grams was taken" := ⟨vq_t253, vq_t10, vq_sw15, vq_ax2, vq_ay2, List.forall_mem_cons.mpr ⟨rfl, List.forall_mem_cons.mpr ⟨rfl, vq_ao2⟩⟩, by decide +kernel, by decide +kernel⟩
theorem vq_tw16 : vq_TW R_BR 151 153 155 "java/lang/IndexOutOfBoundsException" "no such what" := ⟨vq_t146, vq_t8, vq_sw16, vq_ax0, vq_ay0, List.forall_mem_cons.mpr ⟨rfl, List.forall_mem_cons.mpr ⟨rfl, vq_ao0⟩⟩, by decide +kernel, by decide +kernel⟩
theorem vq_tw17 : vq_TW R_BR 96 166 100 "java/lang/UnsupportedOperationException" "no such mix" := ⟨vq_t306, vq_t11, vq_sw17, vq_ax3, vq_ay3, List.forall_mem_cons.mpr ⟨rfl, List.forall_mem_cons.mpr ⟨rfl, vq_ao3⟩⟩, by decide +kernel, by decide +kernel⟩
theorem vq_tw18 : vq_TW R_BR 151 156 155 "java/lang/IndexOutOfBoundsException" "the materials are one" := ⟨vq_t146, vq_t8, vq_sw18, vq_ax0, vq_ay0, List.forall_mem_cons.mpr ⟨rfl, List.forall_mem_cons.mpr ⟨rfl, vq_ao0⟩⟩, by decide +kernel, by decide +kernel⟩
theorem vq_tw19 : vq_TW R_BR 57 171 61 "java/lang/IllegalStateException" "no more points" := ⟨vq_t253, vq_t10, vq_sw19, vq_ax2, vq_ay2, List.forall_mem_cons.mpr ⟨rfl, List.forall_mem_cons.mpr ⟨rfl, vq_ao2⟩⟩, by decide +kernel, by decide +kernel⟩
theorem vq_tw20 : vq_TW R_BR 96 181 100 "java/lang/UnsupportedOperationException" "no such line" := ⟨vq_t306, vq_t11, vq_sw20, vq_ax3, vq_ay3, List.forall_mem_cons.mpr ⟨rfl, List.forall_mem_cons.mpr ⟨rfl, vq_ao3⟩⟩, by decide +kernel, by decide +kernel⟩
