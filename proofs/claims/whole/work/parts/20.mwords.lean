theorem vq_s8 : (.selects R_MO y_MO_throwing y_MO_throwing : Cond) ∈ vq_G := vq_as (i := 8) rfl rfl
theorem vq_s9 : (.selects R_MO y_MO_stockOf y_MO_stockOf : Cond) ∈ vq_G := vq_as (i := 9) rfl rfl
theorem vq_s10 : (.selects R_MO y_MO_isPile y_MO_isPile : Cond) ∈ vq_G := vq_as (i := 10) rfl rfl
theorem vq_s11 : (.selects R_MO y_MO_gramsOf y_MO_gramsOf : Cond) ∈ vq_G := vq_as (i := 11) rfl rfl
theorem vq_s12 : (.selects R_MO y_MO_gramsIn y_MO_gramsIn : Cond) ∈ vq_G := vq_as (i := 12) rfl rfl
theorem vq_s13 : (.selects R_MO y_MO_takes y_MO_takes : Cond) ∈ vq_G := vq_as (i := 13) rfl rfl
theorem vq_s14 : (.selects R_MO y_MO_ahead y_MO_ahead : Cond) ∈ vq_G := vq_as (i := 14) rfl rfl
theorem vq_s15 : (.selects R_MO y_MO_heldIn y_MO_heldIn : Cond) ∈ vq_G := vq_as (i := 15) rfl rfl
theorem vq_s16 : (.selects R_MO y_MO_spreadBy y_MO_spreadBy : Cond) ∈ vq_G := vq_as (i := 16) rfl rfl
theorem vq_s17 : (.selects R_MO y_MO_isUntaken y_MO_isUntaken : Cond) ∈ vq_G := vq_as (i := 17) rfl rfl
theorem vq_t476 : (.methodLink R_MO 1 objectInit : Cond) ∈ vq_G := vq_at2 (i := 236) rfl rfl
theorem vq_t477 : (.fieldLink R_MO 62 "BlendRowsModel" "thrown" "I" : Cond) ∈ vq_G := vq_at2 (i := 237) rfl rfl
theorem vq_t478 : (.fieldLink R_MO 86 "BlendRowsModel" "today" "I" : Cond) ∈ vq_G := vq_at2 (i := 238) rfl rfl
theorem vq_t479 : (.fieldLink R_MO 7 "BlendRowsModel" "moisture" "[I" : Cond) ∈ vq_G := vq_at2 (i := 239) rfl rfl
theorem vq_t480 : (.fieldLink R_MO 13 "BlendRowsModel" "shares" "[I" : Cond) ∈ vq_G := vq_at3 (i := 0) rfl rfl
theorem vq_t481 : (.fieldLink R_MO 89 "BlendRowsModel" "ships" "I" : Cond) ∈ vq_G := vq_at3 (i := 1) rfl rfl
theorem vq_t482 : (.fieldLink R_MO 16 "BlendRowsModel" "shipDay" "[I" : Cond) ∈ vq_G := vq_at3 (i := 2) rfl rfl
theorem vq_t483 : (.fieldLink R_MO 19 "BlendRowsModel" "shipMaterial" "[I" : Cond) ∈ vq_G := vq_at3 (i := 3) rfl rfl
theorem vq_t484 : (.fieldLink R_MO 22 "BlendRowsModel" "shipKilos" "[I" : Cond) ∈ vq_G := vq_at3 (i := 4) rfl rfl
theorem vq_t485 : (.fieldLink R_MO 25 "BlendRowsModel" "laid" "[I" : Cond) ∈ vq_G := vq_at3 (i := 5) rfl rfl
theorem vq_t486 : (.fieldLink R_MO 70 "BlendRowsModel" "piles" "I" : Cond) ∈ vq_G := vq_at3 (i := 6) rfl rfl
theorem vq_t487 : (.fieldLink R_MO 28 "BlendRowsModel" "slices" "[I" : Cond) ∈ vq_G := vq_at3 (i := 7) rfl rfl
theorem vq_t488 : (.fieldLink R_MO 31 "BlendRowsModel" "taken" "[I" : Cond) ∈ vq_G := vq_at3 (i := 8) rfl rfl
theorem vq_t489 : (.fieldLink R_MO 34 "BlendRowsModel" "layers" "[I" : Cond) ∈ vq_G := vq_at3 (i := 9) rfl rfl
theorem vq_t490 : (.fieldLink R_MO 37 "BlendRowsModel" "grams" "[I" : Cond) ∈ vq_G := vq_at3 (i := 10) rfl rfl
theorem vq_t491 : (.fieldLink R_MO 40 "BlendRowsModel" "layerShare" "[I" : Cond) ∈ vq_G := vq_at3 (i := 11) rfl rfl
theorem vq_t492 : (.fieldLink R_MO 43 "BlendRowsModel" "mostUp" "[J" : Cond) ∈ vq_G := vq_at3 (i := 12) rfl rfl
theorem vq_t493 : (.fieldLink R_MO 47 "BlendRowsModel" "mostLow" "[J" : Cond) ∈ vq_G := vq_at3 (i := 13) rfl rfl
theorem vq_t494 : (.fieldLink R_MO 50 "BlendRowsModel" "leastUp" "[J" : Cond) ∈ vq_G := vq_at3 (i := 14) rfl rfl
theorem vq_t495 : (.fieldLink R_MO 53 "BlendRowsModel" "leastLow" "[J" : Cond) ∈ vq_G := vq_at3 (i := 15) rfl rfl
theorem vq_t496 : (.fieldLink R_MO 132 "BlendRowsModel" "points" "I" : Cond) ∈ vq_G := vq_at3 (i := 16) rfl rfl
theorem vq_t497 : (.fieldLink R_MO 56 "BlendRowsModel" "px" "[I" : Cond) ∈ vq_G := vq_at3 (i := 17) rfl rfl
theorem vq_t498 : (.fieldLink R_MO 59 "BlendRowsModel" "py" "[I" : Cond) ∈ vq_G := vq_at3 (i := 18) rfl rfl
theorem vq_t552 : (.methodLink R_MO 75 y_MO_isMaterial : Cond) ∈ vq_G := vq_at3 (i := 72) rfl rfl
theorem vq_t553 : (.static y_MO_isMaterial : Cond) ∈ vq_G := vq_at3 (i := 73) rfl rfl
theorem vq_t555 : (.methodLink R_MO 66 y_MO_in : Cond) ∈ vq_G := vq_at3 (i := 75) rfl rfl
theorem vq_t556 : (.static y_MO_in : Cond) ∈ vq_G := vq_at3 (i := 76) rfl rfl
theorem vq_t558 : (.methodLink R_MO 79 y_MO_throwing : Cond) ∈ vq_G := vq_at3 (i := 78) rfl rfl
theorem vq_t560 : (.instanceMethod y_MO_throwing : Cond) ∈ vq_G := vq_at3 (i := 80) rfl rfl
theorem vq_t566 : (.methodLink R_MO 83 y_MO_isElement : Cond) ∈ vq_G := vq_at3 (i := 86) rfl rfl
theorem vq_t567 : (.static y_MO_isElement : Cond) ∈ vq_G := vq_at3 (i := 87) rfl rfl
theorem vq_t577 : (.methodLink R_MO 92 y_MO_stockOf : Cond) ∈ vq_G := vq_at3 (i := 97) rfl rfl
theorem vq_t579 : (.instanceMethod y_MO_stockOf : Cond) ∈ vq_G := vq_at3 (i := 99) rfl rfl
theorem vq_t585 : (.constant R_MO 96 65536 : Cond) ∈ vq_G := vq_at3 (i := 105) rfl rfl
theorem vq_t590 : (.methodLink R_MO 97 y_MO_isPile : Cond) ∈ vq_G := vq_at3 (i := 110) rfl rfl
theorem vq_t592 : (.instanceMethod y_MO_isPile : Cond) ∈ vq_G := vq_at3 (i := 112) rfl rfl
theorem vq_t594 : (.methodLink R_MO 100 y_MO_gramsOf : Cond) ∈ vq_G := vq_at3 (i := 114) rfl rfl
theorem vq_t596 : (.instanceMethod y_MO_gramsOf : Cond) ∈ vq_G := vq_at3 (i := 116) rfl rfl
theorem vq_t602 : (.methodLink R_MO 115 y_MO_gramsIn : Cond) ∈ vq_G := vq_at3 (i := 122) rfl rfl
theorem vq_t604 : (.instanceMethod y_MO_gramsIn : Cond) ∈ vq_G := vq_at3 (i := 124) rfl rfl
theorem vq_t606 : (.methodLink R_MO 107 y_MO_takes : Cond) ∈ vq_G := vq_at3 (i := 126) rfl rfl
theorem vq_t608 : (.instanceMethod y_MO_takes : Cond) ∈ vq_G := vq_at3 (i := 128) rfl rfl
theorem vq_t610 : (.methodLink R_MO 103 y_MO_ahead : Cond) ∈ vq_G := vq_at3 (i := 130) rfl rfl
theorem vq_t612 : (.instanceMethod y_MO_ahead : Cond) ∈ vq_G := vq_at3 (i := 132) rfl rfl
theorem vq_t614 : (.methodLink R_MO 119 y_MO_heldIn : Cond) ∈ vq_G := vq_at3 (i := 134) rfl rfl
theorem vq_t616 : (.instanceMethod y_MO_heldIn : Cond) ∈ vq_G := vq_at3 (i := 136) rfl rfl
theorem vq_t618 : (.methodLink R_MO 122 y_MO_spreadBy : Cond) ∈ vq_G := vq_at3 (i := 138) rfl rfl
theorem vq_t620 : (.instanceMethod y_MO_spreadBy : Cond) ∈ vq_G := vq_at3 (i := 140) rfl rfl
theorem vq_t622 : (.methodLink R_MO 111 y_MO_partOf : Cond) ∈ vq_G := vq_at3 (i := 142) rfl rfl
theorem vq_t623 : (.static y_MO_partOf : Cond) ∈ vq_G := vq_at3 (i := 143) rfl rfl
theorem vq_t625 : (.constantLong R_MO 73 (-1) : Cond) ∈ vq_G := vq_at3 (i := 145) rfl rfl
theorem vq_t630 : (.methodLink R_MO 126 y_MO_isPart : Cond) ∈ vq_G := vq_at3 (i := 150) rfl rfl
theorem vq_t631 : (.static y_MO_isPart : Cond) ∈ vq_G := vq_at3 (i := 151) rfl rfl
theorem vq_t633 : (.methodLink R_MO 129 y_MO_isUntaken : Cond) ∈ vq_G := vq_at3 (i := 153) rfl rfl
theorem vq_t635 : (.instanceMethod y_MO_isUntaken : Cond) ∈ vq_G := vq_at3 (i := 155) rfl rfl
