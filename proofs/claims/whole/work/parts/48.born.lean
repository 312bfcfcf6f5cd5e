/-! the constructors: what they stand on -/
theorem oi_im : Cond.instanceMethod objectInit ∈ jm_tb := (jm_tb_in (List.mem_of_getElem? (i := 78) (by decide +kernel)) rfl)
theorem oi_cd : Cond.code objectInit ⟨#[0xb1]⟩ 1 none ∈ jm_tb := (jm_tb_in (List.mem_of_getElem? (i := 79) (by decide +kernel)) rfl)
theorem ac_int : Cond.arrayClass .int ∈ jm_tb := (jm_tb_in (List.mem_of_getElem? (i := 102) (by decide +kernel)) rfl)
theorem ac_boo : Cond.arrayClass .boolean ∈ jm_tb := (jm_tb_in (List.mem_of_getElem? (i := 788) (by decide +kernel)) rfl)
theorem ao_riv : Cond.arrayOver (.object RX2) ∈ lw_tbl := List.mem_of_getElem? (i := 199) (by decide +kernel)
theorem ao_int : Cond.arrayOver (.array .int) ∈ lw_tbl := List.mem_of_getElem? (i := 87) (by decide +kernel)
theorem ao_cli : Cond.classLink RX3 9 "[[I" ∈ jm_tb := (jm_tb_in (List.mem_of_getElem? (i := 86) (by decide +kernel)) rfl)
theorem cd_X0_init : Cond.code YX0_init.1 YX0_init.2.1 YX0_init.2.2.1 YX0_init.2.2.2.1 ∈ jm_tb := (jm_tb_in (List.mem_of_getElem? (i := 129) (by decide +kernel)) rfl)
theorem im_X0_init : Cond.instanceMethod YX0_init.1 ∈ jm_tb := (jm_tb_in (List.mem_of_getElem? (i := 128) (by decide +kernel)) rfl)
theorem in_X0 : Cond.instantiable RX0 6 ∈ jm_tb := (jm_tb_in (List.mem_of_getElem? (i := 126) (by decide +kernel)) rfl)
theorem cd_X2_init : Cond.code YX2_init.1 YX2_init.2.1 YX2_init.2.2.1 YX2_init.2.2.2.1 ∈ jm_tb := (jm_tb_in (List.mem_of_getElem? (i := 155) (by decide +kernel)) rfl)
theorem im_X2_init : Cond.instanceMethod YX2_init.1 ∈ jm_tb := (jm_tb_in (List.mem_of_getElem? (i := 154) (by decide +kernel)) rfl)
theorem in_X2 : Cond.instantiable RX2 8 ∈ jm_tb := (jm_tb_in (List.mem_of_getElem? (i := 152) (by decide +kernel)) rfl)
theorem cd_X3_init : Cond.code YX3_init.1 YX3_init.2.1 YX3_init.2.2.1 YX3_init.2.2.2.1 ∈ jm_tb := (jm_tb_in (List.mem_of_getElem? (i := 84) (by decide +kernel)) rfl)
theorem im_X3_init : Cond.instanceMethod YX3_init.1 ∈ jm_tb := (jm_tb_in (List.mem_of_getElem? (i := 83) (by decide +kernel)) rfl)
theorem in_X3 : Cond.instantiable RX3 3 ∈ jm_tb := (jm_tb_in (List.mem_of_getElem? (i := 81) (by decide +kernel)) rfl)
theorem cd_X4_init : Cond.code YX4_init.1 YX4_init.2.1 YX4_init.2.2.1 YX4_init.2.2.2.1 ∈ jm_tb := (jm_tb_in (List.mem_of_getElem? (i := 107) (by decide +kernel)) rfl)
theorem im_X4_init : Cond.instanceMethod YX4_init.1 ∈ jm_tb := (jm_tb_in (List.mem_of_getElem? (i := 106) (by decide +kernel)) rfl)
theorem in_X4 : Cond.instantiable RX4 4 ∈ jm_tb := (jm_tb_in (List.mem_of_getElem? (i := 104) (by decide +kernel)) rfl)
theorem cd_X5_init : Cond.code YX5_init.1 YX5_init.2.1 YX5_init.2.2.1 YX5_init.2.2.2.1 ∈ jm_tb := (jm_tb_in (List.mem_of_getElem? (i := 76) (by decide +kernel)) rfl)
theorem im_X5_init : Cond.instanceMethod YX5_init.1 ∈ jm_tb := (jm_tb_in (List.mem_of_getElem? (i := 75) (by decide +kernel)) rfl)
theorem in_X5 : Cond.instantiable RX5 10 ∈ jm_tb := (jm_tb_in (List.mem_of_getElem? (i := 73) (by decide +kernel)) rfl)
theorem cd_X6_init : Cond.code YX6_init.1 YX6_init.2.1 YX6_init.2.2.1 YX6_init.2.2.2.1 ∈ jm_tb := (jm_tb_in (List.mem_of_getElem? (i := 718) (by decide +kernel)) rfl)
theorem im_X6_init : Cond.instanceMethod YX6_init.1 ∈ jm_tb := (jm_tb_in (List.mem_of_getElem? (i := 717) (by decide +kernel)) rfl)
theorem in_X6 : Cond.instantiable RX6 22 ∈ jm_tb := (jm_tb_in (List.mem_of_getElem? (i := 715) (by decide +kernel)) rfl)
theorem li_RL_9 : Cond.methodLink RL 9 YX5_init.1 ∈ jm_tb := (jm_tb_in (List.mem_of_getElem? (i := 74) (by decide +kernel)) rfl)
theorem oi_RX5 : Cond.methodLink RX5 1 objectInit ∈ jm_tb := (jm_tb_in (List.mem_of_getElem? (i := 77) (by decide +kernel)) rfl)
theorem li_RX5_9 : Cond.methodLink RX5 9 YX3_init.1 ∈ jm_tb := (jm_tb_in (List.mem_of_getElem? (i := 82) (by decide +kernel)) rfl)
theorem oi_RX3 : Cond.methodLink RX3 1 objectInit ∈ jm_tb := (jm_tb_in (List.mem_of_getElem? (i := 85) (by decide +kernel)) rfl)
theorem li_RX5_18 : Cond.methodLink RX5 18 YX4_init.1 ∈ jm_tb := (jm_tb_in (List.mem_of_getElem? (i := 105) (by decide +kernel)) rfl)
theorem oi_RX4 : Cond.methodLink RX4 1 objectInit ∈ jm_tb := (jm_tb_in (List.mem_of_getElem? (i := 108) (by decide +kernel)) rfl)
theorem li_RX5_25 : Cond.methodLink RX5 25 YX0_init.1 ∈ jm_tb := (jm_tb_in (List.mem_of_getElem? (i := 127) (by decide +kernel)) rfl)
theorem oi_RX0 : Cond.methodLink RX0 1 objectInit ∈ jm_tb := (jm_tb_in (List.mem_of_getElem? (i := 130) (by decide +kernel)) rfl)
theorem li_RX5_32 : Cond.methodLink RX5 32 YX2_init.1 ∈ jm_tb := (jm_tb_in (List.mem_of_getElem? (i := 153) (by decide +kernel)) rfl)
theorem oi_RX2 : Cond.methodLink RX2 3 objectInit ∈ jm_tb := (jm_tb_in (List.mem_of_getElem? (i := 156) (by decide +kernel)) rfl)
theorem li_RL_12 : Cond.methodLink RL 12 YX6_init.1 ∈ jm_tb := (jm_tb_in (List.mem_of_getElem? (i := 716) (by decide +kernel)) rfl)
theorem oi_RX6 : Cond.methodLink RX6 1 objectInit ∈ jm_tb := (jm_tb_in (List.mem_of_getElem? (i := 719) (by decide +kernel)) rfl)
theorem cl_RL_7 : Cond.classLink RL 7 RX5 ∈ jm_tb := (jm_tb_in (List.mem_of_getElem? (i := 72) (by decide +kernel)) rfl)
theorem cl_RX5_7 : Cond.classLink RX5 7 RX3 ∈ jm_tb := (jm_tb_in (List.mem_of_getElem? (i := 80) (by decide +kernel)) rfl)
theorem cl_RX5_16 : Cond.classLink RX5 16 RX4 ∈ jm_tb := (jm_tb_in (List.mem_of_getElem? (i := 103) (by decide +kernel)) rfl)
theorem cl_RX5_23 : Cond.classLink RX5 23 RX0 ∈ jm_tb := (jm_tb_in (List.mem_of_getElem? (i := 125) (by decide +kernel)) rfl)
theorem cl_RX5_30 : Cond.classLink RX5 30 RX2 ∈ jm_tb := (jm_tb_in (List.mem_of_getElem? (i := 151) (by decide +kernel)) rfl)
theorem cl_RL_10 : Cond.classLink RL 10 RX6 ∈ jm_tb := (jm_tb_in (List.mem_of_getElem? (i := 714) (by decide +kernel)) rfl)
theorem fl_RX3_11 : Cond.fieldLink RX3 11 RX3 "items" "[[I" ∈ jm_tb := (jm_tb_in (List.mem_of_getElem? (i := 91) (by decide +kernel)) rfl)
theorem fl_RX5_216 : Cond.fieldLink RX5 216 RX3 "items" "[[I" ∈ jm_tb := (jm_tb_in (List.mem_of_getElem? (i := 92) (by decide +kernel)) rfl)
theorem fl_RX3_14 : Cond.fieldLink RX3 14 RX3 "lanes" "[I" ∈ jm_tb := (jm_tb_in (List.mem_of_getElem? (i := 93) (by decide +kernel)) rfl)
theorem fl_RX3_18 : Cond.fieldLink RX3 18 RX3 "lengths" "[I" ∈ jm_tb := (jm_tb_in (List.mem_of_getElem? (i := 94) (by decide +kernel)) rfl)
theorem fl_RX4_9 : Cond.fieldLink RX4 9 RX4 "bytes" "[I" ∈ jm_tb := (jm_tb_in (List.mem_of_getElem? (i := 109) (by decide +kernel)) rfl)
theorem fl_RX4_13 : Cond.fieldLink RX4 13 RX4 "length" "I" ∈ jm_tb := (jm_tb_in (List.mem_of_getElem? (i := 110) (by decide +kernel)) rfl)
theorem fl_RX5_285 : Cond.fieldLink RX5 285 RX4 "length" "I" ∈ jm_tb := (jm_tb_in (List.mem_of_getElem? (i := 111) (by decide +kernel)) rfl)
theorem fl_RX4_17 : Cond.fieldLink RX4 17 RX4 "at" "I" ∈ jm_tb := (jm_tb_in (List.mem_of_getElem? (i := 112) (by decide +kernel)) rfl)
theorem fl_RX5_117 : Cond.fieldLink RX5 117 RX4 "at" "I" ∈ jm_tb := (jm_tb_in (List.mem_of_getElem? (i := 113) (by decide +kernel)) rfl)
theorem fl_RX4_20 : Cond.fieldLink RX4 20 RX4 "latestFault" "I" ∈ jm_tb := (jm_tb_in (List.mem_of_getElem? (i := 114) (by decide +kernel)) rfl)
theorem fl_RX5_130 : Cond.fieldLink RX5 130 RX4 "latestFault" "I" ∈ jm_tb := (jm_tb_in (List.mem_of_getElem? (i := 115) (by decide +kernel)) rfl)
theorem fl_RX0_9 : Cond.fieldLink RX0 9 RX0 "trail" "[I" ∈ jm_tb := (jm_tb_in (List.mem_of_getElem? (i := 131) (by decide +kernel)) rfl)
theorem fl_RX5_276 : Cond.fieldLink RX5 276 RX0 "trail" "[I" ∈ jm_tb := (jm_tb_in (List.mem_of_getElem? (i := 132) (by decide +kernel)) rfl)
theorem fl_RX0_13 : Cond.fieldLink RX0 13 RX0 "length" "I" ∈ jm_tb := (jm_tb_in (List.mem_of_getElem? (i := 133) (by decide +kernel)) rfl)
theorem fl_RX0_17 : Cond.fieldLink RX0 17 RX0 "word" "I" ∈ jm_tb := (jm_tb_in (List.mem_of_getElem? (i := 134) (by decide +kernel)) rfl)
theorem fl_RX0_22 : Cond.fieldLink RX0 22 RX0 "kind" "I" ∈ jm_tb := (jm_tb_in (List.mem_of_getElem? (i := 135) (by decide +kernel)) rfl)
theorem fl_RX0_25 : Cond.fieldLink RX0 25 RX0 "size" "I" ∈ jm_tb := (jm_tb_in (List.mem_of_getElem? (i := 136) (by decide +kernel)) rfl)
theorem fl_RX0_28 : Cond.fieldLink RX0 28 RX0 "cell" "I" ∈ jm_tb := (jm_tb_in (List.mem_of_getElem? (i := 137) (by decide +kernel)) rfl)
theorem fl_RX2_9 : Cond.fieldLink RX2 9 RX2 "cells" "I" ∈ jm_tb := (jm_tb_in (List.mem_of_getElem? (i := 157) (by decide +kernel)) rfl)
theorem fl_RX5_127 : Cond.fieldLink RX5 127 RX2 "cells" "I" ∈ jm_tb := (jm_tb_in (List.mem_of_getElem? (i := 158) (by decide +kernel)) rfl)
theorem fl_RX4_65 : Cond.fieldLink RX4 65 RX2 "cells" "I" ∈ jm_tb := (jm_tb_in (List.mem_of_getElem? (i := 159) (by decide +kernel)) rfl)
theorem fl_RX2_15 : Cond.fieldLink RX2 15 RX2 "words" "I" ∈ jm_tb := (jm_tb_in (List.mem_of_getElem? (i := 160) (by decide +kernel)) rfl)
theorem fl_RX4_80 : Cond.fieldLink RX4 80 RX2 "words" "I" ∈ jm_tb := (jm_tb_in (List.mem_of_getElem? (i := 161) (by decide +kernel)) rfl)
theorem fl_RX5_204 : Cond.fieldLink RX5 204 RX2 "words" "I" ∈ jm_tb := (jm_tb_in (List.mem_of_getElem? (i := 162) (by decide +kernel)) rfl)
theorem fl_RX2_18 : Cond.fieldLink RX2 18 RX2 "edge" "I" ∈ jm_tb := (jm_tb_in (List.mem_of_getElem? (i := 163) (by decide +kernel)) rfl)
theorem fl_RX4_49 : Cond.fieldLink RX4 49 RX2 "edge" "I" ∈ jm_tb := (jm_tb_in (List.mem_of_getElem? (i := 164) (by decide +kernel)) rfl)
theorem fl_RX5_282 : Cond.fieldLink RX5 282 RX2 "edge" "I" ∈ jm_tb := (jm_tb_in (List.mem_of_getElem? (i := 165) (by decide +kernel)) rfl)
theorem fl_RX2_21 : Cond.fieldLink RX2 21 RX2 "rainBits" "I" ∈ jm_tb := (jm_tb_in (List.mem_of_getElem? (i := 166) (by decide +kernel)) rfl)
theorem fl_RX4_46 : Cond.fieldLink RX4 46 RX2 "rainBits" "I" ∈ jm_tb := (jm_tb_in (List.mem_of_getElem? (i := 167) (by decide +kernel)) rfl)
theorem fl_RX5_170 : Cond.fieldLink RX5 170 RX2 "rainBits" "I" ∈ jm_tb := (jm_tb_in (List.mem_of_getElem? (i := 168) (by decide +kernel)) rfl)
theorem fl_RX2_24 : Cond.fieldLink RX2 24 RX2 "minute" "I" ∈ jm_tb := (jm_tb_in (List.mem_of_getElem? (i := 169) (by decide +kernel)) rfl)
theorem fl_RX5_137 : Cond.fieldLink RX5 137 RX2 "minute" "I" ∈ jm_tb := (jm_tb_in (List.mem_of_getElem? (i := 170) (by decide +kernel)) rfl)
theorem fl_RX2_27 : Cond.fieldLink RX2 27 RX2 "speeds" "[I" ∈ jm_tb := (jm_tb_in (List.mem_of_getElem? (i := 171) (by decide +kernel)) rfl)
theorem fl_RX4_62 : Cond.fieldLink RX4 62 RX2 "speeds" "[I" ∈ jm_tb := (jm_tb_in (List.mem_of_getElem? (i := 172) (by decide +kernel)) rfl)
theorem fl_RX5_167 : Cond.fieldLink RX5 167 RX2 "speeds" "[I" ∈ jm_tb := (jm_tb_in (List.mem_of_getElem? (i := 173) (by decide +kernel)) rfl)
theorem fl_RX2_31 : Cond.fieldLink RX2 31 RX2 "kinds" "[I" ∈ jm_tb := (jm_tb_in (List.mem_of_getElem? (i := 174) (by decide +kernel)) rfl)
theorem fl_RX0_31 : Cond.fieldLink RX0 31 RX2 "kinds" "[I" ∈ jm_tb := (jm_tb_in (List.mem_of_getElem? (i := 175) (by decide +kernel)) rfl)
theorem fl_RX4_77 : Cond.fieldLink RX4 77 RX2 "kinds" "[I" ∈ jm_tb := (jm_tb_in (List.mem_of_getElem? (i := 176) (by decide +kernel)) rfl)
theorem fl_RX5_255 : Cond.fieldLink RX5 255 RX2 "kinds" "[I" ∈ jm_tb := (jm_tb_in (List.mem_of_getElem? (i := 177) (by decide +kernel)) rfl)
theorem fl_RX2_34 : Cond.fieldLink RX2 34 RX2 "said" "[I" ∈ jm_tb := (jm_tb_in (List.mem_of_getElem? (i := 178) (by decide +kernel)) rfl)
theorem fl_RX0_36 : Cond.fieldLink RX0 36 RX2 "said" "[I" ∈ jm_tb := (jm_tb_in (List.mem_of_getElem? (i := 179) (by decide +kernel)) rfl)
theorem fl_RX5_159 : Cond.fieldLink RX5 159 RX2 "said" "[I" ∈ jm_tb := (jm_tb_in (List.mem_of_getElem? (i := 180) (by decide +kernel)) rfl)
theorem fl_RX4_83 : Cond.fieldLink RX4 83 RX2 "said" "[I" ∈ jm_tb := (jm_tb_in (List.mem_of_getElem? (i := 181) (by decide +kernel)) rfl)
theorem fl_RX5_10 : Cond.fieldLink RX5 10 RX5 "rows" "LWeirWords$Rows;" ∈ jm_tb := (jm_tb_in (List.mem_of_getElem? (i := 200) (by decide +kernel)) rfl)
theorem fl_RX5_19 : Cond.fieldLink RX5 19 RX5 "tape" "LWeirWords$Tape;" ∈ jm_tb := (jm_tb_in (List.mem_of_getElem? (i := 201) (by decide +kernel)) rfl)
theorem fl_RX5_26 : Cond.fieldLink RX5 26 RX5 "asks" "LWeirWords$Asks;" ∈ jm_tb := (jm_tb_in (List.mem_of_getElem? (i := 202) (by decide +kernel)) rfl)
theorem fl_RX5_33 : Cond.fieldLink RX5 33 RX5 "now" "LWeirWords$River;" ∈ jm_tb := (jm_tb_in (List.mem_of_getElem? (i := 203) (by decide +kernel)) rfl)
theorem fl_RX5_37 : Cond.fieldLink RX5 37 RX5 "trial" "LWeirWords$River;" ∈ jm_tb := (jm_tb_in (List.mem_of_getElem? (i := 204) (by decide +kernel)) rfl)
theorem fl_RX5_40 : Cond.fieldLink RX5 40 RX5 "before" "[LWeirWords$River;" ∈ jm_tb := (jm_tb_in (List.mem_of_getElem? (i := 205) (by decide +kernel)) rfl)
theorem fl_RX5_44 : Cond.fieldLink RX5 44 RX5 "images" "[LWeirWords$River;" ∈ jm_tb := (jm_tb_in (List.mem_of_getElem? (i := 206) (by decide +kernel)) rfl)
theorem fl_RX5_47 : Cond.fieldLink RX5 47 RX5 "nextAct" "I" ∈ jm_tb := (jm_tb_in (List.mem_of_getElem? (i := 207) (by decide +kernel)) rfl)
theorem fl_RX5_51 : Cond.fieldLink RX5 51 RX5 "actsKept" "I" ∈ jm_tb := (jm_tb_in (List.mem_of_getElem? (i := 208) (by decide +kernel)) rfl)
theorem fl_RX5_54 : Cond.fieldLink RX5 54 RX5 "lastFinding" "I" ∈ jm_tb := (jm_tb_in (List.mem_of_getElem? (i := 209) (by decide +kernel)) rfl)
theorem fl_RX6_7 : Cond.fieldLink RX6 7 RX6 "lane" "[I" ∈ jm_tb := (jm_tb_in (List.mem_of_getElem? (i := 721) (by decide +kernel)) rfl)
theorem fl_RX6_13 : Cond.fieldLink RX6 13 RX6 "many" "[I" ∈ jm_tb := (jm_tb_in (List.mem_of_getElem? (i := 722) (by decide +kernel)) rfl)
theorem fl_RX6_16 : Cond.fieldLink RX6 16 RX6 "items" "[I" ∈ jm_tb := (jm_tb_in (List.mem_of_getElem? (i := 723) (by decide +kernel)) rfl)
theorem fl_RX6_19 : Cond.fieldLink RX6 19 RX6 "spare" "[I" ∈ jm_tb := (jm_tb_in (List.mem_of_getElem? (i := 724) (by decide +kernel)) rfl)
theorem fl_RX6_48 : Cond.fieldLink RX6 48 RX6 "status" "I" ∈ jm_tb := (jm_tb_in (List.mem_of_getElem? (i := 725) (by decide +kernel)) rfl)
theorem fl_RX6_22 : Cond.fieldLink RX6 22 RX6 "tape" "[I" ∈ jm_tb := (jm_tb_in (List.mem_of_getElem? (i := 726) (by decide +kernel)) rfl)
theorem fl_RX6_79 : Cond.fieldLink RX6 79 RX6 "taped" "I" ∈ jm_tb := (jm_tb_in (List.mem_of_getElem? (i := 727) (by decide +kernel)) rfl)
theorem fl_RX6_105 : Cond.fieldLink RX6 105 RX6 "faultKind" "I" ∈ jm_tb := (jm_tb_in (List.mem_of_getElem? (i := 728) (by decide +kernel)) rfl)
theorem fl_RX6_98 : Cond.fieldLink RX6 98 RX6 "faultPlace" "I" ∈ jm_tb := (jm_tb_in (List.mem_of_getElem? (i := 729) (by decide +kernel)) rfl)
theorem fl_RX6_83 : Cond.fieldLink RX6 83 RX6 "at" "I" ∈ jm_tb := (jm_tb_in (List.mem_of_getElem? (i := 730) (by decide +kernel)) rfl)
theorem fl_RX6_86 : Cond.fieldLink RX6 86 RX6 "start" "I" ∈ jm_tb := (jm_tb_in (List.mem_of_getElem? (i := 731) (by decide +kernel)) rfl)
theorem fl_RX6_95 : Cond.fieldLink RX6 95 RX6 "token" "I" ∈ jm_tb := (jm_tb_in (List.mem_of_getElem? (i := 732) (by decide +kernel)) rfl)
theorem fl_RX6_92 : Cond.fieldLink RX6 92 RX6 "value" "I" ∈ jm_tb := (jm_tb_in (List.mem_of_getElem? (i := 733) (by decide +kernel)) rfl)
theorem fl_RX6_25 : Cond.fieldLink RX6 25 RX6 "now" "[I" ∈ jm_tb := (jm_tb_in (List.mem_of_getElem? (i := 734) (by decide +kernel)) rfl)
theorem fl_RX6_28 : Cond.fieldLink RX6 28 RX6 "draft" "[I" ∈ jm_tb := (jm_tb_in (List.mem_of_getElem? (i := 735) (by decide +kernel)) rfl)
theorem fl_RX6_31 : Cond.fieldLink RX6 31 RX6 "tried" "[I" ∈ jm_tb := (jm_tb_in (List.mem_of_getElem? (i := 736) (by decide +kernel)) rfl)
theorem fl_RX6_34 : Cond.fieldLink RX6 34 RX6 "past" "[I" ∈ jm_tb := (jm_tb_in (List.mem_of_getElem? (i := 737) (by decide +kernel)) rfl)
theorem fl_RX6_139 : Cond.fieldLink RX6 139 RX6 "acts" "I" ∈ jm_tb := (jm_tb_in (List.mem_of_getElem? (i := 738) (by decide +kernel)) rfl)
theorem fl_RX6_37 : Cond.fieldLink RX6 37 RX6 "images" "[I" ∈ jm_tb := (jm_tb_in (List.mem_of_getElem? (i := 739) (by decide +kernel)) rfl)
theorem fl_RX6_40 : Cond.fieldLink RX6 40 RX6 "kept" "[Z" ∈ jm_tb := (jm_tb_in (List.mem_of_getElem? (i := 740) (by decide +kernel)) rfl)
theorem fl_RX6_44 : Cond.fieldLink RX6 44 RX6 "trace" "[I" ∈ jm_tb := (jm_tb_in (List.mem_of_getElem? (i := 741) (by decide +kernel)) rfl)
theorem fl_RX6_227 : Cond.fieldLink RX6 227 RX6 "traced" "I" ∈ jm_tb := (jm_tb_in (List.mem_of_getElem? (i := 742) (by decide +kernel)) rfl)
theorem jn_callB {Yc : jm_Y} {R : Room} {s : State} {args : Array Value} {own : String} {idx n mc ms : Nat} (hts : ∀ w ∈ jm_tb, w.before args s = true) (l1 : Cond.methodLink own idx Yc.1 ∈ jm_tb) (l2 : Cond.initialized Yc.1.cls ∈ jm_tb) (l3 : Cond.code Yc.1 Yc.2.1 Yc.2.2.1 Yc.2.2.2.1 ∈ jm_tb) (l5 : Yc.1.cls ≠ "java/lang/invoke/MethodHandle" ∧ Yc.1.cls ≠ "java/lang/invoke/VarHandle") (l6 : (parseMethodDescriptor Yc.1.desc).map (fun d => d.parameters.length) = some n) (hR : Yc.2.2.2.2.1 + 1 ≤ R.frames ∧ 8 + (Yc.2.2.1 + 11) + Yc.2.2.2.2.2 ≤ R.locals) : CallB R s args own idx Yc.1 Yc.2.1 Yc.2.2.1 Yc.2.2.2.1 (jm_wds Yc) { frames := Yc.2.2.2.2.1, cells := mc, slots := ms, locals := Yc.2.2.2.2.2 } mc ms n := by
  refine ⟨rfl, rfl, hR.1, hR.2, pay_in hts (fun w hw => ?_), List.mem_cons_self, hts _ l3, hts _ l2, l5, fun sig h => ?_, hts _ l1⟩
  · have hm : w ∈ jm_tb := (List.mem_cons.mp hw).elim (fun e => e ▸ l3) (fun h => h)
    exact ⟨hm, jm_tb_good hm⟩
  · rw [h] at l6
    exact (Option.some.inj l6).symm
/-- one class of int arrays -/
theorem jn_cls {D : va_G} {cl : List vw_C} {tys : List (ClassId × FieldType)} {U : State} (hK : va_K D cl tys U) (i j : Nat) {a b : ClassId} {ty : FieldType} (hi : tys[i]? = some (a, ty)) (hj : tys[j]? = some (b, ty)) (ht : ty = .int ∨ ty = .boolean) : b = a := by
  have h1 := (hK.2 i _ hi).2
  have h2 := (hK.2 j _ hj).2
  rcases ht with rfl | rfl
  · exact Option.some.inj (h2.symm.trans h1)
  · exact Option.some.inj (h2.symm.trans h1)
theorem jn_ac {s : State} {args : Array Value} {ty : FieldType} (ht : ty = .int ∨ ty = .boolean) (h : (Cond.arrayClass ty).before args s = true) : ∃ cA : ClassId, ArrOfT s cA ty ∧ va_RA s cA ty := by
  obtain ⟨cA, kA, comp, h1, h2, h3⟩ := Cond.arrayClass_spec h
  refine ⟨cA, fun n z => ⟨fun k h => (by cases h), kA, h2, comp, h3⟩, ?_⟩
  rcases ht with rfl | rfl
  · exact h1
  · exact h1
theorem jn_mem {ws : va_W} {P : Nat × va_E → Prop} : (∀ (k : Nat) (q : Nat × va_E), ws[k]? = some q → P q) ↔ ∀ q ∈ ws, P q := by
  constructor
  · intro h q hq
    obtain ⟨k, hk⟩ := List.getElem?_of_mem hq
    exact h k q hk
  · intro h k q hk
    exact h q (List.mem_of_getElem? hk)
theorem jn_Pp {D : va_G} {cl : List vw_C} {ws ws' : va_W} {H : Heap} (h : va_P D cl ws H) (hp : ws'.Perm ws) : va_P D cl ws' H := jn_mem.mpr (fun q hq => jn_mem.mp h q (hp.mem_iff.mp hq))
theorem jn_nd {A : Nat → Prop} {ws : va_W} : va_D A ws ↔ (ws.map Prod.fst).Nodup ∧ ∀ q ∈ ws, A q.1 := by
  constructor
  · intro h
    refine ⟨List.pairwise_iff_getElem.mpr (fun i j hi hj hij e => ?_), jn_mem.mp h.2⟩
    rw [List.getElem_map, List.getElem_map] at e
    rw [List.length_map] at hi hj
    have := h.1 i j ws[i] ws[j] (List.getElem?_eq_getElem hi) (List.getElem?_eq_getElem hj) e
    omega
  · intro h
    refine ⟨fun i j p q hi hj e => ?_, jn_mem.mpr h.2⟩
    have hn := List.pairwise_iff_getElem.mp h.1
    obtain ⟨li, ei⟩ := List.getElem?_eq_some_iff.mp hi
    obtain ⟨lj, ej⟩ := List.getElem?_eq_some_iff.mp hj
    have mi : i < (ws.map Prod.fst).length := by rw [List.length_map]; exact li
    have mj : j < (ws.map Prod.fst).length := by rw [List.length_map]; exact lj
    have e3 : (ws.map Prod.fst)[i] = (ws.map Prod.fst)[j] := by
      rw [List.getElem_map, List.getElem_map, ei, ej]
      exact e
    rcases Nat.lt_trichotomy i j with z | z | z
    · exact absurd e3 (hn i j mi mj z)
    · exact z
    · exact absurd e3.symm (hn j i mj mi z)
theorem jn_Dp {A : Nat → Prop} {ws ws' : va_W} (h : va_D A ws) (hp : ws'.Perm ws) : va_D A ws' := by
  rw [jn_nd] at h ⊢
  exact ⟨(hp.map Prod.fst).nodup_iff.mpr h.1, fun q hq => h.2 q (hp.mem_iff.mp hq)⟩
/-- behind a constructor's call: its object's world, and the rest -/
theorem jn_join {A0 : Nat → Prop} {D : va_G} {cl : List vw_C} {h : Nat} {e : va_E} {wr w1 : va_W} {H H1 : Heap} (hP : va_P D cl ((h, e) :: wr) H) (hD : va_D A0 ((h, e) :: wr)) (hk : ∀ q : Nat, q < H.size → ¬ va_A [(h, e)] H.size q → H1[q]? = H[q]?) (hF : ∀ q, va_A [(h, e)] H.size q → A0 q) (hP1 : va_P D cl w1 H1) (hD1 : va_D (va_A [(h, e)] H.size) w1) : va_P D cl (w1 ++ wr) H1 ∧ va_D A0 (w1 ++ wr) := by
  have hr : ∀ q ∈ wr, va_at D cl q H ∧ q.1 < H.size ∧ ¬ va_A [(h, e)] H.size q.1 := fun q hq => by
    have h1 := jn_mem.mp hP q (List.mem_cons_of_mem _ hq)
    have hl := va_at.lt h1
    refine ⟨h1, hl, fun z => ?_⟩
    rcases z with ⟨k, e2, z⟩ | z
    · have hz := List.mem_of_getElem? z
      have hz2 : (q.1, e2) = (h, e) := List.mem_singleton.mp hz
      have hq1 : q.1 = h := congrArg Prod.fst hz2
      have hn := (jn_nd.mp hD).1
      rw [List.map_cons, List.nodup_cons] at hn
      exact hn.1 (List.mem_map.mpr ⟨q, hq, hq1⟩)
    · omega
  have hDr := (jn_nd.mp hD)
  rw [List.map_cons, List.nodup_cons] at hDr
  have hD1' := jn_nd.mp hD1
  refine ⟨va_P.app hP1 (jn_mem.mpr (fun q hq => ?_)), jn_nd.mpr ⟨?_, fun q hq => ?_⟩⟩
  · obtain ⟨a, b, c⟩ := hr q hq
    exact a.kept (hk q.1 b c)
  · rw [List.map_append, List.nodup_append]
    refine ⟨hD1'.1, hDr.1.2, fun a ha b hb hab => ?_⟩
    obtain ⟨x, hx, rfl⟩ := List.mem_map.mp ha
    obtain ⟨y, hy, rfl⟩ := List.mem_map.mp hb
    exact (hr y hy).2.2 (by rw [← hab]; exact hD1'.2 x hx)
  · rcases List.mem_append.mp hq with z | z
    · exact hF q.1 (hD1'.2 q z)
    · exact hDr.2 q (List.mem_cons_of_mem _ z)
def va_AOA (t : FieldType) (U : State) : Prop := (Cond.arrayOver (.array t)).before #[] U = true
theorem va_AOA.use {t : FieldType} {A : Array Value} {U : State} (h : va_AOA t U) : (Cond.arrayOver (.array t)).before A U = true := h
theorem va_AOA.moved {t : FieldType} {u U : State} (hvm : u.vm.Alike U.vm) (h : va_AOA t u) : va_AOA t U := by
  obtain ⟨comp, c, k, h1, h2, h3, h4, h5⟩ := arrayOverA_spec h
  obtain ⟨k', hk', he⟩ := hvm.2.2 _ _ h3
  have hi : (U.vm.classes.findIdx? fun (x : Class) => match x.kind with | .array component _ => component == comp | _ => false) = some c := by
    have e1 := va_idx_bare U.vm comp
    have e2 := va_idx_bare u.vm comp
    rw [hvm.bare_eq] at e1
    exact e1.symm.trans (e2.trans h2)
  have hkind : k'.kind = .array comp (.array t) := by rw [he]; exact h4
  have f1 : U.vm.findClass (FieldType.array t).toString = some comp := by rw [hvm.findClass]; exact h1
  have f2 : U.vm.findClass ("[" ++ (FieldType.array t).toString) = some c := by rw [hvm.findClass]; exact h5
  unfold va_AOA Cond.before Cond.holds
  simp only [Cond.value]
  rw [f1, Option.bind_some]
  refine (congrArg (fun o : Option Nat => (o.bind (fun c => (U.vm.classes[c]?).map fun (k : Class) => match k.kind with | .array _ ty => decide (ty = FieldType.array t) && decide (U.vm.findClass ("[" ++ (FieldType.array t).toString) = some c) | _ => false) == some true)) hi).trans ?_
  simp [hk', hkind, f2]
/-! ===== BEGIN new T[n][m]: the outer array a place, the inner ones among the pooled ===== -/
/-- f, but v at every address of l -/
def vr_up {α : Type} (f : Nat → α) (l : List Nat) (v : α) : Nat → α := fun a => if a ∈ l then v else f a
theorem vr_up_in {α : Type} {f : Nat → α} {l : List Nat} {v : α} {a : Nat} (h : a ∈ l) : vr_up f l v a = v := if_pos h
theorem vr_up_ne {α : Type} {f : Nat → α} {l : List Nat} {v : α} {a : Nat} (h : a ∉ l) : vr_up f l v a = f a := if_neg h
theorem vr_rows {L l : List Nat} {f : Nat → va_E} {e : va_E} (h : ∀ a, a ∈ l → a ∉ L) : va_pl L f ++ l.map (fun a => (a, e)) = va_pl (L ++ l) (vr_up f l e) := by
  unfold va_pl
  rw [List.map_append]
  congr 1
  · apply List.map_congr_left
    intro a ha
    rw [vr_up_ne (fun q => h a q ha)]
  · apply List.map_congr_left
    intro a ha
    rw [vr_up_in ha]
theorem vr_lay {X rows : va_W} {x : Nat × va_E} {pl : va_W} {D : va_G} {cl : List vw_C} {H : Heap} (hP : va_P D cl (((X ++ pl) ++ [x]) ++ rows) H) : va_P D cl ((X ++ [x]) ++ (pl ++ rows)) H := by
  rw [List.append_assoc (X ++ pl)] at hP
  have h := va_P.swap hP
  rw [← List.append_assoc X] at h
  have h2 := va_P.swap h
  rw [List.append_assoc (X ++ [x])] at h2
  exact h2
theorem vr_layD {X rows : va_W} {x : Nat × va_E} {pl : va_W} {A : Nat → Prop} (hD : va_D A (((X ++ pl) ++ [x]) ++ rows)) : va_D A ((X ++ [x]) ++ (pl ++ rows)) := by
  rw [List.append_assoc (X ++ pl)] at hD
  have h := va_D.swap hD
  rw [← List.append_assoc X] at h
  have h2 := va_D.swap h
  rw [List.append_assoc (X ++ [x])] at h2
  exact h2
theorem vr_outer (c : ClassId) (N h0 : Nat) : ∀ i : Nat, Jvm.Free.Multi.outerC c N h0 i = arrV c N (fun j => va_rf (if j < i then some (h0 + 1 + j) else none))
  | 0 => by
    show ({ cls := c, slots := Array.replicate N .null, vm := .none } : Cell) = _
    rw [arrV_new]
    refine congrArg (arrV c N) (funext fun j => ?_)
    simp [va_rf]
  | i + 1 => by
    show (Jvm.Free.Multi.outerC c N h0 i).setSlot i (.ref (h0 + 1 + i)) = _
    rw [vr_outer c N h0 i, arrV_store]
    refine congrArg (arrV c N) (funext fun j => ?_)
    by_cases e : j = i
    · subst e
      simp [updV, va_rf]
    · by_cases h : j < i
      · simp [updV, e, h, Nat.lt_succ_of_lt h]
      · simp [updV, e, h, show ¬ j < i + 1 by omega]
section VGM
variable {p : Program} {l : Launch} {e : Env} {R : Room} {s : State} {m : MethodId} {args : Array Value} {below : List Frame} {meth : Method} {c : Code} {H : Heap} {locs : List Loc} {cells slots : Nat} {Q : State → Prop}
variable {cc : ByteArray} {pc : Nat} {ls : Array Slot} {rest : List Value} {D : va_G} {cl : List vw_C} {A : Nat → Prop} {a : Nat} {tys : List (ClassId × FieldType)} {ws : va_W} {H0 : Heap}
theorem va_mna {X : va_W} {L : List Nat} {f : Nat → va_E} {cc : ByteArray} (hexec : p.tables.exec = Jvm.exec) (hb : c.code = cc) {own : String} {index : Nat} {ty : FieldType} {cy : ClassId} (hown : s.vm.findClass own = some m.cls) (hclink : (Cond.classLink own index ("[" ++ (FieldType.array ty).toString)).before args s = true) (hover : va_AOA ty s) (harr : (Cond.arrayClass ty).before args s = true) (hcy : s.vm.findClass (FieldType.array ty).toString = some cy)
    (hK : va_K D cl tys s) (hP : va_P D cl (X ++ va_pl L f) H) (hD : va_D A (X ++ va_pl L f)) (hS : va_S A H0 H locs) (hA : ∀ q, H0.size ≤ q → A q) {n k : Int32} {N' K' : Nat} {z : vp_A} (hn : ¬ n < 0) (hk : ¬ k < 0) (hN : n.toNatClampNeg = N') (hM : k.toNatClampNeg = K')
    (hb1 : N' * 4 ≤ 536870912) (hb2 : K' * componentBytes ty ≤ 536870912) (hb3 : K' ≤ 536870912) (hdf : fits ty (defaultValue ty) = true) (hdd : (defaultValue ty).isDefault = true) (hcells : cells + (1 + N') ≤ R.cells) (hslots : slots + (N' + N' * K') ≤ R.slots) (hz : ∀ c : ClassId, Jvm.Free.Multi.innerC c K' (defaultValue ty) = vp_cell c z) (hdg : decode cc pc = .ok (.multianewarray index 2, 4))
    (kk : ∀ (q : Nat) (r : Nat → Nat) (cA : ClassId) (H1 : Heap), (∀ i j : Nat, i < N' → j < N' → r i = r j → i = j) → (∀ i : Nat, i < N' → r i ∉ L) → va_K D cl (tys ++ [(cA, .array ty)]) s →
      va_P D cl ((X ++ [(q, .inl (cA, N', .inr (.inr (.inr (.inr (fun i => if i < N' then some (r i) else none))))))]) ++ va_pl (L ++ (List.range N').map r) (vr_up f ((List.range N').map r) (.inl (cy, z)))) H1 → va_D A ((X ++ [(q, .inl (cA, N', .inr (.inr (.inr (.inr (fun i => if i < N' then some (r i) else none))))))]) ++ va_pl (L ++ (List.range N').map r) (vr_up f ((List.range N').map r) (.inl (cy, z)))) → va_S A H0 H1 locs →
      W p l e R s m args below meth c H1 locs (cells + 1 + N') (slots + N' + N' * K') Q (F0 m (pc + 4) ls (.ref q :: rest))) : W p l e R s m args below meth c H locs cells slots Q (F0 m pc ls (.int k :: .int n :: rest)) := by
  subst hN
  subst hM
  intro T hT Xs
  obtain ⟨vm₁, cA, comp, -, fA, fC, hO, -, X', step⟩ := Xs.multianewarray2F hexec hown hclink (va_AOA.use hover) harr (g := F0 m pc ls (.int k :: .int n :: rest)) rfl (by rw [hb]; exact hdg) rfl hn hk hb1 hb2 hb3 hdf hdd hcells hslots
  have ec : some cy = some comp := hcy.symm.trans fC
  cases ec
  generalize hF : Jvm.Free.Multi.fill (T.setVm vm₁) cA cy n.toNatClampNeg k.toNatClampNeg (defaultValue ty) n.toNatClampNeg = F at X' step
  have hTh : (T.setVm vm₁).heap = H := hT
  obtain ⟨f1, f2, -, -⟩ := Jvm.Free.Multi.fill_facts (T.setVm vm₁) cA cy n.toNatClampNeg k.toNatClampNeg (defaultValue ty) n.toNatClampNeg
  rw [hF, hTh] at f1 f2
  have hold : ∀ x : Nat, x < H.size → F.heap[x]? = H[x]? := fun x hx => by
    have := Jvm.Free.Multi.fill_old (T.setVm vm₁) cA cy n.toNatClampNeg k.toNatClampNeg (defaultValue ty) (a := x) (by rw [hTh]; exact hx) n.toNatClampNeg
    rw [hF, hTh] at this
    exact this
  have hrow : ∀ j : Nat, j < n.toNatClampNeg → F.heap[H.size + 1 + j]? = some (vp_cell cy z) := fun j hj => by
    have := Jvm.Free.Multi.fill_inner (T.setVm vm₁) cA cy n.toNatClampNeg k.toNatClampNeg (defaultValue ty) n.toNatClampNeg j hj
    rw [hF, hTh, hz] at this
    exact this
  have hout : Jvm.Free.Multi.outerC cA n.toNatClampNeg H.size n.toNatClampNeg = vp_cell cA (n.toNatClampNeg, .inr (.inr (.inr (.inr (fun i => if i < n.toNatClampNeg then some (H.size + 1 + i) else none))))) := by
    rw [vp_cell_q]
    exact vr_outer cA n.toNatClampNeg H.size n.toNatClampNeg
  rw [hout] at f2
  have hlt : ∀ a, a ∈ L → a < H.size := fun a ha => by
    obtain ⟨k9, hk9⟩ := va_pl_get (X := X) (f := f) ha
    exact (hP k9 _ hk9).lt
  have hnl : ∀ i : Nat, i < n.toNatClampNeg → H.size + 1 + i ∉ L := fun i _ h => by
    have := hlt _ h
    omega
  have hnm : ∀ a, a ∈ (List.range n.toNatClampNeg).map (fun i => H.size + 1 + i) → a ∉ L := fun a ha h => by
    obtain ⟨i, -, rfl⟩ := List.mem_map.mp ha
    have := hlt _ h
    omega
  have hP0 : va_P D cl (X ++ va_pl L f) F.heap := hP.kept (fun k9 x hx => hold x.1 ((hP k9 x hx).lt))
  have hP1 : va_P D cl ((X ++ va_pl L f) ++ [(H.size, .inl (cA, n.toNatClampNeg, .inr (.inr (.inr (.inr (fun i => if i < n.toNatClampNeg then some (H.size + 1 + i) else none))))))]) F.heap := hP0.app (fun k9 x hx => by
    have h0 : k9 < 1 := (List.getElem?_eq_some_iff.mp hx).1
    rw [show k9 = 0 by omega] at hx
    cases hx
    exact f2)
  have hP2 : va_P D cl (((X ++ va_pl L f) ++ [(H.size, .inl (cA, n.toNatClampNeg, .inr (.inr (.inr (.inr (fun i => if i < n.toNatClampNeg then some (H.size + 1 + i) else none))))))]) ++ ((List.range n.toNatClampNeg).map (fun i => H.size + 1 + i)).map (fun a => (a, .inl (cy, z)))) F.heap := hP1.app (fun k9 x hx => by
    obtain ⟨a, ha, rfl⟩ := List.mem_map.mp (List.mem_of_getElem? hx)
    obtain ⟨i, hi, rfl⟩ := List.mem_map.mp ha
    exact hrow i (List.mem_range.mp hi))
  have hD2 : va_D A (((X ++ va_pl L f) ++ [(H.size, .inl (cA, n.toNatClampNeg, .inr (.inr (.inr (.inr (fun i => if i < n.toNatClampNeg then some (H.size + 1 + i) else none))))))]) ++ ((List.range n.toNatClampNeg).map (fun i => H.size + 1 + i)).map (fun a => (a, .inl (cy, z)))) := by
    have hD1 := hD.push (e := .inl (cA, n.toNatClampNeg, .inr (.inr (.inr (.inr (fun i => if i < n.toNatClampNeg then some (H.size + 1 + i) else none)))))) hP rfl (hA _ hS.1)
    generalize hW1 : (X ++ va_pl L f) ++ [(H.size, .inl (cA, n.toNatClampNeg, .inr (.inr (.inr (.inr (fun i => if i < n.toNatClampNeg then some (H.size + 1 + i) else none))))))] = W1 at hD1 hP1 ⊢
    have hle : ∀ (k9 : Nat) (x : Nat × va_E), W1[k9]? = some x → x.1 ≤ H.size := fun k9 x hx => by
      rw [← hW1] at hx
      by_cases hl : k9 < (X ++ va_pl L f).length
      · rw [List.getElem?_append_left hl] at hx
        exact Nat.le_of_lt ((hP k9 x hx).lt)
      · rw [List.getElem?_append_right (by omega)] at hx
        have h0 : k9 - (X ++ va_pl L f).length < 1 := (List.getElem?_eq_some_iff.mp hx).1
        rw [show k9 - (X ++ va_pl L f).length = 0 by omega] at hx
        cases hx
        exact Nat.le_refl _
    have hr : ∀ (k9 : Nat) (x : Nat × va_E), (((List.range n.toNatClampNeg).map (fun i => H.size + 1 + i)).map (fun a => ((a, .inl (cy, z)) : Nat × va_E)))[k9]? = some x → x.1 = H.size + 1 + k9 := fun k9 x hx => by
      rw [List.getElem?_map, List.getElem?_map] at hx
      by_cases h9 : k9 < n.toNatClampNeg
      · rw [List.getElem?_range h9] at hx
        cases hx
        rfl
      · have hn0 : (List.range n.toNatClampNeg)[k9]? = none := List.getElem?_eq_none (by rw [List.length_range]; omega)
        rw [hn0] at hx
        cases hx
    refine ⟨fun i j x y hi hj hxy => ?_, fun k9 x hx => ?_⟩
    · by_cases h1 : i < W1.length <;> by_cases h2 : j < W1.length
      · rw [List.getElem?_append_left h1] at hi
        rw [List.getElem?_append_left h2] at hj
        exact hD1.1 i j x y hi hj hxy
      · rw [List.getElem?_append_left h1] at hi
        rw [List.getElem?_append_right (by omega)] at hj
        have := hle _ _ hi
        have := hr _ _ hj
        omega
      · rw [List.getElem?_append_right (by omega)] at hi
        rw [List.getElem?_append_left h2] at hj
        have := hle _ _ hj
        have := hr _ _ hi
        omega
      · rw [List.getElem?_append_right (by omega)] at hi hj
        have := hr _ _ hi
        have := hr _ _ hj
        omega
    · by_cases h1 : k9 < W1.length
      · rw [List.getElem?_append_left h1] at hx
        exact hD1.2 k9 x hx
      · rw [List.getElem?_append_right (by omega)] at hx
        have := hr _ _ hx
        exact hA _ (by have := hS.1; omega)
  have hAr : ArrOfT s cA (.array ty) := fun N9 z9 => by
    obtain ⟨-, k9, hk9, cm9, hkk9⟩ := (hO 0 0 0).1
    exact ⟨(fun q hq => by cases hq), k9, hk9, cm9, hkk9⟩
  have hK2 : va_K D cl (tys ++ [(cA, .array ty)]) s := ⟨hK.1, fun k9 x hx => by
    by_cases hl : k9 < tys.length
    · rw [List.getElem?_append_left hl] at hx
      exact hK.2 k9 x hx
    · rw [List.getElem?_append_right (by omega)] at hx
      have h0 : k9 - tys.length < 1 := (List.getElem?_eq_some_iff.mp hx).1
      rw [show k9 - tys.length = 0 by omega] at hx
      cases hx
      exact ⟨hAr, fA⟩⟩
  obtain ⟨t, a1, b1⟩ := kk H.size (fun i => H.size + 1 + i) cA F.heap (fun i j _ _ h => by have h9 : H.size + 1 + i = H.size + 1 + j := h; omega) hnl hK2 (by rw [← vr_rows hnm]; exact vr_lay hP2) (by rw [← vr_rows hnm]; exact vr_layD hD2) ⟨by rw [f1]; have := hS.1; omega, fun x h1 h2 => (hold x (Nat.lt_of_lt_of_le h1 hS.1)).trans (hS.2.1 x h1 h2), hS.2.2⟩ F rfl X'
  refine ⟨t, step t ?_, b1⟩
  have e : T.heap.size = H.size := by rw [hT]
  rw [e]
  exact a1
end VGM
