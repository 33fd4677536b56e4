theorem wm_0 : (Cond.initialized RL : Cond) ∈ lw_g := List.mem_filter.mpr ⟨List.mem_of_getElem? (i := 67) (by decide +kernel), rfl⟩
theorem wm_1 : (Cond.initialized RX8 : Cond) ∈ lw_g := List.mem_filter.mpr ⟨List.mem_of_getElem? (i := 68) (by decide +kernel), rfl⟩
theorem wm_2 : (Cond.initialized RX1 : Cond) ∈ lw_g := List.mem_filter.mpr ⟨List.mem_of_getElem? (i := 69) (by decide +kernel), rfl⟩
theorem wm_3 : (Cond.initialized RX5 : Cond) ∈ lw_g := List.mem_filter.mpr ⟨List.mem_of_getElem? (i := 70) (by decide +kernel), rfl⟩
theorem wm_4 : (Cond.initialized RX4 : Cond) ∈ lw_g := List.mem_filter.mpr ⟨List.mem_of_getElem? (i := 71) (by decide +kernel), rfl⟩
theorem wm_5 : (Cond.initialized RX2 : Cond) ∈ lw_g := List.mem_filter.mpr ⟨List.mem_of_getElem? (i := 72) (by decide +kernel), rfl⟩
theorem wm_6 : (Cond.initialized RX7 : Cond) ∈ lw_g := List.mem_filter.mpr ⟨List.mem_of_getElem? (i := 73) (by decide +kernel), rfl⟩
theorem wm_7 : (Cond.initialized RJ9 : Cond) ∈ lw_g := List.mem_filter.mpr ⟨List.mem_of_getElem? (i := 74) (by decide +kernel), rfl⟩
theorem wm_8 : (Cond.initialized RX0 : Cond) ∈ lw_g := List.mem_filter.mpr ⟨List.mem_of_getElem? (i := 75) (by decide +kernel), rfl⟩
theorem wm_9 : (Cond.initialized RX3 : Cond) ∈ lw_g := List.mem_filter.mpr ⟨List.mem_of_getElem? (i := 76) (by decide +kernel), rfl⟩
theorem wm_10 : (Cond.initialized RX6 : Cond) ∈ lw_g := List.mem_filter.mpr ⟨List.mem_of_getElem? (i := 77) (by decide +kernel), rfl⟩
theorem wm_11 : (Cond.initialized RX9 : Cond) ∈ lw_g := List.mem_filter.mpr ⟨List.mem_of_getElem? (i := 78) (by decide +kernel), rfl⟩
theorem wm_12 : (Cond.initialized RJ0 : Cond) ∈ lw_g := List.mem_filter.mpr ⟨List.mem_of_getElem? (i := 79) (by decide +kernel), rfl⟩
theorem wm_13 : (Cond.initialized RJ1 : Cond) ∈ lw_g := List.mem_filter.mpr ⟨List.mem_of_getElem? (i := 80) (by decide +kernel), rfl⟩
theorem wm_14 : (Cond.initialized RJ3 : Cond) ∈ lw_g := List.mem_filter.mpr ⟨List.mem_of_getElem? (i := 81) (by decide +kernel), rfl⟩
theorem wm_15 : (Cond.initialized RJ2 : Cond) ∈ lw_g := List.mem_filter.mpr ⟨List.mem_of_getElem? (i := 82) (by decide +kernel), rfl⟩
theorem wm_16 : (Cond.initialized RJ10 : Cond) ∈ lw_g := List.mem_filter.mpr ⟨List.mem_of_getElem? (i := 83) (by decide +kernel), rfl⟩
theorem wm_17 : (Cond.classLink RL 7 RX8 : Cond) ∈ lw_g := List.mem_filter.mpr ⟨List.mem_of_getElem? (i := 84) (by decide +kernel), rfl⟩
theorem wm_18 : (Cond.instantiable RX8 8 : Cond) ∈ lw_g := List.mem_filter.mpr ⟨List.mem_of_getElem? (i := 85) (by decide +kernel), rfl⟩
theorem wm_19 : (Cond.methodLink RL 9 yX8_init : Cond) ∈ lw_g := List.mem_filter.mpr ⟨List.mem_of_getElem? (i := 86) (by decide +kernel), rfl⟩
theorem wm_20 : (Cond.instanceMethod yX8_init : Cond) ∈ lw_g := List.mem_filter.mpr ⟨List.mem_of_getElem? (i := 87) (by decide +kernel), rfl⟩
set_option maxRecDepth 100000 in
theorem wm_21 : (Cond.code yX8_init cX8_init 1 none : Cond) ∈ lw_g := List.mem_filter.mpr ⟨List.mem_of_getElem? (i := 88) rfl, rfl⟩
theorem wm_22 : (Cond.methodLink RX8 3 Lib.objectInit : Cond) ∈ lw_g := List.mem_filter.mpr ⟨List.mem_of_getElem? (i := 89) (by decide +kernel), rfl⟩
theorem wm_23 : (Cond.instanceMethod Lib.objectInit : Cond) ∈ lw_g := List.mem_filter.mpr ⟨List.mem_of_getElem? (i := 90) (by decide +kernel), rfl⟩
set_option maxRecDepth 100000 in
theorem wm_24 : (Cond.code Lib.objectInit object_method_1_code 1 none : Cond) ∈ lw_g := List.mem_filter.mpr ⟨List.mem_of_getElem? (i := 91) rfl, rfl⟩
theorem wm_25 : (Cond.classLink RX8 9 RX1 : Cond) ∈ lw_g := List.mem_filter.mpr ⟨List.mem_of_getElem? (i := 92) (by decide +kernel), rfl⟩
theorem wm_26 : (Cond.instantiable RX1 8 : Cond) ∈ lw_g := List.mem_filter.mpr ⟨List.mem_of_getElem? (i := 93) (by decide +kernel), rfl⟩
theorem wm_27 : (Cond.methodLinkNest RX8 11 yX1_init RX8 : Cond) ∈ lw_tbl := List.mem_of_getElem? (i := 94) (by decide +kernel)
theorem wm_28 : (Cond.instanceMethod yX1_init : Cond) ∈ lw_g := List.mem_filter.mpr ⟨List.mem_of_getElem? (i := 95) (by decide +kernel), rfl⟩
set_option maxRecDepth 100000 in
theorem wm_29 : (Cond.code yX1_init cX1_init 1 none : Cond) ∈ lw_g := List.mem_filter.mpr ⟨List.mem_of_getElem? (i := 96) rfl, rfl⟩
theorem wm_30 : (Cond.methodLink RX1 3 Lib.objectInit : Cond) ∈ lw_g := List.mem_filter.mpr ⟨List.mem_of_getElem? (i := 97) (by decide +kernel), rfl⟩
theorem wm_31 : (Cond.classLink RX1 9 RX5 : Cond) ∈ lw_g := List.mem_filter.mpr ⟨List.mem_of_getElem? (i := 98) (by decide +kernel), rfl⟩
theorem wm_32 : (Cond.instantiable RX5 11 : Cond) ∈ lw_g := List.mem_filter.mpr ⟨List.mem_of_getElem? (i := 99) (by decide +kernel), rfl⟩
theorem wm_33 : (Cond.methodLink RX1 11 yX5_init : Cond) ∈ lw_g := List.mem_filter.mpr ⟨List.mem_of_getElem? (i := 100) (by decide +kernel), rfl⟩
theorem wm_34 : (Cond.instanceMethod yX5_init : Cond) ∈ lw_g := List.mem_filter.mpr ⟨List.mem_of_getElem? (i := 101) (by decide +kernel), rfl⟩
set_option maxRecDepth 100000 in
theorem wm_35 : (Cond.code yX5_init cX5_init 1 none : Cond) ∈ lw_g := List.mem_filter.mpr ⟨List.mem_of_getElem? (i := 102) rfl, rfl⟩
theorem wm_36 : (Cond.methodLink RX5 3 Lib.objectInit : Cond) ∈ lw_g := List.mem_filter.mpr ⟨List.mem_of_getElem? (i := 103) (by decide +kernel), rfl⟩
theorem wm_37 : (Cond.classLink RX5 18 RX4 : Cond) ∈ lw_g := List.mem_filter.mpr ⟨List.mem_of_getElem? (i := 104) (by decide +kernel), rfl⟩
theorem wm_38 : (Cond.instantiable RX4 4 : Cond) ∈ lw_g := List.mem_filter.mpr ⟨List.mem_of_getElem? (i := 105) (by decide +kernel), rfl⟩
theorem wm_39 : (Cond.methodLinkNest RX5 20 yX4_init RX8 : Cond) ∈ lw_tbl := List.mem_of_getElem? (i := 106) (by decide +kernel)
theorem wm_40 : (Cond.instanceMethod yX4_init : Cond) ∈ lw_g := List.mem_filter.mpr ⟨List.mem_of_getElem? (i := 107) (by decide +kernel), rfl⟩
set_option maxRecDepth 100000 in
theorem wm_41 : (Cond.code yX4_init cX4_init 1 none : Cond) ∈ lw_g := List.mem_filter.mpr ⟨List.mem_of_getElem? (i := 108) rfl, rfl⟩
theorem wm_42 : (Cond.methodLink RX4 3 Lib.objectInit : Cond) ∈ lw_g := List.mem_filter.mpr ⟨List.mem_of_getElem? (i := 109) (by decide +kernel), rfl⟩
theorem wm_43 : (Cond.fieldLink RX4 15 "CaissonSinker$Pose" "depth" "I" : Cond) ∈ lw_g := List.mem_filter.mpr ⟨List.mem_of_getElem? (i := 110) (by decide +kernel), rfl⟩
theorem wm_44 : (Cond.fieldLink RX1 41 "CaissonSinker$Pose" "depth" "I" : Cond) ∈ lw_g := List.mem_filter.mpr ⟨List.mem_of_getElem? (i := 111) (by decide +kernel), rfl⟩
theorem wm_45 : (Cond.fieldLink RX8 160 "CaissonSinker$Pose" "depth" "I" : Cond) ∈ lw_g := List.mem_filter.mpr ⟨List.mem_of_getElem? (i := 112) (by decide +kernel), rfl⟩
theorem wm_46 : (Cond.fieldLink RX5 112 "CaissonSinker$Pose" "depth" "I" : Cond) ∈ lw_g := List.mem_filter.mpr ⟨List.mem_of_getElem? (i := 113) (by decide +kernel), rfl⟩
theorem wm_47 : (Cond.fieldLink RX1 28 "CaissonSinker$Pose" "tiltX" "I" : Cond) ∈ lw_g := List.mem_filter.mpr ⟨List.mem_of_getElem? (i := 114) (by decide +kernel), rfl⟩
theorem wm_48 : (Cond.fieldLink RX4 19 "CaissonSinker$Pose" "tiltX" "I" : Cond) ∈ lw_g := List.mem_filter.mpr ⟨List.mem_of_getElem? (i := 115) (by decide +kernel), rfl⟩
theorem wm_49 : (Cond.fieldLink RX8 163 "CaissonSinker$Pose" "tiltX" "I" : Cond) ∈ lw_g := List.mem_filter.mpr ⟨List.mem_of_getElem? (i := 116) (by decide +kernel), rfl⟩
theorem wm_50 : (Cond.fieldLink RX4 22 "CaissonSinker$Pose" "tiltY" "I" : Cond) ∈ lw_g := List.mem_filter.mpr ⟨List.mem_of_getElem? (i := 117) (by decide +kernel), rfl⟩
theorem wm_51 : (Cond.fieldLink RX1 35 "CaissonSinker$Pose" "tiltY" "I" : Cond) ∈ lw_g := List.mem_filter.mpr ⟨List.mem_of_getElem? (i := 118) (by decide +kernel), rfl⟩
theorem wm_52 : (Cond.fieldLink RX8 166 "CaissonSinker$Pose" "tiltY" "I" : Cond) ∈ lw_g := List.mem_filter.mpr ⟨List.mem_of_getElem? (i := 119) (by decide +kernel), rfl⟩
theorem wm_53 : (Cond.fieldLink RX4 9 "CaissonSinker$Pose" "bottoms" "[I" : Cond) ∈ lw_g := List.mem_filter.mpr ⟨List.mem_of_getElem? (i := 120) (by decide +kernel), rfl⟩
theorem wm_63 : (Cond.arrayClass .int : Cond) ∈ lw_g := List.mem_filter.mpr ⟨List.mem_of_getElem? (i := 130) (by decide +kernel), rfl⟩
theorem wm_64 : (Cond.classLink RX5 25 RX2 : Cond) ∈ lw_g := List.mem_filter.mpr ⟨List.mem_of_getElem? (i := 131) (by decide +kernel), rfl⟩
theorem wm_65 : (Cond.instantiable RX2 1 : Cond) ∈ lw_g := List.mem_filter.mpr ⟨List.mem_of_getElem? (i := 132) (by decide +kernel), rfl⟩
theorem wm_66 : (Cond.methodLinkNest RX5 27 yX2_init RX8 : Cond) ∈ lw_tbl := List.mem_of_getElem? (i := 133) (by decide +kernel)
theorem wm_67 : (Cond.instanceMethod yX2_init : Cond) ∈ lw_g := List.mem_filter.mpr ⟨List.mem_of_getElem? (i := 134) (by decide +kernel), rfl⟩
set_option maxRecDepth 100000 in
theorem wm_68 : (Cond.code yX2_init cX2_init 1 none : Cond) ∈ lw_g := List.mem_filter.mpr ⟨List.mem_of_getElem? (i := 135) rfl, rfl⟩
theorem wm_69 : (Cond.methodLink RX2 3 Lib.objectInit : Cond) ∈ lw_g := List.mem_filter.mpr ⟨List.mem_of_getElem? (i := 136) (by decide +kernel), rfl⟩
theorem wm_70 : (Cond.classLink RX2 9 RX7 : Cond) ∈ lw_g := List.mem_filter.mpr ⟨List.mem_of_getElem? (i := 137) (by decide +kernel), rfl⟩
theorem wm_71 : (Cond.instantiable RX7 3 : Cond) ∈ lw_g := List.mem_filter.mpr ⟨List.mem_of_getElem? (i := 138) (by decide +kernel), rfl⟩
theorem wm_72 : (Cond.methodLink RX2 11 yX7_init : Cond) ∈ lw_g := List.mem_filter.mpr ⟨List.mem_of_getElem? (i := 139) (by decide +kernel), rfl⟩
theorem wm_73 : (Cond.instanceMethod yX7_init : Cond) ∈ lw_g := List.mem_filter.mpr ⟨List.mem_of_getElem? (i := 140) (by decide +kernel), rfl⟩
set_option maxRecDepth 100000 in
theorem wm_74 : (Cond.code yX7_init cX7_init 2 none : Cond) ∈ lw_g := List.mem_filter.mpr ⟨List.mem_of_getElem? (i := 141) rfl, rfl⟩
theorem wm_75 : (Cond.methodLink RX7 3 Lib.objectInit : Cond) ∈ lw_g := List.mem_filter.mpr ⟨List.mem_of_getElem? (i := 142) (by decide +kernel), rfl⟩
theorem wm_76 : (Cond.methodLink RX7 9 Lib.Math.max.name : Cond) ∈ lw_g := List.mem_filter.mpr ⟨List.mem_of_getElem? (i := 143) (by decide +kernel), rfl⟩
theorem wm_77 : (Cond.static Lib.Math.max.name : Cond) ∈ lw_g := List.mem_filter.mpr ⟨List.mem_of_getElem? (i := 144) (by decide +kernel), rfl⟩
set_option maxRecDepth 100000 in
theorem wm_78 : (Cond.code Lib.Math.max.name Lib.Math.max.code 2 (some .int) : Cond) ∈ lw_g := List.mem_filter.mpr ⟨List.mem_of_getElem? (i := 145) rfl, rfl⟩
theorem wm_79 : (Cond.fieldLink RX7 15 "CaissonSinker$Triples" "capacity" "I" : Cond) ∈ lw_g := List.mem_filter.mpr ⟨List.mem_of_getElem? (i := 146) (by decide +kernel), rfl⟩
theorem wm_80 : (Cond.fieldLink RX7 21 "CaissonSinker$Triples" "values" "[I" : Cond) ∈ lw_g := List.mem_filter.mpr ⟨List.mem_of_getElem? (i := 147) (by decide +kernel), rfl⟩
theorem wm_81 : (Cond.fieldLink RX2 37 "CaissonSinker$Triples" "values" "[I" : Cond) ∈ lw_g := List.mem_filter.mpr ⟨List.mem_of_getElem? (i := 148) (by decide +kernel), rfl⟩
theorem wm_82 : (Cond.fieldLink RX0 43 "CaissonSinker$Triples" "values" "[I" : Cond) ∈ lw_g := List.mem_filter.mpr ⟨List.mem_of_getElem? (i := 149) (by decide +kernel), rfl⟩
theorem wm_83 : (Cond.fieldLink RX7 25 "CaissonSinker$Triples" "count" "I" : Cond) ∈ lw_g := List.mem_filter.mpr ⟨List.mem_of_getElem? (i := 150) (by decide +kernel), rfl⟩
theorem wm_84 : (Cond.fieldLink RX2 20 "CaissonSinker$Triples" "count" "I" : Cond) ∈ lw_g := List.mem_filter.mpr ⟨List.mem_of_getElem? (i := 151) (by decide +kernel), rfl⟩
theorem wm_85 : (Cond.fieldLink RX0 24 "CaissonSinker$Triples" "count" "I" : Cond) ∈ lw_g := List.mem_filter.mpr ⟨List.mem_of_getElem? (i := 152) (by decide +kernel), rfl⟩
theorem wm_86 : (Cond.fieldLink RX8 112 "CaissonSinker$Triples" "count" "I" : Cond) ∈ lw_g := List.mem_filter.mpr ⟨List.mem_of_getElem? (i := 153) (by decide +kernel), rfl⟩
theorem wm_94 : (Cond.fieldLink RX2 14 "CaissonSinker$Ground" "layers" "LCaissonSinker$Triples;" : Cond) ∈ lw_g := List.mem_filter.mpr ⟨List.mem_of_getElem? (i := 161) (by decide +kernel), rfl⟩
theorem wm_95 : (Cond.fieldLink RX5 61 "CaissonSinker$Ground" "layers" "LCaissonSinker$Triples;" : Cond) ∈ lw_g := List.mem_filter.mpr ⟨List.mem_of_getElem? (i := 162) (by decide +kernel), rfl⟩
theorem wm_96 : (Cond.fieldLink RX6 64 "CaissonSinker$Ground" "layers" "LCaissonSinker$Triples;" : Cond) ∈ lw_g := List.mem_filter.mpr ⟨List.mem_of_getElem? (i := 163) (by decide +kernel), rfl⟩
theorem wm_97 : (Cond.fieldLink RX8 99 "CaissonSinker$Ground" "layers" "LCaissonSinker$Triples;" : Cond) ∈ lw_g := List.mem_filter.mpr ⟨List.mem_of_getElem? (i := 164) (by decide +kernel), rfl⟩
theorem wm_101 : (Cond.classLink RX5 32 RX0 : Cond) ∈ lw_g := List.mem_filter.mpr ⟨List.mem_of_getElem? (i := 168) (by decide +kernel), rfl⟩
theorem wm_102 : (Cond.instantiable RX0 1 : Cond) ∈ lw_g := List.mem_filter.mpr ⟨List.mem_of_getElem? (i := 169) (by decide +kernel), rfl⟩
theorem wm_103 : (Cond.methodLinkNest RX5 34 yX0_init RX8 : Cond) ∈ lw_tbl := List.mem_of_getElem? (i := 170) (by decide +kernel)
theorem wm_104 : (Cond.instanceMethod yX0_init : Cond) ∈ lw_g := List.mem_filter.mpr ⟨List.mem_of_getElem? (i := 171) (by decide +kernel), rfl⟩
set_option maxRecDepth 100000 in
theorem wm_105 : (Cond.code yX0_init cX0_init 1 none : Cond) ∈ lw_g := List.mem_filter.mpr ⟨List.mem_of_getElem? (i := 172) rfl, rfl⟩
theorem wm_106 : (Cond.methodLink RX0 3 Lib.objectInit : Cond) ∈ lw_g := List.mem_filter.mpr ⟨List.mem_of_getElem? (i := 173) (by decide +kernel), rfl⟩
theorem wm_107 : (Cond.classLink RX0 9 RX7 : Cond) ∈ lw_g := List.mem_filter.mpr ⟨List.mem_of_getElem? (i := 174) (by decide +kernel), rfl⟩
theorem wm_108 : (Cond.methodLink RX0 11 yX7_init : Cond) ∈ lw_g := List.mem_filter.mpr ⟨List.mem_of_getElem? (i := 175) (by decide +kernel), rfl⟩
theorem wm_109 : (Cond.fieldLink RX0 14 "CaissonSinker$Boulders" "list" "LCaissonSinker$Triples;" : Cond) ∈ lw_g := List.mem_filter.mpr ⟨List.mem_of_getElem? (i := 176) (by decide +kernel), rfl⟩
theorem wm_110 : (Cond.fieldLink RX5 78 "CaissonSinker$Boulders" "list" "LCaissonSinker$Triples;" : Cond) ∈ lw_g := List.mem_filter.mpr ⟨List.mem_of_getElem? (i := 177) (by decide +kernel), rfl⟩
theorem wm_111 : (Cond.fieldLink RX6 79 "CaissonSinker$Boulders" "list" "LCaissonSinker$Triples;" : Cond) ∈ lw_g := List.mem_filter.mpr ⟨List.mem_of_getElem? (i := 178) (by decide +kernel), rfl⟩
theorem wm_112 : (Cond.fieldLink RX8 130 "CaissonSinker$Boulders" "list" "LCaissonSinker$Triples;" : Cond) ∈ lw_g := List.mem_filter.mpr ⟨List.mem_of_getElem? (i := 179) (by decide +kernel), rfl⟩
theorem wm_116 : (Cond.classLink RX5 39 RX7 : Cond) ∈ lw_g := List.mem_filter.mpr ⟨List.mem_of_getElem? (i := 183) (by decide +kernel), rfl⟩
theorem wm_117 : (Cond.methodLink RX5 41 yX7_init : Cond) ∈ lw_g := List.mem_filter.mpr ⟨List.mem_of_getElem? (i := 184) (by decide +kernel), rfl⟩
theorem wm_118 : (Cond.methodLink RX5 48 yX5_beginAnew : Cond) ∈ lw_g := List.mem_filter.mpr ⟨List.mem_of_getElem? (i := 185) (by decide +kernel), rfl⟩
theorem wm_119 : (Cond.instanceMethod yX5_beginAnew : Cond) ∈ lw_g := List.mem_filter.mpr ⟨List.mem_of_getElem? (i := 186) (by decide +kernel), rfl⟩
theorem wm_120 : (Cond.selects RX5 yX5_beginAnew yX5_beginAnew : Cond) ∈ lw_g := List.mem_filter.mpr ⟨List.mem_of_getElem? (i := 187) (by decide +kernel), rfl⟩
set_option maxRecDepth 100000 in
theorem wm_121 : (Cond.code yX5_beginAnew cX5_beginAnew 1 none : Cond) ∈ lw_g := List.mem_filter.mpr ⟨List.mem_of_getElem? (i := 188) rfl, rfl⟩
theorem wm_122 : (Cond.methodLink RX5 64 yX7_clear : Cond) ∈ lw_g := List.mem_filter.mpr ⟨List.mem_of_getElem? (i := 189) (by decide +kernel), rfl⟩
theorem wm_123 : (Cond.instanceMethod yX7_clear : Cond) ∈ lw_g := List.mem_filter.mpr ⟨List.mem_of_getElem? (i := 190) (by decide +kernel), rfl⟩
theorem wm_124 : (Cond.selects RX7 yX7_clear yX7_clear : Cond) ∈ lw_g := List.mem_filter.mpr ⟨List.mem_of_getElem? (i := 191) (by decide +kernel), rfl⟩
set_option maxRecDepth 100000 in
theorem wm_125 : (Cond.code yX7_clear cX7_clear 1 none : Cond) ∈ lw_g := List.mem_filter.mpr ⟨List.mem_of_getElem? (i := 192) rfl, rfl⟩
theorem wm_126 : (Cond.methodLink RX5 67 yX5_replaceCaisson : Cond) ∈ lw_g := List.mem_filter.mpr ⟨List.mem_of_getElem? (i := 193) (by decide +kernel), rfl⟩
theorem wm_127 : (Cond.instanceMethod yX5_replaceCaisson : Cond) ∈ lw_g := List.mem_filter.mpr ⟨List.mem_of_getElem? (i := 194) (by decide +kernel), rfl⟩
theorem wm_128 : (Cond.selects RX5 yX5_replaceCaisson yX5_replaceCaisson : Cond) ∈ lw_g := List.mem_filter.mpr ⟨List.mem_of_getElem? (i := 195) (by decide +kernel), rfl⟩
set_option maxRecDepth 100000 in
theorem wm_129 : (Cond.code yX5_replaceCaisson cX5_replaceCaisson 4 none : Cond) ∈ lw_g := List.mem_filter.mpr ⟨List.mem_of_getElem? (i := 196) rfl, rfl⟩
theorem wm_130 : (Cond.methodLink RX5 77 yX4_clear : Cond) ∈ lw_g := List.mem_filter.mpr ⟨List.mem_of_getElem? (i := 197) (by decide +kernel), rfl⟩
theorem wm_131 : (Cond.instanceMethod yX4_clear : Cond) ∈ lw_g := List.mem_filter.mpr ⟨List.mem_of_getElem? (i := 198) (by decide +kernel), rfl⟩
theorem wm_132 : (Cond.selects RX4 yX4_clear yX4_clear : Cond) ∈ lw_g := List.mem_filter.mpr ⟨List.mem_of_getElem? (i := 199) (by decide +kernel), rfl⟩
set_option maxRecDepth 100000 in
theorem wm_133 : (Cond.code yX4_clear cX4_clear 2 none : Cond) ∈ lw_g := List.mem_filter.mpr ⟨List.mem_of_getElem? (i := 200) rfl, rfl⟩
theorem wm_134 : (Cond.fieldLink RX1 32 "CaissonSinker$Site" "columns" "I" : Cond) ∈ lw_g := List.mem_filter.mpr ⟨List.mem_of_getElem? (i := 201) (by decide +kernel), rfl⟩
theorem wm_135 : (Cond.fieldLink RX5 71 "CaissonSinker$Site" "columns" "I" : Cond) ∈ lw_g := List.mem_filter.mpr ⟨List.mem_of_getElem? (i := 202) (by decide +kernel), rfl⟩
theorem wm_136 : (Cond.fieldLink RX6 101 "CaissonSinker$Site" "columns" "I" : Cond) ∈ lw_g := List.mem_filter.mpr ⟨List.mem_of_getElem? (i := 203) (by decide +kernel), rfl⟩
theorem wm_137 : (Cond.fieldLink RX8 151 "CaissonSinker$Site" "columns" "I" : Cond) ∈ lw_g := List.mem_filter.mpr ⟨List.mem_of_getElem? (i := 204) (by decide +kernel), rfl⟩
theorem wm_138 : (Cond.fieldLink RX1 38 "CaissonSinker$Site" "rows" "I" : Cond) ∈ lw_g := List.mem_filter.mpr ⟨List.mem_of_getElem? (i := 205) (by decide +kernel), rfl⟩
theorem wm_139 : (Cond.fieldLink RX5 74 "CaissonSinker$Site" "rows" "I" : Cond) ∈ lw_g := List.mem_filter.mpr ⟨List.mem_of_getElem? (i := 206) (by decide +kernel), rfl⟩
theorem wm_140 : (Cond.fieldLink RX6 104 "CaissonSinker$Site" "rows" "I" : Cond) ∈ lw_g := List.mem_filter.mpr ⟨List.mem_of_getElem? (i := 207) (by decide +kernel), rfl⟩
theorem wm_141 : (Cond.fieldLink RX8 154 "CaissonSinker$Site" "rows" "I" : Cond) ∈ lw_g := List.mem_filter.mpr ⟨List.mem_of_getElem? (i := 208) (by decide +kernel), rfl⟩
theorem wm_142 : (Cond.fieldLink RX5 51 "CaissonSinker$Site" "weight" "I" : Cond) ∈ lw_g := List.mem_filter.mpr ⟨List.mem_of_getElem? (i := 209) (by decide +kernel), rfl⟩
theorem wm_143 : (Cond.fieldLink RX8 89 "CaissonSinker$Site" "weight" "I" : Cond) ∈ lw_g := List.mem_filter.mpr ⟨List.mem_of_getElem? (i := 210) (by decide +kernel), rfl⟩
theorem wm_144 : (Cond.fieldLink RX1 105 "CaissonSinker$Site" "weight" "I" : Cond) ∈ lw_g := List.mem_filter.mpr ⟨List.mem_of_getElem? (i := 211) (by decide +kernel), rfl⟩
theorem wm_145 : (Cond.fieldLink RX6 119 "CaissonSinker$Site" "weight" "I" : Cond) ∈ lw_g := List.mem_filter.mpr ⟨List.mem_of_getElem? (i := 212) (by decide +kernel), rfl⟩
theorem wm_146 : (Cond.fieldLink RX5 55 "CaissonSinker$Site" "stiffness" "I" : Cond) ∈ lw_g := List.mem_filter.mpr ⟨List.mem_of_getElem? (i := 213) (by decide +kernel), rfl⟩
theorem wm_147 : (Cond.fieldLink RX8 92 "CaissonSinker$Site" "stiffness" "I" : Cond) ∈ lw_g := List.mem_filter.mpr ⟨List.mem_of_getElem? (i := 214) (by decide +kernel), rfl⟩
theorem wm_148 : (Cond.fieldLink RX1 139 "CaissonSinker$Site" "stiffness" "I" : Cond) ∈ lw_g := List.mem_filter.mpr ⟨List.mem_of_getElem? (i := 215) (by decide +kernel), rfl⟩
theorem wm_149 : (Cond.fieldLink RX6 125 "CaissonSinker$Site" "stiffness" "I" : Cond) ∈ lw_g := List.mem_filter.mpr ⟨List.mem_of_getElem? (i := 216) (by decide +kernel), rfl⟩
theorem wm_150 : (Cond.fieldLink RX5 58 "CaissonSinker$Site" "water" "I" : Cond) ∈ lw_g := List.mem_filter.mpr ⟨List.mem_of_getElem? (i := 217) (by decide +kernel), rfl⟩
theorem wm_151 : (Cond.fieldLink RX1 87 "CaissonSinker$Site" "water" "I" : Cond) ∈ lw_g := List.mem_filter.mpr ⟨List.mem_of_getElem? (i := 218) (by decide +kernel), rfl⟩
theorem wm_152 : (Cond.fieldLink RX6 122 "CaissonSinker$Site" "water" "I" : Cond) ∈ lw_g := List.mem_filter.mpr ⟨List.mem_of_getElem? (i := 219) (by decide +kernel), rfl⟩
theorem wm_153 : (Cond.fieldLink RX8 173 "CaissonSinker$Site" "water" "I" : Cond) ∈ lw_g := List.mem_filter.mpr ⟨List.mem_of_getElem? (i := 220) (by decide +kernel), rfl⟩
theorem wm_154 : (Cond.fieldLink RX5 9 "CaissonSinker$Site" "ballast" "[I" : Cond) ∈ lw_g := List.mem_filter.mpr ⟨List.mem_of_getElem? (i := 221) (by decide +kernel), rfl⟩
theorem wm_155 : (Cond.fieldLink RX5 15 "CaissonSinker$Site" "lubricated" "[I" : Cond) ∈ lw_g := List.mem_filter.mpr ⟨List.mem_of_getElem? (i := 222) (by decide +kernel), rfl⟩
theorem wm_156 : (Cond.fieldLink RX8 256 "CaissonSinker$Site" "lubricated" "[I" : Cond) ∈ lw_g := List.mem_filter.mpr ⟨List.mem_of_getElem? (i := 223) (by decide +kernel), rfl⟩
theorem wm_157 : (Cond.fieldLink RX5 21 "CaissonSinker$Site" "pose" "LCaissonSinker$Pose;" : Cond) ∈ lw_g := List.mem_filter.mpr ⟨List.mem_of_getElem? (i := 224) (by decide +kernel), rfl⟩
theorem wm_158 : (Cond.fieldLink RX8 157 "CaissonSinker$Site" "pose" "LCaissonSinker$Pose;" : Cond) ∈ lw_g := List.mem_filter.mpr ⟨List.mem_of_getElem? (i := 225) (by decide +kernel), rfl⟩
theorem wm_159 : (Cond.fieldLink RX1 181 "CaissonSinker$Site" "pose" "LCaissonSinker$Pose;" : Cond) ∈ lw_g := List.mem_filter.mpr ⟨List.mem_of_getElem? (i := 226) (by decide +kernel), rfl⟩
theorem wm_160 : (Cond.fieldLink RX5 28 "CaissonSinker$Site" "ground" "LCaissonSinker$Ground;" : Cond) ∈ lw_g := List.mem_filter.mpr ⟨List.mem_of_getElem? (i := 227) (by decide +kernel), rfl⟩
theorem wm_161 : (Cond.fieldLink RX1 63 "CaissonSinker$Site" "ground" "LCaissonSinker$Ground;" : Cond) ∈ lw_g := List.mem_filter.mpr ⟨List.mem_of_getElem? (i := 228) (by decide +kernel), rfl⟩
theorem wm_162 : (Cond.fieldLink RX6 60 "CaissonSinker$Site" "ground" "LCaissonSinker$Ground;" : Cond) ∈ lw_g := List.mem_filter.mpr ⟨List.mem_of_getElem? (i := 229) (by decide +kernel), rfl⟩
theorem wm_163 : (Cond.fieldLink RX8 95 "CaissonSinker$Site" "ground" "LCaissonSinker$Ground;" : Cond) ∈ lw_g := List.mem_filter.mpr ⟨List.mem_of_getElem? (i := 230) (by decide +kernel), rfl⟩
theorem wm_164 : (Cond.fieldLink RX5 35 "CaissonSinker$Site" "boulders" "LCaissonSinker$Boulders;" : Cond) ∈ lw_g := List.mem_filter.mpr ⟨List.mem_of_getElem? (i := 231) (by decide +kernel), rfl⟩
theorem wm_165 : (Cond.fieldLink RX1 72 "CaissonSinker$Site" "boulders" "LCaissonSinker$Boulders;" : Cond) ∈ lw_g := List.mem_filter.mpr ⟨List.mem_of_getElem? (i := 232) (by decide +kernel), rfl⟩
theorem wm_166 : (Cond.fieldLink RX6 75 "CaissonSinker$Site" "boulders" "LCaissonSinker$Boulders;" : Cond) ∈ lw_g := List.mem_filter.mpr ⟨List.mem_of_getElem? (i := 233) (by decide +kernel), rfl⟩
theorem wm_167 : (Cond.fieldLink RX8 119 "CaissonSinker$Site" "boulders" "LCaissonSinker$Boulders;" : Cond) ∈ lw_g := List.mem_filter.mpr ⟨List.mem_of_getElem? (i := 234) (by decide +kernel), rfl⟩
theorem wm_168 : (Cond.fieldLink RX5 44 "CaissonSinker$Site" "records" "LCaissonSinker$Triples;" : Cond) ∈ lw_g := List.mem_filter.mpr ⟨List.mem_of_getElem? (i := 235) (by decide +kernel), rfl⟩
theorem wm_169 : (Cond.fieldLink RX8 176 "CaissonSinker$Site" "records" "LCaissonSinker$Triples;" : Cond) ∈ lw_g := List.mem_filter.mpr ⟨List.mem_of_getElem? (i := 236) (by decide +kernel), rfl⟩
theorem wm_193 : (Cond.classLink RX1 18 RX4 : Cond) ∈ lw_g := List.mem_filter.mpr ⟨List.mem_of_getElem? (i := 260) (by decide +kernel), rfl⟩
theorem wm_194 : (Cond.methodLinkNest RX1 20 yX4_init RX8 : Cond) ∈ lw_tbl := List.mem_of_getElem? (i := 261) (by decide +kernel)
theorem wm_195 : (Cond.fieldLink RX1 12 "CaissonSinker$Forces" "site" "LCaissonSinker$Site;" : Cond) ∈ lw_g := List.mem_filter.mpr ⟨List.mem_of_getElem? (i := 262) (by decide +kernel), rfl⟩
theorem wm_196 : (Cond.fieldLink RX8 16 "CaissonSinker$Forces" "site" "LCaissonSinker$Site;" : Cond) ∈ lw_g := List.mem_filter.mpr ⟨List.mem_of_getElem? (i := 263) (by decide +kernel), rfl⟩
theorem wm_197 : (Cond.fieldLink RX1 21 "CaissonSinker$Forces" "trial" "LCaissonSinker$Pose;" : Cond) ∈ lw_g := List.mem_filter.mpr ⟨List.mem_of_getElem? (i := 264) (by decide +kernel), rfl⟩
theorem wm_198 : (Cond.fieldLink RX1 25 "CaissonSinker$Forces" "chosen" "LCaissonSinker$Pose;" : Cond) ∈ lw_g := List.mem_filter.mpr ⟨List.mem_of_getElem? (i := 265) (by decide +kernel), rfl⟩
theorem wm_199 : (Cond.fieldLink RX8 282 "CaissonSinker$Forces" "chosen" "LCaissonSinker$Pose;" : Cond) ∈ lw_g := List.mem_filter.mpr ⟨List.mem_of_getElem? (i := 266) (by decide +kernel), rfl⟩
theorem wm_200 : (Cond.fieldLink RX1 108 "CaissonSinker$Forces" "excess" "I" : Cond) ∈ lw_g := List.mem_filter.mpr ⟨List.mem_of_getElem? (i := 267) (by decide +kernel), rfl⟩
theorem wm_201 : (Cond.fieldLink RX8 215 "CaissonSinker$Forces" "excess" "I" : Cond) ∈ lw_g := List.mem_filter.mpr ⟨List.mem_of_getElem? (i := 268) (by decide +kernel), rfl⟩
theorem wm_202 : (Cond.fieldLink RX1 111 "CaissonSinker$Forces" "momentX" "I" : Cond) ∈ lw_g := List.mem_filter.mpr ⟨List.mem_of_getElem? (i := 269) (by decide +kernel), rfl⟩
theorem wm_203 : (Cond.fieldLink RX8 218 "CaissonSinker$Forces" "momentX" "I" : Cond) ∈ lw_g := List.mem_filter.mpr ⟨List.mem_of_getElem? (i := 270) (by decide +kernel), rfl⟩
theorem wm_204 : (Cond.fieldLink RX1 114 "CaissonSinker$Forces" "momentY" "I" : Cond) ∈ lw_g := List.mem_filter.mpr ⟨List.mem_of_getElem? (i := 271) (by decide +kernel), rfl⟩
theorem wm_205 : (Cond.fieldLink RX8 221 "CaissonSinker$Forces" "momentY" "I" : Cond) ∈ lw_g := List.mem_filter.mpr ⟨List.mem_of_getElem? (i := 272) (by decide +kernel), rfl⟩
theorem wm_206 : (Cond.fieldLink RX1 130 "CaissonSinker$Forces" "nextTiltX" "I" : Cond) ∈ lw_g := List.mem_filter.mpr ⟨List.mem_of_getElem? (i := 273) (by decide +kernel), rfl⟩
theorem wm_207 : (Cond.fieldLink RX1 133 "CaissonSinker$Forces" "nextTiltY" "I" : Cond) ∈ lw_g := List.mem_filter.mpr ⟨List.mem_of_getElem? (i := 274) (by decide +kernel), rfl⟩
theorem wm_225 : (Cond.classLink RX8 21 RX5 : Cond) ∈ lw_g := List.mem_filter.mpr ⟨List.mem_of_getElem? (i := 292) (by decide +kernel), rfl⟩
theorem wm_226 : (Cond.methodLink RX8 23 yX5_init : Cond) ∈ lw_g := List.mem_filter.mpr ⟨List.mem_of_getElem? (i := 293) (by decide +kernel), rfl⟩
theorem wm_227 : (Cond.classLink RX8 27 RX3 : Cond) ∈ lw_g := List.mem_filter.mpr ⟨List.mem_of_getElem? (i := 294) (by decide +kernel), rfl⟩
theorem wm_228 : (Cond.instantiable RX3 3 : Cond) ∈ lw_g := List.mem_filter.mpr ⟨List.mem_of_getElem? (i := 295) (by decide +kernel), rfl⟩
theorem wm_229 : (Cond.methodLink RX8 29 yX3_init : Cond) ∈ lw_g := List.mem_filter.mpr ⟨List.mem_of_getElem? (i := 296) (by decide +kernel), rfl⟩
theorem wm_230 : (Cond.instanceMethod yX3_init : Cond) ∈ lw_g := List.mem_filter.mpr ⟨List.mem_of_getElem? (i := 297) (by decide +kernel), rfl⟩
set_option maxRecDepth 100000 in
theorem wm_231 : (Cond.code yX3_init cX3_init 2 none : Cond) ∈ lw_g := List.mem_filter.mpr ⟨List.mem_of_getElem? (i := 298) rfl, rfl⟩
theorem wm_232 : (Cond.methodLink RX3 3 Lib.objectInit : Cond) ∈ lw_g := List.mem_filter.mpr ⟨List.mem_of_getElem? (i := 299) (by decide +kernel), rfl⟩
theorem wm_233 : (Cond.classLink RX3 9 RX5 : Cond) ∈ lw_g := List.mem_filter.mpr ⟨List.mem_of_getElem? (i := 300) (by decide +kernel), rfl⟩
theorem wm_234 : (Cond.arrayOver (.object "CaissonSinker$Site") : Cond) ∈ lw_tbl := List.mem_of_getElem? (i := 301) (by decide +kernel)
theorem wm_235 : (Cond.methodLink RX3 17 yX5_init : Cond) ∈ lw_g := List.mem_filter.mpr ⟨List.mem_of_getElem? (i := 302) (by decide +kernel), rfl⟩
theorem wm_236 : (Cond.fieldLink RX3 11 "CaissonSinker$History" "saved" "[LCaissonSinker$Site;" : Cond) ∈ lw_g := List.mem_filter.mpr ⟨List.mem_of_getElem? (i := 303) (by decide +kernel), rfl⟩
theorem wm_237 : (Cond.fieldLink RX3 18 "CaissonSinker$History" "next" "I" : Cond) ∈ lw_g := List.mem_filter.mpr ⟨List.mem_of_getElem? (i := 304) (by decide +kernel), rfl⟩
theorem wm_238 : (Cond.fieldLink RX3 22 "CaissonSinker$History" "count" "I" : Cond) ∈ lw_g := List.mem_filter.mpr ⟨List.mem_of_getElem? (i := 305) (by decide +kernel), rfl⟩
theorem wm_239 : (Cond.fieldLink RX8 298 "CaissonSinker$History" "count" "I" : Cond) ∈ lw_g := List.mem_filter.mpr ⟨List.mem_of_getElem? (i := 306) (by decide +kernel), rfl⟩
theorem wm_247 : (Cond.classLink RX8 34 RX6 : Cond) ∈ lw_g := List.mem_filter.mpr ⟨List.mem_of_getElem? (i := 314) (by decide +kernel), rfl⟩
theorem wm_248 : (Cond.instantiable RX6 7 : Cond) ∈ lw_g := List.mem_filter.mpr ⟨List.mem_of_getElem? (i := 315) (by decide +kernel), rfl⟩
theorem wm_249 : (Cond.methodLinkNest RX8 36 yX6_init RX8 : Cond) ∈ lw_tbl := List.mem_of_getElem? (i := 316) (by decide +kernel)
theorem wm_250 : (Cond.instanceMethod yX6_init : Cond) ∈ lw_g := List.mem_filter.mpr ⟨List.mem_of_getElem? (i := 317) (by decide +kernel), rfl⟩
set_option maxRecDepth 100000 in
theorem wm_251 : (Cond.code yX6_init cX6_init 1 none : Cond) ∈ lw_g := List.mem_filter.mpr ⟨List.mem_of_getElem? (i := 318) rfl, rfl⟩
theorem wm_252 : (Cond.methodLink RX6 3 Lib.objectInit : Cond) ∈ lw_g := List.mem_filter.mpr ⟨List.mem_of_getElem? (i := 319) (by decide +kernel), rfl⟩
theorem wm_253 : (Cond.fieldLink RX6 9 "CaissonSinker$Text" "characters" "[C" : Cond) ∈ lw_g := List.mem_filter.mpr ⟨List.mem_of_getElem? (i := 320) (by decide +kernel), rfl⟩
theorem wm_254 : (Cond.fieldLink RX6 19 "CaissonSinker$Text" "length" "I" : Cond) ∈ lw_g := List.mem_filter.mpr ⟨List.mem_of_getElem? (i := 321) (by decide +kernel), rfl⟩
theorem wm_255 : (Cond.fieldLink RX8 66 "CaissonSinker$Text" "length" "I" : Cond) ∈ lw_g := List.mem_filter.mpr ⟨List.mem_of_getElem? (i := 322) (by decide +kernel), rfl⟩
theorem wm_256 : (Cond.fieldLink RX6 28 "CaissonSinker$Text" "position" "I" : Cond) ∈ lw_g := List.mem_filter.mpr ⟨List.mem_of_getElem? (i := 323) (by decide +kernel), rfl⟩
theorem wm_257 : (Cond.fieldLink RX6 34 "CaissonSinker$Text" "token" "I" : Cond) ∈ lw_g := List.mem_filter.mpr ⟨List.mem_of_getElem? (i := 324) (by decide +kernel), rfl⟩
theorem wm_258 : (Cond.fieldLink RX6 53 "CaissonSinker$Text" "tokenStart" "I" : Cond) ∈ lw_g := List.mem_filter.mpr ⟨List.mem_of_getElem? (i := 325) (by decide +kernel), rfl⟩
theorem wm_259 : (Cond.fieldLink RX6 87 "CaissonSinker$Text" "number" "I" : Cond) ∈ lw_g := List.mem_filter.mpr ⟨List.mem_of_getElem? (i := 326) (by decide +kernel), rfl⟩
theorem wm_260 : (Cond.fieldLink RX6 15 "CaissonSinker$Text" "values" "[I" : Cond) ∈ lw_g := List.mem_filter.mpr ⟨List.mem_of_getElem? (i := 327) (by decide +kernel), rfl⟩
theorem wm_276 : (Cond.arrayClass .char : Cond) ∈ lw_g := List.mem_filter.mpr ⟨List.mem_of_getElem? (i := 343) (by decide +kernel), rfl⟩
theorem wm_277 : (Cond.classLink RX8 41 RX7 : Cond) ∈ lw_g := List.mem_filter.mpr ⟨List.mem_of_getElem? (i := 344) (by decide +kernel), rfl⟩
theorem wm_278 : (Cond.methodLink RX8 43 yX7_init : Cond) ∈ lw_g := List.mem_filter.mpr ⟨List.mem_of_getElem? (i := 345) (by decide +kernel), rfl⟩
theorem wm_279 : (Cond.classLink RX8 50 RX4 : Cond) ∈ lw_g := List.mem_filter.mpr ⟨List.mem_of_getElem? (i := 346) (by decide +kernel), rfl⟩
theorem wm_280 : (Cond.methodLinkNest RX8 52 yX4_init RX8 : Cond) ∈ lw_tbl := List.mem_of_getElem? (i := 347) (by decide +kernel)
theorem wm_281 : (Cond.fieldLink RX8 12 "CaissonSinker" "forces" "LCaissonSinker$Forces;" : Cond) ∈ lw_g := List.mem_filter.mpr ⟨List.mem_of_getElem? (i := 348) (by decide +kernel), rfl⟩
theorem wm_282 : (Cond.fieldLink RX8 20 "CaissonSinker" "site" "LCaissonSinker$Site;" : Cond) ∈ lw_g := List.mem_filter.mpr ⟨List.mem_of_getElem? (i := 349) (by decide +kernel), rfl⟩
theorem wm_283 : (Cond.fieldLink RX8 24 "CaissonSinker" "draft" "LCaissonSinker$Site;" : Cond) ∈ lw_g := List.mem_filter.mpr ⟨List.mem_of_getElem? (i := 350) (by decide +kernel), rfl⟩
theorem wm_284 : (Cond.fieldLink RX8 30 "CaissonSinker" "history" "LCaissonSinker$History;" : Cond) ∈ lw_g := List.mem_filter.mpr ⟨List.mem_of_getElem? (i := 351) (by decide +kernel), rfl⟩
theorem wm_285 : (Cond.fieldLink RX8 37 "CaissonSinker" "text" "LCaissonSinker$Text;" : Cond) ∈ lw_g := List.mem_filter.mpr ⟨List.mem_of_getElem? (i := 352) (by decide +kernel), rfl⟩
theorem wm_286 : (Cond.fieldLink RX8 46 "CaissonSinker" "wellsToDig" "LCaissonSinker$Triples;" : Cond) ∈ lw_g := List.mem_filter.mpr ⟨List.mem_of_getElem? (i := 353) (by decide +kernel), rfl⟩
theorem wm_287 : (Cond.fieldLink RX8 53 "CaissonSinker" "imagined" "LCaissonSinker$Pose;" : Cond) ∈ lw_g := List.mem_filter.mpr ⟨List.mem_of_getElem? (i := 354) (by decide +kernel), rfl⟩
theorem wm_288 : (Cond.fieldLink RX8 57 "CaissonSinker" "plannedAmount" "I" : Cond) ∈ lw_g := List.mem_filter.mpr ⟨List.mem_of_getElem? (i := 355) (by decide +kernel), rfl⟩
theorem wm_306 : (Cond.methodLink RL 13 yX8_appendCharacter : Cond) ∈ lw_g := List.mem_filter.mpr ⟨List.mem_of_getElem? (i := 373) (by decide +kernel), rfl⟩
theorem wm_307 : (Cond.instanceMethod yX8_appendCharacter : Cond) ∈ lw_g := List.mem_filter.mpr ⟨List.mem_of_getElem? (i := 374) (by decide +kernel), rfl⟩
theorem wm_308 : (Cond.selects RX8 yX8_appendCharacter yX8_appendCharacter : Cond) ∈ lw_g := List.mem_filter.mpr ⟨List.mem_of_getElem? (i := 375) (by decide +kernel), rfl⟩
set_option maxRecDepth 100000 in
theorem wm_309 : (Cond.code yX8_appendCharacter cX8_appendCharacter 2 (some .int) : Cond) ∈ lw_g := List.mem_filter.mpr ⟨List.mem_of_getElem? (i := 376) rfl, rfl⟩
theorem wm_310 : (Cond.methodLink RX8 61 yX8_isWithin : Cond) ∈ lw_g := List.mem_filter.mpr ⟨List.mem_of_getElem? (i := 377) (by decide +kernel), rfl⟩
theorem wm_311 : (Cond.static yX8_isWithin : Cond) ∈ lw_g := List.mem_filter.mpr ⟨List.mem_of_getElem? (i := 378) (by decide +kernel), rfl⟩
set_option maxRecDepth 100000 in
theorem wm_312 : (Cond.code yX8_isWithin cX8_isWithin 3 (some .boolean) : Cond) ∈ lw_g := List.mem_filter.mpr ⟨List.mem_of_getElem? (i := 379) rfl, rfl⟩
theorem wm_313 : (Cond.constant RX8 65 (-1000001) : Cond) ∈ lw_g := List.mem_filter.mpr ⟨List.mem_of_getElem? (i := 380) (by decide +kernel), rfl⟩
theorem wm_314 : (Cond.constant RX8 69 (-1000003) : Cond) ∈ lw_g := List.mem_filter.mpr ⟨List.mem_of_getElem? (i := 381) (by decide +kernel), rfl⟩
theorem wm_315 : (Cond.methodLink RX8 70 yX6_append : Cond) ∈ lw_g := List.mem_filter.mpr ⟨List.mem_of_getElem? (i := 382) (by decide +kernel), rfl⟩
theorem wm_316 : (Cond.instanceMethod yX6_append : Cond) ∈ lw_g := List.mem_filter.mpr ⟨List.mem_of_getElem? (i := 383) (by decide +kernel), rfl⟩
theorem wm_317 : (Cond.selects RX6 yX6_append yX6_append : Cond) ∈ lw_g := List.mem_filter.mpr ⟨List.mem_of_getElem? (i := 384) (by decide +kernel), rfl⟩
set_option maxRecDepth 100000 in
theorem wm_318 : (Cond.code yX6_append cX6_append 2 none : Cond) ∈ lw_g := List.mem_filter.mpr ⟨List.mem_of_getElem? (i := 385) rfl, rfl⟩
theorem wm_319 : (Cond.methodLink RL 18 yX8_clearText : Cond) ∈ lw_g := List.mem_filter.mpr ⟨List.mem_of_getElem? (i := 386) (by decide +kernel), rfl⟩
theorem wm_320 : (Cond.instanceMethod yX8_clearText : Cond) ∈ lw_g := List.mem_filter.mpr ⟨List.mem_of_getElem? (i := 387) (by decide +kernel), rfl⟩
theorem wm_321 : (Cond.selects RX8 yX8_clearText yX8_clearText : Cond) ∈ lw_g := List.mem_filter.mpr ⟨List.mem_of_getElem? (i := 388) (by decide +kernel), rfl⟩
set_option maxRecDepth 100000 in
theorem wm_322 : (Cond.code yX8_clearText cX8_clearText 2 (some .int) : Cond) ∈ lw_g := List.mem_filter.mpr ⟨List.mem_of_getElem? (i := 389) rfl, rfl⟩
theorem wm_323 : (Cond.methodLink RL 23 yX8_load : Cond) ∈ lw_g := List.mem_filter.mpr ⟨List.mem_of_getElem? (i := 390) (by decide +kernel), rfl⟩
theorem wm_324 : (Cond.instanceMethod yX8_load : Cond) ∈ lw_g := List.mem_filter.mpr ⟨List.mem_of_getElem? (i := 391) (by decide +kernel), rfl⟩
theorem wm_325 : (Cond.selects RX8 yX8_load yX8_load : Cond) ∈ lw_g := List.mem_filter.mpr ⟨List.mem_of_getElem? (i := 392) (by decide +kernel), rfl⟩
set_option maxRecDepth 100000 in
theorem wm_326 : (Cond.code yX8_load cX8_load 2 (some .int) : Cond) ∈ lw_g := List.mem_filter.mpr ⟨List.mem_of_getElem? (i := 393) rfl, rfl⟩
theorem wm_327 : (Cond.methodLink RX8 74 yX6_readInto : Cond) ∈ lw_g := List.mem_filter.mpr ⟨List.mem_of_getElem? (i := 394) (by decide +kernel), rfl⟩
theorem wm_328 : (Cond.instanceMethod yX6_readInto : Cond) ∈ lw_g := List.mem_filter.mpr ⟨List.mem_of_getElem? (i := 395) (by decide +kernel), rfl⟩
theorem wm_329 : (Cond.selects RX6 yX6_readInto yX6_readInto : Cond) ∈ lw_g := List.mem_filter.mpr ⟨List.mem_of_getElem? (i := 396) (by decide +kernel), rfl⟩
set_option maxRecDepth 100000 in
theorem wm_330 : (Cond.code yX6_readInto cX6_readInto 4 (some .int) : Cond) ∈ lw_g := List.mem_filter.mpr ⟨List.mem_of_getElem? (i := 397) rfl, rfl⟩
theorem wm_331 : (Cond.methodLink RX6 23 yX5_beginAnew : Cond) ∈ lw_g := List.mem_filter.mpr ⟨List.mem_of_getElem? (i := 398) (by decide +kernel), rfl⟩
theorem wm_332 : (Cond.methodLink RX6 31 yX6_readToken : Cond) ∈ lw_g := List.mem_filter.mpr ⟨List.mem_of_getElem? (i := 399) (by decide +kernel), rfl⟩
theorem wm_334 : (Cond.instanceMethod yX6_readToken : Cond) ∈ lw_g := List.mem_filter.mpr ⟨List.mem_of_getElem? (i := 401) (by decide +kernel), rfl⟩
set_option maxRecDepth 100000 in
theorem wm_335 : (Cond.code yX6_readToken cX6_readToken 1 none : Cond) ∈ lw_g := List.mem_filter.mpr ⟨List.mem_of_getElem? (i := 402) rfl, rfl⟩
theorem wm_336 : (Cond.methodLink RX6 136 yX6_isLetter : Cond) ∈ lw_g := List.mem_filter.mpr ⟨List.mem_of_getElem? (i := 403) (by decide +kernel), rfl⟩
theorem wm_337 : (Cond.static yX6_isLetter : Cond) ∈ lw_g := List.mem_filter.mpr ⟨List.mem_of_getElem? (i := 404) (by decide +kernel), rfl⟩
set_option maxRecDepth 100000 in
theorem wm_338 : (Cond.code yX6_isLetter cX6_isLetter 1 (some .boolean) : Cond) ∈ lw_g := List.mem_filter.mpr ⟨List.mem_of_getElem? (i := 405) rfl, rfl⟩
theorem wm_339 : (Cond.methodLink RX6 140 yX6_isDigit : Cond) ∈ lw_g := List.mem_filter.mpr ⟨List.mem_of_getElem? (i := 406) (by decide +kernel), rfl⟩
theorem wm_340 : (Cond.static yX6_isDigit : Cond) ∈ lw_g := List.mem_filter.mpr ⟨List.mem_of_getElem? (i := 407) (by decide +kernel), rfl⟩
set_option maxRecDepth 100000 in
theorem wm_341 : (Cond.code yX6_isDigit cX6_isDigit 1 (some .boolean) : Cond) ∈ lw_g := List.mem_filter.mpr ⟨List.mem_of_getElem? (i := 408) rfl, rfl⟩
theorem wm_342 : (Cond.methodLink RX6 143 yX6_readNumber : Cond) ∈ lw_g := List.mem_filter.mpr ⟨List.mem_of_getElem? (i := 409) (by decide +kernel), rfl⟩
theorem wm_344 : (Cond.instanceMethod yX6_readNumber : Cond) ∈ lw_g := List.mem_filter.mpr ⟨List.mem_of_getElem? (i := 411) (by decide +kernel), rfl⟩
set_option maxRecDepth 100000 in
theorem wm_345 : (Cond.code yX6_readNumber cX6_readNumber 2 none : Cond) ∈ lw_g := List.mem_filter.mpr ⟨List.mem_of_getElem? (i := 412) rfl, rfl⟩
theorem wm_346 : (Cond.methodLink RX6 37 yX6_kindOfItem : Cond) ∈ lw_g := List.mem_filter.mpr ⟨List.mem_of_getElem? (i := 413) (by decide +kernel), rfl⟩
theorem wm_348 : (Cond.instanceMethod yX6_kindOfItem : Cond) ∈ lw_g := List.mem_filter.mpr ⟨List.mem_of_getElem? (i := 415) (by decide +kernel), rfl⟩
set_option maxRecDepth 100000 in
theorem wm_349 : (Cond.code yX6_kindOfItem cX6_kindOfItem 1 (some .int) : Cond) ∈ lw_g := List.mem_filter.mpr ⟨List.mem_of_getElem? (i := 416) rfl, rfl⟩
theorem wm_350 : (Cond.stringRef RX6 146 "plan" : Cond) ∈ lw_tbl := List.mem_of_getElem? (i := 417) (by decide +kernel)
theorem wm_351 : (Cond.methodLink RX6 148 yX6_isWord : Cond) ∈ lw_g := List.mem_filter.mpr ⟨List.mem_of_getElem? (i := 418) (by decide +kernel), rfl⟩
theorem wm_353 : (Cond.instanceMethod yX6_isWord : Cond) ∈ lw_g := List.mem_filter.mpr ⟨List.mem_of_getElem? (i := 420) (by decide +kernel), rfl⟩
set_option maxRecDepth 100000 in
theorem wm_354 : (Cond.code yX6_isWord cX6_isWord 3 (some .boolean) : Cond) ∈ lw_g := List.mem_filter.mpr ⟨List.mem_of_getElem? (i := 421) rfl, rfl⟩
theorem wm_355 : (Cond.methodLink RX6 160 yJ0_length_8abf5 : Cond) ∈ lw_g := List.mem_filter.mpr ⟨List.mem_of_getElem? (i := 422) (by decide +kernel), rfl⟩
theorem wm_356 : (Cond.instanceMethod yJ0_length_8abf5 : Cond) ∈ lw_g := List.mem_filter.mpr ⟨List.mem_of_getElem? (i := 423) (by decide +kernel), rfl⟩
theorem wm_357 : (Cond.selects RJ0 yJ0_length_8abf5 yJ0_length_8abf5 : Cond) ∈ lw_g := List.mem_filter.mpr ⟨List.mem_of_getElem? (i := 424) (by decide +kernel), rfl⟩
set_option maxRecDepth 100000 in
theorem wm_358 : (Cond.code yJ0_length_8abf5 cJ0_length_8abf5 1 (some .int) : Cond) ∈ lw_g := List.mem_filter.mpr ⟨List.mem_of_getElem? (i := 425) rfl, rfl⟩
theorem wm_359 : (Cond.methodLink RJ0 335 yJ0_coder_7d493 : Cond) ∈ lw_g := List.mem_filter.mpr ⟨List.mem_of_getElem? (i := 426) (by decide +kernel), rfl⟩
theorem wm_360 : (Cond.instanceMethod yJ0_coder_7d493 : Cond) ∈ lw_g := List.mem_filter.mpr ⟨List.mem_of_getElem? (i := 427) (by decide +kernel), rfl⟩
theorem wm_361 : (Cond.selects RJ0 yJ0_coder_7d493 yJ0_coder_7d493 : Cond) ∈ lw_g := List.mem_filter.mpr ⟨List.mem_of_getElem? (i := 428) (by decide +kernel), rfl⟩
set_option maxRecDepth 100000 in
theorem wm_362 : (Cond.code yJ0_coder_7d493 cJ0_coder_7d493 1 (some .byte) : Cond) ∈ lw_g := List.mem_filter.mpr ⟨List.mem_of_getElem? (i := 429) rfl, rfl⟩
theorem wm_363 : (Cond.fieldLink RJ0 38 "java/lang/String" "COMPACT_STRINGS" "Z" : Cond) ∈ lw_g := List.mem_filter.mpr ⟨List.mem_of_getElem? (i := 430) (by decide +kernel), rfl⟩
theorem wm_365 : (Cond.methodLink RX6 164 yJ0_charAt_5068e : Cond) ∈ lw_g := List.mem_filter.mpr ⟨List.mem_of_getElem? (i := 432) (by decide +kernel), rfl⟩
theorem wm_366 : (Cond.instanceMethod yJ0_charAt_5068e : Cond) ∈ lw_g := List.mem_filter.mpr ⟨List.mem_of_getElem? (i := 433) (by decide +kernel), rfl⟩
theorem wm_367 : (Cond.selects RJ0 yJ0_charAt_5068e yJ0_charAt_5068e : Cond) ∈ lw_g := List.mem_filter.mpr ⟨List.mem_of_getElem? (i := 434) (by decide +kernel), rfl⟩
set_option maxRecDepth 100000 in
theorem wm_368 : (Cond.code yJ0_charAt_5068e cJ0_charAt_5068e 2 (some .char) : Cond) ∈ lw_g := List.mem_filter.mpr ⟨List.mem_of_getElem? (i := 435) rfl, rfl⟩
theorem wm_369 : (Cond.methodLink RJ0 492 yJ0_isLatin1_aae02 : Cond) ∈ lw_g := List.mem_filter.mpr ⟨List.mem_of_getElem? (i := 436) (by decide +kernel), rfl⟩
theorem wm_370 : (Cond.instanceMethod yJ0_isLatin1_aae02 : Cond) ∈ lw_g := List.mem_filter.mpr ⟨List.mem_of_getElem? (i := 437) (by decide +kernel), rfl⟩
theorem wm_371 : (Cond.selects RJ0 yJ0_isLatin1_aae02 yJ0_isLatin1_aae02 : Cond) ∈ lw_g := List.mem_filter.mpr ⟨List.mem_of_getElem? (i := 438) (by decide +kernel), rfl⟩
set_option maxRecDepth 100000 in
theorem wm_372 : (Cond.code yJ0_isLatin1_aae02 cJ0_isLatin1_aae02 1 (some .boolean) : Cond) ∈ lw_g := List.mem_filter.mpr ⟨List.mem_of_getElem? (i := 439) rfl, rfl⟩
theorem wm_373 : (Cond.methodLink RJ0 495 yJ1_charAt_3b067 : Cond) ∈ lw_g := List.mem_filter.mpr ⟨List.mem_of_getElem? (i := 440) (by decide +kernel), rfl⟩
theorem wm_374 : (Cond.static yJ1_charAt_3b067 : Cond) ∈ lw_g := List.mem_filter.mpr ⟨List.mem_of_getElem? (i := 441) (by decide +kernel), rfl⟩
set_option maxRecDepth 100000 in
theorem wm_375 : (Cond.code yJ1_charAt_3b067 cJ1_charAt_3b067 2 (some .char) : Cond) ∈ lw_g := List.mem_filter.mpr ⟨List.mem_of_getElem? (i := 442) rfl, rfl⟩
theorem wm_376 : (Cond.methodLink RJ1 9 yJ0_checkIndex_df160 : Cond) ∈ lw_g := List.mem_filter.mpr ⟨List.mem_of_getElem? (i := 443) (by decide +kernel), rfl⟩
theorem wm_377 : (Cond.static yJ0_checkIndex_df160 : Cond) ∈ lw_g := List.mem_filter.mpr ⟨List.mem_of_getElem? (i := 444) (by decide +kernel), rfl⟩
set_option maxRecDepth 100000 in
theorem wm_378 : (Cond.code yJ0_checkIndex_df160 cJ0_checkIndex_df160 2 none : Cond) ∈ lw_g := List.mem_filter.mpr ⟨List.mem_of_getElem? (i := 445) rfl, rfl⟩
theorem wm_379 : (Cond.fieldLink RJ0 1053 "jdk/internal/util/Preconditions" "SIOOBE_FORMATTER" "Ljava/util/function/BiFunction;" : Cond) ∈ lw_g := List.mem_filter.mpr ⟨List.mem_of_getElem? (i := 446) (by decide +kernel), rfl⟩
theorem wm_381 : (Cond.methodLink RJ0 1059 yJ3_checkIndex_8e157 : Cond) ∈ lw_g := List.mem_filter.mpr ⟨List.mem_of_getElem? (i := 448) (by decide +kernel), rfl⟩
theorem wm_382 : (Cond.static yJ3_checkIndex_8e157 : Cond) ∈ lw_g := List.mem_filter.mpr ⟨List.mem_of_getElem? (i := 449) (by decide +kernel), rfl⟩
set_option maxRecDepth 100000 in
theorem wm_383 : (Cond.code yJ3_checkIndex_8e157 cJ3_checkIndex_8e157 3 (some .int) : Cond) ∈ lw_g := List.mem_filter.mpr ⟨List.mem_of_getElem? (i := 450) rfl, rfl⟩
theorem wm_384 : (Cond.methodLink RJ0 498 yJ2_charAt_3b067 : Cond) ∈ lw_g := List.mem_filter.mpr ⟨List.mem_of_getElem? (i := 451) (by decide +kernel), rfl⟩
theorem wm_385 : (Cond.static yJ2_charAt_3b067 : Cond) ∈ lw_g := List.mem_filter.mpr ⟨List.mem_of_getElem? (i := 452) (by decide +kernel), rfl⟩
set_option maxRecDepth 100000 in
theorem wm_386 : (Cond.code yJ2_charAt_3b067 cJ2_charAt_3b067 2 (some .char) : Cond) ∈ lw_g := List.mem_filter.mpr ⟨List.mem_of_getElem? (i := 453) rfl, rfl⟩
theorem wm_387 : (Cond.methodLink RJ2 67 yJ2_checkIndex_2214a : Cond) ∈ lw_g := List.mem_filter.mpr ⟨List.mem_of_getElem? (i := 454) (by decide +kernel), rfl⟩
theorem wm_388 : (Cond.static yJ2_checkIndex_2214a : Cond) ∈ lw_g := List.mem_filter.mpr ⟨List.mem_of_getElem? (i := 455) (by decide +kernel), rfl⟩
set_option maxRecDepth 100000 in
theorem wm_389 : (Cond.code yJ2_checkIndex_2214a cJ2_checkIndex_2214a 2 none : Cond) ∈ lw_g := List.mem_filter.mpr ⟨List.mem_of_getElem? (i := 456) rfl, rfl⟩
theorem wm_390 : (Cond.methodLink RJ2 48 yJ2_length_9d52b : Cond) ∈ lw_g := List.mem_filter.mpr ⟨List.mem_of_getElem? (i := 457) (by decide +kernel), rfl⟩
theorem wm_391 : (Cond.static yJ2_length_9d52b : Cond) ∈ lw_g := List.mem_filter.mpr ⟨List.mem_of_getElem? (i := 458) (by decide +kernel), rfl⟩
set_option maxRecDepth 100000 in
theorem wm_392 : (Cond.code yJ2_length_9d52b cJ2_length_9d52b 1 (some .int) : Cond) ∈ lw_g := List.mem_filter.mpr ⟨List.mem_of_getElem? (i := 459) rfl, rfl⟩
theorem wm_393 : (Cond.methodLink RJ2 414 yJ0_checkIndex_df160 : Cond) ∈ lw_g := List.mem_filter.mpr ⟨List.mem_of_getElem? (i := 460) (by decide +kernel), rfl⟩
theorem wm_394 : (Cond.methodLink RJ2 71 yJ2_getChar_3b067 : Cond) ∈ lw_g := List.mem_filter.mpr ⟨List.mem_of_getElem? (i := 461) (by decide +kernel), rfl⟩
theorem wm_395 : (Cond.static yJ2_getChar_3b067 : Cond) ∈ lw_g := List.mem_filter.mpr ⟨List.mem_of_getElem? (i := 462) (by decide +kernel), rfl⟩
set_option maxRecDepth 100000 in
theorem wm_396 : (Cond.code yJ2_getChar_3b067 cJ2_getChar_3b067 2 (some .char) : Cond) ∈ lw_g := List.mem_filter.mpr ⟨List.mem_of_getElem? (i := 463) rfl, rfl⟩
theorem wm_397 : (Cond.fieldLink RJ2 44 "java/lang/StringUTF16" "$assertionsDisabled" "Z" : Cond) ∈ lw_g := List.mem_filter.mpr ⟨List.mem_of_getElem? (i := 464) (by decide +kernel), rfl⟩
theorem wm_399 : (Cond.fieldLink RJ2 59 "java/lang/StringUTF16" "HI_BYTE_SHIFT" "I" : Cond) ∈ lw_g := List.mem_filter.mpr ⟨List.mem_of_getElem? (i := 466) (by decide +kernel), rfl⟩
theorem wm_401 : (Cond.fieldLink RJ2 63 "java/lang/StringUTF16" "LO_BYTE_SHIFT" "I" : Cond) ∈ lw_g := List.mem_filter.mpr ⟨List.mem_of_getElem? (i := 468) (by decide +kernel), rfl⟩
theorem wm_403 : (Cond.stringRef RX6 152 "weight" : Cond) ∈ lw_tbl := List.mem_of_getElem? (i := 470) (by decide +kernel)
theorem wm_404 : (Cond.stringRef RX6 153 "water" : Cond) ∈ lw_tbl := List.mem_of_getElem? (i := 471) (by decide +kernel)
theorem wm_405 : (Cond.stringRef RX6 154 "stiff" : Cond) ∈ lw_tbl := List.mem_of_getElem? (i := 472) (by decide +kernel)
theorem wm_406 : (Cond.stringRef RX6 156 "layer" : Cond) ∈ lw_tbl := List.mem_of_getElem? (i := 473) (by decide +kernel)
theorem wm_407 : (Cond.stringRef RX6 158 "boulder" : Cond) ∈ lw_tbl := List.mem_of_getElem? (i := 474) (by decide +kernel)
theorem wm_408 : (Cond.methodLink RX6 41 yX6_mayBegin : Cond) ∈ lw_g := List.mem_filter.mpr ⟨List.mem_of_getElem? (i := 475) (by decide +kernel), rfl⟩
theorem wm_410 : (Cond.instanceMethod yX6_mayBegin : Cond) ∈ lw_g := List.mem_filter.mpr ⟨List.mem_of_getElem? (i := 477) (by decide +kernel), rfl⟩
set_option maxRecDepth 100000 in
theorem wm_411 : (Cond.code yX6_mayBegin cX6_mayBegin 4 (some .boolean) : Cond) ∈ lw_g := List.mem_filter.mpr ⟨List.mem_of_getElem? (i := 478) rfl, rfl⟩
theorem wm_412 : (Cond.methodLink RX6 70 yX7_isFull : Cond) ∈ lw_g := List.mem_filter.mpr ⟨List.mem_of_getElem? (i := 479) (by decide +kernel), rfl⟩
theorem wm_413 : (Cond.instanceMethod yX7_isFull : Cond) ∈ lw_g := List.mem_filter.mpr ⟨List.mem_of_getElem? (i := 480) (by decide +kernel), rfl⟩
theorem wm_414 : (Cond.selects RX7 yX7_isFull yX7_isFull : Cond) ∈ lw_g := List.mem_filter.mpr ⟨List.mem_of_getElem? (i := 481) (by decide +kernel), rfl⟩
set_option maxRecDepth 100000 in
theorem wm_415 : (Cond.code yX7_isFull cX7_isFull 1 (some .boolean) : Cond) ∈ lw_g := List.mem_filter.mpr ⟨List.mem_of_getElem? (i := 482) rfl, rfl⟩
theorem wm_416 : (Cond.methodLink RX6 45 yX6_readValues : Cond) ∈ lw_g := List.mem_filter.mpr ⟨List.mem_of_getElem? (i := 483) (by decide +kernel), rfl⟩
theorem wm_418 : (Cond.instanceMethod yX6_readValues : Cond) ∈ lw_g := List.mem_filter.mpr ⟨List.mem_of_getElem? (i := 485) (by decide +kernel), rfl⟩
set_option maxRecDepth 100000 in
theorem wm_419 : (Cond.code yX6_readValues cX6_readValues 5 (some .boolean) : Cond) ∈ lw_g := List.mem_filter.mpr ⟨List.mem_of_getElem? (i := 486) rfl, rfl⟩
theorem wm_420 : (Cond.methodLink RX6 84 yX6_isAllowed : Cond) ∈ lw_g := List.mem_filter.mpr ⟨List.mem_of_getElem? (i := 487) (by decide +kernel), rfl⟩
theorem wm_422 : (Cond.instanceMethod yX6_isAllowed : Cond) ∈ lw_g := List.mem_filter.mpr ⟨List.mem_of_getElem? (i := 489) (by decide +kernel), rfl⟩
set_option maxRecDepth 100000 in
theorem wm_423 : (Cond.code yX6_isAllowed cX6_isAllowed 4 (some .boolean) : Cond) ∈ lw_g := List.mem_filter.mpr ⟨List.mem_of_getElem? (i := 490) rfl, rfl⟩
theorem wm_424 : (Cond.methodLinkNest RX6 90 yX8_isWithin RX8 : Cond) ∈ lw_tbl := List.mem_of_getElem? (i := 491) (by decide +kernel)
theorem wm_425 : (Cond.methodLink RX6 94 yX6_isAllowedInLayer : Cond) ∈ lw_g := List.mem_filter.mpr ⟨List.mem_of_getElem? (i := 492) (by decide +kernel), rfl⟩
theorem wm_427 : (Cond.instanceMethod yX6_isAllowedInLayer : Cond) ∈ lw_g := List.mem_filter.mpr ⟨List.mem_of_getElem? (i := 494) (by decide +kernel), rfl⟩
set_option maxRecDepth 100000 in
theorem wm_428 : (Cond.code yX6_isAllowedInLayer cX6_isAllowedInLayer 2 (some .boolean) : Cond) ∈ lw_g := List.mem_filter.mpr ⟨List.mem_of_getElem? (i := 495) rfl, rfl⟩
theorem wm_429 : (Cond.methodLink RX6 98 yX6_isAllowedInBoulder : Cond) ∈ lw_g := List.mem_filter.mpr ⟨List.mem_of_getElem? (i := 496) (by decide +kernel), rfl⟩
theorem wm_431 : (Cond.instanceMethod yX6_isAllowedInBoulder : Cond) ∈ lw_g := List.mem_filter.mpr ⟨List.mem_of_getElem? (i := 498) (by decide +kernel), rfl⟩
set_option maxRecDepth 100000 in
theorem wm_432 : (Cond.code yX6_isAllowedInBoulder cX6_isAllowedInBoulder 3 (some .boolean) : Cond) ∈ lw_g := List.mem_filter.mpr ⟨List.mem_of_getElem? (i := 499) rfl, rfl⟩
theorem wm_433 : (Cond.methodLink RX6 107 yX6_cellInValues : Cond) ∈ lw_g := List.mem_filter.mpr ⟨List.mem_of_getElem? (i := 500) (by decide +kernel), rfl⟩
theorem wm_435 : (Cond.instanceMethod yX6_cellInValues : Cond) ∈ lw_g := List.mem_filter.mpr ⟨List.mem_of_getElem? (i := 502) (by decide +kernel), rfl⟩
set_option maxRecDepth 100000 in
theorem wm_436 : (Cond.code yX6_cellInValues cX6_cellInValues 2 (some .int) : Cond) ∈ lw_g := List.mem_filter.mpr ⟨List.mem_of_getElem? (i := 503) rfl, rfl⟩
theorem wm_437 : (Cond.methodLink RX6 111 yX0_isTaken : Cond) ∈ lw_g := List.mem_filter.mpr ⟨List.mem_of_getElem? (i := 504) (by decide +kernel), rfl⟩
theorem wm_438 : (Cond.instanceMethod yX0_isTaken : Cond) ∈ lw_g := List.mem_filter.mpr ⟨List.mem_of_getElem? (i := 505) (by decide +kernel), rfl⟩
theorem wm_439 : (Cond.selects RX0 yX0_isTaken yX0_isTaken : Cond) ∈ lw_g := List.mem_filter.mpr ⟨List.mem_of_getElem? (i := 506) (by decide +kernel), rfl⟩
set_option maxRecDepth 100000 in
theorem wm_440 : (Cond.code yX0_isTaken cX0_isTaken 4 (some .boolean) : Cond) ∈ lw_g := List.mem_filter.mpr ⟨List.mem_of_getElem? (i := 507) rfl, rfl⟩
theorem wm_441 : (Cond.methodLink RX0 20 yX7_get : Cond) ∈ lw_g := List.mem_filter.mpr ⟨List.mem_of_getElem? (i := 508) (by decide +kernel), rfl⟩
theorem wm_442 : (Cond.instanceMethod yX7_get : Cond) ∈ lw_g := List.mem_filter.mpr ⟨List.mem_of_getElem? (i := 509) (by decide +kernel), rfl⟩
theorem wm_443 : (Cond.selects RX7 yX7_get yX7_get : Cond) ∈ lw_g := List.mem_filter.mpr ⟨List.mem_of_getElem? (i := 510) (by decide +kernel), rfl⟩
set_option maxRecDepth 100000 in
theorem wm_444 : (Cond.code yX7_get cX7_get 3 (some .int) : Cond) ∈ lw_g := List.mem_filter.mpr ⟨List.mem_of_getElem? (i := 511) rfl, rfl⟩
theorem wm_445 : (Cond.constant RX7 28 (-1000009) : Cond) ∈ lw_g := List.mem_filter.mpr ⟨List.mem_of_getElem? (i := 512) (by decide +kernel), rfl⟩
theorem wm_446 : (Cond.methodLink RX6 49 yX6_readSemicolon : Cond) ∈ lw_g := List.mem_filter.mpr ⟨List.mem_of_getElem? (i := 513) (by decide +kernel), rfl⟩
theorem wm_448 : (Cond.instanceMethod yX6_readSemicolon : Cond) ∈ lw_g := List.mem_filter.mpr ⟨List.mem_of_getElem? (i := 515) (by decide +kernel), rfl⟩
set_option maxRecDepth 100000 in
theorem wm_449 : (Cond.code yX6_readSemicolon cX6_readSemicolon 1 (some .boolean) : Cond) ∈ lw_g := List.mem_filter.mpr ⟨List.mem_of_getElem? (i := 516) rfl, rfl⟩
theorem wm_450 : (Cond.methodLink RX6 56 yX6_enter : Cond) ∈ lw_g := List.mem_filter.mpr ⟨List.mem_of_getElem? (i := 517) (by decide +kernel), rfl⟩
theorem wm_452 : (Cond.instanceMethod yX6_enter : Cond) ∈ lw_g := List.mem_filter.mpr ⟨List.mem_of_getElem? (i := 519) (by decide +kernel), rfl⟩
set_option maxRecDepth 100000 in
theorem wm_453 : (Cond.code yX6_enter cX6_enter 3 none : Cond) ∈ lw_g := List.mem_filter.mpr ⟨List.mem_of_getElem? (i := 520) rfl, rfl⟩
theorem wm_454 : (Cond.methodLink RX6 115 yX5_replaceCaisson : Cond) ∈ lw_g := List.mem_filter.mpr ⟨List.mem_of_getElem? (i := 521) (by decide +kernel), rfl⟩
theorem wm_455 : (Cond.methodLink RX6 128 yX2_addBelow : Cond) ∈ lw_g := List.mem_filter.mpr ⟨List.mem_of_getElem? (i := 522) (by decide +kernel), rfl⟩
theorem wm_456 : (Cond.instanceMethod yX2_addBelow : Cond) ∈ lw_g := List.mem_filter.mpr ⟨List.mem_of_getElem? (i := 523) (by decide +kernel), rfl⟩
theorem wm_457 : (Cond.selects RX2 yX2_addBelow yX2_addBelow : Cond) ∈ lw_g := List.mem_filter.mpr ⟨List.mem_of_getElem? (i := 524) (by decide +kernel), rfl⟩
set_option maxRecDepth 100000 in
theorem wm_458 : (Cond.code yX2_addBelow cX2_addBelow 5 none : Cond) ∈ lw_g := List.mem_filter.mpr ⟨List.mem_of_getElem? (i := 525) rfl, rfl⟩
theorem wm_459 : (Cond.methodLink RX2 24 yX7_get : Cond) ∈ lw_g := List.mem_filter.mpr ⟨List.mem_of_getElem? (i := 526) (by decide +kernel), rfl⟩
theorem wm_460 : (Cond.methodLink RX2 28 yX7_insert : Cond) ∈ lw_g := List.mem_filter.mpr ⟨List.mem_of_getElem? (i := 527) (by decide +kernel), rfl⟩
theorem wm_461 : (Cond.instanceMethod yX7_insert : Cond) ∈ lw_g := List.mem_filter.mpr ⟨List.mem_of_getElem? (i := 528) (by decide +kernel), rfl⟩
theorem wm_462 : (Cond.selects RX7 yX7_insert yX7_insert : Cond) ∈ lw_g := List.mem_filter.mpr ⟨List.mem_of_getElem? (i := 529) (by decide +kernel), rfl⟩
set_option maxRecDepth 100000 in
theorem wm_463 : (Cond.code yX7_insert cX7_insert 7 none : Cond) ∈ lw_g := List.mem_filter.mpr ⟨List.mem_of_getElem? (i := 530) rfl, rfl⟩
theorem wm_464 : (Cond.methodLink RX7 29 Lib.Math.min.name : Cond) ∈ lw_g := List.mem_filter.mpr ⟨List.mem_of_getElem? (i := 531) (by decide +kernel), rfl⟩
theorem wm_465 : (Cond.static Lib.Math.min.name : Cond) ∈ lw_g := List.mem_filter.mpr ⟨List.mem_of_getElem? (i := 532) (by decide +kernel), rfl⟩
set_option maxRecDepth 100000 in
theorem wm_466 : (Cond.code Lib.Math.min.name Lib.Math.min.code 2 (some .int) : Cond) ∈ lw_g := List.mem_filter.mpr ⟨List.mem_of_getElem? (i := 533) rfl, rfl⟩
theorem wm_467 : (Cond.methodLink RX7 32 arraycopyName : Cond) ∈ lw_g := List.mem_filter.mpr ⟨List.mem_of_getElem? (i := 534) (by decide +kernel), rfl⟩
theorem wm_468 : (Cond.static arraycopyName : Cond) ∈ lw_g := List.mem_filter.mpr ⟨List.mem_of_getElem? (i := 535) (by decide +kernel), rfl⟩
theorem wm_469 : (Cond.native arraycopyName : Cond) ∈ lw_g := List.mem_filter.mpr ⟨List.mem_of_getElem? (i := 536) (by decide +kernel), rfl⟩
theorem wm_470 : (Cond.methodLink RX6 132 yX0_place : Cond) ∈ lw_g := List.mem_filter.mpr ⟨List.mem_of_getElem? (i := 537) (by decide +kernel), rfl⟩
theorem wm_471 : (Cond.instanceMethod yX0_place : Cond) ∈ lw_g := List.mem_filter.mpr ⟨List.mem_of_getElem? (i := 538) (by decide +kernel), rfl⟩
theorem wm_472 : (Cond.selects RX0 yX0_place yX0_place : Cond) ∈ lw_g := List.mem_filter.mpr ⟨List.mem_of_getElem? (i := 539) (by decide +kernel), rfl⟩
set_option maxRecDepth 100000 in
theorem wm_473 : (Cond.code yX0_place cX0_place 5 (some .int) : Cond) ∈ lw_g := List.mem_filter.mpr ⟨List.mem_of_getElem? (i := 540) rfl, rfl⟩
theorem wm_474 : (Cond.methodLink RX0 28 yX0_rankOf : Cond) ∈ lw_g := List.mem_filter.mpr ⟨List.mem_of_getElem? (i := 541) (by decide +kernel), rfl⟩
theorem wm_476 : (Cond.instanceMethod yX0_rankOf : Cond) ∈ lw_g := List.mem_filter.mpr ⟨List.mem_of_getElem? (i := 543) (by decide +kernel), rfl⟩
set_option maxRecDepth 100000 in
theorem wm_477 : (Cond.code yX0_rankOf cX0_rankOf 6 (some .int) : Cond) ∈ lw_g := List.mem_filter.mpr ⟨List.mem_of_getElem? (i := 544) rfl, rfl⟩
theorem wm_478 : (Cond.methodLink RX0 32 yX7_insert : Cond) ∈ lw_g := List.mem_filter.mpr ⟨List.mem_of_getElem? (i := 545) (by decide +kernel), rfl⟩
theorem wm_479 : (Cond.methodLink RX8 78 yX3_save : Cond) ∈ lw_g := List.mem_filter.mpr ⟨List.mem_of_getElem? (i := 546) (by decide +kernel), rfl⟩
theorem wm_480 : (Cond.instanceMethod yX3_save : Cond) ∈ lw_g := List.mem_filter.mpr ⟨List.mem_of_getElem? (i := 547) (by decide +kernel), rfl⟩
theorem wm_481 : (Cond.selects RX3 yX3_save yX3_save : Cond) ∈ lw_g := List.mem_filter.mpr ⟨List.mem_of_getElem? (i := 548) (by decide +kernel), rfl⟩
set_option maxRecDepth 100000 in
theorem wm_482 : (Cond.code yX3_save cX3_save 2 none : Cond) ∈ lw_g := List.mem_filter.mpr ⟨List.mem_of_getElem? (i := 549) rfl, rfl⟩
theorem wm_483 : (Cond.methodLink RX3 25 yJ9_floorMod_7cf53 : Cond) ∈ lw_g := List.mem_filter.mpr ⟨List.mem_of_getElem? (i := 550) (by decide +kernel), rfl⟩
theorem wm_484 : (Cond.static yJ9_floorMod_7cf53 : Cond) ∈ lw_g := List.mem_filter.mpr ⟨List.mem_of_getElem? (i := 551) (by decide +kernel), rfl⟩
set_option maxRecDepth 100000 in
theorem wm_485 : (Cond.code yJ9_floorMod_7cf53 cJ9_floorMod_7cf53 3 (some .int) : Cond) ∈ lw_g := List.mem_filter.mpr ⟨List.mem_of_getElem? (i := 552) rfl, rfl⟩
theorem wm_486 : (Cond.methodLink RX3 31 yX5_copyFrom : Cond) ∈ lw_g := List.mem_filter.mpr ⟨List.mem_of_getElem? (i := 553) (by decide +kernel), rfl⟩
theorem wm_487 : (Cond.instanceMethod yX5_copyFrom : Cond) ∈ lw_g := List.mem_filter.mpr ⟨List.mem_of_getElem? (i := 554) (by decide +kernel), rfl⟩
theorem wm_488 : (Cond.selects RX5 yX5_copyFrom yX5_copyFrom : Cond) ∈ lw_g := List.mem_filter.mpr ⟨List.mem_of_getElem? (i := 555) (by decide +kernel), rfl⟩
set_option maxRecDepth 100000 in
theorem wm_489 : (Cond.code yX5_copyFrom cX5_copyFrom 2 none : Cond) ∈ lw_g := List.mem_filter.mpr ⟨List.mem_of_getElem? (i := 556) rfl, rfl⟩
theorem wm_490 : (Cond.methodLink RX5 81 arraycopyName : Cond) ∈ lw_g := List.mem_filter.mpr ⟨List.mem_of_getElem? (i := 557) (by decide +kernel), rfl⟩
theorem wm_491 : (Cond.methodLink RX5 87 yX4_copyFrom : Cond) ∈ lw_g := List.mem_filter.mpr ⟨List.mem_of_getElem? (i := 558) (by decide +kernel), rfl⟩
theorem wm_492 : (Cond.instanceMethod yX4_copyFrom : Cond) ∈ lw_g := List.mem_filter.mpr ⟨List.mem_of_getElem? (i := 559) (by decide +kernel), rfl⟩
theorem wm_493 : (Cond.selects RX4 yX4_copyFrom yX4_copyFrom : Cond) ∈ lw_g := List.mem_filter.mpr ⟨List.mem_of_getElem? (i := 560) (by decide +kernel), rfl⟩
set_option maxRecDepth 100000 in
theorem wm_494 : (Cond.code yX4_copyFrom cX4_copyFrom 2 none : Cond) ∈ lw_g := List.mem_filter.mpr ⟨List.mem_of_getElem? (i := 561) rfl, rfl⟩
theorem wm_495 : (Cond.methodLink RX4 31 arraycopyName : Cond) ∈ lw_g := List.mem_filter.mpr ⟨List.mem_of_getElem? (i := 562) (by decide +kernel), rfl⟩
theorem wm_496 : (Cond.methodLink RX5 91 yX7_copyFrom : Cond) ∈ lw_g := List.mem_filter.mpr ⟨List.mem_of_getElem? (i := 563) (by decide +kernel), rfl⟩
theorem wm_497 : (Cond.instanceMethod yX7_copyFrom : Cond) ∈ lw_g := List.mem_filter.mpr ⟨List.mem_of_getElem? (i := 564) (by decide +kernel), rfl⟩
theorem wm_498 : (Cond.selects RX7 yX7_copyFrom yX7_copyFrom : Cond) ∈ lw_g := List.mem_filter.mpr ⟨List.mem_of_getElem? (i := 565) (by decide +kernel), rfl⟩
set_option maxRecDepth 100000 in
theorem wm_499 : (Cond.code yX7_copyFrom cX7_copyFrom 3 none : Cond) ∈ lw_g := List.mem_filter.mpr ⟨List.mem_of_getElem? (i := 566) rfl, rfl⟩
theorem wm_500 : (Cond.methodLink RX3 35 Lib.Math.min.name : Cond) ∈ lw_g := List.mem_filter.mpr ⟨List.mem_of_getElem? (i := 567) (by decide +kernel), rfl⟩
theorem wm_501 : (Cond.methodLink RX8 82 yX5_copyFrom : Cond) ∈ lw_g := List.mem_filter.mpr ⟨List.mem_of_getElem? (i := 568) (by decide +kernel), rfl⟩
theorem wm_502 : (Cond.arrayClass .byte : Cond) ∈ lw_g := List.mem_filter.mpr ⟨List.mem_of_getElem? (i := 569) (by decide +kernel), rfl⟩
theorem wm_503 : (Cond.methodLink RL 27 yX8_resize : Cond) ∈ lw_g := List.mem_filter.mpr ⟨List.mem_of_getElem? (i := 570) (by decide +kernel), rfl⟩
theorem wm_504 : (Cond.instanceMethod yX8_resize : Cond) ∈ lw_g := List.mem_filter.mpr ⟨List.mem_of_getElem? (i := 571) (by decide +kernel), rfl⟩
theorem wm_505 : (Cond.selects RX8 yX8_resize yX8_resize : Cond) ∈ lw_g := List.mem_filter.mpr ⟨List.mem_of_getElem? (i := 572) (by decide +kernel), rfl⟩
set_option maxRecDepth 100000 in
theorem wm_506 : (Cond.code yX8_resize cX8_resize 3 (some .int) : Cond) ∈ lw_g := List.mem_filter.mpr ⟨List.mem_of_getElem? (i := 573) rfl, rfl⟩
theorem wm_507 : (Cond.methodLink RX8 85 yX5_replaceCaisson : Cond) ∈ lw_g := List.mem_filter.mpr ⟨List.mem_of_getElem? (i := 574) (by decide +kernel), rfl⟩
theorem wm_508 : (Cond.methodLink RL 32 yX8_setWeight : Cond) ∈ lw_g := List.mem_filter.mpr ⟨List.mem_of_getElem? (i := 575) (by decide +kernel), rfl⟩
theorem wm_509 : (Cond.instanceMethod yX8_setWeight : Cond) ∈ lw_g := List.mem_filter.mpr ⟨List.mem_of_getElem? (i := 576) (by decide +kernel), rfl⟩
theorem wm_510 : (Cond.selects RX8 yX8_setWeight yX8_setWeight : Cond) ∈ lw_g := List.mem_filter.mpr ⟨List.mem_of_getElem? (i := 577) (by decide +kernel), rfl⟩
set_option maxRecDepth 100000 in
theorem wm_511 : (Cond.code yX8_setWeight cX8_setWeight 3 (some .int) : Cond) ∈ lw_g := List.mem_filter.mpr ⟨List.mem_of_getElem? (i := 578) rfl, rfl⟩
theorem wm_512 : (Cond.methodLink RL 36 yX8_setStiffness : Cond) ∈ lw_g := List.mem_filter.mpr ⟨List.mem_of_getElem? (i := 579) (by decide +kernel), rfl⟩
theorem wm_513 : (Cond.instanceMethod yX8_setStiffness : Cond) ∈ lw_g := List.mem_filter.mpr ⟨List.mem_of_getElem? (i := 580) (by decide +kernel), rfl⟩
theorem wm_514 : (Cond.selects RX8 yX8_setStiffness yX8_setStiffness : Cond) ∈ lw_g := List.mem_filter.mpr ⟨List.mem_of_getElem? (i := 581) (by decide +kernel), rfl⟩
set_option maxRecDepth 100000 in
theorem wm_515 : (Cond.code yX8_setStiffness cX8_setStiffness 3 (some .int) : Cond) ∈ lw_g := List.mem_filter.mpr ⟨List.mem_of_getElem? (i := 582) rfl, rfl⟩
theorem wm_516 : (Cond.methodLink RL 40 yX8_addLayer : Cond) ∈ lw_g := List.mem_filter.mpr ⟨List.mem_of_getElem? (i := 583) (by decide +kernel), rfl⟩
theorem wm_517 : (Cond.instanceMethod yX8_addLayer : Cond) ∈ lw_g := List.mem_filter.mpr ⟨List.mem_of_getElem? (i := 584) (by decide +kernel), rfl⟩
theorem wm_518 : (Cond.selects RX8 yX8_addLayer yX8_addLayer : Cond) ∈ lw_g := List.mem_filter.mpr ⟨List.mem_of_getElem? (i := 585) (by decide +kernel), rfl⟩
set_option maxRecDepth 100000 in
theorem wm_519 : (Cond.code yX8_addLayer cX8_addLayer 4 (some .int) : Cond) ∈ lw_g := List.mem_filter.mpr ⟨List.mem_of_getElem? (i := 586) rfl, rfl⟩
theorem wm_520 : (Cond.methodLink RX8 104 yX7_isFull : Cond) ∈ lw_g := List.mem_filter.mpr ⟨List.mem_of_getElem? (i := 587) (by decide +kernel), rfl⟩
theorem wm_521 : (Cond.methodLink RX8 108 yX2_addBelow : Cond) ∈ lw_g := List.mem_filter.mpr ⟨List.mem_of_getElem? (i := 588) (by decide +kernel), rfl⟩
theorem wm_522 : (Cond.methodLink RL 45 yX8_addBoulder : Cond) ∈ lw_g := List.mem_filter.mpr ⟨List.mem_of_getElem? (i := 589) (by decide +kernel), rfl⟩
theorem wm_523 : (Cond.instanceMethod yX8_addBoulder : Cond) ∈ lw_g := List.mem_filter.mpr ⟨List.mem_of_getElem? (i := 590) (by decide +kernel), rfl⟩
theorem wm_524 : (Cond.selects RX8 yX8_addBoulder yX8_addBoulder : Cond) ∈ lw_g := List.mem_filter.mpr ⟨List.mem_of_getElem? (i := 591) (by decide +kernel), rfl⟩
set_option maxRecDepth 100000 in
theorem wm_525 : (Cond.code yX8_addBoulder cX8_addBoulder 4 (some .int) : Cond) ∈ lw_g := List.mem_filter.mpr ⟨List.mem_of_getElem? (i := 592) rfl, rfl⟩
theorem wm_526 : (Cond.methodLink RX8 115 yX5_isCell : Cond) ∈ lw_g := List.mem_filter.mpr ⟨List.mem_of_getElem? (i := 593) (by decide +kernel), rfl⟩
theorem wm_527 : (Cond.instanceMethod yX5_isCell : Cond) ∈ lw_g := List.mem_filter.mpr ⟨List.mem_of_getElem? (i := 594) (by decide +kernel), rfl⟩
theorem wm_528 : (Cond.selects RX5 yX5_isCell yX5_isCell : Cond) ∈ lw_g := List.mem_filter.mpr ⟨List.mem_of_getElem? (i := 595) (by decide +kernel), rfl⟩
set_option maxRecDepth 100000 in
theorem wm_529 : (Cond.code yX5_isCell cX5_isCell 2 (some .boolean) : Cond) ∈ lw_g := List.mem_filter.mpr ⟨List.mem_of_getElem? (i := 596) rfl, rfl⟩
theorem wm_530 : (Cond.methodLink RX8 123 yX0_isTaken : Cond) ∈ lw_g := List.mem_filter.mpr ⟨List.mem_of_getElem? (i := 597) (by decide +kernel), rfl⟩
theorem wm_531 : (Cond.constant RX8 129 (-1000002) : Cond) ∈ lw_g := List.mem_filter.mpr ⟨List.mem_of_getElem? (i := 598) (by decide +kernel), rfl⟩
theorem wm_532 : (Cond.methodLink RX8 133 yX0_place : Cond) ∈ lw_g := List.mem_filter.mpr ⟨List.mem_of_getElem? (i := 599) (by decide +kernel), rfl⟩
theorem wm_533 : (Cond.methodLink RL 49 yX8_ground : Cond) ∈ lw_g := List.mem_filter.mpr ⟨List.mem_of_getElem? (i := 600) (by decide +kernel), rfl⟩
theorem wm_534 : (Cond.instanceMethod yX8_ground : Cond) ∈ lw_g := List.mem_filter.mpr ⟨List.mem_of_getElem? (i := 601) (by decide +kernel), rfl⟩
theorem wm_535 : (Cond.selects RX8 yX8_ground yX8_ground : Cond) ∈ lw_g := List.mem_filter.mpr ⟨List.mem_of_getElem? (i := 602) (by decide +kernel), rfl⟩
set_option maxRecDepth 100000 in
theorem wm_536 : (Cond.code yX8_ground cX8_ground 3 (some .int) : Cond) ∈ lw_g := List.mem_filter.mpr ⟨List.mem_of_getElem? (i := 603) rfl, rfl⟩
theorem wm_537 : (Cond.methodLink RX8 137 yX2_strengthAt : Cond) ∈ lw_g := List.mem_filter.mpr ⟨List.mem_of_getElem? (i := 604) (by decide +kernel), rfl⟩
theorem wm_538 : (Cond.instanceMethod yX2_strengthAt : Cond) ∈ lw_g := List.mem_filter.mpr ⟨List.mem_of_getElem? (i := 605) (by decide +kernel), rfl⟩
theorem wm_539 : (Cond.selects RX2 yX2_strengthAt yX2_strengthAt : Cond) ∈ lw_g := List.mem_filter.mpr ⟨List.mem_of_getElem? (i := 606) (by decide +kernel), rfl⟩
set_option maxRecDepth 100000 in
theorem wm_540 : (Cond.code yX2_strengthAt cX2_strengthAt 3 (some .int) : Cond) ∈ lw_g := List.mem_filter.mpr ⟨List.mem_of_getElem? (i := 607) rfl, rfl⟩
theorem wm_541 : (Cond.methodLink RX2 32 yX2_layerAt : Cond) ∈ lw_g := List.mem_filter.mpr ⟨List.mem_of_getElem? (i := 608) (by decide +kernel), rfl⟩
theorem wm_543 : (Cond.instanceMethod yX2_layerAt : Cond) ∈ lw_g := List.mem_filter.mpr ⟨List.mem_of_getElem? (i := 610) (by decide +kernel), rfl⟩
set_option maxRecDepth 100000 in
theorem wm_544 : (Cond.code yX2_layerAt cX2_layerAt 3 (some .int) : Cond) ∈ lw_g := List.mem_filter.mpr ⟨List.mem_of_getElem? (i := 611) rfl, rfl⟩
theorem wm_545 : (Cond.constant RX2 36 (-1000009) : Cond) ∈ lw_g := List.mem_filter.mpr ⟨List.mem_of_getElem? (i := 612) (by decide +kernel), rfl⟩
theorem wm_546 : (Cond.methodLink RX8 141 yX2_frictionAt : Cond) ∈ lw_g := List.mem_filter.mpr ⟨List.mem_of_getElem? (i := 613) (by decide +kernel), rfl⟩
theorem wm_547 : (Cond.instanceMethod yX2_frictionAt : Cond) ∈ lw_g := List.mem_filter.mpr ⟨List.mem_of_getElem? (i := 614) (by decide +kernel), rfl⟩
theorem wm_548 : (Cond.selects RX2 yX2_frictionAt yX2_frictionAt : Cond) ∈ lw_g := List.mem_filter.mpr ⟨List.mem_of_getElem? (i := 615) (by decide +kernel), rfl⟩
set_option maxRecDepth 100000 in
theorem wm_549 : (Cond.code yX2_frictionAt cX2_frictionAt 3 (some .int) : Cond) ∈ lw_g := List.mem_filter.mpr ⟨List.mem_of_getElem? (i := 616) rfl, rfl⟩
theorem wm_550 : (Cond.methodLink RL 53 yX8_boulder : Cond) ∈ lw_g := List.mem_filter.mpr ⟨List.mem_of_getElem? (i := 617) (by decide +kernel), rfl⟩
theorem wm_551 : (Cond.instanceMethod yX8_boulder : Cond) ∈ lw_g := List.mem_filter.mpr ⟨List.mem_of_getElem? (i := 618) (by decide +kernel), rfl⟩
theorem wm_552 : (Cond.selects RX8 yX8_boulder yX8_boulder : Cond) ∈ lw_g := List.mem_filter.mpr ⟨List.mem_of_getElem? (i := 619) (by decide +kernel), rfl⟩
set_option maxRecDepth 100000 in
theorem wm_553 : (Cond.code yX8_boulder cX8_boulder 3 (some .int) : Cond) ∈ lw_g := List.mem_filter.mpr ⟨List.mem_of_getElem? (i := 620) rfl, rfl⟩
theorem wm_554 : (Cond.methodLink RX8 144 yX7_has : Cond) ∈ lw_g := List.mem_filter.mpr ⟨List.mem_of_getElem? (i := 621) (by decide +kernel), rfl⟩
theorem wm_555 : (Cond.instanceMethod yX7_has : Cond) ∈ lw_g := List.mem_filter.mpr ⟨List.mem_of_getElem? (i := 622) (by decide +kernel), rfl⟩
theorem wm_556 : (Cond.selects RX7 yX7_has yX7_has : Cond) ∈ lw_g := List.mem_filter.mpr ⟨List.mem_of_getElem? (i := 623) (by decide +kernel), rfl⟩
set_option maxRecDepth 100000 in
theorem wm_557 : (Cond.code yX7_has cX7_has 2 (some .boolean) : Cond) ∈ lw_g := List.mem_filter.mpr ⟨List.mem_of_getElem? (i := 624) rfl, rfl⟩
theorem wm_558 : (Cond.methodLink RX8 147 yX7_get : Cond) ∈ lw_g := List.mem_filter.mpr ⟨List.mem_of_getElem? (i := 625) (by decide +kernel), rfl⟩
theorem wm_559 : (Cond.methodLink RL 57 yX8_state : Cond) ∈ lw_g := List.mem_filter.mpr ⟨List.mem_of_getElem? (i := 626) (by decide +kernel), rfl⟩
theorem wm_560 : (Cond.instanceMethod yX8_state : Cond) ∈ lw_g := List.mem_filter.mpr ⟨List.mem_of_getElem? (i := 627) (by decide +kernel), rfl⟩
theorem wm_561 : (Cond.selects RX8 yX8_state yX8_state : Cond) ∈ lw_g := List.mem_filter.mpr ⟨List.mem_of_getElem? (i := 628) (by decide +kernel), rfl⟩
set_option maxRecDepth 100000 in
theorem wm_562 : (Cond.code yX8_state cX8_state 2 (some .int) : Cond) ∈ lw_g := List.mem_filter.mpr ⟨List.mem_of_getElem? (i := 629) rfl, rfl⟩
theorem wm_563 : (Cond.methodLink RX8 169 yX5_totalBallast : Cond) ∈ lw_g := List.mem_filter.mpr ⟨List.mem_of_getElem? (i := 630) (by decide +kernel), rfl⟩
theorem wm_564 : (Cond.instanceMethod yX5_totalBallast : Cond) ∈ lw_g := List.mem_filter.mpr ⟨List.mem_of_getElem? (i := 631) (by decide +kernel), rfl⟩
theorem wm_565 : (Cond.selects RX5 yX5_totalBallast yX5_totalBallast : Cond) ∈ lw_g := List.mem_filter.mpr ⟨List.mem_of_getElem? (i := 632) (by decide +kernel), rfl⟩
set_option maxRecDepth 100000 in
theorem wm_566 : (Cond.code yX5_totalBallast cX5_totalBallast 3 (some .int) : Cond) ∈ lw_g := List.mem_filter.mpr ⟨List.mem_of_getElem? (i := 633) rfl, rfl⟩
theorem wm_567 : (Cond.methodLink RL 61 yX8_edge : Cond) ∈ lw_g := List.mem_filter.mpr ⟨List.mem_of_getElem? (i := 634) (by decide +kernel), rfl⟩
theorem wm_568 : (Cond.instanceMethod yX8_edge : Cond) ∈ lw_g := List.mem_filter.mpr ⟨List.mem_of_getElem? (i := 635) (by decide +kernel), rfl⟩
theorem wm_569 : (Cond.selects RX8 yX8_edge yX8_edge : Cond) ∈ lw_g := List.mem_filter.mpr ⟨List.mem_of_getElem? (i := 636) (by decide +kernel), rfl⟩
set_option maxRecDepth 100000 in
theorem wm_570 : (Cond.code yX8_edge cX8_edge 6 (some .int) : Cond) ∈ lw_g := List.mem_filter.mpr ⟨List.mem_of_getElem? (i := 637) rfl, rfl⟩
theorem wm_571 : (Cond.methodLink RX8 179 yX5_isEdge : Cond) ∈ lw_g := List.mem_filter.mpr ⟨List.mem_of_getElem? (i := 638) (by decide +kernel), rfl⟩
theorem wm_572 : (Cond.instanceMethod yX5_isEdge : Cond) ∈ lw_g := List.mem_filter.mpr ⟨List.mem_of_getElem? (i := 639) (by decide +kernel), rfl⟩
theorem wm_573 : (Cond.selects RX5 yX5_isEdge yX5_isEdge : Cond) ∈ lw_g := List.mem_filter.mpr ⟨List.mem_of_getElem? (i := 640) (by decide +kernel), rfl⟩
set_option maxRecDepth 100000 in
theorem wm_574 : (Cond.code yX5_isEdge cX5_isEdge 2 (some .boolean) : Cond) ∈ lw_g := List.mem_filter.mpr ⟨List.mem_of_getElem? (i := 641) rfl, rfl⟩
theorem wm_575 : (Cond.methodLink RX5 94 yX5_isCell : Cond) ∈ lw_g := List.mem_filter.mpr ⟨List.mem_of_getElem? (i := 642) (by decide +kernel), rfl⟩
theorem wm_576 : (Cond.methodLink RX5 98 yX5_columnOf : Cond) ∈ lw_g := List.mem_filter.mpr ⟨List.mem_of_getElem? (i := 643) (by decide +kernel), rfl⟩
theorem wm_577 : (Cond.instanceMethod yX5_columnOf : Cond) ∈ lw_g := List.mem_filter.mpr ⟨List.mem_of_getElem? (i := 644) (by decide +kernel), rfl⟩
theorem wm_578 : (Cond.selects RX5 yX5_columnOf yX5_columnOf : Cond) ∈ lw_g := List.mem_filter.mpr ⟨List.mem_of_getElem? (i := 645) (by decide +kernel), rfl⟩
set_option maxRecDepth 100000 in
theorem wm_579 : (Cond.code yX5_columnOf cX5_columnOf 2 (some .int) : Cond) ∈ lw_g := List.mem_filter.mpr ⟨List.mem_of_getElem? (i := 646) rfl, rfl⟩
theorem wm_580 : (Cond.methodLink RX5 102 yX5_rowOf : Cond) ∈ lw_g := List.mem_filter.mpr ⟨List.mem_of_getElem? (i := 647) (by decide +kernel), rfl⟩
theorem wm_581 : (Cond.instanceMethod yX5_rowOf : Cond) ∈ lw_g := List.mem_filter.mpr ⟨List.mem_of_getElem? (i := 648) (by decide +kernel), rfl⟩
theorem wm_582 : (Cond.selects RX5 yX5_rowOf yX5_rowOf : Cond) ∈ lw_g := List.mem_filter.mpr ⟨List.mem_of_getElem? (i := 649) (by decide +kernel), rfl⟩
set_option maxRecDepth 100000 in
theorem wm_583 : (Cond.code yX5_rowOf cX5_rowOf 2 (some .int) : Cond) ∈ lw_g := List.mem_filter.mpr ⟨List.mem_of_getElem? (i := 650) rfl, rfl⟩
theorem wm_584 : (Cond.methodLink RX5 105 yX5_isEdgeAt : Cond) ∈ lw_g := List.mem_filter.mpr ⟨List.mem_of_getElem? (i := 651) (by decide +kernel), rfl⟩
theorem wm_585 : (Cond.instanceMethod yX5_isEdgeAt : Cond) ∈ lw_g := List.mem_filter.mpr ⟨List.mem_of_getElem? (i := 652) (by decide +kernel), rfl⟩
theorem wm_586 : (Cond.selects RX5 yX5_isEdgeAt yX5_isEdgeAt : Cond) ∈ lw_g := List.mem_filter.mpr ⟨List.mem_of_getElem? (i := 653) (by decide +kernel), rfl⟩
set_option maxRecDepth 100000 in
theorem wm_587 : (Cond.code yX5_isEdgeAt cX5_isEdgeAt 3 (some .boolean) : Cond) ∈ lw_g := List.mem_filter.mpr ⟨List.mem_of_getElem? (i := 654) rfl, rfl⟩
theorem wm_588 : (Cond.methodLink RX8 182 yX5_columnOf : Cond) ∈ lw_g := List.mem_filter.mpr ⟨List.mem_of_getElem? (i := 655) (by decide +kernel), rfl⟩
theorem wm_589 : (Cond.methodLink RX8 185 yX5_rowOf : Cond) ∈ lw_g := List.mem_filter.mpr ⟨List.mem_of_getElem? (i := 656) (by decide +kernel), rfl⟩
theorem wm_590 : (Cond.methodLink RX8 188 yX1_edgeDepth : Cond) ∈ lw_g := List.mem_filter.mpr ⟨List.mem_of_getElem? (i := 657) (by decide +kernel), rfl⟩
theorem wm_591 : (Cond.instanceMethod yX1_edgeDepth : Cond) ∈ lw_g := List.mem_filter.mpr ⟨List.mem_of_getElem? (i := 658) (by decide +kernel), rfl⟩
theorem wm_592 : (Cond.selects RX1 yX1_edgeDepth yX1_edgeDepth : Cond) ∈ lw_g := List.mem_filter.mpr ⟨List.mem_of_getElem? (i := 659) (by decide +kernel), rfl⟩
set_option maxRecDepth 100000 in
theorem wm_593 : (Cond.code yX1_edgeDepth cX1_edgeDepth 5 (some .int) : Cond) ∈ lw_g := List.mem_filter.mpr ⟨List.mem_of_getElem? (i := 660) rfl, rfl⟩
theorem wm_594 : (Cond.methodLink RX1 44 yJ9_floorDiv_7cf53 : Cond) ∈ lw_g := List.mem_filter.mpr ⟨List.mem_of_getElem? (i := 661) (by decide +kernel), rfl⟩
theorem wm_595 : (Cond.static yJ9_floorDiv_7cf53 : Cond) ∈ lw_g := List.mem_filter.mpr ⟨List.mem_of_getElem? (i := 662) (by decide +kernel), rfl⟩
set_option maxRecDepth 100000 in
theorem wm_596 : (Cond.code yJ9_floorDiv_7cf53 cJ9_floorDiv_7cf53 3 (some .int) : Cond) ∈ lw_g := List.mem_filter.mpr ⟨List.mem_of_getElem? (i := 663) rfl, rfl⟩
theorem wm_597 : (Cond.methodLink RX1 50 Lib.Math.max.name : Cond) ∈ lw_g := List.mem_filter.mpr ⟨List.mem_of_getElem? (i := 664) (by decide +kernel), rfl⟩
theorem wm_598 : (Cond.methodLink RX8 192 yX1_support : Cond) ∈ lw_g := List.mem_filter.mpr ⟨List.mem_of_getElem? (i := 665) (by decide +kernel), rfl⟩
theorem wm_599 : (Cond.instanceMethod yX1_support : Cond) ∈ lw_g := List.mem_filter.mpr ⟨List.mem_of_getElem? (i := 666) (by decide +kernel), rfl⟩
theorem wm_600 : (Cond.selects RX1 yX1_support yX1_support : Cond) ∈ lw_g := List.mem_filter.mpr ⟨List.mem_of_getElem? (i := 667) (by decide +kernel), rfl⟩
set_option maxRecDepth 100000 in
theorem wm_601 : (Cond.code yX1_support cX1_support 7 (some .int) : Cond) ∈ lw_g := List.mem_filter.mpr ⟨List.mem_of_getElem? (i := 668) rfl, rfl⟩
theorem wm_602 : (Cond.methodLink RX1 53 yX5_wellBeside : Cond) ∈ lw_g := List.mem_filter.mpr ⟨List.mem_of_getElem? (i := 669) (by decide +kernel), rfl⟩
theorem wm_603 : (Cond.instanceMethod yX5_wellBeside : Cond) ∈ lw_g := List.mem_filter.mpr ⟨List.mem_of_getElem? (i := 670) (by decide +kernel), rfl⟩
theorem wm_604 : (Cond.selects RX5 yX5_wellBeside yX5_wellBeside : Cond) ∈ lw_g := List.mem_filter.mpr ⟨List.mem_of_getElem? (i := 671) (by decide +kernel), rfl⟩
set_option maxRecDepth 100000 in
theorem wm_605 : (Cond.code yX5_wellBeside cX5_wellBeside 5 (some .int) : Cond) ∈ lw_g := List.mem_filter.mpr ⟨List.mem_of_getElem? (i := 672) rfl, rfl⟩
theorem wm_606 : (Cond.methodLink RX1 56 yX4_bottomOf : Cond) ∈ lw_g := List.mem_filter.mpr ⟨List.mem_of_getElem? (i := 673) (by decide +kernel), rfl⟩
theorem wm_607 : (Cond.instanceMethod yX4_bottomOf : Cond) ∈ lw_g := List.mem_filter.mpr ⟨List.mem_of_getElem? (i := 674) (by decide +kernel), rfl⟩
theorem wm_608 : (Cond.selects RX4 yX4_bottomOf yX4_bottomOf : Cond) ∈ lw_g := List.mem_filter.mpr ⟨List.mem_of_getElem? (i := 675) (by decide +kernel), rfl⟩
set_option maxRecDepth 100000 in
theorem wm_609 : (Cond.code yX4_bottomOf cX4_bottomOf 2 (some .int) : Cond) ∈ lw_g := List.mem_filter.mpr ⟨List.mem_of_getElem? (i := 676) rfl, rfl⟩
theorem wm_610 : (Cond.methodLink RX1 60 Lib.Math.min.name : Cond) ∈ lw_g := List.mem_filter.mpr ⟨List.mem_of_getElem? (i := 677) (by decide +kernel), rfl⟩
theorem wm_611 : (Cond.methodLink RX1 67 yX2_strengthAt : Cond) ∈ lw_g := List.mem_filter.mpr ⟨List.mem_of_getElem? (i := 678) (by decide +kernel), rfl⟩
theorem wm_612 : (Cond.methodLink RX1 76 yX0_hardnessDownTo : Cond) ∈ lw_g := List.mem_filter.mpr ⟨List.mem_of_getElem? (i := 679) (by decide +kernel), rfl⟩
theorem wm_613 : (Cond.instanceMethod yX0_hardnessDownTo : Cond) ∈ lw_g := List.mem_filter.mpr ⟨List.mem_of_getElem? (i := 680) (by decide +kernel), rfl⟩
theorem wm_614 : (Cond.selects RX0 yX0_hardnessDownTo yX0_hardnessDownTo : Cond) ∈ lw_g := List.mem_filter.mpr ⟨List.mem_of_getElem? (i := 681) (by decide +kernel), rfl⟩
set_option maxRecDepth 100000 in
theorem wm_615 : (Cond.code yX0_hardnessDownTo cX0_hardnessDownTo 5 (some .int) : Cond) ∈ lw_g := List.mem_filter.mpr ⟨List.mem_of_getElem? (i := 682) rfl, rfl⟩
theorem wm_616 : (Cond.methodLink RX8 196 yX1_skinForce : Cond) ∈ lw_g := List.mem_filter.mpr ⟨List.mem_of_getElem? (i := 683) (by decide +kernel), rfl⟩
theorem wm_617 : (Cond.instanceMethod yX1_skinForce : Cond) ∈ lw_g := List.mem_filter.mpr ⟨List.mem_of_getElem? (i := 684) (by decide +kernel), rfl⟩
theorem wm_618 : (Cond.selects RX1 yX1_skinForce yX1_skinForce : Cond) ∈ lw_g := List.mem_filter.mpr ⟨List.mem_of_getElem? (i := 685) (by decide +kernel), rfl⟩
set_option maxRecDepth 100000 in
theorem wm_619 : (Cond.code yX1_skinForce cX1_skinForce 4 (some .int) : Cond) ∈ lw_g := List.mem_filter.mpr ⟨List.mem_of_getElem? (i := 686) rfl, rfl⟩
theorem wm_620 : (Cond.methodLink RX1 81 yX5_skinFactor : Cond) ∈ lw_g := List.mem_filter.mpr ⟨List.mem_of_getElem? (i := 687) (by decide +kernel), rfl⟩
theorem wm_621 : (Cond.instanceMethod yX5_skinFactor : Cond) ∈ lw_g := List.mem_filter.mpr ⟨List.mem_of_getElem? (i := 688) (by decide +kernel), rfl⟩
theorem wm_622 : (Cond.selects RX5 yX5_skinFactor yX5_skinFactor : Cond) ∈ lw_g := List.mem_filter.mpr ⟨List.mem_of_getElem? (i := 689) (by decide +kernel), rfl⟩
set_option maxRecDepth 100000 in
theorem wm_623 : (Cond.code yX5_skinFactor cX5_skinFactor 4 (some .int) : Cond) ∈ lw_g := List.mem_filter.mpr ⟨List.mem_of_getElem? (i := 690) rfl, rfl⟩
theorem wm_624 : (Cond.methodLink RX1 84 yX2_frictionAbove : Cond) ∈ lw_g := List.mem_filter.mpr ⟨List.mem_of_getElem? (i := 691) (by decide +kernel), rfl⟩
theorem wm_625 : (Cond.instanceMethod yX2_frictionAbove : Cond) ∈ lw_g := List.mem_filter.mpr ⟨List.mem_of_getElem? (i := 692) (by decide +kernel), rfl⟩
theorem wm_626 : (Cond.selects RX2 yX2_frictionAbove yX2_frictionAbove : Cond) ∈ lw_g := List.mem_filter.mpr ⟨List.mem_of_getElem? (i := 693) (by decide +kernel), rfl⟩
set_option maxRecDepth 100000 in
theorem wm_627 : (Cond.code yX2_frictionAbove cX2_frictionAbove 7 (some .int) : Cond) ∈ lw_g := List.mem_filter.mpr ⟨List.mem_of_getElem? (i := 694) rfl, rfl⟩
theorem wm_628 : (Cond.methodLink RX8 199 yX1_buoyancy : Cond) ∈ lw_g := List.mem_filter.mpr ⟨List.mem_of_getElem? (i := 695) (by decide +kernel), rfl⟩
theorem wm_629 : (Cond.instanceMethod yX1_buoyancy : Cond) ∈ lw_g := List.mem_filter.mpr ⟨List.mem_of_getElem? (i := 696) (by decide +kernel), rfl⟩
theorem wm_630 : (Cond.selects RX1 yX1_buoyancy yX1_buoyancy : Cond) ∈ lw_g := List.mem_filter.mpr ⟨List.mem_of_getElem? (i := 697) (by decide +kernel), rfl⟩
set_option maxRecDepth 100000 in
theorem wm_631 : (Cond.code yX1_buoyancy cX1_buoyancy 2 (some .int) : Cond) ∈ lw_g := List.mem_filter.mpr ⟨List.mem_of_getElem? (i := 698) rfl, rfl⟩
theorem wm_632 : (Cond.methodLink RX8 202 yX5_wellBeside : Cond) ∈ lw_g := List.mem_filter.mpr ⟨List.mem_of_getElem? (i := 699) (by decide +kernel), rfl⟩
theorem wm_633 : (Cond.methodLink RL 65 yX8_bottom : Cond) ∈ lw_g := List.mem_filter.mpr ⟨List.mem_of_getElem? (i := 700) (by decide +kernel), rfl⟩
theorem wm_634 : (Cond.instanceMethod yX8_bottom : Cond) ∈ lw_g := List.mem_filter.mpr ⟨List.mem_of_getElem? (i := 701) (by decide +kernel), rfl⟩
theorem wm_635 : (Cond.selects RX8 yX8_bottom yX8_bottom : Cond) ∈ lw_g := List.mem_filter.mpr ⟨List.mem_of_getElem? (i := 702) (by decide +kernel), rfl⟩
set_option maxRecDepth 100000 in
theorem wm_636 : (Cond.code yX8_bottom cX8_bottom 2 (some .int) : Cond) ∈ lw_g := List.mem_filter.mpr ⟨List.mem_of_getElem? (i := 703) rfl, rfl⟩
theorem wm_637 : (Cond.methodLink RX8 205 yX5_isWell : Cond) ∈ lw_g := List.mem_filter.mpr ⟨List.mem_of_getElem? (i := 704) (by decide +kernel), rfl⟩
theorem wm_638 : (Cond.instanceMethod yX5_isWell : Cond) ∈ lw_g := List.mem_filter.mpr ⟨List.mem_of_getElem? (i := 705) (by decide +kernel), rfl⟩
theorem wm_639 : (Cond.selects RX5 yX5_isWell yX5_isWell : Cond) ∈ lw_g := List.mem_filter.mpr ⟨List.mem_of_getElem? (i := 706) (by decide +kernel), rfl⟩
set_option maxRecDepth 100000 in
theorem wm_640 : (Cond.code yX5_isWell cX5_isWell 2 (some .boolean) : Cond) ∈ lw_g := List.mem_filter.mpr ⟨List.mem_of_getElem? (i := 707) rfl, rfl⟩
theorem wm_641 : (Cond.methodLink RX8 208 yX4_bottomOf : Cond) ∈ lw_g := List.mem_filter.mpr ⟨List.mem_of_getElem? (i := 708) (by decide +kernel), rfl⟩
theorem wm_642 : (Cond.methodLink RL 69 yX8_surplus : Cond) ∈ lw_g := List.mem_filter.mpr ⟨List.mem_of_getElem? (i := 709) (by decide +kernel), rfl⟩
theorem wm_643 : (Cond.instanceMethod yX8_surplus : Cond) ∈ lw_g := List.mem_filter.mpr ⟨List.mem_of_getElem? (i := 710) (by decide +kernel), rfl⟩
theorem wm_644 : (Cond.selects RX8 yX8_surplus yX8_surplus : Cond) ∈ lw_g := List.mem_filter.mpr ⟨List.mem_of_getElem? (i := 711) (by decide +kernel), rfl⟩
set_option maxRecDepth 100000 in
theorem wm_645 : (Cond.code yX8_surplus cX8_surplus 1 (some .int) : Cond) ∈ lw_g := List.mem_filter.mpr ⟨List.mem_of_getElem? (i := 712) rfl, rfl⟩
theorem wm_646 : (Cond.methodLink RX8 211 yX1_examine : Cond) ∈ lw_g := List.mem_filter.mpr ⟨List.mem_of_getElem? (i := 713) (by decide +kernel), rfl⟩
theorem wm_647 : (Cond.instanceMethod yX1_examine : Cond) ∈ lw_g := List.mem_filter.mpr ⟨List.mem_of_getElem? (i := 714) (by decide +kernel), rfl⟩
theorem wm_648 : (Cond.selects RX1 yX1_examine yX1_examine : Cond) ∈ lw_g := List.mem_filter.mpr ⟨List.mem_of_getElem? (i := 715) (by decide +kernel), rfl⟩
set_option maxRecDepth 100000 in
theorem wm_649 : (Cond.code yX1_examine cX1_examine 5 (some .int) : Cond) ∈ lw_g := List.mem_filter.mpr ⟨List.mem_of_getElem? (i := 716) rfl, rfl⟩
theorem wm_650 : (Cond.methodLink RX1 117 yX5_ballastOf : Cond) ∈ lw_g := List.mem_filter.mpr ⟨List.mem_of_getElem? (i := 717) (by decide +kernel), rfl⟩
theorem wm_651 : (Cond.instanceMethod yX5_ballastOf : Cond) ∈ lw_g := List.mem_filter.mpr ⟨List.mem_of_getElem? (i := 718) (by decide +kernel), rfl⟩
theorem wm_652 : (Cond.selects RX5 yX5_ballastOf yX5_ballastOf : Cond) ∈ lw_g := List.mem_filter.mpr ⟨List.mem_of_getElem? (i := 719) (by decide +kernel), rfl⟩
set_option maxRecDepth 100000 in
theorem wm_653 : (Cond.code yX5_ballastOf cX5_ballastOf 2 (some .int) : Cond) ∈ lw_g := List.mem_filter.mpr ⟨List.mem_of_getElem? (i := 720) rfl, rfl⟩
theorem wm_654 : (Cond.methodLink RX1 120 yX5_isEdgeAt : Cond) ∈ lw_g := List.mem_filter.mpr ⟨List.mem_of_getElem? (i := 721) (by decide +kernel), rfl⟩
theorem wm_655 : (Cond.methodLink RX1 124 yX1_resistance : Cond) ∈ lw_g := List.mem_filter.mpr ⟨List.mem_of_getElem? (i := 722) (by decide +kernel), rfl⟩
theorem wm_656 : (Cond.instanceMethod yX1_resistance : Cond) ∈ lw_g := List.mem_filter.mpr ⟨List.mem_of_getElem? (i := 723) (by decide +kernel), rfl⟩
theorem wm_657 : (Cond.selects RX1 yX1_resistance yX1_resistance : Cond) ∈ lw_g := List.mem_filter.mpr ⟨List.mem_of_getElem? (i := 724) (by decide +kernel), rfl⟩
set_option maxRecDepth 100000 in
theorem wm_658 : (Cond.code yX1_resistance cX1_resistance 5 (some .int) : Cond) ∈ lw_g := List.mem_filter.mpr ⟨List.mem_of_getElem? (i := 725) rfl, rfl⟩
theorem wm_659 : (Cond.methodLink RX1 90 yX1_edgeDepth : Cond) ∈ lw_g := List.mem_filter.mpr ⟨List.mem_of_getElem? (i := 726) (by decide +kernel), rfl⟩
theorem wm_660 : (Cond.methodLink RX1 94 yX1_support : Cond) ∈ lw_g := List.mem_filter.mpr ⟨List.mem_of_getElem? (i := 727) (by decide +kernel), rfl⟩
theorem wm_661 : (Cond.methodLink RX1 98 yX1_skinForce : Cond) ∈ lw_g := List.mem_filter.mpr ⟨List.mem_of_getElem? (i := 728) (by decide +kernel), rfl⟩
theorem wm_662 : (Cond.methodLink RX1 102 yX1_buoyancy : Cond) ∈ lw_g := List.mem_filter.mpr ⟨List.mem_of_getElem? (i := 729) (by decide +kernel), rfl⟩
theorem wm_663 : (Cond.methodLink RX1 127 yX1_turn : Cond) ∈ lw_g := List.mem_filter.mpr ⟨List.mem_of_getElem? (i := 730) (by decide +kernel), rfl⟩
theorem wm_665 : (Cond.instanceMethod yX1_turn : Cond) ∈ lw_g := List.mem_filter.mpr ⟨List.mem_of_getElem? (i := 732) (by decide +kernel), rfl⟩
set_option maxRecDepth 100000 in
theorem wm_666 : (Cond.code yX1_turn cX1_turn 2 (some .int) : Cond) ∈ lw_g := List.mem_filter.mpr ⟨List.mem_of_getElem? (i := 733) rfl, rfl⟩
theorem wm_667 : (Cond.methodLink RX1 136 Lib.Math.abs.name : Cond) ∈ lw_g := List.mem_filter.mpr ⟨List.mem_of_getElem? (i := 734) (by decide +kernel), rfl⟩
theorem wm_668 : (Cond.static Lib.Math.abs.name : Cond) ∈ lw_g := List.mem_filter.mpr ⟨List.mem_of_getElem? (i := 735) (by decide +kernel), rfl⟩
set_option maxRecDepth 100000 in
theorem wm_669 : (Cond.code Lib.Math.abs.name Lib.Math.abs.code 1 (some .int) : Cond) ∈ lw_g := List.mem_filter.mpr ⟨List.mem_of_getElem? (i := 736) rfl, rfl⟩
theorem wm_670 : (Cond.methodLink RL 73 yX8_moment : Cond) ∈ lw_g := List.mem_filter.mpr ⟨List.mem_of_getElem? (i := 737) (by decide +kernel), rfl⟩
theorem wm_671 : (Cond.instanceMethod yX8_moment : Cond) ∈ lw_g := List.mem_filter.mpr ⟨List.mem_of_getElem? (i := 738) (by decide +kernel), rfl⟩
theorem wm_672 : (Cond.selects RX8 yX8_moment yX8_moment : Cond) ∈ lw_g := List.mem_filter.mpr ⟨List.mem_of_getElem? (i := 739) (by decide +kernel), rfl⟩
set_option maxRecDepth 100000 in
theorem wm_673 : (Cond.code yX8_moment cX8_moment 2 (some .int) : Cond) ∈ lw_g := List.mem_filter.mpr ⟨List.mem_of_getElem? (i := 740) rfl, rfl⟩
theorem wm_674 : (Cond.methodLink RL 77 yX8_nextStep : Cond) ∈ lw_g := List.mem_filter.mpr ⟨List.mem_of_getElem? (i := 741) (by decide +kernel), rfl⟩
theorem wm_675 : (Cond.instanceMethod yX8_nextStep : Cond) ∈ lw_g := List.mem_filter.mpr ⟨List.mem_of_getElem? (i := 742) (by decide +kernel), rfl⟩
theorem wm_676 : (Cond.selects RX8 yX8_nextStep yX8_nextStep : Cond) ∈ lw_g := List.mem_filter.mpr ⟨List.mem_of_getElem? (i := 743) (by decide +kernel), rfl⟩
set_option maxRecDepth 100000 in
theorem wm_677 : (Cond.code yX8_nextStep cX8_nextStep 1 (some .int) : Cond) ∈ lw_g := List.mem_filter.mpr ⟨List.mem_of_getElem? (i := 744) rfl, rfl⟩
theorem wm_678 : (Cond.methodLink RL 81 yX8_sideResistance : Cond) ∈ lw_g := List.mem_filter.mpr ⟨List.mem_of_getElem? (i := 745) (by decide +kernel), rfl⟩
theorem wm_679 : (Cond.instanceMethod yX8_sideResistance : Cond) ∈ lw_g := List.mem_filter.mpr ⟨List.mem_of_getElem? (i := 746) (by decide +kernel), rfl⟩
theorem wm_680 : (Cond.selects RX8 yX8_sideResistance yX8_sideResistance : Cond) ∈ lw_g := List.mem_filter.mpr ⟨List.mem_of_getElem? (i := 747) (by decide +kernel), rfl⟩
set_option maxRecDepth 100000 in
theorem wm_681 : (Cond.code yX8_sideResistance cX8_sideResistance 2 (some .int) : Cond) ∈ lw_g := List.mem_filter.mpr ⟨List.mem_of_getElem? (i := 748) rfl, rfl⟩
theorem wm_682 : (Cond.methodLink RX8 224 yX1_resistanceOfSide : Cond) ∈ lw_g := List.mem_filter.mpr ⟨List.mem_of_getElem? (i := 749) (by decide +kernel), rfl⟩
theorem wm_683 : (Cond.instanceMethod yX1_resistanceOfSide : Cond) ∈ lw_g := List.mem_filter.mpr ⟨List.mem_of_getElem? (i := 750) (by decide +kernel), rfl⟩
theorem wm_684 : (Cond.selects RX1 yX1_resistanceOfSide yX1_resistanceOfSide : Cond) ∈ lw_g := List.mem_filter.mpr ⟨List.mem_of_getElem? (i := 751) (by decide +kernel), rfl⟩
set_option maxRecDepth 100000 in
theorem wm_685 : (Cond.code yX1_resistanceOfSide cX1_resistanceOfSide 5 (some .int) : Cond) ∈ lw_g := List.mem_filter.mpr ⟨List.mem_of_getElem? (i := 752) rfl, rfl⟩
theorem wm_686 : (Cond.methodLink RX1 177 yX5_isOnSide : Cond) ∈ lw_g := List.mem_filter.mpr ⟨List.mem_of_getElem? (i := 753) (by decide +kernel), rfl⟩
theorem wm_687 : (Cond.instanceMethod yX5_isOnSide : Cond) ∈ lw_g := List.mem_filter.mpr ⟨List.mem_of_getElem? (i := 754) (by decide +kernel), rfl⟩
theorem wm_688 : (Cond.selects RX5 yX5_isOnSide yX5_isOnSide : Cond) ∈ lw_g := List.mem_filter.mpr ⟨List.mem_of_getElem? (i := 755) (by decide +kernel), rfl⟩
set_option maxRecDepth 100000 in
theorem wm_689 : (Cond.code yX5_isOnSide cX5_isOnSide 4 (some .boolean) : Cond) ∈ lw_g := List.mem_filter.mpr ⟨List.mem_of_getElem? (i := 756) rfl, rfl⟩
theorem wm_690 : (Cond.methodLink RL 85 yX8_stuckDepth : Cond) ∈ lw_g := List.mem_filter.mpr ⟨List.mem_of_getElem? (i := 757) (by decide +kernel), rfl⟩
theorem wm_691 : (Cond.instanceMethod yX8_stuckDepth : Cond) ∈ lw_g := List.mem_filter.mpr ⟨List.mem_of_getElem? (i := 758) (by decide +kernel), rfl⟩
theorem wm_692 : (Cond.selects RX8 yX8_stuckDepth yX8_stuckDepth : Cond) ∈ lw_g := List.mem_filter.mpr ⟨List.mem_of_getElem? (i := 759) (by decide +kernel), rfl⟩
set_option maxRecDepth 100000 in
theorem wm_693 : (Cond.code yX8_stuckDepth cX8_stuckDepth 6 (some .int) : Cond) ∈ lw_g := List.mem_filter.mpr ⟨List.mem_of_getElem? (i := 760) rfl, rfl⟩
theorem wm_694 : (Cond.methodLink RX8 227 yX1_sumOfSkinFactors : Cond) ∈ lw_g := List.mem_filter.mpr ⟨List.mem_of_getElem? (i := 761) (by decide +kernel), rfl⟩
theorem wm_695 : (Cond.instanceMethod yX1_sumOfSkinFactors : Cond) ∈ lw_g := List.mem_filter.mpr ⟨List.mem_of_getElem? (i := 762) (by decide +kernel), rfl⟩
theorem wm_696 : (Cond.selects RX1 yX1_sumOfSkinFactors yX1_sumOfSkinFactors : Cond) ∈ lw_g := List.mem_filter.mpr ⟨List.mem_of_getElem? (i := 763) (by decide +kernel), rfl⟩
set_option maxRecDepth 100000 in
theorem wm_697 : (Cond.code yX1_sumOfSkinFactors cX1_sumOfSkinFactors 4 (some .int) : Cond) ∈ lw_g := List.mem_filter.mpr ⟨List.mem_of_getElem? (i := 764) rfl, rfl⟩
theorem wm_698 : (Cond.methodLink RX8 230 yX5_edgeCount : Cond) ∈ lw_g := List.mem_filter.mpr ⟨List.mem_of_getElem? (i := 765) (by decide +kernel), rfl⟩
theorem wm_699 : (Cond.instanceMethod yX5_edgeCount : Cond) ∈ lw_g := List.mem_filter.mpr ⟨List.mem_of_getElem? (i := 766) (by decide +kernel), rfl⟩
theorem wm_700 : (Cond.selects RX5 yX5_edgeCount yX5_edgeCount : Cond) ∈ lw_g := List.mem_filter.mpr ⟨List.mem_of_getElem? (i := 767) (by decide +kernel), rfl⟩
set_option maxRecDepth 100000 in
theorem wm_701 : (Cond.code yX5_edgeCount cX5_edgeCount 1 (some .int) : Cond) ∈ lw_g := List.mem_filter.mpr ⟨List.mem_of_getElem? (i := 768) rfl, rfl⟩
theorem wm_702 : (Cond.methodLink RX8 233 yX2_frictionAbove : Cond) ∈ lw_g := List.mem_filter.mpr ⟨List.mem_of_getElem? (i := 769) (by decide +kernel), rfl⟩
theorem wm_703 : (Cond.constant RX8 236 (-1000009) : Cond) ∈ lw_g := List.mem_filter.mpr ⟨List.mem_of_getElem? (i := 770) (by decide +kernel), rfl⟩
theorem wm_704 : (Cond.methodLink RL 89 yX8_ballastNeeded : Cond) ∈ lw_g := List.mem_filter.mpr ⟨List.mem_of_getElem? (i := 771) (by decide +kernel), rfl⟩
theorem wm_705 : (Cond.instanceMethod yX8_ballastNeeded : Cond) ∈ lw_g := List.mem_filter.mpr ⟨List.mem_of_getElem? (i := 772) (by decide +kernel), rfl⟩
theorem wm_706 : (Cond.selects RX8 yX8_ballastNeeded yX8_ballastNeeded : Cond) ∈ lw_g := List.mem_filter.mpr ⟨List.mem_of_getElem? (i := 773) (by decide +kernel), rfl⟩
set_option maxRecDepth 100000 in
theorem wm_707 : (Cond.code yX8_ballastNeeded cX8_ballastNeeded 1 (some .int) : Cond) ∈ lw_g := List.mem_filter.mpr ⟨List.mem_of_getElem? (i := 774) rfl, rfl⟩
theorem wm_708 : (Cond.methodLink RL 93 yX8_dig : Cond) ∈ lw_g := List.mem_filter.mpr ⟨List.mem_of_getElem? (i := 775) (by decide +kernel), rfl⟩
theorem wm_709 : (Cond.instanceMethod yX8_dig : Cond) ∈ lw_g := List.mem_filter.mpr ⟨List.mem_of_getElem? (i := 776) (by decide +kernel), rfl⟩
theorem wm_710 : (Cond.selects RX8 yX8_dig yX8_dig : Cond) ∈ lw_g := List.mem_filter.mpr ⟨List.mem_of_getElem? (i := 777) (by decide +kernel), rfl⟩
set_option maxRecDepth 100000 in
theorem wm_711 : (Cond.code yX8_dig cX8_dig 5 (some .int) : Cond) ∈ lw_g := List.mem_filter.mpr ⟨List.mem_of_getElem? (i := 778) rfl, rfl⟩
theorem wm_712 : (Cond.methodLink RX8 237 yX5_bottomAfterDigging : Cond) ∈ lw_g := List.mem_filter.mpr ⟨List.mem_of_getElem? (i := 779) (by decide +kernel), rfl⟩
theorem wm_713 : (Cond.instanceMethod yX5_bottomAfterDigging : Cond) ∈ lw_g := List.mem_filter.mpr ⟨List.mem_of_getElem? (i := 780) (by decide +kernel), rfl⟩
theorem wm_714 : (Cond.selects RX5 yX5_bottomAfterDigging yX5_bottomAfterDigging : Cond) ∈ lw_g := List.mem_filter.mpr ⟨List.mem_of_getElem? (i := 781) (by decide +kernel), rfl⟩
set_option maxRecDepth 100000 in
theorem wm_715 : (Cond.code yX5_bottomAfterDigging cX5_bottomAfterDigging 7 (some .int) : Cond) ∈ lw_g := List.mem_filter.mpr ⟨List.mem_of_getElem? (i := 782) rfl, rfl⟩
theorem wm_716 : (Cond.methodLink RX5 109 yX4_bottomOf : Cond) ∈ lw_g := List.mem_filter.mpr ⟨List.mem_of_getElem? (i := 783) (by decide +kernel), rfl⟩
theorem wm_717 : (Cond.methodLink RX5 115 Lib.Math.min.name : Cond) ∈ lw_g := List.mem_filter.mpr ⟨List.mem_of_getElem? (i := 784) (by decide +kernel), rfl⟩
theorem wm_718 : (Cond.methodLink RX5 121 yX0_firstFrom : Cond) ∈ lw_g := List.mem_filter.mpr ⟨List.mem_of_getElem? (i := 785) (by decide +kernel), rfl⟩
theorem wm_719 : (Cond.instanceMethod yX0_firstFrom : Cond) ∈ lw_g := List.mem_filter.mpr ⟨List.mem_of_getElem? (i := 786) (by decide +kernel), rfl⟩
theorem wm_720 : (Cond.selects RX0 yX0_firstFrom yX0_firstFrom : Cond) ∈ lw_g := List.mem_filter.mpr ⟨List.mem_of_getElem? (i := 787) (by decide +kernel), rfl⟩
set_option maxRecDepth 100000 in
theorem wm_721 : (Cond.code yX0_firstFrom cX0_firstFrom 4 (some .int) : Cond) ∈ lw_g := List.mem_filter.mpr ⟨List.mem_of_getElem? (i := 788) rfl, rfl⟩
theorem wm_722 : (Cond.constant RX0 31 (-1000009) : Cond) ∈ lw_g := List.mem_filter.mpr ⟨List.mem_of_getElem? (i := 789) (by decide +kernel), rfl⟩
theorem wm_723 : (Cond.constant RX5 124 (-1000009) : Cond) ∈ lw_g := List.mem_filter.mpr ⟨List.mem_of_getElem? (i := 790) (by decide +kernel), rfl⟩
theorem wm_724 : (Cond.methodLink RX5 125 yX0_depthOf : Cond) ∈ lw_g := List.mem_filter.mpr ⟨List.mem_of_getElem? (i := 791) (by decide +kernel), rfl⟩
theorem wm_725 : (Cond.instanceMethod yX0_depthOf : Cond) ∈ lw_g := List.mem_filter.mpr ⟨List.mem_of_getElem? (i := 792) (by decide +kernel), rfl⟩
theorem wm_726 : (Cond.selects RX0 yX0_depthOf yX0_depthOf : Cond) ∈ lw_g := List.mem_filter.mpr ⟨List.mem_of_getElem? (i := 793) (by decide +kernel), rfl⟩
set_option maxRecDepth 100000 in
theorem wm_727 : (Cond.code yX0_depthOf cX0_depthOf 2 (some .int) : Cond) ∈ lw_g := List.mem_filter.mpr ⟨List.mem_of_getElem? (i := 794) rfl, rfl⟩
theorem wm_728 : (Cond.methodLink RX5 128 Lib.Math.max.name : Cond) ∈ lw_g := List.mem_filter.mpr ⟨List.mem_of_getElem? (i := 795) (by decide +kernel), rfl⟩
theorem wm_729 : (Cond.methodLink RX8 240 yX4_putBottom : Cond) ∈ lw_g := List.mem_filter.mpr ⟨List.mem_of_getElem? (i := 796) (by decide +kernel), rfl⟩
theorem wm_730 : (Cond.instanceMethod yX4_putBottom : Cond) ∈ lw_g := List.mem_filter.mpr ⟨List.mem_of_getElem? (i := 797) (by decide +kernel), rfl⟩
theorem wm_731 : (Cond.selects RX4 yX4_putBottom yX4_putBottom : Cond) ∈ lw_g := List.mem_filter.mpr ⟨List.mem_of_getElem? (i := 798) (by decide +kernel), rfl⟩
set_option maxRecDepth 100000 in
theorem wm_732 : (Cond.code yX4_putBottom cX4_putBottom 3 none : Cond) ∈ lw_g := List.mem_filter.mpr ⟨List.mem_of_getElem? (i := 799) rfl, rfl⟩
theorem wm_733 : (Cond.methodLink RX8 243 yX8_writeRecord : Cond) ∈ lw_g := List.mem_filter.mpr ⟨List.mem_of_getElem? (i := 800) (by decide +kernel), rfl⟩
theorem wm_735 : (Cond.instanceMethod yX8_writeRecord : Cond) ∈ lw_g := List.mem_filter.mpr ⟨List.mem_of_getElem? (i := 802) (by decide +kernel), rfl⟩
set_option maxRecDepth 100000 in
theorem wm_736 : (Cond.code yX8_writeRecord cX8_writeRecord 3 none : Cond) ∈ lw_g := List.mem_filter.mpr ⟨List.mem_of_getElem? (i := 803) rfl, rfl⟩
theorem wm_737 : (Cond.methodLink RX8 288 yX7_insert : Cond) ∈ lw_g := List.mem_filter.mpr ⟨List.mem_of_getElem? (i := 804) (by decide +kernel), rfl⟩
theorem wm_738 : (Cond.methodLink RL 97 yX8_settle : Cond) ∈ lw_g := List.mem_filter.mpr ⟨List.mem_of_getElem? (i := 805) (by decide +kernel), rfl⟩
theorem wm_739 : (Cond.instanceMethod yX8_settle : Cond) ∈ lw_g := List.mem_filter.mpr ⟨List.mem_of_getElem? (i := 806) (by decide +kernel), rfl⟩
theorem wm_740 : (Cond.selects RX8 yX8_settle yX8_settle : Cond) ∈ lw_g := List.mem_filter.mpr ⟨List.mem_of_getElem? (i := 807) (by decide +kernel), rfl⟩
set_option maxRecDepth 100000 in
theorem wm_741 : (Cond.code yX8_settle cX8_settle 3 (some .int) : Cond) ∈ lw_g := List.mem_filter.mpr ⟨List.mem_of_getElem? (i := 808) rfl, rfl⟩
theorem wm_742 : (Cond.methodLink RX8 246 yX1_sink : Cond) ∈ lw_g := List.mem_filter.mpr ⟨List.mem_of_getElem? (i := 809) (by decide +kernel), rfl⟩
theorem wm_743 : (Cond.instanceMethod yX1_sink : Cond) ∈ lw_g := List.mem_filter.mpr ⟨List.mem_of_getElem? (i := 810) (by decide +kernel), rfl⟩
theorem wm_744 : (Cond.selects RX1 yX1_sink yX1_sink : Cond) ∈ lw_g := List.mem_filter.mpr ⟨List.mem_of_getElem? (i := 811) (by decide +kernel), rfl⟩
set_option maxRecDepth 100000 in
theorem wm_745 : (Cond.code yX1_sink cX1_sink 5 (some .int) : Cond) ∈ lw_g := List.mem_filter.mpr ⟨List.mem_of_getElem? (i := 812) rfl, rfl⟩
theorem wm_746 : (Cond.methodLink RX1 142 yX1_examine : Cond) ∈ lw_g := List.mem_filter.mpr ⟨List.mem_of_getElem? (i := 813) (by decide +kernel), rfl⟩
theorem wm_747 : (Cond.methodLink RX1 146 yX1_heave : Cond) ∈ lw_g := List.mem_filter.mpr ⟨List.mem_of_getElem? (i := 814) (by decide +kernel), rfl⟩
theorem wm_749 : (Cond.instanceMethod yX1_heave : Cond) ∈ lw_g := List.mem_filter.mpr ⟨List.mem_of_getElem? (i := 816) (by decide +kernel), rfl⟩
set_option maxRecDepth 100000 in
theorem wm_750 : (Cond.code yX1_heave cX1_heave 7 none : Cond) ∈ lw_g := List.mem_filter.mpr ⟨List.mem_of_getElem? (i := 817) rfl, rfl⟩
theorem wm_751 : (Cond.methodLink RX1 150 yX4_putBottom : Cond) ∈ lw_g := List.mem_filter.mpr ⟨List.mem_of_getElem? (i := 818) (by decide +kernel), rfl⟩
theorem wm_752 : (Cond.methodLink RL 101 yX8_setBallast : Cond) ∈ lw_g := List.mem_filter.mpr ⟨List.mem_of_getElem? (i := 819) (by decide +kernel), rfl⟩
theorem wm_753 : (Cond.instanceMethod yX8_setBallast : Cond) ∈ lw_g := List.mem_filter.mpr ⟨List.mem_of_getElem? (i := 820) (by decide +kernel), rfl⟩
theorem wm_754 : (Cond.selects RX8 yX8_setBallast yX8_setBallast : Cond) ∈ lw_g := List.mem_filter.mpr ⟨List.mem_of_getElem? (i := 821) (by decide +kernel), rfl⟩
set_option maxRecDepth 100000 in
theorem wm_755 : (Cond.code yX8_setBallast cX8_setBallast 4 (some .int) : Cond) ∈ lw_g := List.mem_filter.mpr ⟨List.mem_of_getElem? (i := 822) rfl, rfl⟩
theorem wm_756 : (Cond.methodLink RX8 250 yX5_ballastOf : Cond) ∈ lw_g := List.mem_filter.mpr ⟨List.mem_of_getElem? (i := 823) (by decide +kernel), rfl⟩
theorem wm_757 : (Cond.methodLink RX8 253 yX5_putBallast : Cond) ∈ lw_g := List.mem_filter.mpr ⟨List.mem_of_getElem? (i := 824) (by decide +kernel), rfl⟩
theorem wm_758 : (Cond.instanceMethod yX5_putBallast : Cond) ∈ lw_g := List.mem_filter.mpr ⟨List.mem_of_getElem? (i := 825) (by decide +kernel), rfl⟩
theorem wm_759 : (Cond.selects RX5 yX5_putBallast yX5_putBallast : Cond) ∈ lw_g := List.mem_filter.mpr ⟨List.mem_of_getElem? (i := 826) (by decide +kernel), rfl⟩
set_option maxRecDepth 100000 in
theorem wm_760 : (Cond.code yX5_putBallast cX5_putBallast 3 none : Cond) ∈ lw_g := List.mem_filter.mpr ⟨List.mem_of_getElem? (i := 827) rfl, rfl⟩
theorem wm_761 : (Cond.methodLink RL 105 yX8_lubricate : Cond) ∈ lw_g := List.mem_filter.mpr ⟨List.mem_of_getElem? (i := 828) (by decide +kernel), rfl⟩
theorem wm_762 : (Cond.instanceMethod yX8_lubricate : Cond) ∈ lw_g := List.mem_filter.mpr ⟨List.mem_of_getElem? (i := 829) (by decide +kernel), rfl⟩
theorem wm_763 : (Cond.selects RX8 yX8_lubricate yX8_lubricate : Cond) ∈ lw_g := List.mem_filter.mpr ⟨List.mem_of_getElem? (i := 830) (by decide +kernel), rfl⟩
set_option maxRecDepth 100000 in
theorem wm_764 : (Cond.code yX8_lubricate cX8_lubricate 3 (some .int) : Cond) ∈ lw_g := List.mem_filter.mpr ⟨List.mem_of_getElem? (i := 831) rfl, rfl⟩
theorem wm_765 : (Cond.methodLink RX8 260 yX5_lubricatedSides : Cond) ∈ lw_g := List.mem_filter.mpr ⟨List.mem_of_getElem? (i := 832) (by decide +kernel), rfl⟩
theorem wm_766 : (Cond.instanceMethod yX5_lubricatedSides : Cond) ∈ lw_g := List.mem_filter.mpr ⟨List.mem_of_getElem? (i := 833) (by decide +kernel), rfl⟩
theorem wm_767 : (Cond.selects RX5 yX5_lubricatedSides yX5_lubricatedSides : Cond) ∈ lw_g := List.mem_filter.mpr ⟨List.mem_of_getElem? (i := 834) (by decide +kernel), rfl⟩
set_option maxRecDepth 100000 in
theorem wm_768 : (Cond.code yX5_lubricatedSides cX5_lubricatedSides 3 (some .int) : Cond) ∈ lw_g := List.mem_filter.mpr ⟨List.mem_of_getElem? (i := 835) rfl, rfl⟩
theorem wm_769 : (Cond.methodLink RL 109 yX8_blast : Cond) ∈ lw_g := List.mem_filter.mpr ⟨List.mem_of_getElem? (i := 836) (by decide +kernel), rfl⟩
theorem wm_770 : (Cond.instanceMethod yX8_blast : Cond) ∈ lw_g := List.mem_filter.mpr ⟨List.mem_of_getElem? (i := 837) (by decide +kernel), rfl⟩
theorem wm_771 : (Cond.selects RX8 yX8_blast yX8_blast : Cond) ∈ lw_g := List.mem_filter.mpr ⟨List.mem_of_getElem? (i := 838) (by decide +kernel), rfl⟩
set_option maxRecDepth 100000 in
theorem wm_772 : (Cond.code yX8_blast cX8_blast 5 (some .int) : Cond) ∈ lw_g := List.mem_filter.mpr ⟨List.mem_of_getElem? (i := 839) rfl, rfl⟩
theorem wm_773 : (Cond.methodLink RX8 263 yX8_reachableBoulder : Cond) ∈ lw_g := List.mem_filter.mpr ⟨List.mem_of_getElem? (i := 840) (by decide +kernel), rfl⟩
theorem wm_775 : (Cond.instanceMethod yX8_reachableBoulder : Cond) ∈ lw_g := List.mem_filter.mpr ⟨List.mem_of_getElem? (i := 842) (by decide +kernel), rfl⟩
set_option maxRecDepth 100000 in
theorem wm_776 : (Cond.code yX8_reachableBoulder cX8_reachableBoulder 6 (some .int) : Cond) ∈ lw_g := List.mem_filter.mpr ⟨List.mem_of_getElem? (i := 843) rfl, rfl⟩
theorem wm_777 : (Cond.methodLink RX8 302 yX0_firstFrom : Cond) ∈ lw_g := List.mem_filter.mpr ⟨List.mem_of_getElem? (i := 844) (by decide +kernel), rfl⟩
theorem wm_778 : (Cond.methodLink RX8 305 yX0_depthOf : Cond) ∈ lw_g := List.mem_filter.mpr ⟨List.mem_of_getElem? (i := 845) (by decide +kernel), rfl⟩
theorem wm_779 : (Cond.methodLink RX8 266 yX0_weaken : Cond) ∈ lw_g := List.mem_filter.mpr ⟨List.mem_of_getElem? (i := 846) (by decide +kernel), rfl⟩
theorem wm_780 : (Cond.instanceMethod yX0_weaken : Cond) ∈ lw_g := List.mem_filter.mpr ⟨List.mem_of_getElem? (i := 847) (by decide +kernel), rfl⟩
theorem wm_781 : (Cond.selects RX0 yX0_weaken yX0_weaken : Cond) ∈ lw_g := List.mem_filter.mpr ⟨List.mem_of_getElem? (i := 848) (by decide +kernel), rfl⟩
set_option maxRecDepth 100000 in
theorem wm_782 : (Cond.code yX0_weaken cX0_weaken 4 (some .int) : Cond) ∈ lw_g := List.mem_filter.mpr ⟨List.mem_of_getElem? (i := 849) rfl, rfl⟩
theorem wm_783 : (Cond.methodLink RX0 36 yX7_remove : Cond) ∈ lw_g := List.mem_filter.mpr ⟨List.mem_of_getElem? (i := 850) (by decide +kernel), rfl⟩
theorem wm_784 : (Cond.instanceMethod yX7_remove : Cond) ∈ lw_g := List.mem_filter.mpr ⟨List.mem_of_getElem? (i := 851) (by decide +kernel), rfl⟩
theorem wm_785 : (Cond.selects RX7 yX7_remove yX7_remove : Cond) ∈ lw_g := List.mem_filter.mpr ⟨List.mem_of_getElem? (i := 852) (by decide +kernel), rfl⟩
set_option maxRecDepth 100000 in
theorem wm_786 : (Cond.code yX7_remove cX7_remove 3 none : Cond) ∈ lw_g := List.mem_filter.mpr ⟨List.mem_of_getElem? (i := 853) rfl, rfl⟩
theorem wm_787 : (Cond.methodLink RX7 38 yX7_has : Cond) ∈ lw_g := List.mem_filter.mpr ⟨List.mem_of_getElem? (i := 854) (by decide +kernel), rfl⟩
theorem wm_788 : (Cond.methodLink RX0 39 yX7_set : Cond) ∈ lw_g := List.mem_filter.mpr ⟨List.mem_of_getElem? (i := 855) (by decide +kernel), rfl⟩
theorem wm_789 : (Cond.instanceMethod yX7_set : Cond) ∈ lw_g := List.mem_filter.mpr ⟨List.mem_of_getElem? (i := 856) (by decide +kernel), rfl⟩
theorem wm_790 : (Cond.selects RX7 yX7_set yX7_set : Cond) ∈ lw_g := List.mem_filter.mpr ⟨List.mem_of_getElem? (i := 857) (by decide +kernel), rfl⟩
set_option maxRecDepth 100000 in
theorem wm_791 : (Cond.code yX7_set cX7_set 4 none : Cond) ∈ lw_g := List.mem_filter.mpr ⟨List.mem_of_getElem? (i := 858) rfl, rfl⟩
theorem wm_792 : (Cond.methodLink RL 113 yX8_pump : Cond) ∈ lw_g := List.mem_filter.mpr ⟨List.mem_of_getElem? (i := 859) (by decide +kernel), rfl⟩
theorem wm_793 : (Cond.instanceMethod yX8_pump : Cond) ∈ lw_g := List.mem_filter.mpr ⟨List.mem_of_getElem? (i := 860) (by decide +kernel), rfl⟩
theorem wm_794 : (Cond.selects RX8 yX8_pump yX8_pump : Cond) ∈ lw_g := List.mem_filter.mpr ⟨List.mem_of_getElem? (i := 861) (by decide +kernel), rfl⟩
set_option maxRecDepth 100000 in
theorem wm_795 : (Cond.code yX8_pump cX8_pump 3 (some .int) : Cond) ∈ lw_g := List.mem_filter.mpr ⟨List.mem_of_getElem? (i := 862) rfl, rfl⟩
theorem wm_796 : (Cond.methodLink RL 117 yX8_record : Cond) ∈ lw_g := List.mem_filter.mpr ⟨List.mem_of_getElem? (i := 863) (by decide +kernel), rfl⟩
theorem wm_797 : (Cond.instanceMethod yX8_record : Cond) ∈ lw_g := List.mem_filter.mpr ⟨List.mem_of_getElem? (i := 864) (by decide +kernel), rfl⟩
theorem wm_798 : (Cond.selects RX8 yX8_record yX8_record : Cond) ∈ lw_g := List.mem_filter.mpr ⟨List.mem_of_getElem? (i := 865) (by decide +kernel), rfl⟩
set_option maxRecDepth 100000 in
theorem wm_799 : (Cond.code yX8_record cX8_record 3 (some .int) : Cond) ∈ lw_g := List.mem_filter.mpr ⟨List.mem_of_getElem? (i := 866) rfl, rfl⟩
theorem wm_800 : (Cond.methodLink RX8 269 yX8_partOf : Cond) ∈ lw_g := List.mem_filter.mpr ⟨List.mem_of_getElem? (i := 867) (by decide +kernel), rfl⟩
theorem wm_801 : (Cond.static yX8_partOf : Cond) ∈ lw_g := List.mem_filter.mpr ⟨List.mem_of_getElem? (i := 868) (by decide +kernel), rfl⟩
set_option maxRecDepth 100000 in
theorem wm_802 : (Cond.code yX8_partOf cX8_partOf 3 (some .int) : Cond) ∈ lw_g := List.mem_filter.mpr ⟨List.mem_of_getElem? (i := 869) rfl, rfl⟩
theorem wm_803 : (Cond.methodLink RL 121 yX8_wouldSettle : Cond) ∈ lw_g := List.mem_filter.mpr ⟨List.mem_of_getElem? (i := 870) (by decide +kernel), rfl⟩
theorem wm_804 : (Cond.instanceMethod yX8_wouldSettle : Cond) ∈ lw_g := List.mem_filter.mpr ⟨List.mem_of_getElem? (i := 871) (by decide +kernel), rfl⟩
theorem wm_805 : (Cond.selects RX8 yX8_wouldSettle yX8_wouldSettle : Cond) ∈ lw_g := List.mem_filter.mpr ⟨List.mem_of_getElem? (i := 872) (by decide +kernel), rfl⟩
set_option maxRecDepth 100000 in
theorem wm_806 : (Cond.code yX8_wouldSettle cX8_wouldSettle 4 (some .int) : Cond) ∈ lw_g := List.mem_filter.mpr ⟨List.mem_of_getElem? (i := 873) rfl, rfl⟩
theorem wm_807 : (Cond.methodLink RX8 273 yX4_copyFrom : Cond) ∈ lw_g := List.mem_filter.mpr ⟨List.mem_of_getElem? (i := 874) (by decide +kernel), rfl⟩
theorem wm_808 : (Cond.methodLink RL 125 yX8_bestWell : Cond) ∈ lw_g := List.mem_filter.mpr ⟨List.mem_of_getElem? (i := 875) (by decide +kernel), rfl⟩
theorem wm_809 : (Cond.instanceMethod yX8_bestWell : Cond) ∈ lw_g := List.mem_filter.mpr ⟨List.mem_of_getElem? (i := 876) (by decide +kernel), rfl⟩
theorem wm_810 : (Cond.selects RX8 yX8_bestWell yX8_bestWell : Cond) ∈ lw_g := List.mem_filter.mpr ⟨List.mem_of_getElem? (i := 877) (by decide +kernel), rfl⟩
set_option maxRecDepth 100000 in
theorem wm_811 : (Cond.code yX8_bestWell cX8_bestWell 2 (some .int) : Cond) ∈ lw_g := List.mem_filter.mpr ⟨List.mem_of_getElem? (i := 878) rfl, rfl⟩
theorem wm_812 : (Cond.methodLink RX8 276 yX1_chooseWell : Cond) ∈ lw_g := List.mem_filter.mpr ⟨List.mem_of_getElem? (i := 879) (by decide +kernel), rfl⟩
theorem wm_813 : (Cond.instanceMethod yX1_chooseWell : Cond) ∈ lw_g := List.mem_filter.mpr ⟨List.mem_of_getElem? (i := 880) (by decide +kernel), rfl⟩
theorem wm_814 : (Cond.selects RX1 yX1_chooseWell yX1_chooseWell : Cond) ∈ lw_g := List.mem_filter.mpr ⟨List.mem_of_getElem? (i := 881) (by decide +kernel), rfl⟩
set_option maxRecDepth 100000 in
theorem wm_815 : (Cond.code yX1_chooseWell cX1_chooseWell 7 (some .int) : Cond) ∈ lw_g := List.mem_filter.mpr ⟨List.mem_of_getElem? (i := 882) rfl, rfl⟩
theorem wm_816 : (Cond.constant RX1 154 (-1000009) : Cond) ∈ lw_g := List.mem_filter.mpr ⟨List.mem_of_getElem? (i := 883) (by decide +kernel), rfl⟩
theorem wm_817 : (Cond.methodLink RX1 155 yX5_isWell : Cond) ∈ lw_g := List.mem_filter.mpr ⟨List.mem_of_getElem? (i := 884) (by decide +kernel), rfl⟩
theorem wm_818 : (Cond.methodLink RX1 159 yX5_bottomAfterDigging : Cond) ∈ lw_g := List.mem_filter.mpr ⟨List.mem_of_getElem? (i := 885) (by decide +kernel), rfl⟩
theorem wm_819 : (Cond.methodLink RX1 162 yX4_copyFrom : Cond) ∈ lw_g := List.mem_filter.mpr ⟨List.mem_of_getElem? (i := 886) (by decide +kernel), rfl⟩
theorem wm_820 : (Cond.methodLink RX1 165 yX1_sink : Cond) ∈ lw_g := List.mem_filter.mpr ⟨List.mem_of_getElem? (i := 887) (by decide +kernel), rfl⟩
theorem wm_821 : (Cond.methodLink RX1 169 yX1_isBetterThanChosen : Cond) ∈ lw_g := List.mem_filter.mpr ⟨List.mem_of_getElem? (i := 888) (by decide +kernel), rfl⟩
theorem wm_823 : (Cond.instanceMethod yX1_isBetterThanChosen : Cond) ∈ lw_g := List.mem_filter.mpr ⟨List.mem_of_getElem? (i := 890) (by decide +kernel), rfl⟩
set_option maxRecDepth 100000 in
theorem wm_824 : (Cond.code yX1_isBetterThanChosen cX1_isBetterThanChosen 3 (some .boolean) : Cond) ∈ lw_g := List.mem_filter.mpr ⟨List.mem_of_getElem? (i := 891) rfl, rfl⟩
theorem wm_825 : (Cond.methodLink RX1 173 yX4_tiltSum : Cond) ∈ lw_g := List.mem_filter.mpr ⟨List.mem_of_getElem? (i := 892) (by decide +kernel), rfl⟩
theorem wm_826 : (Cond.instanceMethod yX4_tiltSum : Cond) ∈ lw_g := List.mem_filter.mpr ⟨List.mem_of_getElem? (i := 893) (by decide +kernel), rfl⟩
theorem wm_827 : (Cond.selects RX4 yX4_tiltSum yX4_tiltSum : Cond) ∈ lw_g := List.mem_filter.mpr ⟨List.mem_of_getElem? (i := 894) (by decide +kernel), rfl⟩
set_option maxRecDepth 100000 in
theorem wm_828 : (Cond.code yX4_tiltSum cX4_tiltSum 1 (some .int) : Cond) ∈ lw_g := List.mem_filter.mpr ⟨List.mem_of_getElem? (i := 895) rfl, rfl⟩
theorem wm_829 : (Cond.methodLink RX4 25 Lib.Math.abs.name : Cond) ∈ lw_g := List.mem_filter.mpr ⟨List.mem_of_getElem? (i := 896) (by decide +kernel), rfl⟩
theorem wm_830 : (Cond.methodLink RL 129 yX8_makePlan : Cond) ∈ lw_g := List.mem_filter.mpr ⟨List.mem_of_getElem? (i := 897) (by decide +kernel), rfl⟩
theorem wm_831 : (Cond.instanceMethod yX8_makePlan : Cond) ∈ lw_g := List.mem_filter.mpr ⟨List.mem_of_getElem? (i := 898) (by decide +kernel), rfl⟩
theorem wm_832 : (Cond.selects RX8 yX8_makePlan yX8_makePlan : Cond) ∈ lw_g := List.mem_filter.mpr ⟨List.mem_of_getElem? (i := 899) (by decide +kernel), rfl⟩
set_option maxRecDepth 100000 in
theorem wm_833 : (Cond.code yX8_makePlan cX8_makePlan 5 (some .int) : Cond) ∈ lw_g := List.mem_filter.mpr ⟨List.mem_of_getElem? (i := 900) rfl, rfl⟩
theorem wm_834 : (Cond.methodLink RX8 279 yX7_clear : Cond) ∈ lw_g := List.mem_filter.mpr ⟨List.mem_of_getElem? (i := 901) (by decide +kernel), rfl⟩
theorem wm_835 : (Cond.methodLink RX8 285 yX4_tiltSum : Cond) ∈ lw_g := List.mem_filter.mpr ⟨List.mem_of_getElem? (i := 902) (by decide +kernel), rfl⟩
theorem wm_836 : (Cond.methodLink RL 133 yX8_plan : Cond) ∈ lw_g := List.mem_filter.mpr ⟨List.mem_of_getElem? (i := 903) (by decide +kernel), rfl⟩
theorem wm_837 : (Cond.instanceMethod yX8_plan : Cond) ∈ lw_g := List.mem_filter.mpr ⟨List.mem_of_getElem? (i := 904) (by decide +kernel), rfl⟩
theorem wm_838 : (Cond.selects RX8 yX8_plan yX8_plan : Cond) ∈ lw_g := List.mem_filter.mpr ⟨List.mem_of_getElem? (i := 905) (by decide +kernel), rfl⟩
set_option maxRecDepth 100000 in
theorem wm_839 : (Cond.code yX8_plan cX8_plan 3 (some .int) : Cond) ∈ lw_g := List.mem_filter.mpr ⟨List.mem_of_getElem? (i := 906) rfl, rfl⟩
theorem wm_840 : (Cond.methodLink RL 137 yX8_carryOut : Cond) ∈ lw_g := List.mem_filter.mpr ⟨List.mem_of_getElem? (i := 907) (by decide +kernel), rfl⟩
theorem wm_841 : (Cond.instanceMethod yX8_carryOut : Cond) ∈ lw_g := List.mem_filter.mpr ⟨List.mem_of_getElem? (i := 908) (by decide +kernel), rfl⟩
theorem wm_842 : (Cond.selects RX8 yX8_carryOut yX8_carryOut : Cond) ∈ lw_g := List.mem_filter.mpr ⟨List.mem_of_getElem? (i := 909) (by decide +kernel), rfl⟩
set_option maxRecDepth 100000 in
theorem wm_843 : (Cond.code yX8_carryOut cX8_carryOut 4 (some .int) : Cond) ∈ lw_g := List.mem_filter.mpr ⟨List.mem_of_getElem? (i := 910) rfl, rfl⟩
theorem wm_844 : (Cond.methodLink RL 141 yX8_highSide : Cond) ∈ lw_g := List.mem_filter.mpr ⟨List.mem_of_getElem? (i := 911) (by decide +kernel), rfl⟩
theorem wm_845 : (Cond.instanceMethod yX8_highSide : Cond) ∈ lw_g := List.mem_filter.mpr ⟨List.mem_of_getElem? (i := 912) (by decide +kernel), rfl⟩
theorem wm_846 : (Cond.selects RX8 yX8_highSide yX8_highSide : Cond) ∈ lw_g := List.mem_filter.mpr ⟨List.mem_of_getElem? (i := 913) (by decide +kernel), rfl⟩
set_option maxRecDepth 100000 in
theorem wm_847 : (Cond.code yX8_highSide cX8_highSide 5 (some .int) : Cond) ∈ lw_g := List.mem_filter.mpr ⟨List.mem_of_getElem? (i := 914) rfl, rfl⟩
theorem wm_848 : (Cond.methodLink RX8 292 yX1_depthsOfSide : Cond) ∈ lw_g := List.mem_filter.mpr ⟨List.mem_of_getElem? (i := 915) (by decide +kernel), rfl⟩
theorem wm_849 : (Cond.instanceMethod yX1_depthsOfSide : Cond) ∈ lw_g := List.mem_filter.mpr ⟨List.mem_of_getElem? (i := 916) (by decide +kernel), rfl⟩
theorem wm_850 : (Cond.selects RX1 yX1_depthsOfSide yX1_depthsOfSide : Cond) ∈ lw_g := List.mem_filter.mpr ⟨List.mem_of_getElem? (i := 917) (by decide +kernel), rfl⟩
set_option maxRecDepth 100000 in
theorem wm_851 : (Cond.code yX1_depthsOfSide cX1_depthsOfSide 5 (some .int) : Cond) ∈ lw_g := List.mem_filter.mpr ⟨List.mem_of_getElem? (i := 918) rfl, rfl⟩
theorem wm_852 : (Cond.methodLink RX8 295 yX5_lengthOfSide : Cond) ∈ lw_g := List.mem_filter.mpr ⟨List.mem_of_getElem? (i := 919) (by decide +kernel), rfl⟩
theorem wm_853 : (Cond.instanceMethod yX5_lengthOfSide : Cond) ∈ lw_g := List.mem_filter.mpr ⟨List.mem_of_getElem? (i := 920) (by decide +kernel), rfl⟩
theorem wm_854 : (Cond.selects RX5 yX5_lengthOfSide yX5_lengthOfSide : Cond) ∈ lw_g := List.mem_filter.mpr ⟨List.mem_of_getElem? (i := 921) (by decide +kernel), rfl⟩
set_option maxRecDepth 100000 in
theorem wm_855 : (Cond.code yX5_lengthOfSide cX5_lengthOfSide 2 (some .int) : Cond) ∈ lw_g := List.mem_filter.mpr ⟨List.mem_of_getElem? (i := 922) rfl, rfl⟩
theorem wm_856 : (Cond.methodLink RL 145 yX8_undo : Cond) ∈ lw_g := List.mem_filter.mpr ⟨List.mem_of_getElem? (i := 923) (by decide +kernel), rfl⟩
theorem wm_857 : (Cond.instanceMethod yX8_undo : Cond) ∈ lw_g := List.mem_filter.mpr ⟨List.mem_of_getElem? (i := 924) (by decide +kernel), rfl⟩
theorem wm_858 : (Cond.selects RX8 yX8_undo yX8_undo : Cond) ∈ lw_g := List.mem_filter.mpr ⟨List.mem_of_getElem? (i := 925) (by decide +kernel), rfl⟩
set_option maxRecDepth 100000 in
theorem wm_859 : (Cond.code yX8_undo cX8_undo 1 (some .int) : Cond) ∈ lw_g := List.mem_filter.mpr ⟨List.mem_of_getElem? (i := 926) rfl, rfl⟩
theorem wm_860 : (Cond.methodLink RX8 299 yX3_restore : Cond) ∈ lw_g := List.mem_filter.mpr ⟨List.mem_of_getElem? (i := 927) (by decide +kernel), rfl⟩
theorem wm_861 : (Cond.instanceMethod yX3_restore : Cond) ∈ lw_g := List.mem_filter.mpr ⟨List.mem_of_getElem? (i := 928) (by decide +kernel), rfl⟩
theorem wm_862 : (Cond.selects RX3 yX3_restore yX3_restore : Cond) ∈ lw_g := List.mem_filter.mpr ⟨List.mem_of_getElem? (i := 929) (by decide +kernel), rfl⟩
set_option maxRecDepth 100000 in
theorem wm_863 : (Cond.code yX3_restore cX3_restore 2 none : Cond) ∈ lw_g := List.mem_filter.mpr ⟨List.mem_of_getElem? (i := 930) rfl, rfl⟩
theorem wm_864 : (Cond.classLink RL 10 RX9 : Cond) ∈ lw_g := List.mem_filter.mpr ⟨List.mem_of_getElem? (i := 931) (by decide +kernel), rfl⟩
theorem wm_865 : (Cond.instantiable RX9 15 : Cond) ∈ lw_g := List.mem_filter.mpr ⟨List.mem_of_getElem? (i := 932) (by decide +kernel), rfl⟩
theorem wm_866 : (Cond.methodLink RL 12 yX9_init : Cond) ∈ lw_g := List.mem_filter.mpr ⟨List.mem_of_getElem? (i := 933) (by decide +kernel), rfl⟩
theorem wm_867 : (Cond.instanceMethod yX9_init : Cond) ∈ lw_g := List.mem_filter.mpr ⟨List.mem_of_getElem? (i := 934) (by decide +kernel), rfl⟩
set_option maxRecDepth 100000 in
theorem wm_868 : (Cond.code yX9_init cX9_init 1 none : Cond) ∈ lw_g := List.mem_filter.mpr ⟨List.mem_of_getElem? (i := 935) rfl, rfl⟩
theorem wm_869 : (Cond.methodLink RX9 1 Lib.objectInit : Cond) ∈ lw_g := List.mem_filter.mpr ⟨List.mem_of_getElem? (i := 936) (by decide +kernel), rfl⟩
theorem wm_870 : (Cond.methodLink RX9 31 yX9_begins : Cond) ∈ lw_g := List.mem_filter.mpr ⟨List.mem_of_getElem? (i := 937) (by decide +kernel), rfl⟩
theorem wm_872 : (Cond.instanceMethod yX9_begins : Cond) ∈ lw_g := List.mem_filter.mpr ⟨List.mem_of_getElem? (i := 939) (by decide +kernel), rfl⟩
set_option maxRecDepth 100000 in
theorem wm_873 : (Cond.code yX9_begins cX9_begins 2 none : Cond) ∈ lw_g := List.mem_filter.mpr ⟨List.mem_of_getElem? (i := 940) rfl, rfl⟩
theorem wm_874 : (Cond.fieldLink RX9 7 "CaissonSinkerModel" "s" "[I" : Cond) ∈ lw_g := List.mem_filter.mpr ⟨List.mem_of_getElem? (i := 941) (by decide +kernel), rfl⟩
theorem wm_875 : (Cond.fieldLink RX9 13 "CaissonSinkerModel" "past" "[I" : Cond) ∈ lw_g := List.mem_filter.mpr ⟨List.mem_of_getElem? (i := 942) (by decide +kernel), rfl⟩
theorem wm_876 : (Cond.fieldLink RX9 16 "CaissonSinkerModel" "aside" "[I" : Cond) ∈ lw_g := List.mem_filter.mpr ⟨List.mem_of_getElem? (i := 943) (by decide +kernel), rfl⟩
theorem wm_877 : (Cond.fieldLink RX9 34 "CaissonSinkerModel" "pasts" "I" : Cond) ∈ lw_g := List.mem_filter.mpr ⟨List.mem_of_getElem? (i := 944) (by decide +kernel), rfl⟩
theorem wm_878 : (Cond.fieldLink RX9 19 "CaissonSinkerModel" "text" "[I" : Cond) ∈ lw_g := List.mem_filter.mpr ⟨List.mem_of_getElem? (i := 945) (by decide +kernel), rfl⟩
theorem wm_879 : (Cond.fieldLink RX9 123 "CaissonSinkerModel" "typed" "I" : Cond) ∈ lw_g := List.mem_filter.mpr ⟨List.mem_of_getElem? (i := 946) (by decide +kernel), rfl⟩
theorem wm_880 : (Cond.fieldLink RX9 127 "CaissonSinkerModel" "at" "I" : Cond) ∈ lw_g := List.mem_filter.mpr ⟨List.mem_of_getElem? (i := 947) (by decide +kernel), rfl⟩
theorem wm_881 : (Cond.fieldLink RX9 136 "CaissonSinkerModel" "kind" "I" : Cond) ∈ lw_g := List.mem_filter.mpr ⟨List.mem_of_getElem? (i := 948) (by decide +kernel), rfl⟩
theorem wm_882 : (Cond.fieldLink RX9 133 "CaissonSinkerModel" "from" "I" : Cond) ∈ lw_g := List.mem_filter.mpr ⟨List.mem_of_getElem? (i := 949) (by decide +kernel), rfl⟩
theorem wm_883 : (Cond.fieldLink RX9 139 "CaissonSinkerModel" "value" "I" : Cond) ∈ lw_g := List.mem_filter.mpr ⟨List.mem_of_getElem? (i := 950) (by decide +kernel), rfl⟩
theorem wm_884 : (Cond.fieldLink RX9 22 "CaissonSinkerModel" "told" "[I" : Cond) ∈ lw_g := List.mem_filter.mpr ⟨List.mem_of_getElem? (i := 951) (by decide +kernel), rfl⟩
theorem wm_885 : (Cond.fieldLink RX9 25 "CaissonSinkerModel" "bottoms" "[I" : Cond) ∈ lw_g := List.mem_filter.mpr ⟨List.mem_of_getElem? (i := 952) (by decide +kernel), rfl⟩
theorem wm_886 : (Cond.fieldLink RX9 28 "CaissonSinkerModel" "planned" "[I" : Cond) ∈ lw_g := List.mem_filter.mpr ⟨List.mem_of_getElem? (i := 953) (by decide +kernel), rfl⟩
theorem wm_887 : (Cond.fieldLink RX9 235 "CaissonSinkerModel" "planLength" "I" : Cond) ∈ lw_g := List.mem_filter.mpr ⟨List.mem_of_getElem? (i := 954) (by decide +kernel), rfl⟩
theorem wm_888 : (Cond.fieldLink RX9 238 "CaissonSinkerModel" "planAmount" "I" : Cond) ∈ lw_g := List.mem_filter.mpr ⟨List.mem_of_getElem? (i := 955) (by decide +kernel), rfl⟩
theorem wm_920 : (Cond.methodLink RL 17 yX9_appendCharacter : Cond) ∈ lw_g := List.mem_filter.mpr ⟨List.mem_of_getElem? (i := 987) (by decide +kernel), rfl⟩
theorem wm_921 : (Cond.instanceMethod yX9_appendCharacter : Cond) ∈ lw_g := List.mem_filter.mpr ⟨List.mem_of_getElem? (i := 988) (by decide +kernel), rfl⟩
theorem wm_922 : (Cond.selects RX9 yX9_appendCharacter yX9_appendCharacter : Cond) ∈ lw_g := List.mem_filter.mpr ⟨List.mem_of_getElem? (i := 989) (by decide +kernel), rfl⟩
set_option maxRecDepth 100000 in
theorem wm_923 : (Cond.code yX9_appendCharacter cX9_appendCharacter 2 (some .int) : Cond) ∈ lw_g := List.mem_filter.mpr ⟨List.mem_of_getElem? (i := 990) rfl, rfl⟩
theorem wm_924 : (Cond.methodLink RX9 38 yX9_in : Cond) ∈ lw_g := List.mem_filter.mpr ⟨List.mem_of_getElem? (i := 991) (by decide +kernel), rfl⟩
theorem wm_925 : (Cond.static yX9_in : Cond) ∈ lw_g := List.mem_filter.mpr ⟨List.mem_of_getElem? (i := 992) (by decide +kernel), rfl⟩
set_option maxRecDepth 100000 in
theorem wm_926 : (Cond.code yX9_in cX9_in 3 (some .boolean) : Cond) ∈ lw_g := List.mem_filter.mpr ⟨List.mem_of_getElem? (i := 993) rfl, rfl⟩
theorem wm_927 : (Cond.constant RX9 122 (-1000001) : Cond) ∈ lw_g := List.mem_filter.mpr ⟨List.mem_of_getElem? (i := 994) (by decide +kernel), rfl⟩
theorem wm_928 : (Cond.constant RX9 126 (-1000003) : Cond) ∈ lw_g := List.mem_filter.mpr ⟨List.mem_of_getElem? (i := 995) (by decide +kernel), rfl⟩
theorem wm_929 : (Cond.methodLink RL 22 yX9_clearText : Cond) ∈ lw_g := List.mem_filter.mpr ⟨List.mem_of_getElem? (i := 996) (by decide +kernel), rfl⟩
theorem wm_930 : (Cond.instanceMethod yX9_clearText : Cond) ∈ lw_g := List.mem_filter.mpr ⟨List.mem_of_getElem? (i := 997) (by decide +kernel), rfl⟩
theorem wm_931 : (Cond.selects RX9 yX9_clearText yX9_clearText : Cond) ∈ lw_g := List.mem_filter.mpr ⟨List.mem_of_getElem? (i := 998) (by decide +kernel), rfl⟩
set_option maxRecDepth 100000 in
theorem wm_932 : (Cond.code yX9_clearText cX9_clearText 2 (some .int) : Cond) ∈ lw_g := List.mem_filter.mpr ⟨List.mem_of_getElem? (i := 999) rfl, rfl⟩
theorem wm_933 : (Cond.methodLink RL 26 yX9_load : Cond) ∈ lw_g := List.mem_filter.mpr ⟨List.mem_of_getElem? (i := 1000) (by decide +kernel), rfl⟩
theorem wm_934 : (Cond.instanceMethod yX9_load : Cond) ∈ lw_g := List.mem_filter.mpr ⟨List.mem_of_getElem? (i := 1001) (by decide +kernel), rfl⟩
theorem wm_935 : (Cond.selects RX9 yX9_load yX9_load : Cond) ∈ lw_g := List.mem_filter.mpr ⟨List.mem_of_getElem? (i := 1002) (by decide +kernel), rfl⟩
set_option maxRecDepth 100000 in
theorem wm_936 : (Cond.code yX9_load cX9_load 3 (some .int) : Cond) ∈ lw_g := List.mem_filter.mpr ⟨List.mem_of_getElem? (i := 1003) rfl, rfl⟩
theorem wm_937 : (Cond.methodLink RX9 188 yX9_hold : Cond) ∈ lw_g := List.mem_filter.mpr ⟨List.mem_of_getElem? (i := 1004) (by decide +kernel), rfl⟩
theorem wm_939 : (Cond.instanceMethod yX9_hold : Cond) ∈ lw_g := List.mem_filter.mpr ⟨List.mem_of_getElem? (i := 1006) (by decide +kernel), rfl⟩
set_option maxRecDepth 100000 in
theorem wm_940 : (Cond.code yX9_hold cX9_hold 2 none : Cond) ∈ lw_g := List.mem_filter.mpr ⟨List.mem_of_getElem? (i := 1007) rfl, rfl⟩
theorem wm_941 : (Cond.methodLink RX9 178 yX9_token : Cond) ∈ lw_g := List.mem_filter.mpr ⟨List.mem_of_getElem? (i := 1008) (by decide +kernel), rfl⟩
theorem wm_943 : (Cond.instanceMethod yX9_token : Cond) ∈ lw_g := List.mem_filter.mpr ⟨List.mem_of_getElem? (i := 1010) (by decide +kernel), rfl⟩
set_option maxRecDepth 100000 in
theorem wm_944 : (Cond.code yX9_token cX9_token 1 none : Cond) ∈ lw_g := List.mem_filter.mpr ⟨List.mem_of_getElem? (i := 1011) rfl, rfl⟩
theorem wm_945 : (Cond.methodLink RX9 130 yX9_isAt : Cond) ∈ lw_g := List.mem_filter.mpr ⟨List.mem_of_getElem? (i := 1012) (by decide +kernel), rfl⟩
theorem wm_947 : (Cond.instanceMethod yX9_isAt : Cond) ∈ lw_g := List.mem_filter.mpr ⟨List.mem_of_getElem? (i := 1014) (by decide +kernel), rfl⟩
set_option maxRecDepth 100000 in
theorem wm_948 : (Cond.code yX9_isAt cX9_isAt 4 (some .boolean) : Cond) ∈ lw_g := List.mem_filter.mpr ⟨List.mem_of_getElem? (i := 1015) rfl, rfl⟩
theorem wm_949 : (Cond.methodLink RX9 191 yX9_item : Cond) ∈ lw_g := List.mem_filter.mpr ⟨List.mem_of_getElem? (i := 1016) (by decide +kernel), rfl⟩
theorem wm_951 : (Cond.instanceMethod yX9_item : Cond) ∈ lw_g := List.mem_filter.mpr ⟨List.mem_of_getElem? (i := 1018) (by decide +kernel), rfl⟩
set_option maxRecDepth 100000 in
theorem wm_952 : (Cond.code yX9_item cX9_item 1 (some .int) : Cond) ∈ lw_g := List.mem_filter.mpr ⟨List.mem_of_getElem? (i := 1019) rfl, rfl⟩
theorem wm_953 : (Cond.constantLong RX9 144 (1886151022) : Cond) ∈ lw_g := List.mem_filter.mpr ⟨List.mem_of_getElem? (i := 1020) (by decide +kernel), rfl⟩
theorem wm_954 : (Cond.methodLink RX9 146 yX9_isWord : Cond) ∈ lw_g := List.mem_filter.mpr ⟨List.mem_of_getElem? (i := 1021) (by decide +kernel), rfl⟩
theorem wm_956 : (Cond.instanceMethod yX9_isWord : Cond) ∈ lw_g := List.mem_filter.mpr ⟨List.mem_of_getElem? (i := 1023) (by decide +kernel), rfl⟩
set_option maxRecDepth 100000 in
theorem wm_957 : (Cond.code yX9_isWord cX9_isWord 6 (some .boolean) : Cond) ∈ lw_g := List.mem_filter.mpr ⟨List.mem_of_getElem? (i := 1024) rfl, rfl⟩
theorem wm_958 : (Cond.constantLong RX9 142 (255) : Cond) ∈ lw_g := List.mem_filter.mpr ⟨List.mem_of_getElem? (i := 1025) (by decide +kernel), rfl⟩
theorem wm_959 : (Cond.constantLong RX9 150 (131277443786868) : Cond) ∈ lw_g := List.mem_filter.mpr ⟨List.mem_of_getElem? (i := 1026) (by decide +kernel), rfl⟩
theorem wm_960 : (Cond.constantLong RX9 152 (512736126322) : Cond) ∈ lw_g := List.mem_filter.mpr ⟨List.mem_of_getElem? (i := 1027) (by decide +kernel), rfl⟩
theorem wm_961 : (Cond.constantLong RX9 154 (495874303590) : Cond) ∈ lw_g := List.mem_filter.mpr ⟨List.mem_of_getElem? (i := 1028) (by decide +kernel), rfl⟩
theorem wm_962 : (Cond.constantLong RX9 156 (465491813746) : Cond) ∈ lw_g := List.mem_filter.mpr ⟨List.mem_of_getElem? (i := 1029) (by decide +kernel), rfl⟩
theorem wm_963 : (Cond.constantLong RX9 158 (27707097838019954) : Cond) ∈ lw_g := List.mem_filter.mpr ⟨List.mem_of_getElem? (i := 1030) (by decide +kernel), rfl⟩
theorem wm_964 : (Cond.constant RX9 160 (-1000009) : Cond) ∈ lw_g := List.mem_filter.mpr ⟨List.mem_of_getElem? (i := 1031) (by decide +kernel), rfl⟩
theorem wm_965 : (Cond.methodLink RX9 194 yX9_mayBegin : Cond) ∈ lw_g := List.mem_filter.mpr ⟨List.mem_of_getElem? (i := 1032) (by decide +kernel), rfl⟩
theorem wm_967 : (Cond.instanceMethod yX9_mayBegin : Cond) ∈ lw_g := List.mem_filter.mpr ⟨List.mem_of_getElem? (i := 1034) (by decide +kernel), rfl⟩
set_option maxRecDepth 100000 in
theorem wm_968 : (Cond.code yX9_mayBegin cX9_mayBegin 3 (some .boolean) : Cond) ∈ lw_g := List.mem_filter.mpr ⟨List.mem_of_getElem? (i := 1035) rfl, rfl⟩
theorem wm_969 : (Cond.methodLink RX9 197 yX9_isRead : Cond) ∈ lw_g := List.mem_filter.mpr ⟨List.mem_of_getElem? (i := 1036) (by decide +kernel), rfl⟩
theorem wm_971 : (Cond.instanceMethod yX9_isRead : Cond) ∈ lw_g := List.mem_filter.mpr ⟨List.mem_of_getElem? (i := 1038) (by decide +kernel), rfl⟩
set_option maxRecDepth 100000 in
theorem wm_972 : (Cond.code yX9_isRead cX9_isRead 5 (some .boolean) : Cond) ∈ lw_g := List.mem_filter.mpr ⟨List.mem_of_getElem? (i := 1039) rfl, rfl⟩
theorem wm_973 : (Cond.methodLink RX9 175 yX9_numbersOf : Cond) ∈ lw_g := List.mem_filter.mpr ⟨List.mem_of_getElem? (i := 1040) (by decide +kernel), rfl⟩
theorem wm_974 : (Cond.static yX9_numbersOf : Cond) ∈ lw_g := List.mem_filter.mpr ⟨List.mem_of_getElem? (i := 1041) (by decide +kernel), rfl⟩
set_option maxRecDepth 100000 in
theorem wm_975 : (Cond.code yX9_numbersOf cX9_numbersOf 1 (some .int) : Cond) ∈ lw_g := List.mem_filter.mpr ⟨List.mem_of_getElem? (i := 1042) rfl, rfl⟩
theorem wm_976 : (Cond.methodLink RX9 181 yX9_isTold : Cond) ∈ lw_g := List.mem_filter.mpr ⟨List.mem_of_getElem? (i := 1043) (by decide +kernel), rfl⟩
theorem wm_978 : (Cond.instanceMethod yX9_isTold : Cond) ∈ lw_g := List.mem_filter.mpr ⟨List.mem_of_getElem? (i := 1045) (by decide +kernel), rfl⟩
set_option maxRecDepth 100000 in
theorem wm_979 : (Cond.code yX9_isTold cX9_isTold 3 (some .boolean) : Cond) ∈ lw_g := List.mem_filter.mpr ⟨List.mem_of_getElem? (i := 1046) rfl, rfl⟩
theorem wm_980 : (Cond.methodLink RX9 161 yX9_isBoulderTold : Cond) ∈ lw_g := List.mem_filter.mpr ⟨List.mem_of_getElem? (i := 1047) (by decide +kernel), rfl⟩
theorem wm_982 : (Cond.instanceMethod yX9_isBoulderTold : Cond) ∈ lw_g := List.mem_filter.mpr ⟨List.mem_of_getElem? (i := 1049) (by decide +kernel), rfl⟩
set_option maxRecDepth 100000 in
theorem wm_983 : (Cond.code yX9_isBoulderTold cX9_isBoulderTold 2 (some .boolean) : Cond) ∈ lw_g := List.mem_filter.mpr ⟨List.mem_of_getElem? (i := 1050) rfl, rfl⟩
theorem wm_984 : (Cond.methodLink RX9 164 yX9_boulderAt : Cond) ∈ lw_g := List.mem_filter.mpr ⟨List.mem_of_getElem? (i := 1051) (by decide +kernel), rfl⟩
theorem wm_986 : (Cond.instanceMethod yX9_boulderAt : Cond) ∈ lw_g := List.mem_filter.mpr ⟨List.mem_of_getElem? (i := 1053) (by decide +kernel), rfl⟩
set_option maxRecDepth 100000 in
theorem wm_987 : (Cond.code yX9_boulderAt cX9_boulderAt 5 (some .int) : Cond) ∈ lw_g := List.mem_filter.mpr ⟨List.mem_of_getElem? (i := 1054) rfl, rfl⟩
theorem wm_988 : (Cond.methodLink RX9 184 yX9_puts : Cond) ∈ lw_g := List.mem_filter.mpr ⟨List.mem_of_getElem? (i := 1055) (by decide +kernel), rfl⟩
theorem wm_990 : (Cond.instanceMethod yX9_puts : Cond) ∈ lw_g := List.mem_filter.mpr ⟨List.mem_of_getElem? (i := 1057) (by decide +kernel), rfl⟩
set_option maxRecDepth 100000 in
theorem wm_991 : (Cond.code yX9_puts cX9_puts 3 none : Cond) ∈ lw_g := List.mem_filter.mpr ⟨List.mem_of_getElem? (i := 1058) rfl, rfl⟩
theorem wm_992 : (Cond.methodLink RX9 167 yX9_putsLayer : Cond) ∈ lw_g := List.mem_filter.mpr ⟨List.mem_of_getElem? (i := 1059) (by decide +kernel), rfl⟩
theorem wm_994 : (Cond.instanceMethod yX9_putsLayer : Cond) ∈ lw_g := List.mem_filter.mpr ⟨List.mem_of_getElem? (i := 1061) (by decide +kernel), rfl⟩
set_option maxRecDepth 100000 in
theorem wm_995 : (Cond.code yX9_putsLayer cX9_putsLayer 5 none : Cond) ∈ lw_g := List.mem_filter.mpr ⟨List.mem_of_getElem? (i := 1062) rfl, rfl⟩
theorem wm_996 : (Cond.methodLink RX9 171 yX9_putsBoulder : Cond) ∈ lw_g := List.mem_filter.mpr ⟨List.mem_of_getElem? (i := 1063) (by decide +kernel), rfl⟩
theorem wm_998 : (Cond.instanceMethod yX9_putsBoulder : Cond) ∈ lw_g := List.mem_filter.mpr ⟨List.mem_of_getElem? (i := 1065) (by decide +kernel), rfl⟩
set_option maxRecDepth 100000 in
theorem wm_999 : (Cond.code yX9_putsBoulder cX9_putsBoulder 6 (some .int) : Cond) ∈ lw_g := List.mem_filter.mpr ⟨List.mem_of_getElem? (i := 1066) rfl, rfl⟩
theorem wm_1000 : (Cond.methodLink RX9 200 yX9_restore : Cond) ∈ lw_g := List.mem_filter.mpr ⟨List.mem_of_getElem? (i := 1067) (by decide +kernel), rfl⟩
theorem wm_1002 : (Cond.instanceMethod yX9_restore : Cond) ∈ lw_g := List.mem_filter.mpr ⟨List.mem_of_getElem? (i := 1069) (by decide +kernel), rfl⟩
set_option maxRecDepth 100000 in
theorem wm_1003 : (Cond.code yX9_restore cX9_restore 2 none : Cond) ∈ lw_g := List.mem_filter.mpr ⟨List.mem_of_getElem? (i := 1070) rfl, rfl⟩
theorem wm_1004 : (Cond.methodLink RX9 203 yX9_ends : Cond) ∈ lw_g := List.mem_filter.mpr ⟨List.mem_of_getElem? (i := 1071) (by decide +kernel), rfl⟩
theorem wm_1006 : (Cond.instanceMethod yX9_ends : Cond) ∈ lw_g := List.mem_filter.mpr ⟨List.mem_of_getElem? (i := 1073) (by decide +kernel), rfl⟩
set_option maxRecDepth 100000 in
theorem wm_1007 : (Cond.code yX9_ends cX9_ends 3 (some .int) : Cond) ∈ lw_g := List.mem_filter.mpr ⟨List.mem_of_getElem? (i := 1074) rfl, rfl⟩
theorem wm_1008 : (Cond.methodLink RL 31 yX9_resize : Cond) ∈ lw_g := List.mem_filter.mpr ⟨List.mem_of_getElem? (i := 1075) (by decide +kernel), rfl⟩
theorem wm_1009 : (Cond.instanceMethod yX9_resize : Cond) ∈ lw_g := List.mem_filter.mpr ⟨List.mem_of_getElem? (i := 1076) (by decide +kernel), rfl⟩
theorem wm_1010 : (Cond.selects RX9 yX9_resize yX9_resize : Cond) ∈ lw_g := List.mem_filter.mpr ⟨List.mem_of_getElem? (i := 1077) (by decide +kernel), rfl⟩
set_option maxRecDepth 100000 in
theorem wm_1011 : (Cond.code yX9_resize cX9_resize 4 (some .int) : Cond) ∈ lw_g := List.mem_filter.mpr ⟨List.mem_of_getElem? (i := 1078) rfl, rfl⟩
theorem wm_1012 : (Cond.methodLink RL 35 yX9_setWeight : Cond) ∈ lw_g := List.mem_filter.mpr ⟨List.mem_of_getElem? (i := 1079) (by decide +kernel), rfl⟩
theorem wm_1013 : (Cond.instanceMethod yX9_setWeight : Cond) ∈ lw_g := List.mem_filter.mpr ⟨List.mem_of_getElem? (i := 1080) (by decide +kernel), rfl⟩
theorem wm_1014 : (Cond.selects RX9 yX9_setWeight yX9_setWeight : Cond) ∈ lw_g := List.mem_filter.mpr ⟨List.mem_of_getElem? (i := 1081) (by decide +kernel), rfl⟩
set_option maxRecDepth 100000 in
theorem wm_1015 : (Cond.code yX9_setWeight cX9_setWeight 2 (some .int) : Cond) ∈ lw_g := List.mem_filter.mpr ⟨List.mem_of_getElem? (i := 1082) rfl, rfl⟩
theorem wm_1016 : (Cond.methodLink RX9 206 yX9_becomes : Cond) ∈ lw_g := List.mem_filter.mpr ⟨List.mem_of_getElem? (i := 1083) (by decide +kernel), rfl⟩
theorem wm_1018 : (Cond.instanceMethod yX9_becomes : Cond) ∈ lw_g := List.mem_filter.mpr ⟨List.mem_of_getElem? (i := 1085) (by decide +kernel), rfl⟩
set_option maxRecDepth 100000 in
theorem wm_1019 : (Cond.code yX9_becomes cX9_becomes 4 (some .int) : Cond) ∈ lw_g := List.mem_filter.mpr ⟨List.mem_of_getElem? (i := 1086) rfl, rfl⟩
theorem wm_1020 : (Cond.methodLink RL 39 yX9_setStiffness : Cond) ∈ lw_g := List.mem_filter.mpr ⟨List.mem_of_getElem? (i := 1087) (by decide +kernel), rfl⟩
theorem wm_1021 : (Cond.instanceMethod yX9_setStiffness : Cond) ∈ lw_g := List.mem_filter.mpr ⟨List.mem_of_getElem? (i := 1088) (by decide +kernel), rfl⟩
theorem wm_1022 : (Cond.selects RX9 yX9_setStiffness yX9_setStiffness : Cond) ∈ lw_g := List.mem_filter.mpr ⟨List.mem_of_getElem? (i := 1089) (by decide +kernel), rfl⟩
set_option maxRecDepth 100000 in
theorem wm_1023 : (Cond.code yX9_setStiffness cX9_setStiffness 2 (some .int) : Cond) ∈ lw_g := List.mem_filter.mpr ⟨List.mem_of_getElem? (i := 1090) rfl, rfl⟩
theorem wm_1024 : (Cond.methodLink RL 44 yX9_addLayer : Cond) ∈ lw_g := List.mem_filter.mpr ⟨List.mem_of_getElem? (i := 1091) (by decide +kernel), rfl⟩
theorem wm_1025 : (Cond.instanceMethod yX9_addLayer : Cond) ∈ lw_g := List.mem_filter.mpr ⟨List.mem_of_getElem? (i := 1092) (by decide +kernel), rfl⟩
theorem wm_1026 : (Cond.selects RX9 yX9_addLayer yX9_addLayer : Cond) ∈ lw_g := List.mem_filter.mpr ⟨List.mem_of_getElem? (i := 1093) (by decide +kernel), rfl⟩
set_option maxRecDepth 100000 in
theorem wm_1027 : (Cond.code yX9_addLayer cX9_addLayer 4 (some .int) : Cond) ∈ lw_g := List.mem_filter.mpr ⟨List.mem_of_getElem? (i := 1094) rfl, rfl⟩
theorem wm_1028 : (Cond.methodLink RL 48 yX9_addBoulder : Cond) ∈ lw_g := List.mem_filter.mpr ⟨List.mem_of_getElem? (i := 1095) (by decide +kernel), rfl⟩
theorem wm_1029 : (Cond.instanceMethod yX9_addBoulder : Cond) ∈ lw_g := List.mem_filter.mpr ⟨List.mem_of_getElem? (i := 1096) (by decide +kernel), rfl⟩
theorem wm_1030 : (Cond.selects RX9 yX9_addBoulder yX9_addBoulder : Cond) ∈ lw_g := List.mem_filter.mpr ⟨List.mem_of_getElem? (i := 1097) (by decide +kernel), rfl⟩
set_option maxRecDepth 100000 in
theorem wm_1031 : (Cond.code yX9_addBoulder cX9_addBoulder 4 (some .int) : Cond) ∈ lw_g := List.mem_filter.mpr ⟨List.mem_of_getElem? (i := 1098) rfl, rfl⟩
theorem wm_1032 : (Cond.methodLink RX9 49 yX9_isCell : Cond) ∈ lw_g := List.mem_filter.mpr ⟨List.mem_of_getElem? (i := 1099) (by decide +kernel), rfl⟩
theorem wm_1034 : (Cond.instanceMethod yX9_isCell : Cond) ∈ lw_g := List.mem_filter.mpr ⟨List.mem_of_getElem? (i := 1101) (by decide +kernel), rfl⟩
set_option maxRecDepth 100000 in
theorem wm_1035 : (Cond.code yX9_isCell cX9_isCell 2 (some .boolean) : Cond) ∈ lw_g := List.mem_filter.mpr ⟨List.mem_of_getElem? (i := 1102) rfl, rfl⟩
theorem wm_1036 : (Cond.constant RX9 209 (-1000002) : Cond) ∈ lw_g := List.mem_filter.mpr ⟨List.mem_of_getElem? (i := 1103) (by decide +kernel), rfl⟩
theorem wm_1037 : (Cond.methodLink RL 52 yX9_ground : Cond) ∈ lw_g := List.mem_filter.mpr ⟨List.mem_of_getElem? (i := 1104) (by decide +kernel), rfl⟩
theorem wm_1038 : (Cond.instanceMethod yX9_ground : Cond) ∈ lw_g := List.mem_filter.mpr ⟨List.mem_of_getElem? (i := 1105) (by decide +kernel), rfl⟩
theorem wm_1039 : (Cond.selects RX9 yX9_ground yX9_ground : Cond) ∈ lw_g := List.mem_filter.mpr ⟨List.mem_of_getElem? (i := 1106) (by decide +kernel), rfl⟩
set_option maxRecDepth 100000 in
theorem wm_1040 : (Cond.code yX9_ground cX9_ground 3 (some .int) : Cond) ∈ lw_g := List.mem_filter.mpr ⟨List.mem_of_getElem? (i := 1107) rfl, rfl⟩
theorem wm_1041 : (Cond.methodLink RX9 76 yX9_groundAt : Cond) ∈ lw_g := List.mem_filter.mpr ⟨List.mem_of_getElem? (i := 1108) (by decide +kernel), rfl⟩
theorem wm_1043 : (Cond.instanceMethod yX9_groundAt : Cond) ∈ lw_g := List.mem_filter.mpr ⟨List.mem_of_getElem? (i := 1110) (by decide +kernel), rfl⟩
set_option maxRecDepth 100000 in
theorem wm_1044 : (Cond.code yX9_groundAt cX9_groundAt 4 (some .int) : Cond) ∈ lw_g := List.mem_filter.mpr ⟨List.mem_of_getElem? (i := 1111) rfl, rfl⟩
theorem wm_1045 : (Cond.methodLink RX9 64 yX9_layerAt : Cond) ∈ lw_g := List.mem_filter.mpr ⟨List.mem_of_getElem? (i := 1112) (by decide +kernel), rfl⟩
theorem wm_1047 : (Cond.instanceMethod yX9_layerAt : Cond) ∈ lw_g := List.mem_filter.mpr ⟨List.mem_of_getElem? (i := 1114) (by decide +kernel), rfl⟩
set_option maxRecDepth 100000 in
theorem wm_1048 : (Cond.code yX9_layerAt cX9_layerAt 4 (some .int) : Cond) ∈ lw_g := List.mem_filter.mpr ⟨List.mem_of_getElem? (i := 1115) rfl, rfl⟩
theorem wm_1049 : (Cond.methodLink RL 56 yX9_boulder : Cond) ∈ lw_g := List.mem_filter.mpr ⟨List.mem_of_getElem? (i := 1116) (by decide +kernel), rfl⟩
theorem wm_1050 : (Cond.instanceMethod yX9_boulder : Cond) ∈ lw_g := List.mem_filter.mpr ⟨List.mem_of_getElem? (i := 1117) (by decide +kernel), rfl⟩
theorem wm_1051 : (Cond.selects RX9 yX9_boulder yX9_boulder : Cond) ∈ lw_g := List.mem_filter.mpr ⟨List.mem_of_getElem? (i := 1118) (by decide +kernel), rfl⟩
set_option maxRecDepth 100000 in
theorem wm_1052 : (Cond.code yX9_boulder cX9_boulder 3 (some .int) : Cond) ∈ lw_g := List.mem_filter.mpr ⟨List.mem_of_getElem? (i := 1119) rfl, rfl⟩
theorem wm_1053 : (Cond.methodLink RL 60 yX9_state : Cond) ∈ lw_g := List.mem_filter.mpr ⟨List.mem_of_getElem? (i := 1120) (by decide +kernel), rfl⟩
theorem wm_1054 : (Cond.instanceMethod yX9_state : Cond) ∈ lw_g := List.mem_filter.mpr ⟨List.mem_of_getElem? (i := 1121) (by decide +kernel), rfl⟩
theorem wm_1055 : (Cond.selects RX9 yX9_state yX9_state : Cond) ∈ lw_g := List.mem_filter.mpr ⟨List.mem_of_getElem? (i := 1122) (by decide +kernel), rfl⟩
set_option maxRecDepth 100000 in
theorem wm_1056 : (Cond.code yX9_state cX9_state 2 (some .int) : Cond) ∈ lw_g := List.mem_filter.mpr ⟨List.mem_of_getElem? (i := 1123) rfl, rfl⟩
theorem wm_1057 : (Cond.methodLink RX9 91 yX9_loadOf : Cond) ∈ lw_g := List.mem_filter.mpr ⟨List.mem_of_getElem? (i := 1124) (by decide +kernel), rfl⟩
theorem wm_1059 : (Cond.instanceMethod yX9_loadOf : Cond) ∈ lw_g := List.mem_filter.mpr ⟨List.mem_of_getElem? (i := 1126) (by decide +kernel), rfl⟩
set_option maxRecDepth 100000 in
theorem wm_1060 : (Cond.code yX9_loadOf cX9_loadOf 3 (some .int) : Cond) ∈ lw_g := List.mem_filter.mpr ⟨List.mem_of_getElem? (i := 1127) rfl, rfl⟩
theorem wm_1061 : (Cond.methodLink RX9 95 yX9_cells : Cond) ∈ lw_g := List.mem_filter.mpr ⟨List.mem_of_getElem? (i := 1128) (by decide +kernel), rfl⟩
theorem wm_1063 : (Cond.instanceMethod yX9_cells : Cond) ∈ lw_g := List.mem_filter.mpr ⟨List.mem_of_getElem? (i := 1130) (by decide +kernel), rfl⟩
set_option maxRecDepth 100000 in
theorem wm_1064 : (Cond.code yX9_cells cX9_cells 1 (some .int) : Cond) ∈ lw_g := List.mem_filter.mpr ⟨List.mem_of_getElem? (i := 1131) rfl, rfl⟩
theorem wm_1065 : (Cond.methodLink RL 64 yX9_edge : Cond) ∈ lw_g := List.mem_filter.mpr ⟨List.mem_of_getElem? (i := 1132) (by decide +kernel), rfl⟩
theorem wm_1066 : (Cond.instanceMethod yX9_edge : Cond) ∈ lw_g := List.mem_filter.mpr ⟨List.mem_of_getElem? (i := 1133) (by decide +kernel), rfl⟩
theorem wm_1067 : (Cond.selects RX9 yX9_edge yX9_edge : Cond) ∈ lw_g := List.mem_filter.mpr ⟨List.mem_of_getElem? (i := 1134) (by decide +kernel), rfl⟩
set_option maxRecDepth 100000 in
theorem wm_1068 : (Cond.code yX9_edge cX9_edge 4 (some .int) : Cond) ∈ lw_g := List.mem_filter.mpr ⟨List.mem_of_getElem? (i := 1135) rfl, rfl⟩
theorem wm_1069 : (Cond.methodLink RX9 57 yX9_isEdge : Cond) ∈ lw_g := List.mem_filter.mpr ⟨List.mem_of_getElem? (i := 1136) (by decide +kernel), rfl⟩
theorem wm_1071 : (Cond.instanceMethod yX9_isEdge : Cond) ∈ lw_g := List.mem_filter.mpr ⟨List.mem_of_getElem? (i := 1138) (by decide +kernel), rfl⟩
set_option maxRecDepth 100000 in
theorem wm_1072 : (Cond.code yX9_isEdge cX9_isEdge 2 (some .boolean) : Cond) ∈ lw_g := List.mem_filter.mpr ⟨List.mem_of_getElem? (i := 1139) rfl, rfl⟩
theorem wm_1073 : (Cond.methodLink RX9 53 yX9_isOn : Cond) ∈ lw_g := List.mem_filter.mpr ⟨List.mem_of_getElem? (i := 1140) (by decide +kernel), rfl⟩
theorem wm_1075 : (Cond.instanceMethod yX9_isOn : Cond) ∈ lw_g := List.mem_filter.mpr ⟨List.mem_of_getElem? (i := 1142) (by decide +kernel), rfl⟩
set_option maxRecDepth 100000 in
theorem wm_1076 : (Cond.code yX9_isOn cX9_isOn 3 (some .boolean) : Cond) ∈ lw_g := List.mem_filter.mpr ⟨List.mem_of_getElem? (i := 1143) rfl, rfl⟩
theorem wm_1077 : (Cond.methodLink RX9 42 yX9_columnOf : Cond) ∈ lw_g := List.mem_filter.mpr ⟨List.mem_of_getElem? (i := 1144) (by decide +kernel), rfl⟩
theorem wm_1079 : (Cond.instanceMethod yX9_columnOf : Cond) ∈ lw_g := List.mem_filter.mpr ⟨List.mem_of_getElem? (i := 1146) (by decide +kernel), rfl⟩
set_option maxRecDepth 100000 in
theorem wm_1080 : (Cond.code yX9_columnOf cX9_columnOf 2 (some .int) : Cond) ∈ lw_g := List.mem_filter.mpr ⟨List.mem_of_getElem? (i := 1147) rfl, rfl⟩
theorem wm_1081 : (Cond.methodLink RX9 46 yX9_rowOf : Cond) ∈ lw_g := List.mem_filter.mpr ⟨List.mem_of_getElem? (i := 1148) (by decide +kernel), rfl⟩
theorem wm_1083 : (Cond.instanceMethod yX9_rowOf : Cond) ∈ lw_g := List.mem_filter.mpr ⟨List.mem_of_getElem? (i := 1150) (by decide +kernel), rfl⟩
set_option maxRecDepth 100000 in
theorem wm_1084 : (Cond.code yX9_rowOf cX9_rowOf 2 (some .int) : Cond) ∈ lw_g := List.mem_filter.mpr ⟨List.mem_of_getElem? (i := 1151) rfl, rfl⟩
theorem wm_1085 : (Cond.methodLink RX9 70 yX9_edgeDepth : Cond) ∈ lw_g := List.mem_filter.mpr ⟨List.mem_of_getElem? (i := 1152) (by decide +kernel), rfl⟩
theorem wm_1087 : (Cond.instanceMethod yX9_edgeDepth : Cond) ∈ lw_g := List.mem_filter.mpr ⟨List.mem_of_getElem? (i := 1154) (by decide +kernel), rfl⟩
set_option maxRecDepth 100000 in
theorem wm_1088 : (Cond.code yX9_edgeDepth cX9_edgeDepth 4 (some .int) : Cond) ∈ lw_g := List.mem_filter.mpr ⟨List.mem_of_getElem? (i := 1155) rfl, rfl⟩
theorem wm_1089 : (Cond.methodLink RX9 67 yX9_arm : Cond) ∈ lw_g := List.mem_filter.mpr ⟨List.mem_of_getElem? (i := 1156) (by decide +kernel), rfl⟩
theorem wm_1091 : (Cond.instanceMethod yX9_arm : Cond) ∈ lw_g := List.mem_filter.mpr ⟨List.mem_of_getElem? (i := 1158) (by decide +kernel), rfl⟩
set_option maxRecDepth 100000 in
theorem wm_1092 : (Cond.code yX9_arm cX9_arm 3 (some .int) : Cond) ∈ lw_g := List.mem_filter.mpr ⟨List.mem_of_getElem? (i := 1159) rfl, rfl⟩
theorem wm_1093 : (Cond.methodLink RX9 82 yX9_support : Cond) ∈ lw_g := List.mem_filter.mpr ⟨List.mem_of_getElem? (i := 1160) (by decide +kernel), rfl⟩
theorem wm_1095 : (Cond.instanceMethod yX9_support : Cond) ∈ lw_g := List.mem_filter.mpr ⟨List.mem_of_getElem? (i := 1162) (by decide +kernel), rfl⟩
set_option maxRecDepth 100000 in
theorem wm_1096 : (Cond.code yX9_support cX9_support 6 (some .int) : Cond) ∈ lw_g := List.mem_filter.mpr ⟨List.mem_of_getElem? (i := 1163) rfl, rfl⟩
theorem wm_1097 : (Cond.methodLink RX9 73 yX9_wellBeside : Cond) ∈ lw_g := List.mem_filter.mpr ⟨List.mem_of_getElem? (i := 1164) (by decide +kernel), rfl⟩
theorem wm_1099 : (Cond.instanceMethod yX9_wellBeside : Cond) ∈ lw_g := List.mem_filter.mpr ⟨List.mem_of_getElem? (i := 1166) (by decide +kernel), rfl⟩
set_option maxRecDepth 100000 in
theorem wm_1100 : (Cond.code yX9_wellBeside cX9_wellBeside 2 (some .int) : Cond) ∈ lw_g := List.mem_filter.mpr ⟨List.mem_of_getElem? (i := 1167) rfl, rfl⟩
theorem wm_1101 : (Cond.methodLink RX9 60 yX9_near : Cond) ∈ lw_g := List.mem_filter.mpr ⟨List.mem_of_getElem? (i := 1168) (by decide +kernel), rfl⟩
theorem wm_1102 : (Cond.static yX9_near : Cond) ∈ lw_g := List.mem_filter.mpr ⟨List.mem_of_getElem? (i := 1169) (by decide +kernel), rfl⟩
set_option maxRecDepth 100000 in
theorem wm_1103 : (Cond.code yX9_near cX9_near 2 (some .int) : Cond) ∈ lw_g := List.mem_filter.mpr ⟨List.mem_of_getElem? (i := 1170) rfl, rfl⟩
theorem wm_1104 : (Cond.methodLink RX9 85 yX9_skin : Cond) ∈ lw_g := List.mem_filter.mpr ⟨List.mem_of_getElem? (i := 1171) (by decide +kernel), rfl⟩
theorem wm_1106 : (Cond.instanceMethod yX9_skin : Cond) ∈ lw_g := List.mem_filter.mpr ⟨List.mem_of_getElem? (i := 1173) (by decide +kernel), rfl⟩
set_option maxRecDepth 100000 in
theorem wm_1107 : (Cond.code yX9_skin cX9_skin 5 (some .int) : Cond) ∈ lw_g := List.mem_filter.mpr ⟨List.mem_of_getElem? (i := 1174) rfl, rfl⟩
theorem wm_1108 : (Cond.methodLink RX9 79 yX9_frictions : Cond) ∈ lw_g := List.mem_filter.mpr ⟨List.mem_of_getElem? (i := 1175) (by decide +kernel), rfl⟩
theorem wm_1110 : (Cond.instanceMethod yX9_frictions : Cond) ∈ lw_g := List.mem_filter.mpr ⟨List.mem_of_getElem? (i := 1177) (by decide +kernel), rfl⟩
set_option maxRecDepth 100000 in
theorem wm_1111 : (Cond.code yX9_frictions cX9_frictions 6 (some .int) : Cond) ∈ lw_g := List.mem_filter.mpr ⟨List.mem_of_getElem? (i := 1178) rfl, rfl⟩
theorem wm_1112 : (Cond.methodLink RX9 88 yX9_buoyancy : Cond) ∈ lw_g := List.mem_filter.mpr ⟨List.mem_of_getElem? (i := 1179) (by decide +kernel), rfl⟩
theorem wm_1114 : (Cond.instanceMethod yX9_buoyancy : Cond) ∈ lw_g := List.mem_filter.mpr ⟨List.mem_of_getElem? (i := 1181) (by decide +kernel), rfl⟩
set_option maxRecDepth 100000 in
theorem wm_1115 : (Cond.code yX9_buoyancy cX9_buoyancy 2 (some .int) : Cond) ∈ lw_g := List.mem_filter.mpr ⟨List.mem_of_getElem? (i := 1182) rfl, rfl⟩
theorem wm_1116 : (Cond.methodLink RL 68 yX9_bottom : Cond) ∈ lw_g := List.mem_filter.mpr ⟨List.mem_of_getElem? (i := 1183) (by decide +kernel), rfl⟩
theorem wm_1117 : (Cond.instanceMethod yX9_bottom : Cond) ∈ lw_g := List.mem_filter.mpr ⟨List.mem_of_getElem? (i := 1184) (by decide +kernel), rfl⟩
theorem wm_1118 : (Cond.selects RX9 yX9_bottom yX9_bottom : Cond) ∈ lw_g := List.mem_filter.mpr ⟨List.mem_of_getElem? (i := 1185) (by decide +kernel), rfl⟩
set_option maxRecDepth 100000 in
theorem wm_1119 : (Cond.code yX9_bottom cX9_bottom 2 (some .int) : Cond) ∈ lw_g := List.mem_filter.mpr ⟨List.mem_of_getElem? (i := 1186) rfl, rfl⟩
theorem wm_1120 : (Cond.methodLink RX9 116 yX9_isWell : Cond) ∈ lw_g := List.mem_filter.mpr ⟨List.mem_of_getElem? (i := 1187) (by decide +kernel), rfl⟩
theorem wm_1122 : (Cond.instanceMethod yX9_isWell : Cond) ∈ lw_g := List.mem_filter.mpr ⟨List.mem_of_getElem? (i := 1189) (by decide +kernel), rfl⟩
set_option maxRecDepth 100000 in
theorem wm_1123 : (Cond.code yX9_isWell cX9_isWell 2 (some .boolean) : Cond) ∈ lw_g := List.mem_filter.mpr ⟨List.mem_of_getElem? (i := 1190) rfl, rfl⟩
theorem wm_1124 : (Cond.methodLink RL 72 yX9_surplus : Cond) ∈ lw_g := List.mem_filter.mpr ⟨List.mem_of_getElem? (i := 1191) (by decide +kernel), rfl⟩
theorem wm_1125 : (Cond.instanceMethod yX9_surplus : Cond) ∈ lw_g := List.mem_filter.mpr ⟨List.mem_of_getElem? (i := 1192) (by decide +kernel), rfl⟩
theorem wm_1126 : (Cond.selects RX9 yX9_surplus yX9_surplus : Cond) ∈ lw_g := List.mem_filter.mpr ⟨List.mem_of_getElem? (i := 1193) (by decide +kernel), rfl⟩
set_option maxRecDepth 100000 in
theorem wm_1127 : (Cond.code yX9_surplus cX9_surplus 1 (some .int) : Cond) ∈ lw_g := List.mem_filter.mpr ⟨List.mem_of_getElem? (i := 1194) rfl, rfl⟩
theorem wm_1128 : (Cond.methodLink RX9 104 yX9_over : Cond) ∈ lw_g := List.mem_filter.mpr ⟨List.mem_of_getElem? (i := 1195) (by decide +kernel), rfl⟩
theorem wm_1130 : (Cond.instanceMethod yX9_over : Cond) ∈ lw_g := List.mem_filter.mpr ⟨List.mem_of_getElem? (i := 1197) (by decide +kernel), rfl⟩
set_option maxRecDepth 100000 in
theorem wm_1131 : (Cond.code yX9_over cX9_over 3 (some .int) : Cond) ∈ lw_g := List.mem_filter.mpr ⟨List.mem_of_getElem? (i := 1198) rfl, rfl⟩
theorem wm_1132 : (Cond.methodLink RX9 98 yX9_resistance : Cond) ∈ lw_g := List.mem_filter.mpr ⟨List.mem_of_getElem? (i := 1199) (by decide +kernel), rfl⟩
theorem wm_1134 : (Cond.instanceMethod yX9_resistance : Cond) ∈ lw_g := List.mem_filter.mpr ⟨List.mem_of_getElem? (i := 1201) (by decide +kernel), rfl⟩
set_option maxRecDepth 100000 in
theorem wm_1135 : (Cond.code yX9_resistance cX9_resistance 3 (some .int) : Cond) ∈ lw_g := List.mem_filter.mpr ⟨List.mem_of_getElem? (i := 1202) rfl, rfl⟩
theorem wm_1136 : (Cond.methodLink RL 76 yX9_moment : Cond) ∈ lw_g := List.mem_filter.mpr ⟨List.mem_of_getElem? (i := 1203) (by decide +kernel), rfl⟩
theorem wm_1137 : (Cond.instanceMethod yX9_moment : Cond) ∈ lw_g := List.mem_filter.mpr ⟨List.mem_of_getElem? (i := 1204) (by decide +kernel), rfl⟩
theorem wm_1138 : (Cond.selects RX9 yX9_moment yX9_moment : Cond) ∈ lw_g := List.mem_filter.mpr ⟨List.mem_of_getElem? (i := 1205) (by decide +kernel), rfl⟩
set_option maxRecDepth 100000 in
theorem wm_1139 : (Cond.code yX9_moment cX9_moment 2 (some .int) : Cond) ∈ lw_g := List.mem_filter.mpr ⟨List.mem_of_getElem? (i := 1206) rfl, rfl⟩
theorem wm_1140 : (Cond.methodLink RX9 101 yX9_momentOf : Cond) ∈ lw_g := List.mem_filter.mpr ⟨List.mem_of_getElem? (i := 1207) (by decide +kernel), rfl⟩
theorem wm_1142 : (Cond.instanceMethod yX9_momentOf : Cond) ∈ lw_g := List.mem_filter.mpr ⟨List.mem_of_getElem? (i := 1209) (by decide +kernel), rfl⟩
set_option maxRecDepth 100000 in
theorem wm_1143 : (Cond.code yX9_momentOf cX9_momentOf 4 (some .int) : Cond) ∈ lw_g := List.mem_filter.mpr ⟨List.mem_of_getElem? (i := 1210) rfl, rfl⟩
theorem wm_1144 : (Cond.methodLink RL 80 yX9_nextStep : Cond) ∈ lw_g := List.mem_filter.mpr ⟨List.mem_of_getElem? (i := 1211) (by decide +kernel), rfl⟩
theorem wm_1145 : (Cond.instanceMethod yX9_nextStep : Cond) ∈ lw_g := List.mem_filter.mpr ⟨List.mem_of_getElem? (i := 1212) (by decide +kernel), rfl⟩
theorem wm_1146 : (Cond.selects RX9 yX9_nextStep yX9_nextStep : Cond) ∈ lw_g := List.mem_filter.mpr ⟨List.mem_of_getElem? (i := 1213) (by decide +kernel), rfl⟩
set_option maxRecDepth 100000 in
theorem wm_1147 : (Cond.code yX9_nextStep cX9_nextStep 1 (some .int) : Cond) ∈ lw_g := List.mem_filter.mpr ⟨List.mem_of_getElem? (i := 1214) rfl, rfl⟩
theorem wm_1148 : (Cond.methodLink RX9 113 yX9_next : Cond) ∈ lw_g := List.mem_filter.mpr ⟨List.mem_of_getElem? (i := 1215) (by decide +kernel), rfl⟩
theorem wm_1150 : (Cond.instanceMethod yX9_next : Cond) ∈ lw_g := List.mem_filter.mpr ⟨List.mem_of_getElem? (i := 1217) (by decide +kernel), rfl⟩
set_option maxRecDepth 100000 in
theorem wm_1151 : (Cond.code yX9_next cX9_next 1 (some .int) : Cond) ∈ lw_g := List.mem_filter.mpr ⟨List.mem_of_getElem? (i := 1218) rfl, rfl⟩
theorem wm_1152 : (Cond.methodLink RX9 107 yX9_turn : Cond) ∈ lw_g := List.mem_filter.mpr ⟨List.mem_of_getElem? (i := 1219) (by decide +kernel), rfl⟩
theorem wm_1154 : (Cond.instanceMethod yX9_turn : Cond) ∈ lw_g := List.mem_filter.mpr ⟨List.mem_of_getElem? (i := 1221) (by decide +kernel), rfl⟩
set_option maxRecDepth 100000 in
theorem wm_1155 : (Cond.code yX9_turn cX9_turn 3 (some .int) : Cond) ∈ lw_g := List.mem_filter.mpr ⟨List.mem_of_getElem? (i := 1222) rfl, rfl⟩
theorem wm_1156 : (Cond.methodLink RX9 110 yX9_size : Cond) ∈ lw_g := List.mem_filter.mpr ⟨List.mem_of_getElem? (i := 1223) (by decide +kernel), rfl⟩
theorem wm_1157 : (Cond.static yX9_size : Cond) ∈ lw_g := List.mem_filter.mpr ⟨List.mem_of_getElem? (i := 1224) (by decide +kernel), rfl⟩
set_option maxRecDepth 100000 in
theorem wm_1158 : (Cond.code yX9_size cX9_size 1 (some .int) : Cond) ∈ lw_g := List.mem_filter.mpr ⟨List.mem_of_getElem? (i := 1225) rfl, rfl⟩
theorem wm_1159 : (Cond.methodLink RL 84 yX9_sideResistance : Cond) ∈ lw_g := List.mem_filter.mpr ⟨List.mem_of_getElem? (i := 1226) (by decide +kernel), rfl⟩
theorem wm_1160 : (Cond.instanceMethod yX9_sideResistance : Cond) ∈ lw_g := List.mem_filter.mpr ⟨List.mem_of_getElem? (i := 1227) (by decide +kernel), rfl⟩
theorem wm_1161 : (Cond.selects RX9 yX9_sideResistance yX9_sideResistance : Cond) ∈ lw_g := List.mem_filter.mpr ⟨List.mem_of_getElem? (i := 1228) (by decide +kernel), rfl⟩
set_option maxRecDepth 100000 in
theorem wm_1162 : (Cond.code yX9_sideResistance cX9_sideResistance 4 (some .int) : Cond) ∈ lw_g := List.mem_filter.mpr ⟨List.mem_of_getElem? (i := 1229) rfl, rfl⟩
theorem wm_1163 : (Cond.methodLink RL 88 yX9_stuckDepth : Cond) ∈ lw_g := List.mem_filter.mpr ⟨List.mem_of_getElem? (i := 1230) (by decide +kernel), rfl⟩
theorem wm_1164 : (Cond.instanceMethod yX9_stuckDepth : Cond) ∈ lw_g := List.mem_filter.mpr ⟨List.mem_of_getElem? (i := 1231) (by decide +kernel), rfl⟩
theorem wm_1165 : (Cond.selects RX9 yX9_stuckDepth yX9_stuckDepth : Cond) ∈ lw_g := List.mem_filter.mpr ⟨List.mem_of_getElem? (i := 1232) (by decide +kernel), rfl⟩
set_option maxRecDepth 100000 in
theorem wm_1166 : (Cond.code yX9_stuckDepth cX9_stuckDepth 4 (some .int) : Cond) ∈ lw_g := List.mem_filter.mpr ⟨List.mem_of_getElem? (i := 1233) rfl, rfl⟩
theorem wm_1167 : (Cond.methodLink RL 92 yX9_ballastNeeded : Cond) ∈ lw_g := List.mem_filter.mpr ⟨List.mem_of_getElem? (i := 1234) (by decide +kernel), rfl⟩
theorem wm_1168 : (Cond.instanceMethod yX9_ballastNeeded : Cond) ∈ lw_g := List.mem_filter.mpr ⟨List.mem_of_getElem? (i := 1235) (by decide +kernel), rfl⟩
theorem wm_1169 : (Cond.selects RX9 yX9_ballastNeeded yX9_ballastNeeded : Cond) ∈ lw_g := List.mem_filter.mpr ⟨List.mem_of_getElem? (i := 1236) (by decide +kernel), rfl⟩
set_option maxRecDepth 100000 in
theorem wm_1170 : (Cond.code yX9_ballastNeeded cX9_ballastNeeded 2 (some .int) : Cond) ∈ lw_g := List.mem_filter.mpr ⟨List.mem_of_getElem? (i := 1237) rfl, rfl⟩
theorem wm_1171 : (Cond.methodLink RL 96 yX9_dig : Cond) ∈ lw_g := List.mem_filter.mpr ⟨List.mem_of_getElem? (i := 1238) (by decide +kernel), rfl⟩
theorem wm_1172 : (Cond.instanceMethod yX9_dig : Cond) ∈ lw_g := List.mem_filter.mpr ⟨List.mem_of_getElem? (i := 1239) (by decide +kernel), rfl⟩
theorem wm_1173 : (Cond.selects RX9 yX9_dig yX9_dig : Cond) ∈ lw_g := List.mem_filter.mpr ⟨List.mem_of_getElem? (i := 1240) (by decide +kernel), rfl⟩
set_option maxRecDepth 100000 in
theorem wm_1174 : (Cond.code yX9_dig cX9_dig 4 (some .int) : Cond) ∈ lw_g := List.mem_filter.mpr ⟨List.mem_of_getElem? (i := 1241) rfl, rfl⟩
theorem wm_1175 : (Cond.methodLink RX9 210 yX9_sinkable : Cond) ∈ lw_g := List.mem_filter.mpr ⟨List.mem_of_getElem? (i := 1242) (by decide +kernel), rfl⟩
theorem wm_1177 : (Cond.instanceMethod yX9_sinkable : Cond) ∈ lw_g := List.mem_filter.mpr ⟨List.mem_of_getElem? (i := 1244) (by decide +kernel), rfl⟩
set_option maxRecDepth 100000 in
theorem wm_1178 : (Cond.code yX9_sinkable cX9_sinkable 7 (some .int) : Cond) ∈ lw_g := List.mem_filter.mpr ⟨List.mem_of_getElem? (i := 1245) rfl, rfl⟩
theorem wm_1179 : (Cond.methodLink RX9 213 yX9_records : Cond) ∈ lw_g := List.mem_filter.mpr ⟨List.mem_of_getElem? (i := 1246) (by decide +kernel), rfl⟩
theorem wm_1181 : (Cond.instanceMethod yX9_records : Cond) ∈ lw_g := List.mem_filter.mpr ⟨List.mem_of_getElem? (i := 1248) (by decide +kernel), rfl⟩
set_option maxRecDepth 100000 in
theorem wm_1182 : (Cond.code yX9_records cX9_records 4 none : Cond) ∈ lw_g := List.mem_filter.mpr ⟨List.mem_of_getElem? (i := 1249) rfl, rfl⟩
theorem wm_1183 : (Cond.methodLink RL 100 yX9_settle : Cond) ∈ lw_g := List.mem_filter.mpr ⟨List.mem_of_getElem? (i := 1250) (by decide +kernel), rfl⟩
theorem wm_1184 : (Cond.instanceMethod yX9_settle : Cond) ∈ lw_g := List.mem_filter.mpr ⟨List.mem_of_getElem? (i := 1251) (by decide +kernel), rfl⟩
theorem wm_1185 : (Cond.selects RX9 yX9_settle yX9_settle : Cond) ∈ lw_g := List.mem_filter.mpr ⟨List.mem_of_getElem? (i := 1252) (by decide +kernel), rfl⟩
set_option maxRecDepth 100000 in
theorem wm_1186 : (Cond.code yX9_settle cX9_settle 3 (some .int) : Cond) ∈ lw_g := List.mem_filter.mpr ⟨List.mem_of_getElem? (i := 1253) rfl, rfl⟩
theorem wm_1187 : (Cond.methodLink RX9 119 yX9_settles : Cond) ∈ lw_g := List.mem_filter.mpr ⟨List.mem_of_getElem? (i := 1254) (by decide +kernel), rfl⟩
theorem wm_1189 : (Cond.instanceMethod yX9_settles : Cond) ∈ lw_g := List.mem_filter.mpr ⟨List.mem_of_getElem? (i := 1256) (by decide +kernel), rfl⟩
set_option maxRecDepth 100000 in
theorem wm_1190 : (Cond.code yX9_settles cX9_settles 5 (some .int) : Cond) ∈ lw_g := List.mem_filter.mpr ⟨List.mem_of_getElem? (i := 1257) rfl, rfl⟩
theorem wm_1191 : (Cond.methodLink RL 104 yX9_setBallast : Cond) ∈ lw_g := List.mem_filter.mpr ⟨List.mem_of_getElem? (i := 1258) (by decide +kernel), rfl⟩
theorem wm_1192 : (Cond.instanceMethod yX9_setBallast : Cond) ∈ lw_g := List.mem_filter.mpr ⟨List.mem_of_getElem? (i := 1259) (by decide +kernel), rfl⟩
theorem wm_1193 : (Cond.selects RX9 yX9_setBallast yX9_setBallast : Cond) ∈ lw_g := List.mem_filter.mpr ⟨List.mem_of_getElem? (i := 1260) (by decide +kernel), rfl⟩
set_option maxRecDepth 100000 in
theorem wm_1194 : (Cond.code yX9_setBallast cX9_setBallast 4 (some .int) : Cond) ∈ lw_g := List.mem_filter.mpr ⟨List.mem_of_getElem? (i := 1261) rfl, rfl⟩
theorem wm_1195 : (Cond.methodLink RL 108 yX9_lubricate : Cond) ∈ lw_g := List.mem_filter.mpr ⟨List.mem_of_getElem? (i := 1262) (by decide +kernel), rfl⟩
theorem wm_1196 : (Cond.instanceMethod yX9_lubricate : Cond) ∈ lw_g := List.mem_filter.mpr ⟨List.mem_of_getElem? (i := 1263) (by decide +kernel), rfl⟩
theorem wm_1197 : (Cond.selects RX9 yX9_lubricate yX9_lubricate : Cond) ∈ lw_g := List.mem_filter.mpr ⟨List.mem_of_getElem? (i := 1264) (by decide +kernel), rfl⟩
set_option maxRecDepth 100000 in
theorem wm_1198 : (Cond.code yX9_lubricate cX9_lubricate 3 (some .int) : Cond) ∈ lw_g := List.mem_filter.mpr ⟨List.mem_of_getElem? (i := 1265) rfl, rfl⟩
theorem wm_1199 : (Cond.methodLink RL 112 yX9_blast : Cond) ∈ lw_g := List.mem_filter.mpr ⟨List.mem_of_getElem? (i := 1266) (by decide +kernel), rfl⟩
theorem wm_1200 : (Cond.instanceMethod yX9_blast : Cond) ∈ lw_g := List.mem_filter.mpr ⟨List.mem_of_getElem? (i := 1267) (by decide +kernel), rfl⟩
theorem wm_1201 : (Cond.selects RX9 yX9_blast yX9_blast : Cond) ∈ lw_g := List.mem_filter.mpr ⟨List.mem_of_getElem? (i := 1268) (by decide +kernel), rfl⟩
set_option maxRecDepth 100000 in
theorem wm_1202 : (Cond.code yX9_blast cX9_blast 6 (some .int) : Cond) ∈ lw_g := List.mem_filter.mpr ⟨List.mem_of_getElem? (i := 1269) rfl, rfl⟩
theorem wm_1203 : (Cond.methodLink RX9 217 yX9_reachable : Cond) ∈ lw_g := List.mem_filter.mpr ⟨List.mem_of_getElem? (i := 1270) (by decide +kernel), rfl⟩
theorem wm_1205 : (Cond.instanceMethod yX9_reachable : Cond) ∈ lw_g := List.mem_filter.mpr ⟨List.mem_of_getElem? (i := 1272) (by decide +kernel), rfl⟩
set_option maxRecDepth 100000 in
theorem wm_1206 : (Cond.code yX9_reachable cX9_reachable 7 (some .int) : Cond) ∈ lw_g := List.mem_filter.mpr ⟨List.mem_of_getElem? (i := 1273) rfl, rfl⟩
theorem wm_1207 : (Cond.methodLink RL 116 yX9_pump : Cond) ∈ lw_g := List.mem_filter.mpr ⟨List.mem_of_getElem? (i := 1274) (by decide +kernel), rfl⟩
theorem wm_1208 : (Cond.instanceMethod yX9_pump : Cond) ∈ lw_g := List.mem_filter.mpr ⟨List.mem_of_getElem? (i := 1275) (by decide +kernel), rfl⟩
theorem wm_1209 : (Cond.selects RX9 yX9_pump yX9_pump : Cond) ∈ lw_g := List.mem_filter.mpr ⟨List.mem_of_getElem? (i := 1276) (by decide +kernel), rfl⟩
set_option maxRecDepth 100000 in
theorem wm_1210 : (Cond.code yX9_pump cX9_pump 3 (some .int) : Cond) ∈ lw_g := List.mem_filter.mpr ⟨List.mem_of_getElem? (i := 1277) rfl, rfl⟩
theorem wm_1211 : (Cond.methodLink RL 120 yX9_record : Cond) ∈ lw_g := List.mem_filter.mpr ⟨List.mem_of_getElem? (i := 1278) (by decide +kernel), rfl⟩
theorem wm_1212 : (Cond.instanceMethod yX9_record : Cond) ∈ lw_g := List.mem_filter.mpr ⟨List.mem_of_getElem? (i := 1279) (by decide +kernel), rfl⟩
theorem wm_1213 : (Cond.selects RX9 yX9_record yX9_record : Cond) ∈ lw_g := List.mem_filter.mpr ⟨List.mem_of_getElem? (i := 1280) (by decide +kernel), rfl⟩
set_option maxRecDepth 100000 in
theorem wm_1214 : (Cond.code yX9_record cX9_record 3 (some .int) : Cond) ∈ lw_g := List.mem_filter.mpr ⟨List.mem_of_getElem? (i := 1281) rfl, rfl⟩
theorem wm_1215 : (Cond.methodLink RL 124 yX9_wouldSettle : Cond) ∈ lw_g := List.mem_filter.mpr ⟨List.mem_of_getElem? (i := 1282) (by decide +kernel), rfl⟩
theorem wm_1216 : (Cond.instanceMethod yX9_wouldSettle : Cond) ∈ lw_g := List.mem_filter.mpr ⟨List.mem_of_getElem? (i := 1283) (by decide +kernel), rfl⟩
theorem wm_1217 : (Cond.selects RX9 yX9_wouldSettle yX9_wouldSettle : Cond) ∈ lw_g := List.mem_filter.mpr ⟨List.mem_of_getElem? (i := 1284) (by decide +kernel), rfl⟩
set_option maxRecDepth 100000 in
theorem wm_1218 : (Cond.code yX9_wouldSettle cX9_wouldSettle 5 (some .int) : Cond) ∈ lw_g := List.mem_filter.mpr ⟨List.mem_of_getElem? (i := 1285) rfl, rfl⟩
theorem wm_1219 : (Cond.methodLink RL 128 yX9_bestWell : Cond) ∈ lw_g := List.mem_filter.mpr ⟨List.mem_of_getElem? (i := 1286) (by decide +kernel), rfl⟩
theorem wm_1220 : (Cond.instanceMethod yX9_bestWell : Cond) ∈ lw_g := List.mem_filter.mpr ⟨List.mem_of_getElem? (i := 1287) (by decide +kernel), rfl⟩
theorem wm_1221 : (Cond.selects RX9 yX9_bestWell yX9_bestWell : Cond) ∈ lw_g := List.mem_filter.mpr ⟨List.mem_of_getElem? (i := 1288) (by decide +kernel), rfl⟩
set_option maxRecDepth 100000 in
theorem wm_1222 : (Cond.code yX9_bestWell cX9_bestWell 2 (some .int) : Cond) ∈ lw_g := List.mem_filter.mpr ⟨List.mem_of_getElem? (i := 1289) rfl, rfl⟩
theorem wm_1223 : (Cond.methodLink RX9 232 yX9_best : Cond) ∈ lw_g := List.mem_filter.mpr ⟨List.mem_of_getElem? (i := 1290) (by decide +kernel), rfl⟩
theorem wm_1225 : (Cond.instanceMethod yX9_best : Cond) ∈ lw_g := List.mem_filter.mpr ⟨List.mem_of_getElem? (i := 1292) (by decide +kernel), rfl⟩
set_option maxRecDepth 100000 in
theorem wm_1226 : (Cond.code yX9_best cX9_best 7 (some .int) : Cond) ∈ lw_g := List.mem_filter.mpr ⟨List.mem_of_getElem? (i := 1293) rfl, rfl⟩
theorem wm_1227 : (Cond.methodLink RX9 220 yX9_keeps : Cond) ∈ lw_g := List.mem_filter.mpr ⟨List.mem_of_getElem? (i := 1294) (by decide +kernel), rfl⟩
theorem wm_1229 : (Cond.instanceMethod yX9_keeps : Cond) ∈ lw_g := List.mem_filter.mpr ⟨List.mem_of_getElem? (i := 1296) (by decide +kernel), rfl⟩
set_option maxRecDepth 100000 in
theorem wm_1230 : (Cond.code yX9_keeps cX9_keeps 2 none : Cond) ∈ lw_g := List.mem_filter.mpr ⟨List.mem_of_getElem? (i := 1297) rfl, rfl⟩
theorem wm_1231 : (Cond.methodLink RX9 223 yX9_settlesIfLoose : Cond) ∈ lw_g := List.mem_filter.mpr ⟨List.mem_of_getElem? (i := 1298) (by decide +kernel), rfl⟩
theorem wm_1233 : (Cond.instanceMethod yX9_settlesIfLoose : Cond) ∈ lw_g := List.mem_filter.mpr ⟨List.mem_of_getElem? (i := 1300) (by decide +kernel), rfl⟩
set_option maxRecDepth 100000 in
theorem wm_1234 : (Cond.code yX9_settlesIfLoose cX9_settlesIfLoose 2 none : Cond) ∈ lw_g := List.mem_filter.mpr ⟨List.mem_of_getElem? (i := 1301) rfl, rfl⟩
theorem wm_1235 : (Cond.methodLink RX9 226 yX9_tilted : Cond) ∈ lw_g := List.mem_filter.mpr ⟨List.mem_of_getElem? (i := 1302) (by decide +kernel), rfl⟩
theorem wm_1237 : (Cond.instanceMethod yX9_tilted : Cond) ∈ lw_g := List.mem_filter.mpr ⟨List.mem_of_getElem? (i := 1304) (by decide +kernel), rfl⟩
set_option maxRecDepth 100000 in
theorem wm_1238 : (Cond.code yX9_tilted cX9_tilted 1 (some .int) : Cond) ∈ lw_g := List.mem_filter.mpr ⟨List.mem_of_getElem? (i := 1305) rfl, rfl⟩
theorem wm_1239 : (Cond.methodLink RX9 229 yX9_returns : Cond) ∈ lw_g := List.mem_filter.mpr ⟨List.mem_of_getElem? (i := 1306) (by decide +kernel), rfl⟩
theorem wm_1241 : (Cond.instanceMethod yX9_returns : Cond) ∈ lw_g := List.mem_filter.mpr ⟨List.mem_of_getElem? (i := 1308) (by decide +kernel), rfl⟩
set_option maxRecDepth 100000 in
theorem wm_1242 : (Cond.code yX9_returns cX9_returns 2 none : Cond) ∈ lw_g := List.mem_filter.mpr ⟨List.mem_of_getElem? (i := 1309) rfl, rfl⟩
theorem wm_1243 : (Cond.methodLink RL 132 yX9_makePlan : Cond) ∈ lw_g := List.mem_filter.mpr ⟨List.mem_of_getElem? (i := 1310) (by decide +kernel), rfl⟩
theorem wm_1244 : (Cond.instanceMethod yX9_makePlan : Cond) ∈ lw_g := List.mem_filter.mpr ⟨List.mem_of_getElem? (i := 1311) (by decide +kernel), rfl⟩
theorem wm_1245 : (Cond.selects RX9 yX9_makePlan yX9_makePlan : Cond) ∈ lw_g := List.mem_filter.mpr ⟨List.mem_of_getElem? (i := 1312) (by decide +kernel), rfl⟩
set_option maxRecDepth 100000 in
theorem wm_1246 : (Cond.code yX9_makePlan cX9_makePlan 4 (some .int) : Cond) ∈ lw_g := List.mem_filter.mpr ⟨List.mem_of_getElem? (i := 1313) rfl, rfl⟩
theorem wm_1247 : (Cond.methodLink RL 136 yX9_plan : Cond) ∈ lw_g := List.mem_filter.mpr ⟨List.mem_of_getElem? (i := 1314) (by decide +kernel), rfl⟩
theorem wm_1248 : (Cond.instanceMethod yX9_plan : Cond) ∈ lw_g := List.mem_filter.mpr ⟨List.mem_of_getElem? (i := 1315) (by decide +kernel), rfl⟩
theorem wm_1249 : (Cond.selects RX9 yX9_plan yX9_plan : Cond) ∈ lw_g := List.mem_filter.mpr ⟨List.mem_of_getElem? (i := 1316) (by decide +kernel), rfl⟩
set_option maxRecDepth 100000 in
theorem wm_1250 : (Cond.code yX9_plan cX9_plan 3 (some .int) : Cond) ∈ lw_g := List.mem_filter.mpr ⟨List.mem_of_getElem? (i := 1317) rfl, rfl⟩
theorem wm_1251 : (Cond.methodLink RL 140 yX9_carryOut : Cond) ∈ lw_g := List.mem_filter.mpr ⟨List.mem_of_getElem? (i := 1318) (by decide +kernel), rfl⟩
theorem wm_1252 : (Cond.instanceMethod yX9_carryOut : Cond) ∈ lw_g := List.mem_filter.mpr ⟨List.mem_of_getElem? (i := 1319) (by decide +kernel), rfl⟩
theorem wm_1253 : (Cond.selects RX9 yX9_carryOut yX9_carryOut : Cond) ∈ lw_g := List.mem_filter.mpr ⟨List.mem_of_getElem? (i := 1320) (by decide +kernel), rfl⟩
set_option maxRecDepth 100000 in
theorem wm_1254 : (Cond.code yX9_carryOut cX9_carryOut 4 (some .int) : Cond) ∈ lw_g := List.mem_filter.mpr ⟨List.mem_of_getElem? (i := 1321) rfl, rfl⟩
theorem wm_1255 : (Cond.methodLink RL 144 yX9_highSide : Cond) ∈ lw_g := List.mem_filter.mpr ⟨List.mem_of_getElem? (i := 1322) (by decide +kernel), rfl⟩
theorem wm_1256 : (Cond.instanceMethod yX9_highSide : Cond) ∈ lw_g := List.mem_filter.mpr ⟨List.mem_of_getElem? (i := 1323) (by decide +kernel), rfl⟩
theorem wm_1257 : (Cond.selects RX9 yX9_highSide yX9_highSide : Cond) ∈ lw_g := List.mem_filter.mpr ⟨List.mem_of_getElem? (i := 1324) (by decide +kernel), rfl⟩
set_option maxRecDepth 100000 in
theorem wm_1258 : (Cond.code yX9_highSide cX9_highSide 8 (some .int) : Cond) ∈ lw_g := List.mem_filter.mpr ⟨List.mem_of_getElem? (i := 1325) rfl, rfl⟩
theorem wm_1259 : (Cond.methodLink RL 148 yX9_undo : Cond) ∈ lw_g := List.mem_filter.mpr ⟨List.mem_of_getElem? (i := 1326) (by decide +kernel), rfl⟩
theorem wm_1260 : (Cond.instanceMethod yX9_undo : Cond) ∈ lw_g := List.mem_filter.mpr ⟨List.mem_of_getElem? (i := 1327) (by decide +kernel), rfl⟩
theorem wm_1261 : (Cond.selects RX9 yX9_undo yX9_undo : Cond) ∈ lw_g := List.mem_filter.mpr ⟨List.mem_of_getElem? (i := 1328) (by decide +kernel), rfl⟩
set_option maxRecDepth 100000 in
theorem wm_1262 : (Cond.code yX9_undo cX9_undo 2 (some .int) : Cond) ∈ lw_g := List.mem_filter.mpr ⟨List.mem_of_getElem? (i := 1329) rfl, rfl⟩
theorem wm_1263 : (Cond.fieldLink RJ0 9 "java/lang/String" "value" "[B" : Cond) ∈ lw_g := List.mem_filter.mpr ⟨List.mem_of_getElem? (i := 1330) (by decide +kernel), rfl⟩
theorem wm_1264 : (Cond.fieldLink RJ0 15 "java/lang/String" "coder" "B" : Cond) ∈ lw_g := List.mem_filter.mpr ⟨List.mem_of_getElem? (i := 1331) (by decide +kernel), rfl⟩
theorem wp_0 : (Cond.selects RX6 yX6_readToken yX6_readToken : Cond) ∈ lw_g := List.mem_filter.mpr ⟨List.mem_of_getElem? (i := 0) (by decide +kernel), rfl⟩
theorem wp_1 : (Cond.selects RX6 yX6_readNumber yX6_readNumber : Cond) ∈ lw_g := List.mem_filter.mpr ⟨List.mem_of_getElem? (i := 1) (by decide +kernel), rfl⟩
theorem wp_2 : (Cond.selects RX6 yX6_kindOfItem yX6_kindOfItem : Cond) ∈ lw_g := List.mem_filter.mpr ⟨List.mem_of_getElem? (i := 2) (by decide +kernel), rfl⟩
theorem wp_3 : (Cond.selects RX6 yX6_isWord yX6_isWord : Cond) ∈ lw_g := List.mem_filter.mpr ⟨List.mem_of_getElem? (i := 3) (by decide +kernel), rfl⟩
theorem wp_4 : (Cond.selects RX6 yX6_mayBegin yX6_mayBegin : Cond) ∈ lw_g := List.mem_filter.mpr ⟨List.mem_of_getElem? (i := 4) (by decide +kernel), rfl⟩
theorem wp_5 : (Cond.selects RX6 yX6_readValues yX6_readValues : Cond) ∈ lw_g := List.mem_filter.mpr ⟨List.mem_of_getElem? (i := 5) (by decide +kernel), rfl⟩
theorem wp_6 : (Cond.selects RX6 yX6_isAllowed yX6_isAllowed : Cond) ∈ lw_g := List.mem_filter.mpr ⟨List.mem_of_getElem? (i := 6) (by decide +kernel), rfl⟩
theorem wp_7 : (Cond.selects RX6 yX6_isAllowedInLayer yX6_isAllowedInLayer : Cond) ∈ lw_g := List.mem_filter.mpr ⟨List.mem_of_getElem? (i := 7) (by decide +kernel), rfl⟩
theorem wp_8 : (Cond.selects RX6 yX6_isAllowedInBoulder yX6_isAllowedInBoulder : Cond) ∈ lw_g := List.mem_filter.mpr ⟨List.mem_of_getElem? (i := 8) (by decide +kernel), rfl⟩
theorem wp_9 : (Cond.selects RX6 yX6_cellInValues yX6_cellInValues : Cond) ∈ lw_g := List.mem_filter.mpr ⟨List.mem_of_getElem? (i := 9) (by decide +kernel), rfl⟩
theorem wp_10 : (Cond.selects RX6 yX6_readSemicolon yX6_readSemicolon : Cond) ∈ lw_g := List.mem_filter.mpr ⟨List.mem_of_getElem? (i := 10) (by decide +kernel), rfl⟩
theorem wp_11 : (Cond.selects RX6 yX6_enter yX6_enter : Cond) ∈ lw_g := List.mem_filter.mpr ⟨List.mem_of_getElem? (i := 11) (by decide +kernel), rfl⟩
theorem wp_12 : (Cond.selects RX0 yX0_rankOf yX0_rankOf : Cond) ∈ lw_g := List.mem_filter.mpr ⟨List.mem_of_getElem? (i := 12) (by decide +kernel), rfl⟩
theorem wp_13 : (Cond.selects RX2 yX2_layerAt yX2_layerAt : Cond) ∈ lw_g := List.mem_filter.mpr ⟨List.mem_of_getElem? (i := 13) (by decide +kernel), rfl⟩
theorem wp_14 : (Cond.selects RX1 yX1_turn yX1_turn : Cond) ∈ lw_g := List.mem_filter.mpr ⟨List.mem_of_getElem? (i := 14) (by decide +kernel), rfl⟩
theorem wp_15 : (Cond.selects RX8 yX8_writeRecord yX8_writeRecord : Cond) ∈ lw_g := List.mem_filter.mpr ⟨List.mem_of_getElem? (i := 15) (by decide +kernel), rfl⟩
theorem wp_16 : (Cond.selects RX1 yX1_heave yX1_heave : Cond) ∈ lw_g := List.mem_filter.mpr ⟨List.mem_of_getElem? (i := 16) (by decide +kernel), rfl⟩
theorem wp_17 : (Cond.selects RX8 yX8_reachableBoulder yX8_reachableBoulder : Cond) ∈ lw_g := List.mem_filter.mpr ⟨List.mem_of_getElem? (i := 17) (by decide +kernel), rfl⟩
theorem wp_18 : (Cond.selects RX1 yX1_isBetterThanChosen yX1_isBetterThanChosen : Cond) ∈ lw_g := List.mem_filter.mpr ⟨List.mem_of_getElem? (i := 18) (by decide +kernel), rfl⟩
theorem wp_19 : (Cond.selects RX9 yX9_begins yX9_begins : Cond) ∈ lw_g := List.mem_filter.mpr ⟨List.mem_of_getElem? (i := 19) (by decide +kernel), rfl⟩
theorem wp_20 : (Cond.selects RX9 yX9_hold yX9_hold : Cond) ∈ lw_g := List.mem_filter.mpr ⟨List.mem_of_getElem? (i := 20) (by decide +kernel), rfl⟩
theorem wp_21 : (Cond.selects RX9 yX9_token yX9_token : Cond) ∈ lw_g := List.mem_filter.mpr ⟨List.mem_of_getElem? (i := 21) (by decide +kernel), rfl⟩
theorem wp_22 : (Cond.selects RX9 yX9_isAt yX9_isAt : Cond) ∈ lw_g := List.mem_filter.mpr ⟨List.mem_of_getElem? (i := 22) (by decide +kernel), rfl⟩
theorem wp_23 : (Cond.selects RX9 yX9_item yX9_item : Cond) ∈ lw_g := List.mem_filter.mpr ⟨List.mem_of_getElem? (i := 23) (by decide +kernel), rfl⟩
theorem wp_24 : (Cond.selects RX9 yX9_isWord yX9_isWord : Cond) ∈ lw_g := List.mem_filter.mpr ⟨List.mem_of_getElem? (i := 24) (by decide +kernel), rfl⟩
theorem wp_25 : (Cond.selects RX9 yX9_mayBegin yX9_mayBegin : Cond) ∈ lw_g := List.mem_filter.mpr ⟨List.mem_of_getElem? (i := 25) (by decide +kernel), rfl⟩
theorem wp_26 : (Cond.selects RX9 yX9_isRead yX9_isRead : Cond) ∈ lw_g := List.mem_filter.mpr ⟨List.mem_of_getElem? (i := 26) (by decide +kernel), rfl⟩
theorem wp_27 : (Cond.selects RX9 yX9_isTold yX9_isTold : Cond) ∈ lw_g := List.mem_filter.mpr ⟨List.mem_of_getElem? (i := 27) (by decide +kernel), rfl⟩
theorem wp_28 : (Cond.selects RX9 yX9_isBoulderTold yX9_isBoulderTold : Cond) ∈ lw_g := List.mem_filter.mpr ⟨List.mem_of_getElem? (i := 28) (by decide +kernel), rfl⟩
theorem wp_29 : (Cond.selects RX9 yX9_boulderAt yX9_boulderAt : Cond) ∈ lw_g := List.mem_filter.mpr ⟨List.mem_of_getElem? (i := 29) (by decide +kernel), rfl⟩
theorem wp_30 : (Cond.selects RX9 yX9_puts yX9_puts : Cond) ∈ lw_g := List.mem_filter.mpr ⟨List.mem_of_getElem? (i := 30) (by decide +kernel), rfl⟩
theorem wp_31 : (Cond.selects RX9 yX9_putsLayer yX9_putsLayer : Cond) ∈ lw_g := List.mem_filter.mpr ⟨List.mem_of_getElem? (i := 31) (by decide +kernel), rfl⟩
theorem wp_32 : (Cond.selects RX9 yX9_putsBoulder yX9_putsBoulder : Cond) ∈ lw_g := List.mem_filter.mpr ⟨List.mem_of_getElem? (i := 32) (by decide +kernel), rfl⟩
theorem wp_33 : (Cond.selects RX9 yX9_restore yX9_restore : Cond) ∈ lw_g := List.mem_filter.mpr ⟨List.mem_of_getElem? (i := 33) (by decide +kernel), rfl⟩
theorem wp_34 : (Cond.selects RX9 yX9_ends yX9_ends : Cond) ∈ lw_g := List.mem_filter.mpr ⟨List.mem_of_getElem? (i := 34) (by decide +kernel), rfl⟩
theorem wp_35 : (Cond.selects RX9 yX9_becomes yX9_becomes : Cond) ∈ lw_g := List.mem_filter.mpr ⟨List.mem_of_getElem? (i := 35) (by decide +kernel), rfl⟩
theorem wp_36 : (Cond.selects RX9 yX9_isCell yX9_isCell : Cond) ∈ lw_g := List.mem_filter.mpr ⟨List.mem_of_getElem? (i := 36) (by decide +kernel), rfl⟩
theorem wp_37 : (Cond.selects RX9 yX9_groundAt yX9_groundAt : Cond) ∈ lw_g := List.mem_filter.mpr ⟨List.mem_of_getElem? (i := 37) (by decide +kernel), rfl⟩
theorem wp_38 : (Cond.selects RX9 yX9_layerAt yX9_layerAt : Cond) ∈ lw_g := List.mem_filter.mpr ⟨List.mem_of_getElem? (i := 38) (by decide +kernel), rfl⟩
theorem wp_39 : (Cond.selects RX9 yX9_loadOf yX9_loadOf : Cond) ∈ lw_g := List.mem_filter.mpr ⟨List.mem_of_getElem? (i := 39) (by decide +kernel), rfl⟩
theorem wp_40 : (Cond.selects RX9 yX9_cells yX9_cells : Cond) ∈ lw_g := List.mem_filter.mpr ⟨List.mem_of_getElem? (i := 40) (by decide +kernel), rfl⟩
theorem wp_41 : (Cond.selects RX9 yX9_isEdge yX9_isEdge : Cond) ∈ lw_g := List.mem_filter.mpr ⟨List.mem_of_getElem? (i := 41) (by decide +kernel), rfl⟩
theorem wp_42 : (Cond.selects RX9 yX9_isOn yX9_isOn : Cond) ∈ lw_g := List.mem_filter.mpr ⟨List.mem_of_getElem? (i := 42) (by decide +kernel), rfl⟩
theorem wp_43 : (Cond.selects RX9 yX9_columnOf yX9_columnOf : Cond) ∈ lw_g := List.mem_filter.mpr ⟨List.mem_of_getElem? (i := 43) (by decide +kernel), rfl⟩
theorem wp_44 : (Cond.selects RX9 yX9_rowOf yX9_rowOf : Cond) ∈ lw_g := List.mem_filter.mpr ⟨List.mem_of_getElem? (i := 44) (by decide +kernel), rfl⟩
theorem wp_45 : (Cond.selects RX9 yX9_edgeDepth yX9_edgeDepth : Cond) ∈ lw_g := List.mem_filter.mpr ⟨List.mem_of_getElem? (i := 45) (by decide +kernel), rfl⟩
theorem wp_46 : (Cond.selects RX9 yX9_arm yX9_arm : Cond) ∈ lw_g := List.mem_filter.mpr ⟨List.mem_of_getElem? (i := 46) (by decide +kernel), rfl⟩
theorem wp_47 : (Cond.selects RX9 yX9_support yX9_support : Cond) ∈ lw_g := List.mem_filter.mpr ⟨List.mem_of_getElem? (i := 47) (by decide +kernel), rfl⟩
theorem wp_48 : (Cond.selects RX9 yX9_wellBeside yX9_wellBeside : Cond) ∈ lw_g := List.mem_filter.mpr ⟨List.mem_of_getElem? (i := 48) (by decide +kernel), rfl⟩
theorem wp_49 : (Cond.selects RX9 yX9_skin yX9_skin : Cond) ∈ lw_g := List.mem_filter.mpr ⟨List.mem_of_getElem? (i := 49) (by decide +kernel), rfl⟩
theorem wp_50 : (Cond.selects RX9 yX9_frictions yX9_frictions : Cond) ∈ lw_g := List.mem_filter.mpr ⟨List.mem_of_getElem? (i := 50) (by decide +kernel), rfl⟩
theorem wp_51 : (Cond.selects RX9 yX9_buoyancy yX9_buoyancy : Cond) ∈ lw_g := List.mem_filter.mpr ⟨List.mem_of_getElem? (i := 51) (by decide +kernel), rfl⟩
theorem wp_52 : (Cond.selects RX9 yX9_isWell yX9_isWell : Cond) ∈ lw_g := List.mem_filter.mpr ⟨List.mem_of_getElem? (i := 52) (by decide +kernel), rfl⟩
theorem wp_53 : (Cond.selects RX9 yX9_over yX9_over : Cond) ∈ lw_g := List.mem_filter.mpr ⟨List.mem_of_getElem? (i := 53) (by decide +kernel), rfl⟩
theorem wp_54 : (Cond.selects RX9 yX9_resistance yX9_resistance : Cond) ∈ lw_g := List.mem_filter.mpr ⟨List.mem_of_getElem? (i := 54) (by decide +kernel), rfl⟩
theorem wp_55 : (Cond.selects RX9 yX9_momentOf yX9_momentOf : Cond) ∈ lw_g := List.mem_filter.mpr ⟨List.mem_of_getElem? (i := 55) (by decide +kernel), rfl⟩
theorem wp_56 : (Cond.selects RX9 yX9_next yX9_next : Cond) ∈ lw_g := List.mem_filter.mpr ⟨List.mem_of_getElem? (i := 56) (by decide +kernel), rfl⟩
theorem wp_57 : (Cond.selects RX9 yX9_turn yX9_turn : Cond) ∈ lw_g := List.mem_filter.mpr ⟨List.mem_of_getElem? (i := 57) (by decide +kernel), rfl⟩
theorem wp_58 : (Cond.selects RX9 yX9_sinkable yX9_sinkable : Cond) ∈ lw_g := List.mem_filter.mpr ⟨List.mem_of_getElem? (i := 58) (by decide +kernel), rfl⟩
theorem wp_59 : (Cond.selects RX9 yX9_records yX9_records : Cond) ∈ lw_g := List.mem_filter.mpr ⟨List.mem_of_getElem? (i := 59) (by decide +kernel), rfl⟩
theorem wp_60 : (Cond.selects RX9 yX9_settles yX9_settles : Cond) ∈ lw_g := List.mem_filter.mpr ⟨List.mem_of_getElem? (i := 60) (by decide +kernel), rfl⟩
theorem wp_61 : (Cond.selects RX9 yX9_reachable yX9_reachable : Cond) ∈ lw_g := List.mem_filter.mpr ⟨List.mem_of_getElem? (i := 61) (by decide +kernel), rfl⟩
theorem wp_62 : (Cond.selects RX9 yX9_best yX9_best : Cond) ∈ lw_g := List.mem_filter.mpr ⟨List.mem_of_getElem? (i := 62) (by decide +kernel), rfl⟩
theorem wp_63 : (Cond.selects RX9 yX9_keeps yX9_keeps : Cond) ∈ lw_g := List.mem_filter.mpr ⟨List.mem_of_getElem? (i := 63) (by decide +kernel), rfl⟩
theorem wp_64 : (Cond.selects RX9 yX9_settlesIfLoose yX9_settlesIfLoose : Cond) ∈ lw_g := List.mem_filter.mpr ⟨List.mem_of_getElem? (i := 64) (by decide +kernel), rfl⟩
theorem wp_65 : (Cond.selects RX9 yX9_tilted yX9_tilted : Cond) ∈ lw_g := List.mem_filter.mpr ⟨List.mem_of_getElem? (i := 65) (by decide +kernel), rfl⟩
theorem wp_66 : (Cond.selects RX9 yX9_returns yX9_returns : Cond) ∈ lw_g := List.mem_filter.mpr ⟨List.mem_of_getElem? (i := 66) (by decide +kernel), rfl⟩
