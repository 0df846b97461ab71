def lw_good : List Cond := lw_tbl.filter goodWord
theorem lw_sub {args : Array Value} {s : State} (h : ∀ w ∈ lw_tbl, w.before args s = true) : ∀ w ∈ lw_good, w.before args s = true := fun w hw => h w (List.mem_filter.mp hw).1
theorem lw_gw {w : Cond} (h : w ∈ lw_good) : (w.onTables && w.keeps) = true ∨ ∃ ty, w = .arrayClass ty := good_of_word (List.mem_filter.mp h).2
theorem mN_L : Cond.initialized RL ∈ lw_good := List.mem_filter.mpr ⟨List.mem_of_getElem? (i := 38) (by decide +kernel), by decide +kernel⟩
theorem mN_X6 : Cond.initialized RX6 ∈ lw_good := List.mem_filter.mpr ⟨List.mem_of_getElem? (i := 39) (by decide +kernel), by decide +kernel⟩
theorem mN_X0 : Cond.initialized RX0 ∈ lw_good := List.mem_filter.mpr ⟨List.mem_of_getElem? (i := 40) (by decide +kernel), by decide +kernel⟩
theorem mN_X4 : Cond.initialized RX4 ∈ lw_good := List.mem_filter.mpr ⟨List.mem_of_getElem? (i := 41) (by decide +kernel), by decide +kernel⟩
theorem mN_X1 : Cond.initialized RX1 ∈ lw_good := List.mem_filter.mpr ⟨List.mem_of_getElem? (i := 42) (by decide +kernel), by decide +kernel⟩
theorem mN_X3 : Cond.initialized RX3 ∈ lw_good := List.mem_filter.mpr ⟨List.mem_of_getElem? (i := 43) (by decide +kernel), by decide +kernel⟩
theorem mN_X2 : Cond.initialized RX2 ∈ lw_good := List.mem_filter.mpr ⟨List.mem_of_getElem? (i := 44) (by decide +kernel), by decide +kernel⟩
theorem mN_X5 : Cond.initialized RX5 ∈ lw_good := List.mem_filter.mpr ⟨List.mem_of_getElem? (i := 45) (by decide +kernel), by decide +kernel⟩
theorem mN_X7 : Cond.initialized RX7 ∈ lw_good := List.mem_filter.mpr ⟨List.mem_of_getElem? (i := 46) (by decide +kernel), by decide +kernel⟩
theorem mN_J9 : Cond.initialized RJ9 ∈ lw_good := List.mem_filter.mpr ⟨List.mem_of_getElem? (i := 53) (by decide +kernel), by decide +kernel⟩
theorem mK_L_8 : Cond.classLink RL 8 "OdeBench" ∈ lw_good := List.mem_filter.mpr ⟨List.mem_of_getElem? (i := 55) (by decide +kernel), by decide +kernel⟩
theorem mZ_X6 : Cond.instantiable RX6 12 ∈ lw_good := List.mem_filter.mpr ⟨List.mem_of_getElem? (i := 56) (by decide +kernel), by decide +kernel⟩
theorem mM_L_57 : Cond.methodLink RL 57 yX6_init ∈ lw_good := List.mem_filter.mpr ⟨List.mem_of_getElem? (i := 57) (by decide +kernel), by decide +kernel⟩
theorem mI_X6_init : Cond.instanceMethod yX6_init ∈ lw_good := List.mem_filter.mpr ⟨List.mem_of_getElem? (i := 58) (by decide +kernel), by decide +kernel⟩
theorem mC_X6_init : Cond.code yX6_init cX6_init 1 none ∈ lw_good := List.mem_filter.mpr ⟨List.mem_of_getElem? (i := 59) (by decide +kernel), by decide +kernel⟩
theorem mO_X6_1 : Cond.methodLink RX6 1 objectInit ∈ lw_good := List.mem_filter.mpr ⟨List.mem_of_getElem? (i := 60) (by decide +kernel), by decide +kernel⟩
theorem mI_obj : Cond.instanceMethod objectInit ∈ lw_good := List.mem_filter.mpr ⟨List.mem_of_getElem? (i := 61) (by decide +kernel), by decide +kernel⟩
theorem mK_X6_16 : Cond.classLink RX6 16 "OdeBench$Equations" ∈ lw_good := List.mem_filter.mpr ⟨List.mem_of_getElem? (i := 63) (by decide +kernel), by decide +kernel⟩
theorem mZ_X0 : Cond.instantiable RX0 6 ∈ lw_good := List.mem_filter.mpr ⟨List.mem_of_getElem? (i := 64) (by decide +kernel), by decide +kernel⟩
theorem mI_X0_init : Cond.instanceMethod yX0_init ∈ lw_good := List.mem_filter.mpr ⟨List.mem_of_getElem? (i := 66) (by decide +kernel), by decide +kernel⟩
theorem mC_X0_init : Cond.code yX0_init cX0_init 1 none ∈ lw_good := List.mem_filter.mpr ⟨List.mem_of_getElem? (i := 67) (by decide +kernel), by decide +kernel⟩
theorem mO_X0_1 : Cond.methodLink RX0 1 objectInit ∈ lw_good := List.mem_filter.mpr ⟨List.mem_of_getElem? (i := 68) (by decide +kernel), by decide +kernel⟩
theorem mF_X0_9 : Cond.fieldLink RX0 9 "OdeBench$Equations" "owner" "[I" ∈ lw_good := List.mem_filter.mpr ⟨List.mem_of_getElem? (i := 69) (by decide +kernel), by decide +kernel⟩
theorem mF_X0_13 : Cond.fieldLink RX0 13 "OdeBench$Equations" "constant" "[D" ∈ lw_good := List.mem_filter.mpr ⟨List.mem_of_getElem? (i := 70) (by decide +kernel), by decide +kernel⟩
theorem mF_X0_17 : Cond.fieldLink RX0 17 "OdeBench$Equations" "left" "[I" ∈ lw_good := List.mem_filter.mpr ⟨List.mem_of_getElem? (i := 71) (by decide +kernel), by decide +kernel⟩
theorem mF_X0_20 : Cond.fieldLink RX0 20 "OdeBench$Equations" "right" "[I" ∈ lw_good := List.mem_filter.mpr ⟨List.mem_of_getElem? (i := 72) (by decide +kernel), by decide +kernel⟩
theorem mF_X0_23 : Cond.fieldLink RX0 23 "OdeBench$Equations" "n" "I" ∈ lw_good := List.mem_filter.mpr ⟨List.mem_of_getElem? (i := 73) (by decide +kernel), by decide +kernel⟩
theorem mF_X1_27 : Cond.fieldLink RX1 27 "OdeBench$Equations" "n" "I" ∈ lw_good := List.mem_filter.mpr ⟨List.mem_of_getElem? (i := 74) (by decide +kernel), by decide +kernel⟩
theorem mF_X2_28 : Cond.fieldLink RX2 28 "OdeBench$Equations" "n" "I" ∈ lw_good := List.mem_filter.mpr ⟨List.mem_of_getElem? (i := 75) (by decide +kernel), by decide +kernel⟩
theorem mF_X3_35 : Cond.fieldLink RX3 35 "OdeBench$Equations" "n" "I" ∈ lw_good := List.mem_filter.mpr ⟨List.mem_of_getElem? (i := 76) (by decide +kernel), by decide +kernel⟩
theorem mF_X4_88 : Cond.fieldLink RX4 88 "OdeBench$Equations" "n" "I" ∈ lw_good := List.mem_filter.mpr ⟨List.mem_of_getElem? (i := 77) (by decide +kernel), by decide +kernel⟩
theorem mF_X6_229 : Cond.fieldLink RX6 229 "OdeBench$Equations" "n" "I" ∈ lw_good := List.mem_filter.mpr ⟨List.mem_of_getElem? (i := 78) (by decide +kernel), by decide +kernel⟩
theorem mF_X0_27 : Cond.fieldLink RX0 27 "OdeBench$Equations" "count" "I" ∈ lw_good := List.mem_filter.mpr ⟨List.mem_of_getElem? (i := 79) (by decide +kernel), by decide +kernel⟩
theorem mF_X6_92 : Cond.fieldLink RX6 92 "OdeBench$Equations" "count" "I" ∈ lw_good := List.mem_filter.mpr ⟨List.mem_of_getElem? (i := 80) (by decide +kernel), by decide +kernel⟩
theorem mA_double : Cond.arrayClass .double ∈ lw_good := List.mem_filter.mpr ⟨List.mem_of_getElem? (i := 94) (by decide +kernel), by decide +kernel⟩
theorem mA_int : Cond.arrayClass .int ∈ lw_good := List.mem_filter.mpr ⟨List.mem_of_getElem? (i := 95) (by decide +kernel), by decide +kernel⟩
theorem mK_X6_23 : Cond.classLink RX6 23 "OdeBench$Trial" ∈ lw_good := List.mem_filter.mpr ⟨List.mem_of_getElem? (i := 96) (by decide +kernel), by decide +kernel⟩
theorem mZ_X4 : Cond.instantiable RX4 13 ∈ lw_good := List.mem_filter.mpr ⟨List.mem_of_getElem? (i := 97) (by decide +kernel), by decide +kernel⟩
theorem mM_X6_25 : Cond.methodLink RX6 25 yX4_init ∈ lw_good := List.mem_filter.mpr ⟨List.mem_of_getElem? (i := 98) (by decide +kernel), by decide +kernel⟩
theorem mI_X4_init : Cond.instanceMethod yX4_init ∈ lw_good := List.mem_filter.mpr ⟨List.mem_of_getElem? (i := 99) (by decide +kernel), by decide +kernel⟩
theorem mC_X4_init : Cond.code yX4_init cX4_init 3 none ∈ lw_good := List.mem_filter.mpr ⟨List.mem_of_getElem? (i := 100) (by decide +kernel), by decide +kernel⟩
theorem mO_X4_3 : Cond.methodLink RX4 3 objectInit ∈ lw_good := List.mem_filter.mpr ⟨List.mem_of_getElem? (i := 101) (by decide +kernel), by decide +kernel⟩
theorem mK_X4_37 : Cond.classLink RX4 37 "OdeBench$Implicit" ∈ lw_good := List.mem_filter.mpr ⟨List.mem_of_getElem? (i := 102) (by decide +kernel), by decide +kernel⟩
theorem mZ_X1 : Cond.instantiable RX1 4 ∈ lw_good := List.mem_filter.mpr ⟨List.mem_of_getElem? (i := 103) (by decide +kernel), by decide +kernel⟩
theorem mM_X4_39 : Cond.methodLink RX4 39 yX1_init ∈ lw_good := List.mem_filter.mpr ⟨List.mem_of_getElem? (i := 104) (by decide +kernel), by decide +kernel⟩
theorem mI_X1_init : Cond.instanceMethod yX1_init ∈ lw_good := List.mem_filter.mpr ⟨List.mem_of_getElem? (i := 105) (by decide +kernel), by decide +kernel⟩
theorem mC_X1_init : Cond.code yX1_init cX1_init 2 none ∈ lw_good := List.mem_filter.mpr ⟨List.mem_of_getElem? (i := 106) (by decide +kernel), by decide +kernel⟩
theorem mO_X1_3 : Cond.methodLink RX1 3 objectInit ∈ lw_good := List.mem_filter.mpr ⟨List.mem_of_getElem? (i := 107) (by decide +kernel), by decide +kernel⟩
theorem mK_X1_9 : Cond.classLink RX1 9 "[[D" ∈ lw_good := List.mem_filter.mpr ⟨List.mem_of_getElem? (i := 108) (by decide +kernel), by decide +kernel⟩
theorem mF_X1_23 : Cond.fieldLink RX1 23 "OdeBench$Implicit" "equations" "LOdeBench$Equations;" ∈ lw_good := List.mem_filter.mpr ⟨List.mem_of_getElem? (i := 110) (by decide +kernel), by decide +kernel⟩
theorem mF_X1_11 : Cond.fieldLink RX1 11 "OdeBench$Implicit" "matrix" "[[D" ∈ lw_good := List.mem_filter.mpr ⟨List.mem_of_getElem? (i := 111) (by decide +kernel), by decide +kernel⟩
theorem mF_X1_16 : Cond.fieldLink RX1 16 "OdeBench$Implicit" "rest" "[D" ∈ lw_good := List.mem_filter.mpr ⟨List.mem_of_getElem? (i := 112) (by decide +kernel), by decide +kernel⟩
theorem mF_X1_20 : Cond.fieldLink RX1 20 "OdeBench$Implicit" "change" "[D" ∈ lw_good := List.mem_filter.mpr ⟨List.mem_of_getElem? (i := 113) (by decide +kernel), by decide +kernel⟩
theorem mK_X4_46 : Cond.classLink RX4 46 "OdeBench$Midpoints" ∈ lw_good := List.mem_filter.mpr ⟨List.mem_of_getElem? (i := 123) (by decide +kernel), by decide +kernel⟩
theorem mZ_X3 : Cond.instantiable RX3 6 ∈ lw_good := List.mem_filter.mpr ⟨List.mem_of_getElem? (i := 124) (by decide +kernel), by decide +kernel⟩
theorem mM_X4_48 : Cond.methodLink RX4 48 yX3_init ∈ lw_good := List.mem_filter.mpr ⟨List.mem_of_getElem? (i := 125) (by decide +kernel), by decide +kernel⟩
theorem mI_X3_init : Cond.instanceMethod yX3_init ∈ lw_good := List.mem_filter.mpr ⟨List.mem_of_getElem? (i := 126) (by decide +kernel), by decide +kernel⟩
theorem mC_X3_init : Cond.code yX3_init cX3_init 2 none ∈ lw_good := List.mem_filter.mpr ⟨List.mem_of_getElem? (i := 127) (by decide +kernel), by decide +kernel⟩
theorem mO_X3_3 : Cond.methodLink RX3 3 objectInit ∈ lw_good := List.mem_filter.mpr ⟨List.mem_of_getElem? (i := 128) (by decide +kernel), by decide +kernel⟩
theorem mF_X3_27 : Cond.fieldLink RX3 27 "OdeBench$Midpoints" "equations" "LOdeBench$Equations;" ∈ lw_good := List.mem_filter.mpr ⟨List.mem_of_getElem? (i := 129) (by decide +kernel), by decide +kernel⟩
theorem mF_X3_9 : Cond.fieldLink RX3 9 "OdeBench$Midpoints" "behind" "[D" ∈ lw_good := List.mem_filter.mpr ⟨List.mem_of_getElem? (i := 130) (by decide +kernel), by decide +kernel⟩
theorem mF_X3_15 : Cond.fieldLink RX3 15 "OdeBench$Midpoints" "ahead" "[D" ∈ lw_good := List.mem_filter.mpr ⟨List.mem_of_getElem? (i := 131) (by decide +kernel), by decide +kernel⟩
theorem mF_X3_18 : Cond.fieldLink RX3 18 "OdeBench$Midpoints" "slope" "[D" ∈ lw_good := List.mem_filter.mpr ⟨List.mem_of_getElem? (i := 132) (by decide +kernel), by decide +kernel⟩
theorem mF_X3_21 : Cond.fieldLink RX3 21 "OdeBench$Midpoints" "coarse" "[D" ∈ lw_good := List.mem_filter.mpr ⟨List.mem_of_getElem? (i := 133) (by decide +kernel), by decide +kernel⟩
theorem mF_X3_24 : Cond.fieldLink RX3 24 "OdeBench$Midpoints" "fine" "[D" ∈ lw_good := List.mem_filter.mpr ⟨List.mem_of_getElem? (i := 134) (by decide +kernel), by decide +kernel⟩
theorem mF_X4_30 : Cond.fieldLink RX4 30 "OdeBench$Trial" "equations" "LOdeBench$Equations;" ∈ lw_good := List.mem_filter.mpr ⟨List.mem_of_getElem? (i := 148) (by decide +kernel), by decide +kernel⟩
theorem mF_X4_42 : Cond.fieldLink RX4 42 "OdeBench$Trial" "implicit" "LOdeBench$Implicit;" ∈ lw_good := List.mem_filter.mpr ⟨List.mem_of_getElem? (i := 149) (by decide +kernel), by decide +kernel⟩
theorem mF_X4_49 : Cond.fieldLink RX4 49 "OdeBench$Trial" "midpoints" "LOdeBench$Midpoints;" ∈ lw_good := List.mem_filter.mpr ⟨List.mem_of_getElem? (i := 150) (by decide +kernel), by decide +kernel⟩
theorem mF_X4_9 : Cond.fieldLink RX4 9 "OdeBench$Trial" "k2" "[D" ∈ lw_good := List.mem_filter.mpr ⟨List.mem_of_getElem? (i := 151) (by decide +kernel), by decide +kernel⟩
theorem mF_X4_15 : Cond.fieldLink RX4 15 "OdeBench$Trial" "k3" "[D" ∈ lw_good := List.mem_filter.mpr ⟨List.mem_of_getElem? (i := 152) (by decide +kernel), by decide +kernel⟩
theorem mF_X4_18 : Cond.fieldLink RX4 18 "OdeBench$Trial" "k4" "[D" ∈ lw_good := List.mem_filter.mpr ⟨List.mem_of_getElem? (i := 153) (by decide +kernel), by decide +kernel⟩
theorem mF_X4_21 : Cond.fieldLink RX4 21 "OdeBench$Trial" "stage" "[D" ∈ lw_good := List.mem_filter.mpr ⟨List.mem_of_getElem? (i := 154) (by decide +kernel), by decide +kernel⟩
theorem mF_X4_34 : Cond.fieldLink RX4 34 "OdeBench$Trial" "y" "[D" ∈ lw_good := List.mem_filter.mpr ⟨List.mem_of_getElem? (i := 155) (by decide +kernel), by decide +kernel⟩
theorem mF_X2_34 : Cond.fieldLink RX2 34 "OdeBench$Trial" "y" "[D" ∈ lw_good := List.mem_filter.mpr ⟨List.mem_of_getElem? (i := 156) (by decide +kernel), by decide +kernel⟩
theorem mF_X3_52 : Cond.fieldLink RX3 52 "OdeBench$Trial" "y" "[D" ∈ lw_good := List.mem_filter.mpr ⟨List.mem_of_getElem? (i := 157) (by decide +kernel), by decide +kernel⟩
theorem mF_X4_24 : Cond.fieldLink RX4 24 "OdeBench$Trial" "k1" "[D" ∈ lw_good := List.mem_filter.mpr ⟨List.mem_of_getElem? (i := 158) (by decide +kernel), by decide +kernel⟩
theorem mF_X2_39 : Cond.fieldLink RX2 39 "OdeBench$Trial" "k1" "[D" ∈ lw_good := List.mem_filter.mpr ⟨List.mem_of_getElem? (i := 159) (by decide +kernel), by decide +kernel⟩
theorem mF_X3_55 : Cond.fieldLink RX3 55 "OdeBench$Trial" "k1" "[D" ∈ lw_good := List.mem_filter.mpr ⟨List.mem_of_getElem? (i := 160) (by decide +kernel), by decide +kernel⟩
theorem mF_X4_27 : Cond.fieldLink RX4 27 "OdeBench$Trial" "z" "[D" ∈ lw_good := List.mem_filter.mpr ⟨List.mem_of_getElem? (i := 161) (by decide +kernel), by decide +kernel⟩
theorem mF_X3_41 : Cond.fieldLink RX3 41 "OdeBench$Trial" "z" "[D" ∈ lw_good := List.mem_filter.mpr ⟨List.mem_of_getElem? (i := 162) (by decide +kernel), by decide +kernel⟩
theorem mF_X2_42 : Cond.fieldLink RX2 42 "OdeBench$Trial" "z" "[D" ∈ lw_good := List.mem_filter.mpr ⟨List.mem_of_getElem? (i := 163) (by decide +kernel), by decide +kernel⟩
theorem mF_X6_232 : Cond.fieldLink RX6 232 "OdeBench$Trial" "z" "[D" ∈ lw_good := List.mem_filter.mpr ⟨List.mem_of_getElem? (i := 164) (by decide +kernel), by decide +kernel⟩
theorem mF_X4_53 : Cond.fieldLink RX4 53 "OdeBench$Trial" "from" "D" ∈ lw_good := List.mem_filter.mpr ⟨List.mem_of_getElem? (i := 165) (by decide +kernel), by decide +kernel⟩
theorem mF_X2_45 : Cond.fieldLink RX2 45 "OdeBench$Trial" "from" "D" ∈ lw_good := List.mem_filter.mpr ⟨List.mem_of_getElem? (i := 166) (by decide +kernel), by decide +kernel⟩
theorem mF_X3_58 : Cond.fieldLink RX3 58 "OdeBench$Trial" "from" "D" ∈ lw_good := List.mem_filter.mpr ⟨List.mem_of_getElem? (i := 167) (by decide +kernel), by decide +kernel⟩
theorem mF_X4_57 : Cond.fieldLink RX4 57 "OdeBench$Trial" "reach" "D" ∈ lw_good := List.mem_filter.mpr ⟨List.mem_of_getElem? (i := 168) (by decide +kernel), by decide +kernel⟩
theorem mF_X2_50 : Cond.fieldLink RX2 50 "OdeBench$Trial" "reach" "D" ∈ lw_good := List.mem_filter.mpr ⟨List.mem_of_getElem? (i := 169) (by decide +kernel), by decide +kernel⟩
theorem mF_X3_48 : Cond.fieldLink RX3 48 "OdeBench$Trial" "reach" "D" ∈ lw_good := List.mem_filter.mpr ⟨List.mem_of_getElem? (i := 170) (by decide +kernel), by decide +kernel⟩
theorem mF_X4_121 : Cond.fieldLink RX4 121 "OdeBench$Trial" "error" "D" ∈ lw_good := List.mem_filter.mpr ⟨List.mem_of_getElem? (i := 171) (by decide +kernel), by decide +kernel⟩
theorem mF_X6_214 : Cond.fieldLink RX6 214 "OdeBench$Trial" "error" "D" ∈ lw_good := List.mem_filter.mpr ⟨List.mem_of_getElem? (i := 172) (by decide +kernel), by decide +kernel⟩
theorem mK_X6_32 : Cond.classLink RX6 32 "OdeBench$LastStep" ∈ lw_good := List.mem_filter.mpr ⟨List.mem_of_getElem? (i := 200) (by decide +kernel), by decide +kernel⟩
theorem mZ_X2 : Cond.instantiable RX2 8 ∈ lw_good := List.mem_filter.mpr ⟨List.mem_of_getElem? (i := 201) (by decide +kernel), by decide +kernel⟩
theorem mM_X6_34 : Cond.methodLink RX6 34 yX2_init ∈ lw_good := List.mem_filter.mpr ⟨List.mem_of_getElem? (i := 202) (by decide +kernel), by decide +kernel⟩
theorem mI_X2_init : Cond.instanceMethod yX2_init ∈ lw_good := List.mem_filter.mpr ⟨List.mem_of_getElem? (i := 203) (by decide +kernel), by decide +kernel⟩
theorem mC_X2_init : Cond.code yX2_init cX2_init 2 none ∈ lw_good := List.mem_filter.mpr ⟨List.mem_of_getElem? (i := 204) (by decide +kernel), by decide +kernel⟩
theorem mO_X2_3 : Cond.methodLink RX2 3 objectInit ∈ lw_good := List.mem_filter.mpr ⟨List.mem_of_getElem? (i := 205) (by decide +kernel), by decide +kernel⟩
theorem mF_X2_24 : Cond.fieldLink RX2 24 "OdeBench$LastStep" "equations" "LOdeBench$Equations;" ∈ lw_good := List.mem_filter.mpr ⟨List.mem_of_getElem? (i := 206) (by decide +kernel), by decide +kernel⟩
theorem mF_X2_9 : Cond.fieldLink RX2 9 "OdeBench$LastStep" "endSlope" "[D" ∈ lw_good := List.mem_filter.mpr ⟨List.mem_of_getElem? (i := 207) (by decide +kernel), by decide +kernel⟩
theorem mF_X2_15 : Cond.fieldLink RX2 15 "OdeBench$LastStep" "start" "[D" ∈ lw_good := List.mem_filter.mpr ⟨List.mem_of_getElem? (i := 208) (by decide +kernel), by decide +kernel⟩
theorem mF_X5_34 : Cond.fieldLink RX5 34 "OdeBench$LastStep" "start" "[D" ∈ lw_good := List.mem_filter.mpr ⟨List.mem_of_getElem? (i := 209) (by decide +kernel), by decide +kernel⟩
theorem mF_X2_18 : Cond.fieldLink RX2 18 "OdeBench$LastStep" "startSlope" "[D" ∈ lw_good := List.mem_filter.mpr ⟨List.mem_of_getElem? (i := 210) (by decide +kernel), by decide +kernel⟩
theorem mF_X6_207 : Cond.fieldLink RX6 207 "OdeBench$LastStep" "startSlope" "[D" ∈ lw_good := List.mem_filter.mpr ⟨List.mem_of_getElem? (i := 211) (by decide +kernel), by decide +kernel⟩
theorem mF_X2_21 : Cond.fieldLink RX2 21 "OdeBench$LastStep" "end" "[D" ∈ lw_good := List.mem_filter.mpr ⟨List.mem_of_getElem? (i := 212) (by decide +kernel), by decide +kernel⟩
theorem mF_X5_43 : Cond.fieldLink RX5 43 "OdeBench$LastStep" "end" "[D" ∈ lw_good := List.mem_filter.mpr ⟨List.mem_of_getElem? (i := 213) (by decide +kernel), by decide +kernel⟩
theorem mF_X2_58 : Cond.fieldLink RX2 58 "OdeBench$LastStep" "known" "Z" ∈ lw_good := List.mem_filter.mpr ⟨List.mem_of_getElem? (i := 214) (by decide +kernel), by decide +kernel⟩
theorem mF_X6_177 : Cond.fieldLink RX6 177 "OdeBench$LastStep" "known" "Z" ∈ lw_good := List.mem_filter.mpr ⟨List.mem_of_getElem? (i := 215) (by decide +kernel), by decide +kernel⟩
theorem mF_X2_49 : Cond.fieldLink RX2 49 "OdeBench$LastStep" "from" "D" ∈ lw_good := List.mem_filter.mpr ⟨List.mem_of_getElem? (i := 216) (by decide +kernel), by decide +kernel⟩
theorem mF_X5_56 : Cond.fieldLink RX5 56 "OdeBench$LastStep" "from" "D" ∈ lw_good := List.mem_filter.mpr ⟨List.mem_of_getElem? (i := 217) (by decide +kernel), by decide +kernel⟩
theorem mF_X2_53 : Cond.fieldLink RX2 53 "OdeBench$LastStep" "reach" "D" ∈ lw_good := List.mem_filter.mpr ⟨List.mem_of_getElem? (i := 218) (by decide +kernel), by decide +kernel⟩
theorem mF_X5_59 : Cond.fieldLink RX5 59 "OdeBench$LastStep" "reach" "D" ∈ lw_good := List.mem_filter.mpr ⟨List.mem_of_getElem? (i := 219) (by decide +kernel), by decide +kernel⟩
theorem mF_X6_204 : Cond.fieldLink RX6 204 "OdeBench$LastStep" "reach" "D" ∈ lw_good := List.mem_filter.mpr ⟨List.mem_of_getElem? (i := 220) (by decide +kernel), by decide +kernel⟩
theorem mK_X6_41 : Cond.classLink RX6 41 "OdeBench$Watch" ∈ lw_good := List.mem_filter.mpr ⟨List.mem_of_getElem? (i := 238) (by decide +kernel), by decide +kernel⟩
theorem mZ_X5 : Cond.instantiable RX5 5 ∈ lw_good := List.mem_filter.mpr ⟨List.mem_of_getElem? (i := 239) (by decide +kernel), by decide +kernel⟩
theorem mI_X5_init : Cond.instanceMethod yX5_init ∈ lw_good := List.mem_filter.mpr ⟨List.mem_of_getElem? (i := 241) (by decide +kernel), by decide +kernel⟩
theorem mC_X5_init : Cond.code yX5_init cX5_init 1 none ∈ lw_good := List.mem_filter.mpr ⟨List.mem_of_getElem? (i := 242) (by decide +kernel), by decide +kernel⟩
theorem mO_X5_1 : Cond.methodLink RX5 1 objectInit ∈ lw_good := List.mem_filter.mpr ⟨List.mem_of_getElem? (i := 243) (by decide +kernel), by decide +kernel⟩
theorem mF_X5_9 : Cond.fieldLink RX5 9 "OdeBench$Watch" "times" "[D" ∈ lw_good := List.mem_filter.mpr ⟨List.mem_of_getElem? (i := 244) (by decide +kernel), by decide +kernel⟩
theorem mF_X5_13 : Cond.fieldLink RX5 13 "OdeBench$Watch" "on" "Z" ∈ lw_good := List.mem_filter.mpr ⟨List.mem_of_getElem? (i := 245) (by decide +kernel), by decide +kernel⟩
theorem mF_X5_21 : Cond.fieldLink RX5 21 "OdeBench$Watch" "which" "I" ∈ lw_good := List.mem_filter.mpr ⟨List.mem_of_getElem? (i := 246) (by decide +kernel), by decide +kernel⟩
theorem mF_X5_24 : Cond.fieldLink RX5 24 "OdeBench$Watch" "level" "D" ∈ lw_good := List.mem_filter.mpr ⟨List.mem_of_getElem? (i := 247) (by decide +kernel), by decide +kernel⟩
theorem mF_X5_17 : Cond.fieldLink RX5 17 "OdeBench$Watch" "count" "I" ∈ lw_good := List.mem_filter.mpr ⟨List.mem_of_getElem? (i := 248) (by decide +kernel), by decide +kernel⟩
theorem mF_X6_156 : Cond.fieldLink RX6 156 "OdeBench$Watch" "count" "I" ∈ lw_good := List.mem_filter.mpr ⟨List.mem_of_getElem? (i := 249) (by decide +kernel), by decide +kernel⟩
theorem mM_X6_48 : Cond.methodLink RX6 48 yX6_startAfresh ∈ lw_good := List.mem_filter.mpr ⟨List.mem_of_getElem? (i := 261) (by decide +kernel), by decide +kernel⟩
theorem mI_X6_startAfresh : Cond.instanceMethod yX6_startAfresh ∈ lw_good := List.mem_filter.mpr ⟨List.mem_of_getElem? (i := 263) (by decide +kernel), by decide +kernel⟩
theorem mC_X6_startAfresh : Cond.code yX6_startAfresh cX6_startAfresh 3 none ∈ lw_good := List.mem_filter.mpr ⟨List.mem_of_getElem? (i := 264) (by decide +kernel), by decide +kernel⟩
theorem mM_X6_190 : Cond.methodLink RX6 190 yX0_clear ∈ lw_good := List.mem_filter.mpr ⟨List.mem_of_getElem? (i := 265) (by decide +kernel), by decide +kernel⟩
theorem mI_X0_clear : Cond.instanceMethod yX0_clear ∈ lw_good := List.mem_filter.mpr ⟨List.mem_of_getElem? (i := 266) (by decide +kernel), by decide +kernel⟩
theorem mC_X0_clear : Cond.code yX0_clear cX0_clear 2 none ∈ lw_good := List.mem_filter.mpr ⟨List.mem_of_getElem? (i := 268) (by decide +kernel), by decide +kernel⟩
theorem mM_X6_193 : Cond.methodLink RX6 193 yX5_clear ∈ lw_good := List.mem_filter.mpr ⟨List.mem_of_getElem? (i := 269) (by decide +kernel), by decide +kernel⟩
theorem mI_X5_clear : Cond.instanceMethod yX5_clear ∈ lw_good := List.mem_filter.mpr ⟨List.mem_of_getElem? (i := 270) (by decide +kernel), by decide +kernel⟩
theorem mC_X5_clear : Cond.code yX5_clear cX5_clear 1 none ∈ lw_good := List.mem_filter.mpr ⟨List.mem_of_getElem? (i := 272) (by decide +kernel), by decide +kernel⟩
theorem mD_X6_195 : Cond.constantDouble RX6 195 4593671619917905920 ∈ lw_good := List.mem_filter.mpr ⟨List.mem_of_getElem? (i := 273) (by decide +kernel), by decide +kernel⟩
theorem mM_X6_89 : Cond.methodLink RX6 89 yX6_breakOff ∈ lw_good := List.mem_filter.mpr ⟨List.mem_of_getElem? (i := 274) (by decide +kernel), by decide +kernel⟩
theorem mI_X6_breakOff : Cond.instanceMethod yX6_breakOff ∈ lw_good := List.mem_filter.mpr ⟨List.mem_of_getElem? (i := 276) (by decide +kernel), by decide +kernel⟩
theorem mC_X6_breakOff : Cond.code yX6_breakOff cX6_breakOff 1 none ∈ lw_good := List.mem_filter.mpr ⟨List.mem_of_getElem? (i := 277) (by decide +kernel), by decide +kernel⟩
theorem mF_X6_9 : Cond.fieldLink RX6 9 "OdeBench" "values" "[D" ∈ lw_good := List.mem_filter.mpr ⟨List.mem_of_getElem? (i := 278) (by decide +kernel), by decide +kernel⟩
theorem mF_X6_13 : Cond.fieldLink RX6 13 "OdeBench" "slopesNow" "[D" ∈ lw_good := List.mem_filter.mpr ⟨List.mem_of_getElem? (i := 279) (by decide +kernel), by decide +kernel⟩
theorem mF_X6_19 : Cond.fieldLink RX6 19 "OdeBench" "equations" "LOdeBench$Equations;" ∈ lw_good := List.mem_filter.mpr ⟨List.mem_of_getElem? (i := 280) (by decide +kernel), by decide +kernel⟩
theorem mF_X6_28 : Cond.fieldLink RX6 28 "OdeBench" "trial" "LOdeBench$Trial;" ∈ lw_good := List.mem_filter.mpr ⟨List.mem_of_getElem? (i := 281) (by decide +kernel), by decide +kernel⟩
theorem mF_X6_37 : Cond.fieldLink RX6 37 "OdeBench" "last" "LOdeBench$LastStep;" ∈ lw_good := List.mem_filter.mpr ⟨List.mem_of_getElem? (i := 282) (by decide +kernel), by decide +kernel⟩
theorem mF_X6_44 : Cond.fieldLink RX6 44 "OdeBench" "watching" "LOdeBench$Watch;" ∈ lw_good := List.mem_filter.mpr ⟨List.mem_of_getElem? (i := 283) (by decide +kernel), by decide +kernel⟩
theorem mF_X6_130 : Cond.fieldLink RX6 130 "OdeBench" "now" "D" ∈ lw_good := List.mem_filter.mpr ⟨List.mem_of_getElem? (i := 284) (by decide +kernel), by decide +kernel⟩
theorem mF_X6_106 : Cond.fieldLink RX6 106 "OdeBench" "stepSize" "D" ∈ lw_good := List.mem_filter.mpr ⟨List.mem_of_getElem? (i := 285) (by decide +kernel), by decide +kernel⟩
theorem mF_X6_110 : Cond.fieldLink RX6 110 "OdeBench" "tolerance" "D" ∈ lw_good := List.mem_filter.mpr ⟨List.mem_of_getElem? (i := 286) (by decide +kernel), by decide +kernel⟩
theorem mF_X6_141 : Cond.fieldLink RX6 141 "OdeBench" "taken" "I" ∈ lw_good := List.mem_filter.mpr ⟨List.mem_of_getElem? (i := 287) (by decide +kernel), by decide +kernel⟩
theorem mF_X6_187 : Cond.fieldLink RX6 187 "OdeBench" "refused" "I" ∈ lw_good := List.mem_filter.mpr ⟨List.mem_of_getElem? (i := 288) (by decide +kernel), by decide +kernel⟩
theorem mF_X6_197 : Cond.fieldLink RX6 197 "OdeBench" "adamsGoesOn" "Z" ∈ lw_good := List.mem_filter.mpr ⟨List.mem_of_getElem? (i := 289) (by decide +kernel), by decide +kernel⟩
theorem mM_L_95 : Cond.methodLink RL 95 yX6_events ∈ lw_good := List.mem_filter.mpr ⟨List.mem_of_getElem? (i := 315) (by decide +kernel), by decide +kernel⟩
theorem mI_X6_events : Cond.instanceMethod yX6_events ∈ lw_good := List.mem_filter.mpr ⟨List.mem_of_getElem? (i := 316) (by decide +kernel), by decide +kernel⟩
theorem mC_X6_events : Cond.code yX6_events cX6_events 1 (some .int) ∈ lw_good := List.mem_filter.mpr ⟨List.mem_of_getElem? (i := 318) (by decide +kernel), by decide +kernel⟩
theorem mM_L_113 : Cond.methodLink RL 113 yX6_time ∈ lw_good := List.mem_filter.mpr ⟨List.mem_of_getElem? (i := 319) (by decide +kernel), by decide +kernel⟩
theorem mI_X6_time : Cond.instanceMethod yX6_time ∈ lw_good := List.mem_filter.mpr ⟨List.mem_of_getElem? (i := 320) (by decide +kernel), by decide +kernel⟩
theorem mC_X6_time : Cond.code yX6_time cX6_time 1 (some .double) ∈ lw_good := List.mem_filter.mpr ⟨List.mem_of_getElem? (i := 322) (by decide +kernel), by decide +kernel⟩
theorem mM_L_118 : Cond.methodLink RL 118 yX6_nextSize ∈ lw_good := List.mem_filter.mpr ⟨List.mem_of_getElem? (i := 323) (by decide +kernel), by decide +kernel⟩
theorem mI_X6_nextSize : Cond.instanceMethod yX6_nextSize ∈ lw_good := List.mem_filter.mpr ⟨List.mem_of_getElem? (i := 324) (by decide +kernel), by decide +kernel⟩
theorem mC_X6_nextSize : Cond.code yX6_nextSize cX6_nextSize 1 (some .double) ∈ lw_good := List.mem_filter.mpr ⟨List.mem_of_getElem? (i := 326) (by decide +kernel), by decide +kernel⟩
theorem mM_L_122 : Cond.methodLink RL 122 yX6_steps ∈ lw_good := List.mem_filter.mpr ⟨List.mem_of_getElem? (i := 327) (by decide +kernel), by decide +kernel⟩
theorem mI_X6_steps : Cond.instanceMethod yX6_steps ∈ lw_good := List.mem_filter.mpr ⟨List.mem_of_getElem? (i := 328) (by decide +kernel), by decide +kernel⟩
theorem mC_X6_steps : Cond.code yX6_steps cX6_steps 2 (some .int) ∈ lw_good := List.mem_filter.mpr ⟨List.mem_of_getElem? (i := 330) (by decide +kernel), by decide +kernel⟩
theorem mM_L_61 : Cond.methodLink RL 61 yL_system ∈ lw_good := List.mem_filter.mpr ⟨List.mem_of_getElem? (i := 331) (by decide +kernel), by decide +kernel⟩
theorem mT_L_system : Cond.static yL_system ∈ lw_good := List.mem_filter.mpr ⟨List.mem_of_getElem? (i := 332) (by decide +kernel), by decide +kernel⟩
theorem mC_L_system : Cond.codeWith yL_system cL_system 3 (some .int) [(0, 5, 8, 13)] ∈ lw_good := List.mem_filter.mpr ⟨List.mem_of_getElem? (i := 333) (by decide +kernel), by decide +kernel⟩
theorem mK_L_13 : Cond.classLink RL 13 "java/lang/IllegalArgumentException" ∈ lw_good := List.mem_filter.mpr ⟨List.mem_of_getElem? (i := 334) (by decide +kernel), by decide +kernel⟩
theorem mM_L_7 : Cond.methodLink RL 7 yX6_system ∈ lw_good := List.mem_filter.mpr ⟨List.mem_of_getElem? (i := 335) (by decide +kernel), by decide +kernel⟩
theorem mI_X6_system : Cond.instanceMethod yX6_system ∈ lw_good := List.mem_filter.mpr ⟨List.mem_of_getElem? (i := 336) (by decide +kernel), by decide +kernel⟩
theorem mC_X6_system : Cond.code yX6_system cX6_system 2 none ∈ lw_good := List.mem_filter.mpr ⟨List.mem_of_getElem? (i := 338) (by decide +kernel), by decide +kernel⟩
theorem mK_X6_52 : Cond.classLink RX6 52 "java/lang/IllegalArgumentException" ∈ lw_good := List.mem_filter.mpr ⟨List.mem_of_getElem? (i := 339) (by decide +kernel), by decide +kernel⟩
theorem mA_byte : Cond.arrayClass .byte ∈ lw_good := List.mem_filter.mpr ⟨List.mem_of_getElem? (i := 407) (by decide +kernel), by decide +kernel⟩
theorem mM_L_73 : Cond.methodLink RL 73 yL_term ∈ lw_good := List.mem_filter.mpr ⟨List.mem_of_getElem? (i := 408) (by decide +kernel), by decide +kernel⟩
theorem mT_L_term : Cond.static yL_term ∈ lw_good := List.mem_filter.mpr ⟨List.mem_of_getElem? (i := 409) (by decide +kernel), by decide +kernel⟩
theorem mC_L_term : Cond.codeWith yL_term cL_term 8 (some .int) [(0, 15, 18, 13), (0, 15, 22, 19)] ∈ lw_good := List.mem_filter.mpr ⟨List.mem_of_getElem? (i := 410) (by decide +kernel), by decide +kernel⟩
theorem mK_L_19 : Cond.classLink RL 19 "java/lang/IllegalStateException" ∈ lw_good := List.mem_filter.mpr ⟨List.mem_of_getElem? (i := 411) (by decide +kernel), by decide +kernel⟩
theorem mM_L_15 : Cond.methodLink RL 15 yX6_term ∈ lw_good := List.mem_filter.mpr ⟨List.mem_of_getElem? (i := 412) (by decide +kernel), by decide +kernel⟩
theorem mI_X6_term : Cond.instanceMethod yX6_term ∈ lw_good := List.mem_filter.mpr ⟨List.mem_of_getElem? (i := 413) (by decide +kernel), by decide +kernel⟩
theorem mC_X6_term : Cond.code yX6_term cX6_term 6 (some .int) ∈ lw_good := List.mem_filter.mpr ⟨List.mem_of_getElem? (i := 415) (by decide +kernel), by decide +kernel⟩
theorem mM_X6_59 : Cond.methodLink RX6 59 yX0_hasValue ∈ lw_good := List.mem_filter.mpr ⟨List.mem_of_getElem? (i := 416) (by decide +kernel), by decide +kernel⟩
theorem mI_X0_hasValue : Cond.instanceMethod yX0_hasValue ∈ lw_good := List.mem_filter.mpr ⟨List.mem_of_getElem? (i := 417) (by decide +kernel), by decide +kernel⟩
theorem mC_X0_hasValue : Cond.code yX0_hasValue cX0_hasValue 2 (some .boolean) ∈ lw_good := List.mem_filter.mpr ⟨List.mem_of_getElem? (i := 419) (by decide +kernel), by decide +kernel⟩
theorem mM_X6_63 : Cond.methodLink RX6 63 yX0_hasFactor ∈ lw_good := List.mem_filter.mpr ⟨List.mem_of_getElem? (i := 420) (by decide +kernel), by decide +kernel⟩
theorem mI_X0_hasFactor : Cond.instanceMethod yX0_hasFactor ∈ lw_good := List.mem_filter.mpr ⟨List.mem_of_getElem? (i := 421) (by decide +kernel), by decide +kernel⟩
theorem mC_X0_hasFactor : Cond.code yX0_hasFactor cX0_hasFactor 2 (some .boolean) ∈ lw_good := List.mem_filter.mpr ⟨List.mem_of_getElem? (i := 423) (by decide +kernel), by decide +kernel⟩
theorem mM_X0_30 : Cond.methodLink RX0 30 yX0_hasValue ∈ lw_good := List.mem_filter.mpr ⟨List.mem_of_getElem? (i := 424) (by decide +kernel), by decide +kernel⟩
theorem mD_X6_68 : Cond.constantDouble RX6 68 4634204016564240384 ∈ lw_good := List.mem_filter.mpr ⟨List.mem_of_getElem? (i := 426) (by decide +kernel), by decide +kernel⟩
theorem mM_X6_70 : Cond.methodLink RX6 70 yX6_isWithin ∈ lw_good := List.mem_filter.mpr ⟨List.mem_of_getElem? (i := 427) (by decide +kernel), by decide +kernel⟩
theorem mT_X6_isWithin : Cond.static yX6_isWithin ∈ lw_good := List.mem_filter.mpr ⟨List.mem_of_getElem? (i := 428) (by decide +kernel), by decide +kernel⟩
theorem mC_X6_isWithin : Cond.code yX6_isWithin cX6_isWithin 4 (some .boolean) ∈ lw_good := List.mem_filter.mpr ⟨List.mem_of_getElem? (i := 429) (by decide +kernel), by decide +kernel⟩
theorem mM_X6_76 : Cond.methodLink RX6 76 yX0_isFull ∈ lw_good := List.mem_filter.mpr ⟨List.mem_of_getElem? (i := 431) (by decide +kernel), by decide +kernel⟩
theorem mI_X0_isFull : Cond.instanceMethod yX0_isFull ∈ lw_good := List.mem_filter.mpr ⟨List.mem_of_getElem? (i := 432) (by decide +kernel), by decide +kernel⟩
theorem mC_X0_isFull : Cond.code yX0_isFull cX0_isFull 1 (some .boolean) ∈ lw_good := List.mem_filter.mpr ⟨List.mem_of_getElem? (i := 434) (by decide +kernel), by decide +kernel⟩
theorem mK_X6_80 : Cond.classLink RX6 80 "java/lang/IllegalStateException" ∈ lw_good := List.mem_filter.mpr ⟨List.mem_of_getElem? (i := 435) (by decide +kernel), by decide +kernel⟩
theorem mM_X6_85 : Cond.methodLink RX6 85 yX0_add ∈ lw_good := List.mem_filter.mpr ⟨List.mem_of_getElem? (i := 451) (by decide +kernel), by decide +kernel⟩
theorem mI_X0_add : Cond.instanceMethod yX0_add ∈ lw_good := List.mem_filter.mpr ⟨List.mem_of_getElem? (i := 452) (by decide +kernel), by decide +kernel⟩
theorem mC_X0_add : Cond.code yX0_add cX0_add 6 none ∈ lw_good := List.mem_filter.mpr ⟨List.mem_of_getElem? (i := 454) (by decide +kernel), by decide +kernel⟩
theorem mM_L_77 : Cond.methodLink RL 77 yL_value ∈ lw_good := List.mem_filter.mpr ⟨List.mem_of_getElem? (i := 455) (by decide +kernel), by decide +kernel⟩
theorem mT_L_value : Cond.static yL_value ∈ lw_good := List.mem_filter.mpr ⟨List.mem_of_getElem? (i := 456) (by decide +kernel), by decide +kernel⟩
theorem mC_L_value : Cond.codeWith yL_value cL_value 5 (some .int) [(0, 6, 9, 13)] ∈ lw_good := List.mem_filter.mpr ⟨List.mem_of_getElem? (i := 457) (by decide +kernel), by decide +kernel⟩
theorem mM_L_21 : Cond.methodLink RL 21 yX6_value ∈ lw_good := List.mem_filter.mpr ⟨List.mem_of_getElem? (i := 458) (by decide +kernel), by decide +kernel⟩
theorem mI_X6_value : Cond.instanceMethod yX6_value ∈ lw_good := List.mem_filter.mpr ⟨List.mem_of_getElem? (i := 459) (by decide +kernel), by decide +kernel⟩
theorem mC_X6_value : Cond.code yX6_value cX6_value 4 none ∈ lw_good := List.mem_filter.mpr ⟨List.mem_of_getElem? (i := 461) (by decide +kernel), by decide +kernel⟩
theorem mD_X6_96 : Cond.constantDouble RX6 96 4652007308841189376 ∈ lw_good := List.mem_filter.mpr ⟨List.mem_of_getElem? (i := 462) (by decide +kernel), by decide +kernel⟩
theorem mM_L_81 : Cond.methodLink RL 81 yL_size ∈ lw_good := List.mem_filter.mpr ⟨List.mem_of_getElem? (i := 464) (by decide +kernel), by decide +kernel⟩
theorem mT_L_size : Cond.static yL_size ∈ lw_good := List.mem_filter.mpr ⟨List.mem_of_getElem? (i := 465) (by decide +kernel), by decide +kernel⟩
theorem mC_L_size : Cond.codeWith yL_size cL_size 6 (some .int) [(0, 6, 9, 13)] ∈ lw_good := List.mem_filter.mpr ⟨List.mem_of_getElem? (i := 466) (by decide +kernel), by decide +kernel⟩
theorem mM_L_25 : Cond.methodLink RL 25 yX6_size ∈ lw_good := List.mem_filter.mpr ⟨List.mem_of_getElem? (i := 467) (by decide +kernel), by decide +kernel⟩
theorem mI_X6_size : Cond.instanceMethod yX6_size ∈ lw_good := List.mem_filter.mpr ⟨List.mem_of_getElem? (i := 468) (by decide +kernel), by decide +kernel⟩
theorem mC_X6_size : Cond.code yX6_size cX6_size 5 none ∈ lw_good := List.mem_filter.mpr ⟨List.mem_of_getElem? (i := 470) (by decide +kernel), by decide +kernel⟩
theorem mM_X6_100 : Cond.methodLink RX6 100 yX6_isSize ∈ lw_good := List.mem_filter.mpr ⟨List.mem_of_getElem? (i := 471) (by decide +kernel), by decide +kernel⟩
theorem mT_X6_isSize : Cond.static yX6_isSize ∈ lw_good := List.mem_filter.mpr ⟨List.mem_of_getElem? (i := 472) (by decide +kernel), by decide +kernel⟩
theorem mC_X6_isSize : Cond.code yX6_isSize cX6_isSize 2 (some .boolean) ∈ lw_good := List.mem_filter.mpr ⟨List.mem_of_getElem? (i := 473) (by decide +kernel), by decide +kernel⟩
theorem mD_X6_239 : Cond.constantDouble RX6 239 4616189618054758400 ∈ lw_good := List.mem_filter.mpr ⟨List.mem_of_getElem? (i := 474) (by decide +kernel), by decide +kernel⟩
theorem mM_L_85 : Cond.methodLink RL 85 yL_step ∈ lw_good := List.mem_filter.mpr ⟨List.mem_of_getElem? (i := 476) (by decide +kernel), by decide +kernel⟩
theorem mT_L_step : Cond.static yL_step ∈ lw_good := List.mem_filter.mpr ⟨List.mem_of_getElem? (i := 477) (by decide +kernel), by decide +kernel⟩
theorem mC_L_step : Cond.codeWith yL_step cL_step 3 (some .int) [(0, 5, 8, 13), (0, 5, 11, 32)] ∈ lw_good := List.mem_filter.mpr ⟨List.mem_of_getElem? (i := 478) (by decide +kernel), by decide +kernel⟩
theorem mK_L_32 : Cond.classLink RL 32 "java/lang/ArithmeticException" ∈ lw_good := List.mem_filter.mpr ⟨List.mem_of_getElem? (i := 479) (by decide +kernel), by decide +kernel⟩
theorem mM_L_29 : Cond.methodLink RL 29 yX6_step ∈ lw_good := List.mem_filter.mpr ⟨List.mem_of_getElem? (i := 480) (by decide +kernel), by decide +kernel⟩
theorem mI_X6_step : Cond.instanceMethod yX6_step ∈ lw_good := List.mem_filter.mpr ⟨List.mem_of_getElem? (i := 481) (by decide +kernel), by decide +kernel⟩
theorem mC_X6_step : Cond.code yX6_step cX6_step 2 none ∈ lw_good := List.mem_filter.mpr ⟨List.mem_of_getElem? (i := 483) (by decide +kernel), by decide +kernel⟩
theorem mM_X6_113 : Cond.methodLink RX6 113 yX6_isMethod ∈ lw_good := List.mem_filter.mpr ⟨List.mem_of_getElem? (i := 484) (by decide +kernel), by decide +kernel⟩
theorem mT_X6_isMethod : Cond.static yX6_isMethod ∈ lw_good := List.mem_filter.mpr ⟨List.mem_of_getElem? (i := 485) (by decide +kernel), by decide +kernel⟩
theorem mC_X6_isMethod : Cond.code yX6_isMethod cX6_isMethod 1 (some .boolean) ∈ lw_good := List.mem_filter.mpr ⟨List.mem_of_getElem? (i := 486) (by decide +kernel), by decide +kernel⟩
theorem mM_X6_118 : Cond.methodLink RX6 118 yX6_tryStep ∈ lw_good := List.mem_filter.mpr ⟨List.mem_of_getElem? (i := 488) (by decide +kernel), by decide +kernel⟩
theorem mI_X6_tryStep : Cond.instanceMethod yX6_tryStep ∈ lw_good := List.mem_filter.mpr ⟨List.mem_of_getElem? (i := 490) (by decide +kernel), by decide +kernel⟩
theorem mC_X6_tryStep : Cond.code yX6_tryStep cX6_tryStep 5 (some .boolean) ∈ lw_good := List.mem_filter.mpr ⟨List.mem_of_getElem? (i := 491) (by decide +kernel), by decide +kernel⟩
theorem mM_X6_200 : Cond.methodLink RX6 200 yX4_begin ∈ lw_good := List.mem_filter.mpr ⟨List.mem_of_getElem? (i := 492) (by decide +kernel), by decide +kernel⟩
theorem mI_X4_begin : Cond.instanceMethod yX4_begin ∈ lw_good := List.mem_filter.mpr ⟨List.mem_of_getElem? (i := 493) (by decide +kernel), by decide +kernel⟩
theorem mC_X4_begin : Cond.code yX4_begin cX4_begin 5 none ∈ lw_good := List.mem_filter.mpr ⟨List.mem_of_getElem? (i := 495) (by decide +kernel), by decide +kernel⟩
theorem mM_X4_60 : Cond.methodLink RX4 60 yX0_slopes ∈ lw_good := List.mem_filter.mpr ⟨List.mem_of_getElem? (i := 496) (by decide +kernel), by decide +kernel⟩
theorem mI_X0_slopes : Cond.instanceMethod yX0_slopes ∈ lw_good := List.mem_filter.mpr ⟨List.mem_of_getElem? (i := 497) (by decide +kernel), by decide +kernel⟩
theorem mC_X0_slopes : Cond.code yX0_slopes cX0_slopes 7 none ∈ lw_good := List.mem_filter.mpr ⟨List.mem_of_getElem? (i := 499) (by decide +kernel), by decide +kernel⟩
theorem mM_X0_34 : Cond.methodLink RX0 34 yX0_factor ∈ lw_good := List.mem_filter.mpr ⟨List.mem_of_getElem? (i := 500) (by decide +kernel), by decide +kernel⟩
theorem mI_X0_factor : Cond.instanceMethod yX0_factor ∈ lw_good := List.mem_filter.mpr ⟨List.mem_of_getElem? (i := 502) (by decide +kernel), by decide +kernel⟩
theorem mC_X0_factor : Cond.code yX0_factor cX0_factor 5 (some .double) ∈ lw_good := List.mem_filter.mpr ⟨List.mem_of_getElem? (i := 503) (by decide +kernel), by decide +kernel⟩
theorem mM_X6_210 : Cond.methodLink RX6 210 yX4_reckon ∈ lw_good := List.mem_filter.mpr ⟨List.mem_of_getElem? (i := 504) (by decide +kernel), by decide +kernel⟩
theorem mI_X4_reckon : Cond.instanceMethod yX4_reckon ∈ lw_good := List.mem_filter.mpr ⟨List.mem_of_getElem? (i := 505) (by decide +kernel), by decide +kernel⟩
theorem mC_X4_reckon : Cond.code yX4_reckon cX4_reckon 5 (some .boolean) ∈ lw_good := List.mem_filter.mpr ⟨List.mem_of_getElem? (i := 507) (by decide +kernel), by decide +kernel⟩
theorem mM_X4_66 : Cond.methodLink RX4 66 yX4_move ∈ lw_good := List.mem_filter.mpr ⟨List.mem_of_getElem? (i := 508) (by decide +kernel), by decide +kernel⟩
theorem mI_X4_move : Cond.instanceMethod yX4_move ∈ lw_good := List.mem_filter.mpr ⟨List.mem_of_getElem? (i := 510) (by decide +kernel), by decide +kernel⟩
theorem mC_X4_move : Cond.code yX4_move cX4_move 7 none ∈ lw_good := List.mem_filter.mpr ⟨List.mem_of_getElem? (i := 511) (by decide +kernel), by decide +kernel⟩
theorem mM_X4_70 : Cond.methodLink RX4 70 yX4_pair ∈ lw_good := List.mem_filter.mpr ⟨List.mem_of_getElem? (i := 512) (by decide +kernel), by decide +kernel⟩
theorem mI_X4_pair : Cond.instanceMethod yX4_pair ∈ lw_good := List.mem_filter.mpr ⟨List.mem_of_getElem? (i := 514) (by decide +kernel), by decide +kernel⟩
theorem mC_X4_pair : Cond.code yX4_pair cX4_pair 2 none ∈ lw_good := List.mem_filter.mpr ⟨List.mem_of_getElem? (i := 515) (by decide +kernel), by decide +kernel⟩
theorem mD_X4_98 : Cond.constantDouble RX4 98 4602678819172646912 ∈ lw_good := List.mem_filter.mpr ⟨List.mem_of_getElem? (i := 516) (by decide +kernel), by decide +kernel⟩
theorem mM_X4_100 : Cond.methodLink RX4 100 yX4_slopesAfter ∈ lw_good := List.mem_filter.mpr ⟨List.mem_of_getElem? (i := 517) (by decide +kernel), by decide +kernel⟩
theorem mI_X4_slopesAfter : Cond.instanceMethod yX4_slopesAfter ∈ lw_good := List.mem_filter.mpr ⟨List.mem_of_getElem? (i := 519) (by decide +kernel), by decide +kernel⟩
theorem mC_X4_slopesAfter : Cond.code yX4_slopesAfter cX4_slopesAfter 5 none ∈ lw_good := List.mem_filter.mpr ⟨List.mem_of_getElem? (i := 520) (by decide +kernel), by decide +kernel⟩
theorem mD_X4_107 : Cond.constantDouble RX4 107 4604930618986332160 ∈ lw_good := List.mem_filter.mpr ⟨List.mem_of_getElem? (i := 521) (by decide +kernel), by decide +kernel⟩
theorem mD_X4_109 : Cond.constantDouble RX4 109 4621256167635550208 ∈ lw_good := List.mem_filter.mpr ⟨List.mem_of_getElem? (i := 522) (by decide +kernel), by decide +kernel⟩
theorem mD_X4_105 : Cond.constantDouble RX4 105 4611686018427387904 ∈ lw_good := List.mem_filter.mpr ⟨List.mem_of_getElem? (i := 523) (by decide +kernel), by decide +kernel⟩
theorem mD_X4_111 : Cond.constantDouble RX4 111 4613937818241073152 ∈ lw_good := List.mem_filter.mpr ⟨List.mem_of_getElem? (i := 524) (by decide +kernel), by decide +kernel⟩
theorem mD_X4_113 : Cond.constantDouble RX4 113 4616189618054758400 ∈ lw_good := List.mem_filter.mpr ⟨List.mem_of_getElem? (i := 525) (by decide +kernel), by decide +kernel⟩
theorem mD_X4_115 : Cond.constantDouble RX4 115 4634766966517661696 ∈ lw_good := List.mem_filter.mpr ⟨List.mem_of_getElem? (i := 526) (by decide +kernel), by decide +kernel⟩
theorem mD_X4_103 : Cond.constantDouble RX4 103 4618441417868443648 ∈ lw_good := List.mem_filter.mpr ⟨List.mem_of_getElem? (i := 527) (by decide +kernel), by decide +kernel⟩
theorem mD_X4_117 : Cond.constantDouble RX4 117 4620693217682128896 ∈ lw_good := List.mem_filter.mpr ⟨List.mem_of_getElem? (i := 528) (by decide +kernel), by decide +kernel⟩
theorem mD_X4_119 : Cond.constantDouble RX4 119 4617315517961601024 ∈ lw_good := List.mem_filter.mpr ⟨List.mem_of_getElem? (i := 529) (by decide +kernel), by decide +kernel⟩
theorem mT_X6_greatest : Cond.static yX6_greatest ∈ lw_good := List.mem_filter.mpr ⟨List.mem_of_getElem? (i := 531) (by decide +kernel), by decide +kernel⟩
theorem mC_X6_greatest : Cond.code yX6_greatest cX6_greatest 7 (some .double) ∈ lw_good := List.mem_filter.mpr ⟨List.mem_of_getElem? (i := 532) (by decide +kernel), by decide +kernel⟩
theorem mM_X6_241 : Cond.methodLink RX6 241 yX6_sizeOf ∈ lw_good := List.mem_filter.mpr ⟨List.mem_of_getElem? (i := 533) (by decide +kernel), by decide +kernel⟩
theorem mT_X6_sizeOf : Cond.static yX6_sizeOf ∈ lw_good := List.mem_filter.mpr ⟨List.mem_of_getElem? (i := 534) (by decide +kernel), by decide +kernel⟩
theorem mC_X6_sizeOf : Cond.code yX6_sizeOf cX6_sizeOf 2 (some .double) ∈ lw_good := List.mem_filter.mpr ⟨List.mem_of_getElem? (i := 535) (by decide +kernel), by decide +kernel⟩
theorem mM_X4_73 : Cond.methodLink RX4 73 yX4_adams ∈ lw_good := List.mem_filter.mpr ⟨List.mem_of_getElem? (i := 536) (by decide +kernel), by decide +kernel⟩
theorem mI_X4_adams : Cond.instanceMethod yX4_adams ∈ lw_good := List.mem_filter.mpr ⟨List.mem_of_getElem? (i := 538) (by decide +kernel), by decide +kernel⟩
theorem mC_X4_adams : Cond.code yX4_adams cX4_adams 3 none ∈ lw_good := List.mem_filter.mpr ⟨List.mem_of_getElem? (i := 539) (by decide +kernel), by decide +kernel⟩
theorem mD_X4_124 : Cond.constantDouble RX4 124 4609434218613702656 ∈ lw_good := List.mem_filter.mpr ⟨List.mem_of_getElem? (i := 540) (by decide +kernel), by decide +kernel⟩
theorem mM_X4_77 : Cond.methodLink RX4 77 yX4_runge ∈ lw_good := List.mem_filter.mpr ⟨List.mem_of_getElem? (i := 541) (by decide +kernel), by decide +kernel⟩
theorem mI_X4_runge : Cond.instanceMethod yX4_runge ∈ lw_good := List.mem_filter.mpr ⟨List.mem_of_getElem? (i := 543) (by decide +kernel), by decide +kernel⟩
theorem mC_X4_runge : Cond.code yX4_runge cX4_runge 2 none ∈ lw_good := List.mem_filter.mpr ⟨List.mem_of_getElem? (i := 544) (by decide +kernel), by decide +kernel⟩
theorem mM_X4_80 : Cond.methodLink RX4 80 yX1_solve ∈ lw_good := List.mem_filter.mpr ⟨List.mem_of_getElem? (i := 545) (by decide +kernel), by decide +kernel⟩
theorem mI_X1_solve : Cond.instanceMethod yX1_solve ∈ lw_good := List.mem_filter.mpr ⟨List.mem_of_getElem? (i := 546) (by decide +kernel), by decide +kernel⟩
theorem mC_X1_solve : Cond.code yX1_solve cX1_solve 10 (some .boolean) ∈ lw_good := List.mem_filter.mpr ⟨List.mem_of_getElem? (i := 548) (by decide +kernel), by decide +kernel⟩
theorem mM_X1_33 : Cond.methodLink RX1 33 yX1_setRest ∈ lw_good := List.mem_filter.mpr ⟨List.mem_of_getElem? (i := 549) (by decide +kernel), by decide +kernel⟩
theorem mI_X1_setRest : Cond.instanceMethod yX1_setRest ∈ lw_good := List.mem_filter.mpr ⟨List.mem_of_getElem? (i := 551) (by decide +kernel), by decide +kernel⟩
theorem mC_X1_setRest : Cond.code yX1_setRest cX1_setRest 8 none ∈ lw_good := List.mem_filter.mpr ⟨List.mem_of_getElem? (i := 552) (by decide +kernel), by decide +kernel⟩
theorem mM_X1_57 : Cond.methodLink RX1 57 yX0_slopes ∈ lw_good := List.mem_filter.mpr ⟨List.mem_of_getElem? (i := 553) (by decide +kernel), by decide +kernel⟩
theorem mM_X1_37 : Cond.methodLink RX1 37 yX1_setMatrix ∈ lw_good := List.mem_filter.mpr ⟨List.mem_of_getElem? (i := 554) (by decide +kernel), by decide +kernel⟩
theorem mI_X1_setMatrix : Cond.instanceMethod yX1_setMatrix ∈ lw_good := List.mem_filter.mpr ⟨List.mem_of_getElem? (i := 556) (by decide +kernel), by decide +kernel⟩
theorem mC_X1_setMatrix : Cond.code yX1_setMatrix cX1_setMatrix 10 none ∈ lw_good := List.mem_filter.mpr ⟨List.mem_of_getElem? (i := 557) (by decide +kernel), by decide +kernel⟩
theorem mM_X1_61 : Cond.methodLink RX1 61 yX0_slopeBy ∈ lw_good := List.mem_filter.mpr ⟨List.mem_of_getElem? (i := 558) (by decide +kernel), by decide +kernel⟩
theorem mI_X0_slopeBy : Cond.instanceMethod yX0_slopeBy ∈ lw_good := List.mem_filter.mpr ⟨List.mem_of_getElem? (i := 559) (by decide +kernel), by decide +kernel⟩
theorem mC_X0_slopeBy : Cond.code yX0_slopeBy cX0_slopeBy 9 (some .double) ∈ lw_good := List.mem_filter.mpr ⟨List.mem_of_getElem? (i := 561) (by decide +kernel), by decide +kernel⟩
theorem mM_X1_41 : Cond.methodLink RX1 41 yX1_eliminate ∈ lw_good := List.mem_filter.mpr ⟨List.mem_of_getElem? (i := 562) (by decide +kernel), by decide +kernel⟩
theorem mI_X1_eliminate : Cond.instanceMethod yX1_eliminate ∈ lw_good := List.mem_filter.mpr ⟨List.mem_of_getElem? (i := 564) (by decide +kernel), by decide +kernel⟩
theorem mC_X1_eliminate : Cond.code yX1_eliminate cX1_eliminate 4 (some .boolean) ∈ lw_good := List.mem_filter.mpr ⟨List.mem_of_getElem? (i := 565) (by decide +kernel), by decide +kernel⟩
theorem mM_X1_65 : Cond.methodLink RX1 65 yX1_pivotRow ∈ lw_good := List.mem_filter.mpr ⟨List.mem_of_getElem? (i := 566) (by decide +kernel), by decide +kernel⟩
theorem mI_X1_pivotRow : Cond.instanceMethod yX1_pivotRow ∈ lw_good := List.mem_filter.mpr ⟨List.mem_of_getElem? (i := 568) (by decide +kernel), by decide +kernel⟩
theorem mC_X1_pivotRow : Cond.code yX1_pivotRow cX1_pivotRow 5 (some .int) ∈ lw_good := List.mem_filter.mpr ⟨List.mem_of_getElem? (i := 569) (by decide +kernel), by decide +kernel⟩
theorem mM_X1_69 : Cond.methodLink RX1 69 yX1_exchange ∈ lw_good := List.mem_filter.mpr ⟨List.mem_of_getElem? (i := 571) (by decide +kernel), by decide +kernel⟩
theorem mI_X1_exchange : Cond.instanceMethod yX1_exchange ∈ lw_good := List.mem_filter.mpr ⟨List.mem_of_getElem? (i := 573) (by decide +kernel), by decide +kernel⟩
theorem mC_X1_exchange : Cond.code yX1_exchange cX1_exchange 7 none ∈ lw_good := List.mem_filter.mpr ⟨List.mem_of_getElem? (i := 574) (by decide +kernel), by decide +kernel⟩
theorem mD_X1_53 : Cond.constantDouble RX1 53 4472406533629990549 ∈ lw_good := List.mem_filter.mpr ⟨List.mem_of_getElem? (i := 575) (by decide +kernel), by decide +kernel⟩
theorem mM_X1_77 : Cond.methodLink RX1 77 yX1_takeAway ∈ lw_good := List.mem_filter.mpr ⟨List.mem_of_getElem? (i := 576) (by decide +kernel), by decide +kernel⟩
theorem mI_X1_takeAway : Cond.instanceMethod yX1_takeAway ∈ lw_good := List.mem_filter.mpr ⟨List.mem_of_getElem? (i := 578) (by decide +kernel), by decide +kernel⟩
theorem mC_X1_takeAway : Cond.code yX1_takeAway cX1_takeAway 7 none ∈ lw_good := List.mem_filter.mpr ⟨List.mem_of_getElem? (i := 579) (by decide +kernel), by decide +kernel⟩
theorem mM_X1_45 : Cond.methodLink RX1 45 yX1_substitute ∈ lw_good := List.mem_filter.mpr ⟨List.mem_of_getElem? (i := 580) (by decide +kernel), by decide +kernel⟩
theorem mI_X1_substitute : Cond.instanceMethod yX1_substitute ∈ lw_good := List.mem_filter.mpr ⟨List.mem_of_getElem? (i := 582) (by decide +kernel), by decide +kernel⟩
theorem mC_X1_substitute : Cond.code yX1_substitute cX1_substitute 6 none ∈ lw_good := List.mem_filter.mpr ⟨List.mem_of_getElem? (i := 583) (by decide +kernel), by decide +kernel⟩
theorem mD_X1_55 : Cond.constantDouble RX1 55 4741671816366391296 ∈ lw_good := List.mem_filter.mpr ⟨List.mem_of_getElem? (i := 585) (by decide +kernel), by decide +kernel⟩
theorem mM_X4_84 : Cond.methodLink RX4 84 yX3_refine ∈ lw_good := List.mem_filter.mpr ⟨List.mem_of_getElem? (i := 586) (by decide +kernel), by decide +kernel⟩
theorem mI_X3_refine : Cond.instanceMethod yX3_refine ∈ lw_good := List.mem_filter.mpr ⟨List.mem_of_getElem? (i := 587) (by decide +kernel), by decide +kernel⟩
theorem mC_X3_refine : Cond.code yX3_refine cX3_refine 3 none ∈ lw_good := List.mem_filter.mpr ⟨List.mem_of_getElem? (i := 589) (by decide +kernel), by decide +kernel⟩
theorem mM_X3_31 : Cond.methodLink RX3 31 yX3_walk ∈ lw_good := List.mem_filter.mpr ⟨List.mem_of_getElem? (i := 590) (by decide +kernel), by decide +kernel⟩
theorem mI_X3_walk : Cond.instanceMethod yX3_walk ∈ lw_good := List.mem_filter.mpr ⟨List.mem_of_getElem? (i := 592) (by decide +kernel), by decide +kernel⟩
theorem mC_X3_walk : Cond.code yX3_walk cX3_walk 10 none ∈ lw_good := List.mem_filter.mpr ⟨List.mem_of_getElem? (i := 593) (by decide +kernel), by decide +kernel⟩
theorem mM_X3_61 : Cond.methodLink RX3 61 yX0_slopes ∈ lw_good := List.mem_filter.mpr ⟨List.mem_of_getElem? (i := 594) (by decide +kernel), by decide +kernel⟩
theorem mD_X3_65 : Cond.constantDouble RX3 65 4611686018427387904 ∈ lw_good := List.mem_filter.mpr ⟨List.mem_of_getElem? (i := 595) (by decide +kernel), by decide +kernel⟩
theorem mD_X3_67 : Cond.constantDouble RX3 67 4602678819172646912 ∈ lw_good := List.mem_filter.mpr ⟨List.mem_of_getElem? (i := 596) (by decide +kernel), by decide +kernel⟩
theorem mD_X3_46 : Cond.constantDouble RX3 46 4613937818241073152 ∈ lw_good := List.mem_filter.mpr ⟨List.mem_of_getElem? (i := 597) (by decide +kernel), by decide +kernel⟩
theorem mD_X4_96 : Cond.constantDouble RX4 96 4696837146684686336 ∈ lw_good := List.mem_filter.mpr ⟨List.mem_of_getElem? (i := 598) (by decide +kernel), by decide +kernel⟩
theorem mM_X6_122 : Cond.methodLink RX6 122 yX6_refuse ∈ lw_good := List.mem_filter.mpr ⟨List.mem_of_getElem? (i := 599) (by decide +kernel), by decide +kernel⟩
theorem mI_X6_refuse : Cond.instanceMethod yX6_refuse ∈ lw_good := List.mem_filter.mpr ⟨List.mem_of_getElem? (i := 601) (by decide +kernel), by decide +kernel⟩
theorem mC_X6_refuse : Cond.code yX6_refuse cX6_refuse 1 none ∈ lw_good := List.mem_filter.mpr ⟨List.mem_of_getElem? (i := 602) (by decide +kernel), by decide +kernel⟩
theorem mK_X6_125 : Cond.classLink RX6 125 "java/lang/ArithmeticException" ∈ lw_good := List.mem_filter.mpr ⟨List.mem_of_getElem? (i := 603) (by decide +kernel), by decide +kernel⟩
theorem mM_X6_133 : Cond.methodLink RX6 133 yX6_take ∈ lw_good := List.mem_filter.mpr ⟨List.mem_of_getElem? (i := 619) (by decide +kernel), by decide +kernel⟩
theorem mI_X6_take : Cond.instanceMethod yX6_take ∈ lw_good := List.mem_filter.mpr ⟨List.mem_of_getElem? (i := 621) (by decide +kernel), by decide +kernel⟩
theorem mC_X6_take : Cond.code yX6_take cX6_take 5 none ∈ lw_good := List.mem_filter.mpr ⟨List.mem_of_getElem? (i := 622) (by decide +kernel), by decide +kernel⟩
theorem mM_X6_225 : Cond.methodLink RX6 225 yX2_keep ∈ lw_good := List.mem_filter.mpr ⟨List.mem_of_getElem? (i := 623) (by decide +kernel), by decide +kernel⟩
theorem mI_X2_keep : Cond.instanceMethod yX2_keep ∈ lw_good := List.mem_filter.mpr ⟨List.mem_of_getElem? (i := 624) (by decide +kernel), by decide +kernel⟩
theorem mC_X2_keep : Cond.code yX2_keep cX2_keep 3 none ∈ lw_good := List.mem_filter.mpr ⟨List.mem_of_getElem? (i := 626) (by decide +kernel), by decide +kernel⟩
theorem mM_X2_54 : Cond.methodLink RX2 54 yX0_slopes ∈ lw_good := List.mem_filter.mpr ⟨List.mem_of_getElem? (i := 627) (by decide +kernel), by decide +kernel⟩
theorem mM_X6_235 : Cond.methodLink RX6 235 yX5_look ∈ lw_good := List.mem_filter.mpr ⟨List.mem_of_getElem? (i := 628) (by decide +kernel), by decide +kernel⟩
theorem mI_X5_look : Cond.instanceMethod yX5_look ∈ lw_good := List.mem_filter.mpr ⟨List.mem_of_getElem? (i := 629) (by decide +kernel), by decide +kernel⟩
theorem mC_X5_look : Cond.code yX5_look cX5_look 3 none ∈ lw_good := List.mem_filter.mpr ⟨List.mem_of_getElem? (i := 631) (by decide +kernel), by decide +kernel⟩
theorem mM_X5_39 : Cond.methodLink RX5 39 yX5_isAbove ∈ lw_good := List.mem_filter.mpr ⟨List.mem_of_getElem? (i := 632) (by decide +kernel), by decide +kernel⟩
theorem mI_X5_isAbove : Cond.instanceMethod yX5_isAbove ∈ lw_good := List.mem_filter.mpr ⟨List.mem_of_getElem? (i := 634) (by decide +kernel), by decide +kernel⟩
theorem mC_X5_isAbove : Cond.code yX5_isAbove cX5_isAbove 3 (some .boolean) ∈ lw_good := List.mem_filter.mpr ⟨List.mem_of_getElem? (i := 635) (by decide +kernel), by decide +kernel⟩
theorem mM_X5_28 : Cond.methodLink RX5 28 yJ9_floorMod_7cf53 ∈ lw_good := List.mem_filter.mpr ⟨List.mem_of_getElem? (i := 636) (by decide +kernel), by decide +kernel⟩
theorem mT_J9_floorMod_7cf53 : Cond.static yJ9_floorMod_7cf53 ∈ lw_good := List.mem_filter.mpr ⟨List.mem_of_getElem? (i := 637) (by decide +kernel), by decide +kernel⟩
theorem mC_J9_floorMod_7cf53 : Cond.code yJ9_floorMod_7cf53 cJ9_floorMod_7cf53 3 (some .int) ∈ lw_good := List.mem_filter.mpr ⟨List.mem_of_getElem? (i := 638) (by decide +kernel), by decide +kernel⟩
theorem mM_X5_46 : Cond.methodLink RX5 46 yX5_crossing ∈ lw_good := List.mem_filter.mpr ⟨List.mem_of_getElem? (i := 639) (by decide +kernel), by decide +kernel⟩
theorem mI_X5_crossing : Cond.instanceMethod yX5_crossing ∈ lw_good := List.mem_filter.mpr ⟨List.mem_of_getElem? (i := 641) (by decide +kernel), by decide +kernel⟩
theorem mC_X5_crossing : Cond.code yX5_crossing cX5_crossing 10 (some .double) ∈ lw_good := List.mem_filter.mpr ⟨List.mem_of_getElem? (i := 642) (by decide +kernel), by decide +kernel⟩
theorem mD_X5_50 : Cond.constantDouble RX5 50 4602678819172646912 ∈ lw_good := List.mem_filter.mpr ⟨List.mem_of_getElem? (i := 643) (by decide +kernel), by decide +kernel⟩
theorem mM_X5_52 : Cond.methodLink RX5 52 yX2_inside ∈ lw_good := List.mem_filter.mpr ⟨List.mem_of_getElem? (i := 644) (by decide +kernel), by decide +kernel⟩
theorem mI_X2_inside : Cond.instanceMethod yX2_inside ∈ lw_good := List.mem_filter.mpr ⟨List.mem_of_getElem? (i := 645) (by decide +kernel), by decide +kernel⟩
theorem mC_X2_inside : Cond.code yX2_inside cX2_inside 4 (some .double) ∈ lw_good := List.mem_filter.mpr ⟨List.mem_of_getElem? (i := 647) (by decide +kernel), by decide +kernel⟩
theorem mD_X2_62 : Cond.constantDouble RX2 62 4611686018427387904 ∈ lw_good := List.mem_filter.mpr ⟨List.mem_of_getElem? (i := 648) (by decide +kernel), by decide +kernel⟩
theorem mD_X2_64 : Cond.constantDouble RX2 64 4613937818241073152 ∈ lw_good := List.mem_filter.mpr ⟨List.mem_of_getElem? (i := 649) (by decide +kernel), by decide +kernel⟩
theorem mM_L_88 : Cond.methodLink RL 88 yL_go ∈ lw_good := List.mem_filter.mpr ⟨List.mem_of_getElem? (i := 650) (by decide +kernel), by decide +kernel⟩
theorem mT_L_go : Cond.static yL_go ∈ lw_good := List.mem_filter.mpr ⟨List.mem_of_getElem? (i := 651) (by decide +kernel), by decide +kernel⟩
theorem mC_L_go : Cond.codeWith yL_go cL_go 6 (some .int) [(0, 11, 14, 13), (0, 11, 18, 32)] ∈ lw_good := List.mem_filter.mpr ⟨List.mem_of_getElem? (i := 652) (by decide +kernel), by decide +kernel⟩
theorem mM_L_34 : Cond.methodLink RL 34 yX6_go ∈ lw_good := List.mem_filter.mpr ⟨List.mem_of_getElem? (i := 653) (by decide +kernel), by decide +kernel⟩
theorem mI_X6_go : Cond.instanceMethod yX6_go ∈ lw_good := List.mem_filter.mpr ⟨List.mem_of_getElem? (i := 654) (by decide +kernel), by decide +kernel⟩
theorem mC_X6_go : Cond.code yX6_go cX6_go 6 (some .int) ∈ lw_good := List.mem_filter.mpr ⟨List.mem_of_getElem? (i := 656) (by decide +kernel), by decide +kernel⟩
theorem mD_X6_137 : Cond.constantDouble RX6 137 4636737291354636288 ∈ lw_good := List.mem_filter.mpr ⟨List.mem_of_getElem? (i := 657) (by decide +kernel), by decide +kernel⟩
theorem mM_X6_144 : Cond.methodLink RX6 144 yX6_stepTowards ∈ lw_good := List.mem_filter.mpr ⟨List.mem_of_getElem? (i := 659) (by decide +kernel), by decide +kernel⟩
theorem mI_X6_stepTowards : Cond.instanceMethod yX6_stepTowards ∈ lw_good := List.mem_filter.mpr ⟨List.mem_of_getElem? (i := 661) (by decide +kernel), by decide +kernel⟩
theorem mC_X6_stepTowards : Cond.code yX6_stepTowards cX6_stepTowards 7 (some .boolean) ∈ lw_good := List.mem_filter.mpr ⟨List.mem_of_getElem? (i := 662) (by decide +kernel), by decide +kernel⟩
theorem mD_X6_217 : Cond.constantDouble RX6 217 4602678819172646912 ∈ lw_good := List.mem_filter.mpr ⟨List.mem_of_getElem? (i := 663) (by decide +kernel), by decide +kernel⟩
theorem mD_X6_219 : Cond.constantDouble RX6 219 4517329193108106637 ∈ lw_good := List.mem_filter.mpr ⟨List.mem_of_getElem? (i := 664) (by decide +kernel), by decide +kernel⟩
theorem mD_X6_221 : Cond.constantDouble RX6 221 4625196817309499392 ∈ lw_good := List.mem_filter.mpr ⟨List.mem_of_getElem? (i := 665) (by decide +kernel), by decide +kernel⟩
theorem mD_X6_223 : Cond.constantDouble RX6 223 4611686018427387904 ∈ lw_good := List.mem_filter.mpr ⟨List.mem_of_getElem? (i := 666) (by decide +kernel), by decide +kernel⟩
theorem mM_L_92 : Cond.methodLink RL 92 yL_watch ∈ lw_good := List.mem_filter.mpr ⟨List.mem_of_getElem? (i := 669) (by decide +kernel), by decide +kernel⟩
theorem mT_L_watch : Cond.static yL_watch ∈ lw_good := List.mem_filter.mpr ⟨List.mem_of_getElem? (i := 670) (by decide +kernel), by decide +kernel⟩
theorem mC_L_watch : Cond.codeWith yL_watch cL_watch 5 (some .int) [(0, 6, 9, 13)] ∈ lw_good := List.mem_filter.mpr ⟨List.mem_of_getElem? (i := 671) (by decide +kernel), by decide +kernel⟩
theorem mM_L_38 : Cond.methodLink RL 38 yX6_watch ∈ lw_good := List.mem_filter.mpr ⟨List.mem_of_getElem? (i := 672) (by decide +kernel), by decide +kernel⟩
theorem mI_X6_watch : Cond.instanceMethod yX6_watch ∈ lw_good := List.mem_filter.mpr ⟨List.mem_of_getElem? (i := 673) (by decide +kernel), by decide +kernel⟩
theorem mC_X6_watch : Cond.code yX6_watch cX6_watch 4 none ∈ lw_good := List.mem_filter.mpr ⟨List.mem_of_getElem? (i := 675) (by decide +kernel), by decide +kernel⟩
theorem mM_X6_153 : Cond.methodLink RX6 153 yX5_turnTo ∈ lw_good := List.mem_filter.mpr ⟨List.mem_of_getElem? (i := 677) (by decide +kernel), by decide +kernel⟩
theorem mI_X5_turnTo : Cond.instanceMethod yX5_turnTo ∈ lw_good := List.mem_filter.mpr ⟨List.mem_of_getElem? (i := 678) (by decide +kernel), by decide +kernel⟩
theorem mC_X5_turnTo : Cond.code yX5_turnTo cX5_turnTo 4 none ∈ lw_good := List.mem_filter.mpr ⟨List.mem_of_getElem? (i := 680) (by decide +kernel), by decide +kernel⟩
theorem mM_L_99 : Cond.methodLink RL 99 yL_event ∈ lw_good := List.mem_filter.mpr ⟨List.mem_of_getElem? (i := 681) (by decide +kernel), by decide +kernel⟩
theorem mT_L_event : Cond.static yL_event ∈ lw_good := List.mem_filter.mpr ⟨List.mem_of_getElem? (i := 682) (by decide +kernel), by decide +kernel⟩
theorem mC_L_event : Cond.codeWith yL_event cL_event 4 (some .int) [(0, 8, 11, 45)] ∈ lw_good := List.mem_filter.mpr ⟨List.mem_of_getElem? (i := 683) (by decide +kernel), by decide +kernel⟩
theorem mK_L_45 : Cond.classLink RL 45 "java/util/NoSuchElementException" ∈ lw_good := List.mem_filter.mpr ⟨List.mem_of_getElem? (i := 684) (by decide +kernel), by decide +kernel⟩
theorem mM_L_41 : Cond.methodLink RL 41 yX6_event ∈ lw_good := List.mem_filter.mpr ⟨List.mem_of_getElem? (i := 685) (by decide +kernel), by decide +kernel⟩
theorem mI_X6_event : Cond.instanceMethod yX6_event ∈ lw_good := List.mem_filter.mpr ⟨List.mem_of_getElem? (i := 686) (by decide +kernel), by decide +kernel⟩
theorem mC_X6_event : Cond.code yX6_event cX6_event 2 (some .double) ∈ lw_good := List.mem_filter.mpr ⟨List.mem_of_getElem? (i := 688) (by decide +kernel), by decide +kernel⟩
theorem mM_X6_157 : Cond.methodLink RX6 157 yX5_remembers ∈ lw_good := List.mem_filter.mpr ⟨List.mem_of_getElem? (i := 689) (by decide +kernel), by decide +kernel⟩
theorem mI_X5_remembers : Cond.instanceMethod yX5_remembers ∈ lw_good := List.mem_filter.mpr ⟨List.mem_of_getElem? (i := 690) (by decide +kernel), by decide +kernel⟩
theorem mC_X5_remembers : Cond.code yX5_remembers cX5_remembers 2 (some .boolean) ∈ lw_good := List.mem_filter.mpr ⟨List.mem_of_getElem? (i := 692) (by decide +kernel), by decide +kernel⟩
theorem mK_X6_160 : Cond.classLink RX6 160 "java/util/NoSuchElementException" ∈ lw_good := List.mem_filter.mpr ⟨List.mem_of_getElem? (i := 693) (by decide +kernel), by decide +kernel⟩
theorem mM_X6_165 : Cond.methodLink RX6 165 yX5_latest ∈ lw_good := List.mem_filter.mpr ⟨List.mem_of_getElem? (i := 709) (by decide +kernel), by decide +kernel⟩
theorem mI_X5_latest : Cond.instanceMethod yX5_latest ∈ lw_good := List.mem_filter.mpr ⟨List.mem_of_getElem? (i := 710) (by decide +kernel), by decide +kernel⟩
theorem mC_X5_latest : Cond.code yX5_latest cX5_latest 2 (some .double) ∈ lw_good := List.mem_filter.mpr ⟨List.mem_of_getElem? (i := 712) (by decide +kernel), by decide +kernel⟩
theorem mM_L_103 : Cond.methodLink RL 103 yL_at ∈ lw_good := List.mem_filter.mpr ⟨List.mem_of_getElem? (i := 713) (by decide +kernel), by decide +kernel⟩
theorem mT_L_at : Cond.static yL_at ∈ lw_good := List.mem_filter.mpr ⟨List.mem_of_getElem? (i := 714) (by decide +kernel), by decide +kernel⟩
theorem mC_L_at : Cond.codeWith yL_at cL_at 4 (some .int) [(0, 8, 11, 13)] ∈ lw_good := List.mem_filter.mpr ⟨List.mem_of_getElem? (i := 715) (by decide +kernel), by decide +kernel⟩
theorem mM_L_47 : Cond.methodLink RL 47 yX6_at ∈ lw_good := List.mem_filter.mpr ⟨List.mem_of_getElem? (i := 716) (by decide +kernel), by decide +kernel⟩
theorem mI_X6_at : Cond.instanceMethod yX6_at ∈ lw_good := List.mem_filter.mpr ⟨List.mem_of_getElem? (i := 717) (by decide +kernel), by decide +kernel⟩
theorem mC_X6_at : Cond.code yX6_at cX6_at 2 (some .double) ∈ lw_good := List.mem_filter.mpr ⟨List.mem_of_getElem? (i := 719) (by decide +kernel), by decide +kernel⟩
theorem mM_L_106 : Cond.methodLink RL 106 yL_derivative ∈ lw_good := List.mem_filter.mpr ⟨List.mem_of_getElem? (i := 721) (by decide +kernel), by decide +kernel⟩
theorem mT_L_derivative : Cond.static yL_derivative ∈ lw_good := List.mem_filter.mpr ⟨List.mem_of_getElem? (i := 722) (by decide +kernel), by decide +kernel⟩
theorem mC_L_derivative : Cond.codeWith yL_derivative cL_derivative 4 (some .int) [(0, 8, 11, 13)] ∈ lw_good := List.mem_filter.mpr ⟨List.mem_of_getElem? (i := 723) (by decide +kernel), by decide +kernel⟩
theorem mM_L_50 : Cond.methodLink RL 50 yX6_derivative ∈ lw_good := List.mem_filter.mpr ⟨List.mem_of_getElem? (i := 724) (by decide +kernel), by decide +kernel⟩
theorem mI_X6_derivative : Cond.instanceMethod yX6_derivative ∈ lw_good := List.mem_filter.mpr ⟨List.mem_of_getElem? (i := 725) (by decide +kernel), by decide +kernel⟩
theorem mC_X6_derivative : Cond.code yX6_derivative cX6_derivative 2 (some .double) ∈ lw_good := List.mem_filter.mpr ⟨List.mem_of_getElem? (i := 727) (by decide +kernel), by decide +kernel⟩
theorem mM_X6_171 : Cond.methodLink RX6 171 yX0_slopes ∈ lw_good := List.mem_filter.mpr ⟨List.mem_of_getElem? (i := 728) (by decide +kernel), by decide +kernel⟩
theorem mM_L_109 : Cond.methodLink RL 109 yL_between ∈ lw_good := List.mem_filter.mpr ⟨List.mem_of_getElem? (i := 729) (by decide +kernel), by decide +kernel⟩
theorem mT_L_between : Cond.static yL_between ∈ lw_good := List.mem_filter.mpr ⟨List.mem_of_getElem? (i := 730) (by decide +kernel), by decide +kernel⟩
theorem mC_L_between : Cond.codeWith yL_between cL_between 6 (some .int) [(0, 10, 13, 13), (0, 10, 17, 45)] ∈ lw_good := List.mem_filter.mpr ⟨List.mem_of_getElem? (i := 731) (by decide +kernel), by decide +kernel⟩
theorem mM_L_53 : Cond.methodLink RL 53 yX6_between ∈ lw_good := List.mem_filter.mpr ⟨List.mem_of_getElem? (i := 732) (by decide +kernel), by decide +kernel⟩
theorem mI_X6_between : Cond.instanceMethod yX6_between ∈ lw_good := List.mem_filter.mpr ⟨List.mem_of_getElem? (i := 733) (by decide +kernel), by decide +kernel⟩
theorem mC_X6_between : Cond.code yX6_between cX6_between 4 (some .double) ∈ lw_good := List.mem_filter.mpr ⟨List.mem_of_getElem? (i := 735) (by decide +kernel), by decide +kernel⟩
theorem mM_X6_183 : Cond.methodLink RX6 183 yX2_inside ∈ lw_good := List.mem_filter.mpr ⟨List.mem_of_getElem? (i := 738) (by decide +kernel), by decide +kernel⟩
theorem mK_L_58 : Cond.classLink RL 58 "OdeBenchModel" ∈ lw_good := List.mem_filter.mpr ⟨List.mem_of_getElem? (i := 739) (by decide +kernel), by decide +kernel⟩
theorem mZ_X7 : Cond.instantiable RX7 37 ∈ lw_good := List.mem_filter.mpr ⟨List.mem_of_getElem? (i := 740) (by decide +kernel), by decide +kernel⟩
theorem mM_L_60 : Cond.methodLink RL 60 yX7_init ∈ lw_good := List.mem_filter.mpr ⟨List.mem_of_getElem? (i := 741) (by decide +kernel), by decide +kernel⟩
theorem mI_X7_init : Cond.instanceMethod yX7_init ∈ lw_good := List.mem_filter.mpr ⟨List.mem_of_getElem? (i := 742) (by decide +kernel), by decide +kernel⟩
theorem mC_X7_init : Cond.code yX7_init cX7_init 1 none ∈ lw_good := List.mem_filter.mpr ⟨List.mem_of_getElem? (i := 743) (by decide +kernel), by decide +kernel⟩
theorem mO_X7_1 : Cond.methodLink RX7 1 objectInit ∈ lw_good := List.mem_filter.mpr ⟨List.mem_of_getElem? (i := 744) (by decide +kernel), by decide +kernel⟩
theorem mD_X7_27 : Cond.constantDouble RX7 27 4593671619917905920 ∈ lw_good := List.mem_filter.mpr ⟨List.mem_of_getElem? (i := 745) (by decide +kernel), by decide +kernel⟩
theorem mF_X7_84 : Cond.fieldLink RX7 84 "OdeBenchModel" "thrown" "I" ∈ lw_good := List.mem_filter.mpr ⟨List.mem_of_getElem? (i := 746) (by decide +kernel), by decide +kernel⟩
theorem mF_X7_7 : Cond.fieldLink RX7 7 "OdeBenchModel" "n" "I" ∈ lw_good := List.mem_filter.mpr ⟨List.mem_of_getElem? (i := 747) (by decide +kernel), by decide +kernel⟩
theorem mF_X7_91 : Cond.fieldLink RX7 91 "OdeBenchModel" "terms" "I" ∈ lw_good := List.mem_filter.mpr ⟨List.mem_of_getElem? (i := 748) (by decide +kernel), by decide +kernel⟩
theorem mF_X7_13 : Cond.fieldLink RX7 13 "OdeBenchModel" "of" "[I" ∈ lw_good := List.mem_filter.mpr ⟨List.mem_of_getElem? (i := 749) (by decide +kernel), by decide +kernel⟩
theorem mF_X7_17 : Cond.fieldLink RX7 17 "OdeBenchModel" "first" "[I" ∈ lw_good := List.mem_filter.mpr ⟨List.mem_of_getElem? (i := 750) (by decide +kernel), by decide +kernel⟩
theorem mF_X7_20 : Cond.fieldLink RX7 20 "OdeBenchModel" "second" "[I" ∈ lw_good := List.mem_filter.mpr ⟨List.mem_of_getElem? (i := 751) (by decide +kernel), by decide +kernel⟩
theorem mF_X7_23 : Cond.fieldLink RX7 23 "OdeBenchModel" "factor" "[D" ∈ lw_good := List.mem_filter.mpr ⟨List.mem_of_getElem? (i := 752) (by decide +kernel), by decide +kernel⟩
theorem mF_X7_98 : Cond.fieldLink RX7 98 "OdeBenchModel" "t" "D" ∈ lw_good := List.mem_filter.mpr ⟨List.mem_of_getElem? (i := 753) (by decide +kernel), by decide +kernel⟩
theorem mF_X7_29 : Cond.fieldLink RX7 29 "OdeBenchModel" "h" "D" ∈ lw_good := List.mem_filter.mpr ⟨List.mem_of_getElem? (i := 754) (by decide +kernel), by decide +kernel⟩
theorem mF_X7_33 : Cond.fieldLink RX7 33 "OdeBenchModel" "tolerance" "D" ∈ lw_good := List.mem_filter.mpr ⟨List.mem_of_getElem? (i := 755) (by decide +kernel), by decide +kernel⟩
theorem mF_X7_36 : Cond.fieldLink RX7 36 "OdeBenchModel" "y" "[D" ∈ lw_good := List.mem_filter.mpr ⟨List.mem_of_getElem? (i := 756) (by decide +kernel), by decide +kernel⟩
theorem mF_X7_39 : Cond.fieldLink RX7 39 "OdeBenchModel" "z" "[D" ∈ lw_good := List.mem_filter.mpr ⟨List.mem_of_getElem? (i := 757) (by decide +kernel), by decide +kernel⟩
theorem mF_X7_133 : Cond.fieldLink RX7 133 "OdeBenchModel" "error" "D" ∈ lw_good := List.mem_filter.mpr ⟨List.mem_of_getElem? (i := 758) (by decide +kernel), by decide +kernel⟩
theorem mF_X7_149 : Cond.fieldLink RX7 149 "OdeBenchModel" "failed" "Z" ∈ lw_good := List.mem_filter.mpr ⟨List.mem_of_getElem? (i := 759) (by decide +kernel), by decide +kernel⟩
theorem mF_X7_42 : Cond.fieldLink RX7 42 "OdeBenchModel" "a" "[D" ∈ lw_good := List.mem_filter.mpr ⟨List.mem_of_getElem? (i := 760) (by decide +kernel), by decide +kernel⟩
theorem mF_X7_45 : Cond.fieldLink RX7 45 "OdeBenchModel" "b" "[D" ∈ lw_good := List.mem_filter.mpr ⟨List.mem_of_getElem? (i := 761) (by decide +kernel), by decide +kernel⟩
theorem mF_X7_48 : Cond.fieldLink RX7 48 "OdeBenchModel" "c" "[D" ∈ lw_good := List.mem_filter.mpr ⟨List.mem_of_getElem? (i := 762) (by decide +kernel), by decide +kernel⟩
theorem mF_X7_51 : Cond.fieldLink RX7 51 "OdeBenchModel" "d" "[D" ∈ lw_good := List.mem_filter.mpr ⟨List.mem_of_getElem? (i := 763) (by decide +kernel), by decide +kernel⟩
theorem mF_X7_54 : Cond.fieldLink RX7 54 "OdeBenchModel" "u" "[D" ∈ lw_good := List.mem_filter.mpr ⟨List.mem_of_getElem? (i := 764) (by decide +kernel), by decide +kernel⟩
theorem mF_X7_57 : Cond.fieldLink RX7 57 "OdeBenchModel" "w" "[D" ∈ lw_good := List.mem_filter.mpr ⟨List.mem_of_getElem? (i := 765) (by decide +kernel), by decide +kernel⟩
theorem mF_X7_60 : Cond.fieldLink RX7 60 "OdeBenchModel" "m" "[D" ∈ lw_good := List.mem_filter.mpr ⟨List.mem_of_getElem? (i := 766) (by decide +kernel), by decide +kernel⟩
theorem mF_X7_136 : Cond.fieldLink RX7 136 "OdeBenchModel" "kept" "Z" ∈ lw_good := List.mem_filter.mpr ⟨List.mem_of_getElem? (i := 767) (by decide +kernel), by decide +kernel⟩
theorem mF_X7_140 : Cond.fieldLink RX7 140 "OdeBenchModel" "keptSize" "D" ∈ lw_good := List.mem_filter.mpr ⟨List.mem_of_getElem? (i := 768) (by decide +kernel), by decide +kernel⟩
theorem mF_X7_63 : Cond.fieldLink RX7 63 "OdeBenchModel" "before" "[D" ∈ lw_good := List.mem_filter.mpr ⟨List.mem_of_getElem? (i := 769) (by decide +kernel), by decide +kernel⟩
theorem mF_X7_66 : Cond.fieldLink RX7 66 "OdeBenchModel" "now" "[D" ∈ lw_good := List.mem_filter.mpr ⟨List.mem_of_getElem? (i := 770) (by decide +kernel), by decide +kernel⟩
theorem mF_X7_187 : Cond.fieldLink RX7 187 "OdeBenchModel" "taken" "Z" ∈ lw_good := List.mem_filter.mpr ⟨List.mem_of_getElem? (i := 771) (by decide +kernel), by decide +kernel⟩
theorem mF_X7_181 : Cond.fieldLink RX7 181 "OdeBenchModel" "t0" "D" ∈ lw_good := List.mem_filter.mpr ⟨List.mem_of_getElem? (i := 772) (by decide +kernel), by decide +kernel⟩
theorem mF_X7_184 : Cond.fieldLink RX7 184 "OdeBenchModel" "span" "D" ∈ lw_good := List.mem_filter.mpr ⟨List.mem_of_getElem? (i := 773) (by decide +kernel), by decide +kernel⟩
theorem mF_X7_69 : Cond.fieldLink RX7 69 "OdeBenchModel" "y0" "[D" ∈ lw_good := List.mem_filter.mpr ⟨List.mem_of_getElem? (i := 774) (by decide +kernel), by decide +kernel⟩
theorem mF_X7_72 : Cond.fieldLink RX7 72 "OdeBenchModel" "g" "[D" ∈ lw_good := List.mem_filter.mpr ⟨List.mem_of_getElem? (i := 775) (by decide +kernel), by decide +kernel⟩
theorem mF_X7_75 : Cond.fieldLink RX7 75 "OdeBenchModel" "q" "[D" ∈ lw_good := List.mem_filter.mpr ⟨List.mem_of_getElem? (i := 776) (by decide +kernel), by decide +kernel⟩
theorem mF_X7_78 : Cond.fieldLink RX7 78 "OdeBenchModel" "watched" "I" ∈ lw_good := List.mem_filter.mpr ⟨List.mem_of_getElem? (i := 777) (by decide +kernel), by decide +kernel⟩
theorem mF_X7_196 : Cond.fieldLink RX7 196 "OdeBenchModel" "level" "D" ∈ lw_good := List.mem_filter.mpr ⟨List.mem_of_getElem? (i := 778) (by decide +kernel), by decide +kernel⟩
theorem mF_X7_190 : Cond.fieldLink RX7 190 "OdeBenchModel" "done" "I" ∈ lw_good := List.mem_filter.mpr ⟨List.mem_of_getElem? (i := 779) (by decide +kernel), by decide +kernel⟩
theorem mF_X7_178 : Cond.fieldLink RX7 178 "OdeBenchModel" "refused" "I" ∈ lw_good := List.mem_filter.mpr ⟨List.mem_of_getElem? (i := 780) (by decide +kernel), by decide +kernel⟩
theorem mF_X7_203 : Cond.fieldLink RX7 203 "OdeBenchModel" "events" "I" ∈ lw_good := List.mem_filter.mpr ⟨List.mem_of_getElem? (i := 781) (by decide +kernel), by decide +kernel⟩
theorem mF_X7_81 : Cond.fieldLink RX7 81 "OdeBenchModel" "when" "[D" ∈ lw_good := List.mem_filter.mpr ⟨List.mem_of_getElem? (i := 782) (by decide +kernel), by decide +kernel⟩
theorem mM_L_67 : Cond.methodLink RL 67 yX7_thrown ∈ lw_good := List.mem_filter.mpr ⟨List.mem_of_getElem? (i := 858) (by decide +kernel), by decide +kernel⟩
theorem mI_X7_thrown : Cond.instanceMethod yX7_thrown ∈ lw_good := List.mem_filter.mpr ⟨List.mem_of_getElem? (i := 859) (by decide +kernel), by decide +kernel⟩
theorem mC_X7_thrown : Cond.code yX7_thrown cX7_thrown 1 (some .int) ∈ lw_good := List.mem_filter.mpr ⟨List.mem_of_getElem? (i := 861) (by decide +kernel), by decide +kernel⟩
theorem mM_L_66 : Cond.methodLink RL 66 yX7_system ∈ lw_good := List.mem_filter.mpr ⟨List.mem_of_getElem? (i := 862) (by decide +kernel), by decide +kernel⟩
theorem mI_X7_system : Cond.instanceMethod yX7_system ∈ lw_good := List.mem_filter.mpr ⟨List.mem_of_getElem? (i := 863) (by decide +kernel), by decide +kernel⟩
theorem mC_X7_system : Cond.code yX7_system cX7_system 3 none ∈ lw_good := List.mem_filter.mpr ⟨List.mem_of_getElem? (i := 865) (by decide +kernel), by decide +kernel⟩
theorem mM_L_76 : Cond.methodLink RL 76 yX7_term ∈ lw_good := List.mem_filter.mpr ⟨List.mem_of_getElem? (i := 866) (by decide +kernel), by decide +kernel⟩
theorem mI_X7_term : Cond.instanceMethod yX7_term ∈ lw_good := List.mem_filter.mpr ⟨List.mem_of_getElem? (i := 867) (by decide +kernel), by decide +kernel⟩
theorem mC_X7_term : Cond.code yX7_term cX7_term 7 (some .int) ∈ lw_good := List.mem_filter.mpr ⟨List.mem_of_getElem? (i := 869) (by decide +kernel), by decide +kernel⟩
theorem mM_X7_206 : Cond.methodLink RX7 206 yX7_out ∈ lw_good := List.mem_filter.mpr ⟨List.mem_of_getElem? (i := 870) (by decide +kernel), by decide +kernel⟩
theorem mT_X7_out : Cond.static yX7_out ∈ lw_good := List.mem_filter.mpr ⟨List.mem_of_getElem? (i := 871) (by decide +kernel), by decide +kernel⟩
theorem mC_X7_out : Cond.code yX7_out cX7_out 2 (some .boolean) ∈ lw_good := List.mem_filter.mpr ⟨List.mem_of_getElem? (i := 872) (by decide +kernel), by decide +kernel⟩
theorem mM_X7_210 : Cond.methodLink RX7 210 yX7_isNamed ∈ lw_good := List.mem_filter.mpr ⟨List.mem_of_getElem? (i := 873) (by decide +kernel), by decide +kernel⟩
theorem mI_X7_isNamed : Cond.instanceMethod yX7_isNamed ∈ lw_good := List.mem_filter.mpr ⟨List.mem_of_getElem? (i := 875) (by decide +kernel), by decide +kernel⟩
theorem mC_X7_isNamed : Cond.code yX7_isNamed cX7_isNamed 2 (some .boolean) ∈ lw_good := List.mem_filter.mpr ⟨List.mem_of_getElem? (i := 876) (by decide +kernel), by decide +kernel⟩
theorem mD_X7_214 : Cond.constantDouble RX7 214 13857576053419016192 ∈ lw_good := List.mem_filter.mpr ⟨List.mem_of_getElem? (i := 877) (by decide +kernel), by decide +kernel⟩
theorem mD_X7_216 : Cond.constantDouble RX7 216 4634204016564240384 ∈ lw_good := List.mem_filter.mpr ⟨List.mem_of_getElem? (i := 878) (by decide +kernel), by decide +kernel⟩
theorem mM_L_80 : Cond.methodLink RL 80 yX7_value ∈ lw_good := List.mem_filter.mpr ⟨List.mem_of_getElem? (i := 879) (by decide +kernel), by decide +kernel⟩
theorem mI_X7_value : Cond.instanceMethod yX7_value ∈ lw_good := List.mem_filter.mpr ⟨List.mem_of_getElem? (i := 880) (by decide +kernel), by decide +kernel⟩
theorem mC_X7_value : Cond.code yX7_value cX7_value 4 none ∈ lw_good := List.mem_filter.mpr ⟨List.mem_of_getElem? (i := 882) (by decide +kernel), by decide +kernel⟩
theorem mD_X7_218 : Cond.constantDouble RX7 218 13875379345695965184 ∈ lw_good := List.mem_filter.mpr ⟨List.mem_of_getElem? (i := 883) (by decide +kernel), by decide +kernel⟩
theorem mD_X7_220 : Cond.constantDouble RX7 220 4652007308841189376 ∈ lw_good := List.mem_filter.mpr ⟨List.mem_of_getElem? (i := 884) (by decide +kernel), by decide +kernel⟩
theorem mM_L_84 : Cond.methodLink RL 84 yX7_size ∈ lw_good := List.mem_filter.mpr ⟨List.mem_of_getElem? (i := 885) (by decide +kernel), by decide +kernel⟩
theorem mI_X7_size : Cond.instanceMethod yX7_size ∈ lw_good := List.mem_filter.mpr ⟨List.mem_of_getElem? (i := 886) (by decide +kernel), by decide +kernel⟩
theorem mC_X7_size : Cond.code yX7_size cX7_size 5 none ∈ lw_good := List.mem_filter.mpr ⟨List.mem_of_getElem? (i := 888) (by decide +kernel), by decide +kernel⟩
theorem mD_X7_121 : Cond.constantDouble RX7 121 4616189618054758400 ∈ lw_good := List.mem_filter.mpr ⟨List.mem_of_getElem? (i := 889) (by decide +kernel), by decide +kernel⟩
theorem mM_L_87 : Cond.methodLink RL 87 yX7_step ∈ lw_good := List.mem_filter.mpr ⟨List.mem_of_getElem? (i := 890) (by decide +kernel), by decide +kernel⟩
theorem mI_X7_step : Cond.instanceMethod yX7_step ∈ lw_good := List.mem_filter.mpr ⟨List.mem_of_getElem? (i := 891) (by decide +kernel), by decide +kernel⟩
theorem mC_X7_step : Cond.code yX7_step cX7_step 4 none ∈ lw_good := List.mem_filter.mpr ⟨List.mem_of_getElem? (i := 893) (by decide +kernel), by decide +kernel⟩
theorem mM_X7_222 : Cond.methodLink RX7 222 yX7_tried ∈ lw_good := List.mem_filter.mpr ⟨List.mem_of_getElem? (i := 894) (by decide +kernel), by decide +kernel⟩
theorem mI_X7_tried : Cond.instanceMethod yX7_tried ∈ lw_good := List.mem_filter.mpr ⟨List.mem_of_getElem? (i := 896) (by decide +kernel), by decide +kernel⟩
theorem mC_X7_tried : Cond.code yX7_tried cX7_tried 5 (some .boolean) ∈ lw_good := List.mem_filter.mpr ⟨List.mem_of_getElem? (i := 897) (by decide +kernel), by decide +kernel⟩
theorem mM_X7_101 : Cond.methodLink RX7 101 yX7_derive ∈ lw_good := List.mem_filter.mpr ⟨List.mem_of_getElem? (i := 898) (by decide +kernel), by decide +kernel⟩
theorem mI_X7_derive : Cond.instanceMethod yX7_derive ∈ lw_good := List.mem_filter.mpr ⟨List.mem_of_getElem? (i := 900) (by decide +kernel), by decide +kernel⟩
theorem mC_X7_derive : Cond.code yX7_derive cX7_derive 9 none ∈ lw_good := List.mem_filter.mpr ⟨List.mem_of_getElem? (i := 901) (by decide +kernel), by decide +kernel⟩
theorem mM_X7_94 : Cond.methodLink RX7 94 yX7_named ∈ lw_good := List.mem_filter.mpr ⟨List.mem_of_getElem? (i := 902) (by decide +kernel), by decide +kernel⟩
theorem mT_X7_named : Cond.static yX7_named ∈ lw_good := List.mem_filter.mpr ⟨List.mem_of_getElem? (i := 903) (by decide +kernel), by decide +kernel⟩
theorem mC_X7_named : Cond.code yX7_named cX7_named 4 (some .double) ∈ lw_good := List.mem_filter.mpr ⟨List.mem_of_getElem? (i := 904) (by decide +kernel), by decide +kernel⟩
theorem mM_X7_107 : Cond.methodLink RX7 107 yX7_lead ∈ lw_good := List.mem_filter.mpr ⟨List.mem_of_getElem? (i := 905) (by decide +kernel), by decide +kernel⟩
theorem mI_X7_lead : Cond.instanceMethod yX7_lead ∈ lw_good := List.mem_filter.mpr ⟨List.mem_of_getElem? (i := 907) (by decide +kernel), by decide +kernel⟩
theorem mC_X7_lead : Cond.code yX7_lead cX7_lead 7 none ∈ lw_good := List.mem_filter.mpr ⟨List.mem_of_getElem? (i := 908) (by decide +kernel), by decide +kernel⟩
theorem mM_X7_145 : Cond.methodLink RX7 145 yX7_runge ∈ lw_good := List.mem_filter.mpr ⟨List.mem_of_getElem? (i := 909) (by decide +kernel), by decide +kernel⟩
theorem mI_X7_runge : Cond.instanceMethod yX7_runge ∈ lw_good := List.mem_filter.mpr ⟨List.mem_of_getElem? (i := 911) (by decide +kernel), by decide +kernel⟩
theorem mC_X7_runge : Cond.code yX7_runge cX7_runge 4 none ∈ lw_good := List.mem_filter.mpr ⟨List.mem_of_getElem? (i := 912) (by decide +kernel), by decide +kernel⟩
theorem mD_X7_105 : Cond.constantDouble RX7 105 4602678819172646912 ∈ lw_good := List.mem_filter.mpr ⟨List.mem_of_getElem? (i := 913) (by decide +kernel), by decide +kernel⟩
theorem mD_X7_111 : Cond.constantDouble RX7 111 4618441417868443648 ∈ lw_good := List.mem_filter.mpr ⟨List.mem_of_getElem? (i := 914) (by decide +kernel), by decide +kernel⟩
theorem mD_X7_113 : Cond.constantDouble RX7 113 4611686018427387904 ∈ lw_good := List.mem_filter.mpr ⟨List.mem_of_getElem? (i := 915) (by decide +kernel), by decide +kernel⟩
theorem mM_X7_163 : Cond.methodLink RX7 163 yX7_pair ∈ lw_good := List.mem_filter.mpr ⟨List.mem_of_getElem? (i := 916) (by decide +kernel), by decide +kernel⟩
theorem mI_X7_pair : Cond.instanceMethod yX7_pair ∈ lw_good := List.mem_filter.mpr ⟨List.mem_of_getElem? (i := 918) (by decide +kernel), by decide +kernel⟩
theorem mC_X7_pair : Cond.code yX7_pair cX7_pair 4 none ∈ lw_good := List.mem_filter.mpr ⟨List.mem_of_getElem? (i := 919) (by decide +kernel), by decide +kernel⟩
theorem mD_X7_115 : Cond.constantDouble RX7 115 4604930618986332160 ∈ lw_good := List.mem_filter.mpr ⟨List.mem_of_getElem? (i := 920) (by decide +kernel), by decide +kernel⟩
theorem mD_X7_117 : Cond.constantDouble RX7 117 4621256167635550208 ∈ lw_good := List.mem_filter.mpr ⟨List.mem_of_getElem? (i := 921) (by decide +kernel), by decide +kernel⟩
theorem mD_X7_119 : Cond.constantDouble RX7 119 4613937818241073152 ∈ lw_good := List.mem_filter.mpr ⟨List.mem_of_getElem? (i := 922) (by decide +kernel), by decide +kernel⟩
theorem mD_X7_123 : Cond.constantDouble RX7 123 4634766966517661696 ∈ lw_good := List.mem_filter.mpr ⟨List.mem_of_getElem? (i := 923) (by decide +kernel), by decide +kernel⟩
theorem mD_X7_125 : Cond.constantDouble RX7 125 4620693217682128896 ∈ lw_good := List.mem_filter.mpr ⟨List.mem_of_getElem? (i := 924) (by decide +kernel), by decide +kernel⟩
theorem mD_X7_127 : Cond.constantDouble RX7 127 4617315517961601024 ∈ lw_good := List.mem_filter.mpr ⟨List.mem_of_getElem? (i := 925) (by decide +kernel), by decide +kernel⟩
theorem mM_X7_129 : Cond.methodLink RX7 129 yX7_max ∈ lw_good := List.mem_filter.mpr ⟨List.mem_of_getElem? (i := 926) (by decide +kernel), by decide +kernel⟩
theorem mI_X7_max : Cond.instanceMethod yX7_max ∈ lw_good := List.mem_filter.mpr ⟨List.mem_of_getElem? (i := 928) (by decide +kernel), by decide +kernel⟩
theorem mC_X7_max : Cond.code yX7_max cX7_max 5 (some .double) ∈ lw_good := List.mem_filter.mpr ⟨List.mem_of_getElem? (i := 929) (by decide +kernel), by decide +kernel⟩
theorem mM_X7_87 : Cond.methodLink RX7 87 yX7_far ∈ lw_good := List.mem_filter.mpr ⟨List.mem_of_getElem? (i := 930) (by decide +kernel), by decide +kernel⟩
theorem mT_X7_far : Cond.static yX7_far ∈ lw_good := List.mem_filter.mpr ⟨List.mem_of_getElem? (i := 931) (by decide +kernel), by decide +kernel⟩
theorem mC_X7_far : Cond.code yX7_far cX7_far 2 (some .double) ∈ lw_good := List.mem_filter.mpr ⟨List.mem_of_getElem? (i := 932) (by decide +kernel), by decide +kernel⟩
theorem mM_X7_166 : Cond.methodLink RX7 166 yX7_adams ∈ lw_good := List.mem_filter.mpr ⟨List.mem_of_getElem? (i := 933) (by decide +kernel), by decide +kernel⟩
theorem mI_X7_adams : Cond.instanceMethod yX7_adams ∈ lw_good := List.mem_filter.mpr ⟨List.mem_of_getElem? (i := 935) (by decide +kernel), by decide +kernel⟩
theorem mC_X7_adams : Cond.code yX7_adams cX7_adams 4 none ∈ lw_good := List.mem_filter.mpr ⟨List.mem_of_getElem? (i := 936) (by decide +kernel), by decide +kernel⟩
theorem mD_X7_143 : Cond.constantDouble RX7 143 4609434218613702656 ∈ lw_good := List.mem_filter.mpr ⟨List.mem_of_getElem? (i := 937) (by decide +kernel), by decide +kernel⟩
theorem mM_X7_169 : Cond.methodLink RX7 169 yX7_implicit ∈ lw_good := List.mem_filter.mpr ⟨List.mem_of_getElem? (i := 938) (by decide +kernel), by decide +kernel⟩
theorem mI_X7_implicit : Cond.instanceMethod yX7_implicit ∈ lw_good := List.mem_filter.mpr ⟨List.mem_of_getElem? (i := 940) (by decide +kernel), by decide +kernel⟩
theorem mC_X7_implicit : Cond.code yX7_implicit cX7_implicit 7 none ∈ lw_good := List.mem_filter.mpr ⟨List.mem_of_getElem? (i := 941) (by decide +kernel), by decide +kernel⟩
theorem mM_X7_152 : Cond.methodLink RX7 152 yX7_slope ∈ lw_good := List.mem_filter.mpr ⟨List.mem_of_getElem? (i := 942) (by decide +kernel), by decide +kernel⟩
theorem mI_X7_slope : Cond.instanceMethod yX7_slope ∈ lw_good := List.mem_filter.mpr ⟨List.mem_of_getElem? (i := 944) (by decide +kernel), by decide +kernel⟩
theorem mC_X7_slope : Cond.code yX7_slope cX7_slope 9 (some .double) ∈ lw_good := List.mem_filter.mpr ⟨List.mem_of_getElem? (i := 945) (by decide +kernel), by decide +kernel⟩
theorem mM_X7_156 : Cond.methodLink RX7 156 yX7_solve ∈ lw_good := List.mem_filter.mpr ⟨List.mem_of_getElem? (i := 946) (by decide +kernel), by decide +kernel⟩
theorem mI_X7_solve : Cond.instanceMethod yX7_solve ∈ lw_good := List.mem_filter.mpr ⟨List.mem_of_getElem? (i := 948) (by decide +kernel), by decide +kernel⟩
theorem mC_X7_solve : Cond.code yX7_solve cX7_solve 9 none ∈ lw_good := List.mem_filter.mpr ⟨List.mem_of_getElem? (i := 949) (by decide +kernel), by decide +kernel⟩
theorem mD_X7_159 : Cond.constantDouble RX7 159 4472406533629990549 ∈ lw_good := List.mem_filter.mpr ⟨List.mem_of_getElem? (i := 950) (by decide +kernel), by decide +kernel⟩
theorem mD_X7_161 : Cond.constantDouble RX7 161 4741671816366391296 ∈ lw_good := List.mem_filter.mpr ⟨List.mem_of_getElem? (i := 951) (by decide +kernel), by decide +kernel⟩
theorem mM_X7_172 : Cond.methodLink RX7 172 yX7_midpoints ∈ lw_good := List.mem_filter.mpr ⟨List.mem_of_getElem? (i := 952) (by decide +kernel), by decide +kernel⟩
theorem mI_X7_midpoints : Cond.instanceMethod yX7_midpoints ∈ lw_good := List.mem_filter.mpr ⟨List.mem_of_getElem? (i := 954) (by decide +kernel), by decide +kernel⟩
theorem mC_X7_midpoints : Cond.code yX7_midpoints cX7_midpoints 11 none ∈ lw_good := List.mem_filter.mpr ⟨List.mem_of_getElem? (i := 955) (by decide +kernel), by decide +kernel⟩
theorem mD_X7_176 : Cond.constantDouble RX7 176 4696837146684686336 ∈ lw_good := List.mem_filter.mpr ⟨List.mem_of_getElem? (i := 956) (by decide +kernel), by decide +kernel⟩
theorem mM_X7_226 : Cond.methodLink RX7 226 yX7_take ∈ lw_good := List.mem_filter.mpr ⟨List.mem_of_getElem? (i := 957) (by decide +kernel), by decide +kernel⟩
theorem mI_X7_take : Cond.instanceMethod yX7_take ∈ lw_good := List.mem_filter.mpr ⟨List.mem_of_getElem? (i := 959) (by decide +kernel), by decide +kernel⟩
theorem mC_X7_take : Cond.code yX7_take cX7_take 6 none ∈ lw_good := List.mem_filter.mpr ⟨List.mem_of_getElem? (i := 960) (by decide +kernel), by decide +kernel⟩
theorem mM_X7_193 : Cond.methodLink RX7 193 yX7_watchStep ∈ lw_good := List.mem_filter.mpr ⟨List.mem_of_getElem? (i := 961) (by decide +kernel), by decide +kernel⟩
theorem mI_X7_watchStep : Cond.instanceMethod yX7_watchStep ∈ lw_good := List.mem_filter.mpr ⟨List.mem_of_getElem? (i := 963) (by decide +kernel), by decide +kernel⟩
theorem mC_X7_watchStep : Cond.code yX7_watchStep cX7_watchStep 10 none ∈ lw_good := List.mem_filter.mpr ⟨List.mem_of_getElem? (i := 964) (by decide +kernel), by decide +kernel⟩
theorem mM_X7_199 : Cond.methodLink RX7 199 yX7_curve ∈ lw_good := List.mem_filter.mpr ⟨List.mem_of_getElem? (i := 965) (by decide +kernel), by decide +kernel⟩
theorem mI_X7_curve : Cond.instanceMethod yX7_curve ∈ lw_good := List.mem_filter.mpr ⟨List.mem_of_getElem? (i := 967) (by decide +kernel), by decide +kernel⟩
theorem mC_X7_curve : Cond.code yX7_curve cX7_curve 4 (some .double) ∈ lw_good := List.mem_filter.mpr ⟨List.mem_of_getElem? (i := 968) (by decide +kernel), by decide +kernel⟩
theorem mM_L_91 : Cond.methodLink RL 91 yX7_go ∈ lw_good := List.mem_filter.mpr ⟨List.mem_of_getElem? (i := 969) (by decide +kernel), by decide +kernel⟩
theorem mI_X7_go : Cond.instanceMethod yX7_go ∈ lw_good := List.mem_filter.mpr ⟨List.mem_of_getElem? (i := 970) (by decide +kernel), by decide +kernel⟩
theorem mC_X7_go : Cond.code yX7_go cX7_go 9 (some .int) ∈ lw_good := List.mem_filter.mpr ⟨List.mem_of_getElem? (i := 972) (by decide +kernel), by decide +kernel⟩
theorem mD_X7_230 : Cond.constantDouble RX7 230 4636737291354636288 ∈ lw_good := List.mem_filter.mpr ⟨List.mem_of_getElem? (i := 973) (by decide +kernel), by decide +kernel⟩
theorem mD_X7_232 : Cond.constantDouble RX7 232 4517329193108106637 ∈ lw_good := List.mem_filter.mpr ⟨List.mem_of_getElem? (i := 974) (by decide +kernel), by decide +kernel⟩
theorem mD_X7_234 : Cond.constantDouble RX7 234 4625196817309499392 ∈ lw_good := List.mem_filter.mpr ⟨List.mem_of_getElem? (i := 975) (by decide +kernel), by decide +kernel⟩
theorem mM_L_94 : Cond.methodLink RL 94 yX7_watch ∈ lw_good := List.mem_filter.mpr ⟨List.mem_of_getElem? (i := 976) (by decide +kernel), by decide +kernel⟩
theorem mI_X7_watch : Cond.instanceMethod yX7_watch ∈ lw_good := List.mem_filter.mpr ⟨List.mem_of_getElem? (i := 977) (by decide +kernel), by decide +kernel⟩
theorem mC_X7_watch : Cond.code yX7_watch cX7_watch 4 none ∈ lw_good := List.mem_filter.mpr ⟨List.mem_of_getElem? (i := 979) (by decide +kernel), by decide +kernel⟩
theorem mM_L_98 : Cond.methodLink RL 98 yX7_events ∈ lw_good := List.mem_filter.mpr ⟨List.mem_of_getElem? (i := 980) (by decide +kernel), by decide +kernel⟩
theorem mI_X7_events : Cond.instanceMethod yX7_events ∈ lw_good := List.mem_filter.mpr ⟨List.mem_of_getElem? (i := 981) (by decide +kernel), by decide +kernel⟩
theorem mC_X7_events : Cond.code yX7_events cX7_events 1 (some .int) ∈ lw_good := List.mem_filter.mpr ⟨List.mem_of_getElem? (i := 983) (by decide +kernel), by decide +kernel⟩
theorem mM_L_102 : Cond.methodLink RL 102 yX7_event ∈ lw_good := List.mem_filter.mpr ⟨List.mem_of_getElem? (i := 984) (by decide +kernel), by decide +kernel⟩
theorem mI_X7_event : Cond.instanceMethod yX7_event ∈ lw_good := List.mem_filter.mpr ⟨List.mem_of_getElem? (i := 985) (by decide +kernel), by decide +kernel⟩
theorem mC_X7_event : Cond.code yX7_event cX7_event 2 (some .double) ∈ lw_good := List.mem_filter.mpr ⟨List.mem_of_getElem? (i := 987) (by decide +kernel), by decide +kernel⟩
theorem mM_L_105 : Cond.methodLink RL 105 yX7_at ∈ lw_good := List.mem_filter.mpr ⟨List.mem_of_getElem? (i := 988) (by decide +kernel), by decide +kernel⟩
theorem mI_X7_at : Cond.instanceMethod yX7_at ∈ lw_good := List.mem_filter.mpr ⟨List.mem_of_getElem? (i := 989) (by decide +kernel), by decide +kernel⟩
theorem mC_X7_at : Cond.code yX7_at cX7_at 2 (some .double) ∈ lw_good := List.mem_filter.mpr ⟨List.mem_of_getElem? (i := 991) (by decide +kernel), by decide +kernel⟩
theorem mM_L_108 : Cond.methodLink RL 108 yX7_derivative ∈ lw_good := List.mem_filter.mpr ⟨List.mem_of_getElem? (i := 992) (by decide +kernel), by decide +kernel⟩
theorem mI_X7_derivative : Cond.instanceMethod yX7_derivative ∈ lw_good := List.mem_filter.mpr ⟨List.mem_of_getElem? (i := 993) (by decide +kernel), by decide +kernel⟩
theorem mC_X7_derivative : Cond.code yX7_derivative cX7_derivative 2 (some .double) ∈ lw_good := List.mem_filter.mpr ⟨List.mem_of_getElem? (i := 995) (by decide +kernel), by decide +kernel⟩
theorem mM_L_112 : Cond.methodLink RL 112 yX7_between ∈ lw_good := List.mem_filter.mpr ⟨List.mem_of_getElem? (i := 996) (by decide +kernel), by decide +kernel⟩
theorem mI_X7_between : Cond.instanceMethod yX7_between ∈ lw_good := List.mem_filter.mpr ⟨List.mem_of_getElem? (i := 997) (by decide +kernel), by decide +kernel⟩
theorem mC_X7_between : Cond.code yX7_between cX7_between 4 (some .double) ∈ lw_good := List.mem_filter.mpr ⟨List.mem_of_getElem? (i := 999) (by decide +kernel), by decide +kernel⟩
theorem mM_L_117 : Cond.methodLink RL 117 yX7_time ∈ lw_good := List.mem_filter.mpr ⟨List.mem_of_getElem? (i := 1000) (by decide +kernel), by decide +kernel⟩
theorem mI_X7_time : Cond.instanceMethod yX7_time ∈ lw_good := List.mem_filter.mpr ⟨List.mem_of_getElem? (i := 1001) (by decide +kernel), by decide +kernel⟩
theorem mC_X7_time : Cond.code yX7_time cX7_time 1 (some .double) ∈ lw_good := List.mem_filter.mpr ⟨List.mem_of_getElem? (i := 1003) (by decide +kernel), by decide +kernel⟩
theorem mM_L_121 : Cond.methodLink RL 121 yX7_nextSize ∈ lw_good := List.mem_filter.mpr ⟨List.mem_of_getElem? (i := 1004) (by decide +kernel), by decide +kernel⟩
theorem mI_X7_nextSize : Cond.instanceMethod yX7_nextSize ∈ lw_good := List.mem_filter.mpr ⟨List.mem_of_getElem? (i := 1005) (by decide +kernel), by decide +kernel⟩
theorem mC_X7_nextSize : Cond.code yX7_nextSize cX7_nextSize 1 (some .double) ∈ lw_good := List.mem_filter.mpr ⟨List.mem_of_getElem? (i := 1007) (by decide +kernel), by decide +kernel⟩
theorem mM_L_126 : Cond.methodLink RL 126 yX7_steps ∈ lw_good := List.mem_filter.mpr ⟨List.mem_of_getElem? (i := 1008) (by decide +kernel), by decide +kernel⟩
theorem mI_X7_steps : Cond.instanceMethod yX7_steps ∈ lw_good := List.mem_filter.mpr ⟨List.mem_of_getElem? (i := 1009) (by decide +kernel), by decide +kernel⟩
theorem mC_X7_steps : Cond.code yX7_steps cX7_steps 2 (some .int) ∈ lw_good := List.mem_filter.mpr ⟨List.mem_of_getElem? (i := 1011) (by decide +kernel), by decide +kernel⟩
theorem mD_L_71 : Cond.constantDouble RL 71 4593671619917905920 ∈ lw_good := List.mem_filter.mpr ⟨List.mem_of_getElem? (i := 1012) (by decide +kernel), by decide +kernel⟩
theorem mA_long : Cond.arrayClass .long ∈ lw_good := List.mem_filter.mpr ⟨List.mem_of_getElem? (i := 1013) (by decide +kernel), by decide +kernel⟩
theorem mC_obj : Cond.code objectInit ⟨#[0xb1]⟩ 1 none ∈ lw_good := List.mem_filter.mpr ⟨List.mem_of_getElem? (i := 62) (by decide +kernel), by decide +kernel⟩
theorem mS_X6_startAfresh : Cond.selects RX6 yX6_startAfresh yX6_startAfresh ∈ lw_good := List.mem_filter.mpr ⟨List.mem_of_getElem? (i := 0) (by decide +kernel), by decide +kernel⟩
theorem mS_X0_clear : Cond.selects RX0 yX0_clear yX0_clear ∈ lw_good := List.mem_filter.mpr ⟨List.mem_of_getElem? (i := 267) (by decide +kernel), by decide +kernel⟩
theorem mS_X5_clear : Cond.selects RX5 yX5_clear yX5_clear ∈ lw_good := List.mem_filter.mpr ⟨List.mem_of_getElem? (i := 271) (by decide +kernel), by decide +kernel⟩
theorem mS_X6_breakOff : Cond.selects RX6 yX6_breakOff yX6_breakOff ∈ lw_good := List.mem_filter.mpr ⟨List.mem_of_getElem? (i := 1) (by decide +kernel), by decide +kernel⟩
theorem mS_X6_events : Cond.selects RX6 yX6_events yX6_events ∈ lw_good := List.mem_filter.mpr ⟨List.mem_of_getElem? (i := 317) (by decide +kernel), by decide +kernel⟩
theorem mS_X6_time : Cond.selects RX6 yX6_time yX6_time ∈ lw_good := List.mem_filter.mpr ⟨List.mem_of_getElem? (i := 321) (by decide +kernel), by decide +kernel⟩
theorem mS_X6_nextSize : Cond.selects RX6 yX6_nextSize yX6_nextSize ∈ lw_good := List.mem_filter.mpr ⟨List.mem_of_getElem? (i := 325) (by decide +kernel), by decide +kernel⟩
theorem mS_X6_steps : Cond.selects RX6 yX6_steps yX6_steps ∈ lw_good := List.mem_filter.mpr ⟨List.mem_of_getElem? (i := 329) (by decide +kernel), by decide +kernel⟩
theorem mS_X6_system : Cond.selects RX6 yX6_system yX6_system ∈ lw_good := List.mem_filter.mpr ⟨List.mem_of_getElem? (i := 337) (by decide +kernel), by decide +kernel⟩
theorem mS_X6_term : Cond.selects RX6 yX6_term yX6_term ∈ lw_good := List.mem_filter.mpr ⟨List.mem_of_getElem? (i := 414) (by decide +kernel), by decide +kernel⟩
theorem mS_X0_hasValue : Cond.selects RX0 yX0_hasValue yX0_hasValue ∈ lw_good := List.mem_filter.mpr ⟨List.mem_of_getElem? (i := 418) (by decide +kernel), by decide +kernel⟩
theorem mS_X0_hasFactor : Cond.selects RX0 yX0_hasFactor yX0_hasFactor ∈ lw_good := List.mem_filter.mpr ⟨List.mem_of_getElem? (i := 422) (by decide +kernel), by decide +kernel⟩
theorem mS_X0_isFull : Cond.selects RX0 yX0_isFull yX0_isFull ∈ lw_good := List.mem_filter.mpr ⟨List.mem_of_getElem? (i := 433) (by decide +kernel), by decide +kernel⟩
theorem mS_X0_add : Cond.selects RX0 yX0_add yX0_add ∈ lw_good := List.mem_filter.mpr ⟨List.mem_of_getElem? (i := 453) (by decide +kernel), by decide +kernel⟩
theorem mS_X6_value : Cond.selects RX6 yX6_value yX6_value ∈ lw_good := List.mem_filter.mpr ⟨List.mem_of_getElem? (i := 460) (by decide +kernel), by decide +kernel⟩
theorem mS_X6_size : Cond.selects RX6 yX6_size yX6_size ∈ lw_good := List.mem_filter.mpr ⟨List.mem_of_getElem? (i := 469) (by decide +kernel), by decide +kernel⟩
theorem mS_X6_step : Cond.selects RX6 yX6_step yX6_step ∈ lw_good := List.mem_filter.mpr ⟨List.mem_of_getElem? (i := 482) (by decide +kernel), by decide +kernel⟩
theorem mS_X6_tryStep : Cond.selects RX6 yX6_tryStep yX6_tryStep ∈ lw_good := List.mem_filter.mpr ⟨List.mem_of_getElem? (i := 3) (by decide +kernel), by decide +kernel⟩
theorem mS_X4_begin : Cond.selects RX4 yX4_begin yX4_begin ∈ lw_good := List.mem_filter.mpr ⟨List.mem_of_getElem? (i := 494) (by decide +kernel), by decide +kernel⟩
theorem mS_X0_slopes : Cond.selects RX0 yX0_slopes yX0_slopes ∈ lw_good := List.mem_filter.mpr ⟨List.mem_of_getElem? (i := 498) (by decide +kernel), by decide +kernel⟩
theorem mS_X0_factor : Cond.selects RX0 yX0_factor yX0_factor ∈ lw_good := List.mem_filter.mpr ⟨List.mem_of_getElem? (i := 4) (by decide +kernel), by decide +kernel⟩
theorem mS_X4_reckon : Cond.selects RX4 yX4_reckon yX4_reckon ∈ lw_good := List.mem_filter.mpr ⟨List.mem_of_getElem? (i := 506) (by decide +kernel), by decide +kernel⟩
theorem mS_X4_move : Cond.selects RX4 yX4_move yX4_move ∈ lw_good := List.mem_filter.mpr ⟨List.mem_of_getElem? (i := 5) (by decide +kernel), by decide +kernel⟩
theorem mS_X4_pair : Cond.selects RX4 yX4_pair yX4_pair ∈ lw_good := List.mem_filter.mpr ⟨List.mem_of_getElem? (i := 6) (by decide +kernel), by decide +kernel⟩
theorem mS_X4_slopesAfter : Cond.selects RX4 yX4_slopesAfter yX4_slopesAfter ∈ lw_good := List.mem_filter.mpr ⟨List.mem_of_getElem? (i := 7) (by decide +kernel), by decide +kernel⟩
theorem mS_X4_adams : Cond.selects RX4 yX4_adams yX4_adams ∈ lw_good := List.mem_filter.mpr ⟨List.mem_of_getElem? (i := 8) (by decide +kernel), by decide +kernel⟩
theorem mS_X4_runge : Cond.selects RX4 yX4_runge yX4_runge ∈ lw_good := List.mem_filter.mpr ⟨List.mem_of_getElem? (i := 9) (by decide +kernel), by decide +kernel⟩
theorem mS_X1_solve : Cond.selects RX1 yX1_solve yX1_solve ∈ lw_good := List.mem_filter.mpr ⟨List.mem_of_getElem? (i := 547) (by decide +kernel), by decide +kernel⟩
theorem mS_X1_setRest : Cond.selects RX1 yX1_setRest yX1_setRest ∈ lw_good := List.mem_filter.mpr ⟨List.mem_of_getElem? (i := 10) (by decide +kernel), by decide +kernel⟩
theorem mS_X1_setMatrix : Cond.selects RX1 yX1_setMatrix yX1_setMatrix ∈ lw_good := List.mem_filter.mpr ⟨List.mem_of_getElem? (i := 11) (by decide +kernel), by decide +kernel⟩
theorem mS_X0_slopeBy : Cond.selects RX0 yX0_slopeBy yX0_slopeBy ∈ lw_good := List.mem_filter.mpr ⟨List.mem_of_getElem? (i := 560) (by decide +kernel), by decide +kernel⟩
theorem mS_X1_eliminate : Cond.selects RX1 yX1_eliminate yX1_eliminate ∈ lw_good := List.mem_filter.mpr ⟨List.mem_of_getElem? (i := 12) (by decide +kernel), by decide +kernel⟩
theorem mS_X1_pivotRow : Cond.selects RX1 yX1_pivotRow yX1_pivotRow ∈ lw_good := List.mem_filter.mpr ⟨List.mem_of_getElem? (i := 13) (by decide +kernel), by decide +kernel⟩
theorem mS_X1_exchange : Cond.selects RX1 yX1_exchange yX1_exchange ∈ lw_good := List.mem_filter.mpr ⟨List.mem_of_getElem? (i := 14) (by decide +kernel), by decide +kernel⟩
theorem mS_X1_takeAway : Cond.selects RX1 yX1_takeAway yX1_takeAway ∈ lw_good := List.mem_filter.mpr ⟨List.mem_of_getElem? (i := 15) (by decide +kernel), by decide +kernel⟩
theorem mS_X1_substitute : Cond.selects RX1 yX1_substitute yX1_substitute ∈ lw_good := List.mem_filter.mpr ⟨List.mem_of_getElem? (i := 16) (by decide +kernel), by decide +kernel⟩
theorem mS_X3_refine : Cond.selects RX3 yX3_refine yX3_refine ∈ lw_good := List.mem_filter.mpr ⟨List.mem_of_getElem? (i := 588) (by decide +kernel), by decide +kernel⟩
theorem mS_X3_walk : Cond.selects RX3 yX3_walk yX3_walk ∈ lw_good := List.mem_filter.mpr ⟨List.mem_of_getElem? (i := 17) (by decide +kernel), by decide +kernel⟩
theorem mS_X6_refuse : Cond.selects RX6 yX6_refuse yX6_refuse ∈ lw_good := List.mem_filter.mpr ⟨List.mem_of_getElem? (i := 18) (by decide +kernel), by decide +kernel⟩
theorem mS_X6_take : Cond.selects RX6 yX6_take yX6_take ∈ lw_good := List.mem_filter.mpr ⟨List.mem_of_getElem? (i := 19) (by decide +kernel), by decide +kernel⟩
theorem mS_X2_keep : Cond.selects RX2 yX2_keep yX2_keep ∈ lw_good := List.mem_filter.mpr ⟨List.mem_of_getElem? (i := 625) (by decide +kernel), by decide +kernel⟩
theorem mS_X5_look : Cond.selects RX5 yX5_look yX5_look ∈ lw_good := List.mem_filter.mpr ⟨List.mem_of_getElem? (i := 630) (by decide +kernel), by decide +kernel⟩
theorem mS_X5_isAbove : Cond.selects RX5 yX5_isAbove yX5_isAbove ∈ lw_good := List.mem_filter.mpr ⟨List.mem_of_getElem? (i := 20) (by decide +kernel), by decide +kernel⟩
theorem mS_X5_crossing : Cond.selects RX5 yX5_crossing yX5_crossing ∈ lw_good := List.mem_filter.mpr ⟨List.mem_of_getElem? (i := 21) (by decide +kernel), by decide +kernel⟩
theorem mS_X2_inside : Cond.selects RX2 yX2_inside yX2_inside ∈ lw_good := List.mem_filter.mpr ⟨List.mem_of_getElem? (i := 646) (by decide +kernel), by decide +kernel⟩
theorem mS_X6_go : Cond.selects RX6 yX6_go yX6_go ∈ lw_good := List.mem_filter.mpr ⟨List.mem_of_getElem? (i := 655) (by decide +kernel), by decide +kernel⟩
theorem mS_X6_stepTowards : Cond.selects RX6 yX6_stepTowards yX6_stepTowards ∈ lw_good := List.mem_filter.mpr ⟨List.mem_of_getElem? (i := 22) (by decide +kernel), by decide +kernel⟩
theorem mS_X6_watch : Cond.selects RX6 yX6_watch yX6_watch ∈ lw_good := List.mem_filter.mpr ⟨List.mem_of_getElem? (i := 674) (by decide +kernel), by decide +kernel⟩
theorem mS_X5_turnTo : Cond.selects RX5 yX5_turnTo yX5_turnTo ∈ lw_good := List.mem_filter.mpr ⟨List.mem_of_getElem? (i := 679) (by decide +kernel), by decide +kernel⟩
theorem mS_X6_event : Cond.selects RX6 yX6_event yX6_event ∈ lw_good := List.mem_filter.mpr ⟨List.mem_of_getElem? (i := 687) (by decide +kernel), by decide +kernel⟩
theorem mS_X5_remembers : Cond.selects RX5 yX5_remembers yX5_remembers ∈ lw_good := List.mem_filter.mpr ⟨List.mem_of_getElem? (i := 691) (by decide +kernel), by decide +kernel⟩
theorem mS_X5_latest : Cond.selects RX5 yX5_latest yX5_latest ∈ lw_good := List.mem_filter.mpr ⟨List.mem_of_getElem? (i := 711) (by decide +kernel), by decide +kernel⟩
theorem mS_X6_at : Cond.selects RX6 yX6_at yX6_at ∈ lw_good := List.mem_filter.mpr ⟨List.mem_of_getElem? (i := 718) (by decide +kernel), by decide +kernel⟩
theorem mS_X6_derivative : Cond.selects RX6 yX6_derivative yX6_derivative ∈ lw_good := List.mem_filter.mpr ⟨List.mem_of_getElem? (i := 726) (by decide +kernel), by decide +kernel⟩
theorem mS_X6_between : Cond.selects RX6 yX6_between yX6_between ∈ lw_good := List.mem_filter.mpr ⟨List.mem_of_getElem? (i := 734) (by decide +kernel), by decide +kernel⟩
theorem mS_X7_thrown : Cond.selects RX7 yX7_thrown yX7_thrown ∈ lw_good := List.mem_filter.mpr ⟨List.mem_of_getElem? (i := 860) (by decide +kernel), by decide +kernel⟩
theorem mS_X7_system : Cond.selects RX7 yX7_system yX7_system ∈ lw_good := List.mem_filter.mpr ⟨List.mem_of_getElem? (i := 864) (by decide +kernel), by decide +kernel⟩
theorem mS_X7_term : Cond.selects RX7 yX7_term yX7_term ∈ lw_good := List.mem_filter.mpr ⟨List.mem_of_getElem? (i := 868) (by decide +kernel), by decide +kernel⟩
theorem mS_X7_isNamed : Cond.selects RX7 yX7_isNamed yX7_isNamed ∈ lw_good := List.mem_filter.mpr ⟨List.mem_of_getElem? (i := 23) (by decide +kernel), by decide +kernel⟩
theorem mS_X7_value : Cond.selects RX7 yX7_value yX7_value ∈ lw_good := List.mem_filter.mpr ⟨List.mem_of_getElem? (i := 881) (by decide +kernel), by decide +kernel⟩
theorem mS_X7_size : Cond.selects RX7 yX7_size yX7_size ∈ lw_good := List.mem_filter.mpr ⟨List.mem_of_getElem? (i := 887) (by decide +kernel), by decide +kernel⟩
theorem mS_X7_step : Cond.selects RX7 yX7_step yX7_step ∈ lw_good := List.mem_filter.mpr ⟨List.mem_of_getElem? (i := 892) (by decide +kernel), by decide +kernel⟩
theorem mS_X7_tried : Cond.selects RX7 yX7_tried yX7_tried ∈ lw_good := List.mem_filter.mpr ⟨List.mem_of_getElem? (i := 24) (by decide +kernel), by decide +kernel⟩
theorem mS_X7_derive : Cond.selects RX7 yX7_derive yX7_derive ∈ lw_good := List.mem_filter.mpr ⟨List.mem_of_getElem? (i := 25) (by decide +kernel), by decide +kernel⟩
theorem mS_X7_lead : Cond.selects RX7 yX7_lead yX7_lead ∈ lw_good := List.mem_filter.mpr ⟨List.mem_of_getElem? (i := 26) (by decide +kernel), by decide +kernel⟩
theorem mS_X7_runge : Cond.selects RX7 yX7_runge yX7_runge ∈ lw_good := List.mem_filter.mpr ⟨List.mem_of_getElem? (i := 27) (by decide +kernel), by decide +kernel⟩
theorem mS_X7_pair : Cond.selects RX7 yX7_pair yX7_pair ∈ lw_good := List.mem_filter.mpr ⟨List.mem_of_getElem? (i := 28) (by decide +kernel), by decide +kernel⟩
theorem mS_X7_max : Cond.selects RX7 yX7_max yX7_max ∈ lw_good := List.mem_filter.mpr ⟨List.mem_of_getElem? (i := 29) (by decide +kernel), by decide +kernel⟩
theorem mS_X7_adams : Cond.selects RX7 yX7_adams yX7_adams ∈ lw_good := List.mem_filter.mpr ⟨List.mem_of_getElem? (i := 30) (by decide +kernel), by decide +kernel⟩
theorem mS_X7_implicit : Cond.selects RX7 yX7_implicit yX7_implicit ∈ lw_good := List.mem_filter.mpr ⟨List.mem_of_getElem? (i := 31) (by decide +kernel), by decide +kernel⟩
theorem mS_X7_slope : Cond.selects RX7 yX7_slope yX7_slope ∈ lw_good := List.mem_filter.mpr ⟨List.mem_of_getElem? (i := 32) (by decide +kernel), by decide +kernel⟩
theorem mS_X7_solve : Cond.selects RX7 yX7_solve yX7_solve ∈ lw_good := List.mem_filter.mpr ⟨List.mem_of_getElem? (i := 33) (by decide +kernel), by decide +kernel⟩
theorem mS_X7_midpoints : Cond.selects RX7 yX7_midpoints yX7_midpoints ∈ lw_good := List.mem_filter.mpr ⟨List.mem_of_getElem? (i := 34) (by decide +kernel), by decide +kernel⟩
theorem mS_X7_take : Cond.selects RX7 yX7_take yX7_take ∈ lw_good := List.mem_filter.mpr ⟨List.mem_of_getElem? (i := 35) (by decide +kernel), by decide +kernel⟩
theorem mS_X7_watchStep : Cond.selects RX7 yX7_watchStep yX7_watchStep ∈ lw_good := List.mem_filter.mpr ⟨List.mem_of_getElem? (i := 36) (by decide +kernel), by decide +kernel⟩
theorem mS_X7_curve : Cond.selects RX7 yX7_curve yX7_curve ∈ lw_good := List.mem_filter.mpr ⟨List.mem_of_getElem? (i := 37) (by decide +kernel), by decide +kernel⟩
theorem mS_X7_go : Cond.selects RX7 yX7_go yX7_go ∈ lw_good := List.mem_filter.mpr ⟨List.mem_of_getElem? (i := 971) (by decide +kernel), by decide +kernel⟩
theorem mS_X7_watch : Cond.selects RX7 yX7_watch yX7_watch ∈ lw_good := List.mem_filter.mpr ⟨List.mem_of_getElem? (i := 978) (by decide +kernel), by decide +kernel⟩
theorem mS_X7_events : Cond.selects RX7 yX7_events yX7_events ∈ lw_good := List.mem_filter.mpr ⟨List.mem_of_getElem? (i := 982) (by decide +kernel), by decide +kernel⟩
theorem mS_X7_event : Cond.selects RX7 yX7_event yX7_event ∈ lw_good := List.mem_filter.mpr ⟨List.mem_of_getElem? (i := 986) (by decide +kernel), by decide +kernel⟩
theorem mS_X7_at : Cond.selects RX7 yX7_at yX7_at ∈ lw_good := List.mem_filter.mpr ⟨List.mem_of_getElem? (i := 990) (by decide +kernel), by decide +kernel⟩
theorem mS_X7_derivative : Cond.selects RX7 yX7_derivative yX7_derivative ∈ lw_good := List.mem_filter.mpr ⟨List.mem_of_getElem? (i := 994) (by decide +kernel), by decide +kernel⟩
theorem mS_X7_between : Cond.selects RX7 yX7_between yX7_between ∈ lw_good := List.mem_filter.mpr ⟨List.mem_of_getElem? (i := 998) (by decide +kernel), by decide +kernel⟩
theorem mS_X7_time : Cond.selects RX7 yX7_time yX7_time ∈ lw_good := List.mem_filter.mpr ⟨List.mem_of_getElem? (i := 1002) (by decide +kernel), by decide +kernel⟩
theorem mS_X7_nextSize : Cond.selects RX7 yX7_nextSize yX7_nextSize ∈ lw_good := List.mem_filter.mpr ⟨List.mem_of_getElem? (i := 1006) (by decide +kernel), by decide +kernel⟩
theorem mS_X7_steps : Cond.selects RX7 yX7_steps yX7_steps ∈ lw_good := List.mem_filter.mpr ⟨List.mem_of_getElem? (i := 1010) (by decide +kernel), by decide +kernel⟩
theorem lX0_0 : u_lay RX0 TX0 0 ∈ lw_good := List.mem_filter.mpr ⟨List.mem_of_getElem? (i := 81) (by decide +kernel), by decide +kernel⟩
theorem lX0_1 : u_lay RX0 TX0 1 ∈ lw_good := List.mem_filter.mpr ⟨List.mem_of_getElem? (i := 83) (by decide +kernel), by decide +kernel⟩
theorem lX0_2 : u_lay RX0 TX0 2 ∈ lw_good := List.mem_filter.mpr ⟨List.mem_of_getElem? (i := 85) (by decide +kernel), by decide +kernel⟩
theorem lX0_3 : u_lay RX0 TX0 3 ∈ lw_good := List.mem_filter.mpr ⟨List.mem_of_getElem? (i := 87) (by decide +kernel), by decide +kernel⟩
theorem lX0_4 : u_lay RX0 TX0 4 ∈ lw_good := List.mem_filter.mpr ⟨List.mem_of_getElem? (i := 89) (by decide +kernel), by decide +kernel⟩
theorem lX0_5 : u_lay RX0 TX0 5 ∈ lw_good := List.mem_filter.mpr ⟨List.mem_of_getElem? (i := 91) (by decide +kernel), by decide +kernel⟩
theorem iX0 : ∀ w ∈ u_ws RX0 TX0 6, w ∈ lw_good := by
  intro w hw
  obtain ⟨k, hk, rfl⟩ := List.mem_map.mp hw
  have hk := List.mem_range.mp hk
  match k, hk with
  | 0, _ => exact lX0_0
  | 1, _ => exact lX0_1
  | 2, _ => exact lX0_2
  | 3, _ => exact lX0_3
  | 4, _ => exact lX0_4
  | 5, _ => exact lX0_5
  | k + 6, h => exact absurd h (by omega)
theorem lX1_0 : u_lay RX1 TX1 0 ∈ lw_good := List.mem_filter.mpr ⟨List.mem_of_getElem? (i := 114) (by decide +kernel), by decide +kernel⟩
theorem lX1_1 : u_lay RX1 TX1 1 ∈ lw_good := List.mem_filter.mpr ⟨List.mem_of_getElem? (i := 116) (by decide +kernel), by decide +kernel⟩
theorem lX1_2 : u_lay RX1 TX1 2 ∈ lw_good := List.mem_filter.mpr ⟨List.mem_of_getElem? (i := 118) (by decide +kernel), by decide +kernel⟩
theorem lX1_3 : u_lay RX1 TX1 3 ∈ lw_good := List.mem_filter.mpr ⟨List.mem_of_getElem? (i := 120) (by decide +kernel), by decide +kernel⟩
theorem iX1 : ∀ w ∈ u_ws RX1 TX1 4, w ∈ lw_good := by
  intro w hw
  obtain ⟨k, hk, rfl⟩ := List.mem_map.mp hw
  have hk := List.mem_range.mp hk
  match k, hk with
  | 0, _ => exact lX1_0
  | 1, _ => exact lX1_1
  | 2, _ => exact lX1_2
  | 3, _ => exact lX1_3
  | k + 4, h => exact absurd h (by omega)
theorem lX2_0 : u_lay RX2 TX2 0 ∈ lw_good := List.mem_filter.mpr ⟨List.mem_of_getElem? (i := 221) (by decide +kernel), by decide +kernel⟩
theorem lX2_1 : u_lay RX2 TX2 1 ∈ lw_good := List.mem_filter.mpr ⟨List.mem_of_getElem? (i := 223) (by decide +kernel), by decide +kernel⟩
theorem lX2_2 : u_lay RX2 TX2 2 ∈ lw_good := List.mem_filter.mpr ⟨List.mem_of_getElem? (i := 225) (by decide +kernel), by decide +kernel⟩
theorem lX2_3 : u_lay RX2 TX2 3 ∈ lw_good := List.mem_filter.mpr ⟨List.mem_of_getElem? (i := 227) (by decide +kernel), by decide +kernel⟩
theorem lX2_4 : u_lay RX2 TX2 4 ∈ lw_good := List.mem_filter.mpr ⟨List.mem_of_getElem? (i := 229) (by decide +kernel), by decide +kernel⟩
theorem lX2_5 : u_lay RX2 TX2 5 ∈ lw_good := List.mem_filter.mpr ⟨List.mem_of_getElem? (i := 231) (by decide +kernel), by decide +kernel⟩
theorem lX2_6 : u_lay RX2 TX2 6 ∈ lw_good := List.mem_filter.mpr ⟨List.mem_of_getElem? (i := 233) (by decide +kernel), by decide +kernel⟩
theorem lX2_7 : u_lay RX2 TX2 7 ∈ lw_good := List.mem_filter.mpr ⟨List.mem_of_getElem? (i := 235) (by decide +kernel), by decide +kernel⟩
theorem iX2 : ∀ w ∈ u_ws RX2 TX2 8, w ∈ lw_good := by
  intro w hw
  obtain ⟨k, hk, rfl⟩ := List.mem_map.mp hw
  have hk := List.mem_range.mp hk
  match k, hk with
  | 0, _ => exact lX2_0
  | 1, _ => exact lX2_1
  | 2, _ => exact lX2_2
  | 3, _ => exact lX2_3
  | 4, _ => exact lX2_4
  | 5, _ => exact lX2_5
  | 6, _ => exact lX2_6
  | 7, _ => exact lX2_7
  | k + 8, h => exact absurd h (by omega)
theorem lX3_0 : u_lay RX3 TX3 0 ∈ lw_good := List.mem_filter.mpr ⟨List.mem_of_getElem? (i := 135) (by decide +kernel), by decide +kernel⟩
theorem lX3_1 : u_lay RX3 TX3 1 ∈ lw_good := List.mem_filter.mpr ⟨List.mem_of_getElem? (i := 137) (by decide +kernel), by decide +kernel⟩
theorem lX3_2 : u_lay RX3 TX3 2 ∈ lw_good := List.mem_filter.mpr ⟨List.mem_of_getElem? (i := 139) (by decide +kernel), by decide +kernel⟩
theorem lX3_3 : u_lay RX3 TX3 3 ∈ lw_good := List.mem_filter.mpr ⟨List.mem_of_getElem? (i := 141) (by decide +kernel), by decide +kernel⟩
theorem lX3_4 : u_lay RX3 TX3 4 ∈ lw_good := List.mem_filter.mpr ⟨List.mem_of_getElem? (i := 143) (by decide +kernel), by decide +kernel⟩
theorem lX3_5 : u_lay RX3 TX3 5 ∈ lw_good := List.mem_filter.mpr ⟨List.mem_of_getElem? (i := 145) (by decide +kernel), by decide +kernel⟩
theorem iX3 : ∀ w ∈ u_ws RX3 TX3 6, w ∈ lw_good := by
  intro w hw
  obtain ⟨k, hk, rfl⟩ := List.mem_map.mp hw
  have hk := List.mem_range.mp hk
  match k, hk with
  | 0, _ => exact lX3_0
  | 1, _ => exact lX3_1
  | 2, _ => exact lX3_2
  | 3, _ => exact lX3_3
  | 4, _ => exact lX3_4
  | 5, _ => exact lX3_5
  | k + 6, h => exact absurd h (by omega)
theorem lX4_0 : u_lay RX4 TX4 0 ∈ lw_good := List.mem_filter.mpr ⟨List.mem_of_getElem? (i := 173) (by decide +kernel), by decide +kernel⟩
theorem lX4_1 : u_lay RX4 TX4 1 ∈ lw_good := List.mem_filter.mpr ⟨List.mem_of_getElem? (i := 175) (by decide +kernel), by decide +kernel⟩
theorem lX4_2 : u_lay RX4 TX4 2 ∈ lw_good := List.mem_filter.mpr ⟨List.mem_of_getElem? (i := 177) (by decide +kernel), by decide +kernel⟩
theorem lX4_3 : u_lay RX4 TX4 3 ∈ lw_good := List.mem_filter.mpr ⟨List.mem_of_getElem? (i := 179) (by decide +kernel), by decide +kernel⟩
theorem lX4_4 : u_lay RX4 TX4 4 ∈ lw_good := List.mem_filter.mpr ⟨List.mem_of_getElem? (i := 181) (by decide +kernel), by decide +kernel⟩
theorem lX4_5 : u_lay RX4 TX4 5 ∈ lw_good := List.mem_filter.mpr ⟨List.mem_of_getElem? (i := 183) (by decide +kernel), by decide +kernel⟩
theorem lX4_6 : u_lay RX4 TX4 6 ∈ lw_good := List.mem_filter.mpr ⟨List.mem_of_getElem? (i := 185) (by decide +kernel), by decide +kernel⟩
theorem lX4_7 : u_lay RX4 TX4 7 ∈ lw_good := List.mem_filter.mpr ⟨List.mem_of_getElem? (i := 187) (by decide +kernel), by decide +kernel⟩
theorem lX4_8 : u_lay RX4 TX4 8 ∈ lw_good := List.mem_filter.mpr ⟨List.mem_of_getElem? (i := 189) (by decide +kernel), by decide +kernel⟩
theorem lX4_9 : u_lay RX4 TX4 9 ∈ lw_good := List.mem_filter.mpr ⟨List.mem_of_getElem? (i := 191) (by decide +kernel), by decide +kernel⟩
theorem lX4_10 : u_lay RX4 TX4 10 ∈ lw_good := List.mem_filter.mpr ⟨List.mem_of_getElem? (i := 193) (by decide +kernel), by decide +kernel⟩
theorem lX4_11 : u_lay RX4 TX4 11 ∈ lw_good := List.mem_filter.mpr ⟨List.mem_of_getElem? (i := 195) (by decide +kernel), by decide +kernel⟩
theorem lX4_12 : u_lay RX4 TX4 12 ∈ lw_good := List.mem_filter.mpr ⟨List.mem_of_getElem? (i := 197) (by decide +kernel), by decide +kernel⟩
theorem iX4 : ∀ w ∈ u_ws RX4 TX4 13, w ∈ lw_good := by
  intro w hw
  obtain ⟨k, hk, rfl⟩ := List.mem_map.mp hw
  have hk := List.mem_range.mp hk
  match k, hk with
  | 0, _ => exact lX4_0
  | 1, _ => exact lX4_1
  | 2, _ => exact lX4_2
  | 3, _ => exact lX4_3
  | 4, _ => exact lX4_4
  | 5, _ => exact lX4_5
  | 6, _ => exact lX4_6
  | 7, _ => exact lX4_7
  | 8, _ => exact lX4_8
  | 9, _ => exact lX4_9
  | 10, _ => exact lX4_10
  | 11, _ => exact lX4_11
  | 12, _ => exact lX4_12
  | k + 13, h => exact absurd h (by omega)
theorem lX5_0 : u_lay RX5 TX5 0 ∈ lw_good := List.mem_filter.mpr ⟨List.mem_of_getElem? (i := 250) (by decide +kernel), by decide +kernel⟩
theorem lX5_1 : u_lay RX5 TX5 1 ∈ lw_good := List.mem_filter.mpr ⟨List.mem_of_getElem? (i := 252) (by decide +kernel), by decide +kernel⟩
theorem lX5_2 : u_lay RX5 TX5 2 ∈ lw_good := List.mem_filter.mpr ⟨List.mem_of_getElem? (i := 254) (by decide +kernel), by decide +kernel⟩
theorem lX5_3 : u_lay RX5 TX5 3 ∈ lw_good := List.mem_filter.mpr ⟨List.mem_of_getElem? (i := 256) (by decide +kernel), by decide +kernel⟩
theorem lX5_4 : u_lay RX5 TX5 4 ∈ lw_good := List.mem_filter.mpr ⟨List.mem_of_getElem? (i := 258) (by decide +kernel), by decide +kernel⟩
theorem iX5 : ∀ w ∈ u_ws RX5 TX5 5, w ∈ lw_good := by
  intro w hw
  obtain ⟨k, hk, rfl⟩ := List.mem_map.mp hw
  have hk := List.mem_range.mp hk
  match k, hk with
  | 0, _ => exact lX5_0
  | 1, _ => exact lX5_1
  | 2, _ => exact lX5_2
  | 3, _ => exact lX5_3
  | 4, _ => exact lX5_4
  | k + 5, h => exact absurd h (by omega)
theorem lX6_0 : u_lay RX6 TX6 0 ∈ lw_good := List.mem_filter.mpr ⟨List.mem_of_getElem? (i := 290) (by decide +kernel), by decide +kernel⟩
theorem lX6_1 : u_lay RX6 TX6 1 ∈ lw_good := List.mem_filter.mpr ⟨List.mem_of_getElem? (i := 292) (by decide +kernel), by decide +kernel⟩
theorem lX6_2 : u_lay RX6 TX6 2 ∈ lw_good := List.mem_filter.mpr ⟨List.mem_of_getElem? (i := 294) (by decide +kernel), by decide +kernel⟩
theorem lX6_3 : u_lay RX6 TX6 3 ∈ lw_good := List.mem_filter.mpr ⟨List.mem_of_getElem? (i := 296) (by decide +kernel), by decide +kernel⟩
theorem lX6_4 : u_lay RX6 TX6 4 ∈ lw_good := List.mem_filter.mpr ⟨List.mem_of_getElem? (i := 298) (by decide +kernel), by decide +kernel⟩
theorem lX6_5 : u_lay RX6 TX6 5 ∈ lw_good := List.mem_filter.mpr ⟨List.mem_of_getElem? (i := 300) (by decide +kernel), by decide +kernel⟩
theorem lX6_6 : u_lay RX6 TX6 6 ∈ lw_good := List.mem_filter.mpr ⟨List.mem_of_getElem? (i := 302) (by decide +kernel), by decide +kernel⟩
theorem lX6_7 : u_lay RX6 TX6 7 ∈ lw_good := List.mem_filter.mpr ⟨List.mem_of_getElem? (i := 304) (by decide +kernel), by decide +kernel⟩
theorem lX6_8 : u_lay RX6 TX6 8 ∈ lw_good := List.mem_filter.mpr ⟨List.mem_of_getElem? (i := 306) (by decide +kernel), by decide +kernel⟩
theorem lX6_9 : u_lay RX6 TX6 9 ∈ lw_good := List.mem_filter.mpr ⟨List.mem_of_getElem? (i := 308) (by decide +kernel), by decide +kernel⟩
theorem lX6_10 : u_lay RX6 TX6 10 ∈ lw_good := List.mem_filter.mpr ⟨List.mem_of_getElem? (i := 310) (by decide +kernel), by decide +kernel⟩
theorem lX6_11 : u_lay RX6 TX6 11 ∈ lw_good := List.mem_filter.mpr ⟨List.mem_of_getElem? (i := 312) (by decide +kernel), by decide +kernel⟩
theorem iX6 : ∀ w ∈ u_ws RX6 TX6 12, w ∈ lw_good := by
  intro w hw
  obtain ⟨k, hk, rfl⟩ := List.mem_map.mp hw
  have hk := List.mem_range.mp hk
  match k, hk with
  | 0, _ => exact lX6_0
  | 1, _ => exact lX6_1
  | 2, _ => exact lX6_2
  | 3, _ => exact lX6_3
  | 4, _ => exact lX6_4
  | 5, _ => exact lX6_5
  | 6, _ => exact lX6_6
  | 7, _ => exact lX6_7
  | 8, _ => exact lX6_8
  | 9, _ => exact lX6_9
  | 10, _ => exact lX6_10
  | 11, _ => exact lX6_11
  | k + 12, h => exact absurd h (by omega)
theorem lX7_0 : u_lay RX7 TX7 0 ∈ lw_good := List.mem_filter.mpr ⟨List.mem_of_getElem? (i := 783) (by decide +kernel), by decide +kernel⟩
theorem lX7_1 : u_lay RX7 TX7 1 ∈ lw_good := List.mem_filter.mpr ⟨List.mem_of_getElem? (i := 785) (by decide +kernel), by decide +kernel⟩
theorem lX7_2 : u_lay RX7 TX7 2 ∈ lw_good := List.mem_filter.mpr ⟨List.mem_of_getElem? (i := 787) (by decide +kernel), by decide +kernel⟩
theorem lX7_3 : u_lay RX7 TX7 3 ∈ lw_good := List.mem_filter.mpr ⟨List.mem_of_getElem? (i := 789) (by decide +kernel), by decide +kernel⟩
theorem lX7_4 : u_lay RX7 TX7 4 ∈ lw_good := List.mem_filter.mpr ⟨List.mem_of_getElem? (i := 791) (by decide +kernel), by decide +kernel⟩
theorem lX7_5 : u_lay RX7 TX7 5 ∈ lw_good := List.mem_filter.mpr ⟨List.mem_of_getElem? (i := 793) (by decide +kernel), by decide +kernel⟩
theorem lX7_6 : u_lay RX7 TX7 6 ∈ lw_good := List.mem_filter.mpr ⟨List.mem_of_getElem? (i := 795) (by decide +kernel), by decide +kernel⟩
theorem lX7_7 : u_lay RX7 TX7 7 ∈ lw_good := List.mem_filter.mpr ⟨List.mem_of_getElem? (i := 797) (by decide +kernel), by decide +kernel⟩
theorem lX7_8 : u_lay RX7 TX7 8 ∈ lw_good := List.mem_filter.mpr ⟨List.mem_of_getElem? (i := 799) (by decide +kernel), by decide +kernel⟩
theorem lX7_9 : u_lay RX7 TX7 9 ∈ lw_good := List.mem_filter.mpr ⟨List.mem_of_getElem? (i := 801) (by decide +kernel), by decide +kernel⟩
theorem lX7_10 : u_lay RX7 TX7 10 ∈ lw_good := List.mem_filter.mpr ⟨List.mem_of_getElem? (i := 803) (by decide +kernel), by decide +kernel⟩
theorem lX7_11 : u_lay RX7 TX7 11 ∈ lw_good := List.mem_filter.mpr ⟨List.mem_of_getElem? (i := 805) (by decide +kernel), by decide +kernel⟩
theorem lX7_12 : u_lay RX7 TX7 12 ∈ lw_good := List.mem_filter.mpr ⟨List.mem_of_getElem? (i := 807) (by decide +kernel), by decide +kernel⟩
theorem lX7_13 : u_lay RX7 TX7 13 ∈ lw_good := List.mem_filter.mpr ⟨List.mem_of_getElem? (i := 809) (by decide +kernel), by decide +kernel⟩
theorem lX7_14 : u_lay RX7 TX7 14 ∈ lw_good := List.mem_filter.mpr ⟨List.mem_of_getElem? (i := 811) (by decide +kernel), by decide +kernel⟩
theorem lX7_15 : u_lay RX7 TX7 15 ∈ lw_good := List.mem_filter.mpr ⟨List.mem_of_getElem? (i := 813) (by decide +kernel), by decide +kernel⟩
theorem lX7_16 : u_lay RX7 TX7 16 ∈ lw_good := List.mem_filter.mpr ⟨List.mem_of_getElem? (i := 815) (by decide +kernel), by decide +kernel⟩
theorem lX7_17 : u_lay RX7 TX7 17 ∈ lw_good := List.mem_filter.mpr ⟨List.mem_of_getElem? (i := 817) (by decide +kernel), by decide +kernel⟩
theorem lX7_18 : u_lay RX7 TX7 18 ∈ lw_good := List.mem_filter.mpr ⟨List.mem_of_getElem? (i := 819) (by decide +kernel), by decide +kernel⟩
theorem lX7_19 : u_lay RX7 TX7 19 ∈ lw_good := List.mem_filter.mpr ⟨List.mem_of_getElem? (i := 821) (by decide +kernel), by decide +kernel⟩
theorem lX7_20 : u_lay RX7 TX7 20 ∈ lw_good := List.mem_filter.mpr ⟨List.mem_of_getElem? (i := 823) (by decide +kernel), by decide +kernel⟩
theorem lX7_21 : u_lay RX7 TX7 21 ∈ lw_good := List.mem_filter.mpr ⟨List.mem_of_getElem? (i := 825) (by decide +kernel), by decide +kernel⟩
theorem lX7_22 : u_lay RX7 TX7 22 ∈ lw_good := List.mem_filter.mpr ⟨List.mem_of_getElem? (i := 827) (by decide +kernel), by decide +kernel⟩
theorem lX7_23 : u_lay RX7 TX7 23 ∈ lw_good := List.mem_filter.mpr ⟨List.mem_of_getElem? (i := 829) (by decide +kernel), by decide +kernel⟩
theorem lX7_24 : u_lay RX7 TX7 24 ∈ lw_good := List.mem_filter.mpr ⟨List.mem_of_getElem? (i := 831) (by decide +kernel), by decide +kernel⟩
theorem lX7_25 : u_lay RX7 TX7 25 ∈ lw_good := List.mem_filter.mpr ⟨List.mem_of_getElem? (i := 833) (by decide +kernel), by decide +kernel⟩
theorem lX7_26 : u_lay RX7 TX7 26 ∈ lw_good := List.mem_filter.mpr ⟨List.mem_of_getElem? (i := 835) (by decide +kernel), by decide +kernel⟩
theorem lX7_27 : u_lay RX7 TX7 27 ∈ lw_good := List.mem_filter.mpr ⟨List.mem_of_getElem? (i := 837) (by decide +kernel), by decide +kernel⟩
theorem lX7_28 : u_lay RX7 TX7 28 ∈ lw_good := List.mem_filter.mpr ⟨List.mem_of_getElem? (i := 839) (by decide +kernel), by decide +kernel⟩
theorem lX7_29 : u_lay RX7 TX7 29 ∈ lw_good := List.mem_filter.mpr ⟨List.mem_of_getElem? (i := 841) (by decide +kernel), by decide +kernel⟩
theorem lX7_30 : u_lay RX7 TX7 30 ∈ lw_good := List.mem_filter.mpr ⟨List.mem_of_getElem? (i := 843) (by decide +kernel), by decide +kernel⟩
theorem lX7_31 : u_lay RX7 TX7 31 ∈ lw_good := List.mem_filter.mpr ⟨List.mem_of_getElem? (i := 845) (by decide +kernel), by decide +kernel⟩
theorem lX7_32 : u_lay RX7 TX7 32 ∈ lw_good := List.mem_filter.mpr ⟨List.mem_of_getElem? (i := 847) (by decide +kernel), by decide +kernel⟩
theorem lX7_33 : u_lay RX7 TX7 33 ∈ lw_good := List.mem_filter.mpr ⟨List.mem_of_getElem? (i := 849) (by decide +kernel), by decide +kernel⟩
theorem lX7_34 : u_lay RX7 TX7 34 ∈ lw_good := List.mem_filter.mpr ⟨List.mem_of_getElem? (i := 851) (by decide +kernel), by decide +kernel⟩
theorem lX7_35 : u_lay RX7 TX7 35 ∈ lw_good := List.mem_filter.mpr ⟨List.mem_of_getElem? (i := 853) (by decide +kernel), by decide +kernel⟩
theorem lX7_36 : u_lay RX7 TX7 36 ∈ lw_good := List.mem_filter.mpr ⟨List.mem_of_getElem? (i := 855) (by decide +kernel), by decide +kernel⟩
theorem iX7 : ∀ w ∈ u_ws RX7 TX7 37, w ∈ lw_good := by
  intro w hw
  obtain ⟨k, hk, rfl⟩ := List.mem_map.mp hw
  have hk := List.mem_range.mp hk
  match k, hk with
  | 0, _ => exact lX7_0
  | 1, _ => exact lX7_1
  | 2, _ => exact lX7_2
  | 3, _ => exact lX7_3
  | 4, _ => exact lX7_4
  | 5, _ => exact lX7_5
  | 6, _ => exact lX7_6
  | 7, _ => exact lX7_7
  | 8, _ => exact lX7_8
  | 9, _ => exact lX7_9
  | 10, _ => exact lX7_10
  | 11, _ => exact lX7_11
  | 12, _ => exact lX7_12
  | 13, _ => exact lX7_13
  | 14, _ => exact lX7_14
  | 15, _ => exact lX7_15
  | 16, _ => exact lX7_16
  | 17, _ => exact lX7_17
  | 18, _ => exact lX7_18
  | 19, _ => exact lX7_19
  | 20, _ => exact lX7_20
  | 21, _ => exact lX7_21
  | 22, _ => exact lX7_22
  | 23, _ => exact lX7_23
  | 24, _ => exact lX7_24
  | 25, _ => exact lX7_25
  | 26, _ => exact lX7_26
  | 27, _ => exact lX7_27
  | 28, _ => exact lX7_28
  | 29, _ => exact lX7_29
  | 30, _ => exact lX7_30
  | 31, _ => exact lX7_31
  | 32, _ => exact lX7_32
  | 33, _ => exact lX7_33
  | 34, _ => exact lX7_34
  | 35, _ => exact lX7_35
  | 36, _ => exact lX7_36
  | k + 37, h => exact absurd h (by omega)
