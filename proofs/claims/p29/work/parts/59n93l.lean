theorem KL_L_9 : Cond.classLink RL 9 RX10 ∈ zW := zWi 44 (by decide +kernel) rfl
theorem KI_X10 : Cond.instantiable RX10 8 ∈ zW := zWi 45 (by decide +kernel) rfl
theorem KO_X10 : Cond.methodLink RX10 3 Lib.objectInit ∈ zW := zWi 49 (by decide +kernel) rfl
theorem KOi : Cond.instanceMethod Lib.objectInit ∈ zW := zWi 50 (by decide +kernel) rfl
theorem KOc : Cond.code Lib.objectInit { data := #[177] } 1 none ∈ zW := zWi 51 (by decide +kernel) rfl
theorem KL_X10_9 : Cond.classLink RX10 9 RX7 ∈ zW := zWi 52 (by decide +kernel) rfl
theorem KI_X7 : Cond.instantiable RX7 8 ∈ zW := zWi 53 (by decide +kernel) rfl
theorem KO_X7 : Cond.methodLink RX7 3 Lib.objectInit ∈ zW := zWi 57 (by decide +kernel) rfl
theorem KL_X7_15 : Cond.classLink RX7 15 RX1 ∈ zW := zWi 58 (by decide +kernel) rfl
theorem KL_X7_21 : Cond.classLink RX7 21 RX4 ∈ zW := zWi 60 (by decide +kernel) rfl
theorem KI_X1 : Cond.instantiable RX1 12 ∈ zW := zWi 62 (by decide +kernel) rfl
theorem KO_X1 : Cond.methodLink RX1 3 Lib.objectInit ∈ zW := zWi 66 (by decide +kernel) rfl
theorem KA_int : Cond.arrayClass .int ∈ zW := zWi 123 (by decide +kernel) rfl
theorem KI_X4 : Cond.instantiable RX4 5 ∈ zW := zWi 124 (by decide +kernel) rfl
theorem KO_X4 : Cond.methodLink RX4 3 Lib.objectInit ∈ zW := zWi 128 (by decide +kernel) rfl
theorem KL_X4_15 : Cond.classLink RX4 15 RX8 ∈ zW := zWi 129 (by decide +kernel) rfl
theorem KI_X8 : Cond.instantiable RX8 4 ∈ zW := zWi 131 (by decide +kernel) rfl
theorem KO_X8 : Cond.methodLink RX8 1 Lib.objectInit ∈ zW := zWi 135 (by decide +kernel) rfl
theorem KL_X10_16 : Cond.classLink RX10 16 RX0 ∈ zW := zWi 227 (by decide +kernel) rfl
theorem KI_X0 : Cond.instantiable RX0 3 ∈ zW := zWi 228 (by decide +kernel) rfl
theorem KO_X0 : Cond.methodLink RX0 3 Lib.objectInit ∈ zW := zWi 232 (by decide +kernel) rfl
theorem KL_X0_15 : Cond.classLink RX0 15 RX7 ∈ zW := zWi 233 (by decide +kernel) rfl
theorem KL_X10_31 : Cond.classLink RX10 31 RX3 ∈ zW := zWi 247 (by decide +kernel) rfl
theorem KI_X3 : Cond.instantiable RX3 4 ∈ zW := zWi 248 (by decide +kernel) rfl
theorem KO_X3 : Cond.methodLink RX3 3 Lib.objectInit ∈ zW := zWi 252 (by decide +kernel) rfl
theorem KL_X3_9 : Cond.classLink RX3 9 RX4 ∈ zW := zWi 253 (by decide +kernel) rfl
theorem KL_X3_18 : Cond.classLink RX3 18 RX2 ∈ zW := zWi 255 (by decide +kernel) rfl
theorem KI_X2 : Cond.instantiable RX2 2 ∈ zW := zWi 256 (by decide +kernel) rfl
theorem KO_X2 : Cond.methodLink RX2 3 Lib.objectInit ∈ zW := zWi 260 (by decide +kernel) rfl
theorem KA_boolean : Cond.arrayClass .boolean ∈ zW := zWi 270 (by decide +kernel) rfl
theorem KA_char : Cond.arrayClass .char ∈ zW := zWi 271 (by decide +kernel) rfl
theorem KL_X10_43 : Cond.classLink RX10 43 RX6 ∈ zW := zWi 287 (by decide +kernel) rfl
theorem KI_X6 : Cond.instantiable RX6 10 ∈ zW := zWi 288 (by decide +kernel) rfl
theorem KO_X6 : Cond.methodLink RX6 3 Lib.objectInit ∈ zW := zWi 292 (by decide +kernel) rfl
theorem KL_X6_36 : Cond.classLink RX6 36 "[[I" ∈ zW := zWi 293 (by decide +kernel) rfl
theorem KL_X6_41 : Cond.classLink RX6 41 RX9 ∈ zW := zWi 295 (by decide +kernel) rfl
theorem KI_X9 : Cond.instantiable RX9 10 ∈ zW := zWi 296 (by decide +kernel) rfl
theorem KO_X9 : Cond.methodLink RX9 3 Lib.objectInit ∈ zW := zWi 300 (by decide +kernel) rfl
theorem KL_X10_50 : Cond.classLink RX10 50 RX5 ∈ zW := zWi 375 (by decide +kernel) rfl
theorem KI_X5 : Cond.instantiable RX5 9 ∈ zW := zWi 376 (by decide +kernel) rfl
theorem KO_X5 : Cond.methodLink RX5 3 Lib.objectInit ∈ zW := zWi 380 (by decide +kernel) rfl
abbrev zf0_X0 : List Value := [.int 0, .int 0, .null]
abbrev zf0_X1 : List Value := [.int 0, .int 0, .int 0, .null, .null, .int 0, .int 0, .null, .int 0, .int 0, .int 0, .int 0]
abbrev zf0_X2 : List Value := [.int 0, .null]
abbrev zf0_X3 : List Value := [.null, .null, .int 0, .int 0]
abbrev zf0_X4 : List Value := [.int 0, .int 0, .int 0, .null, .null]
abbrev zf0_X5 : List Value := [.null, .null, .int 0, .null, .null, .null, .null, .int 0, .int 0]
abbrev zf0_X6 : List Value := [.null, .null, .null, .null, .null, .null, .null, .null, .null, .null]
abbrev zf0_X7 : List Value := [.int 0, .int 0, .int 0, .int 0, .int 0, .int 0, .null, .null]
abbrev zf0_X8 : List Value := [.int 0, .int 0, .int 0, .int 0]
abbrev zf0_X9 : List Value := [.int 0, .int 0, .null, .int 0, .int 0, .null, .null, .null, .null, .null]
abbrev zf0_X10 : List Value := [.null, .null, .null, .null, .null, .null, .null, .null]
abbrev zf0_X11 : List Value := []
theorem NK_L_9 : zNK RL 9 10 zf0_X10 := ⟨RX10, TX10, 8, tyX10, rfl, wu_X10, tyX10_ok, KL_L_9, KI_X10, wi_X10, fun j hj => by rcases (show j = 0 ∨ j = 1 ∨ j = 2 ∨ j = 3 ∨ j = 4 ∨ j = 5 ∨ j = 6 ∨ j = 7 by omega) with rfl | rfl | rfl | rfl | rfl | rfl | rfl | rfl <;> rfl, by decide⟩
theorem LI_L_11 : zLI RL 11 Y_X10_init 0 := ⟨zWi 46 (by decide +kernel) rfl, zWi 47 (by decide +kernel) rfl, wi_X10, wc_X10_init, rfl, rfl, ⟨by decide +kernel, by decide +kernel, by decide +kernel⟩, by decide⟩
theorem NK_X10_9 : zNK RX10 9 7 zf0_X7 := ⟨RX7, TX7, 8, tyX7, rfl, wu_X7, tyX7_ok, KL_X10_9, KI_X7, wi_X7, fun j hj => by rcases (show j = 0 ∨ j = 1 ∨ j = 2 ∨ j = 3 ∨ j = 4 ∨ j = 5 ∨ j = 6 ∨ j = 7 by omega) with rfl | rfl | rfl | rfl | rfl | rfl | rfl | rfl <;> rfl, by decide⟩
theorem LI_X10_11 : zLI RX10 11 Y_X7_init 0 := ⟨zWi 54 (by decide +kernel) rfl, zWi 55 (by decide +kernel) rfl, wi_X7, wc_X7_init, rfl, rfl, ⟨by decide +kernel, by decide +kernel, by decide +kernel⟩, by decide⟩
theorem NK_X7_15 : zNK RX7 15 1 zf0_X1 := ⟨RX1, TX1, 12, tyX1, rfl, wu_X1, tyX1_ok, KL_X7_15, KI_X1, wi_X1, fun j hj => by rcases (show j = 0 ∨ j = 1 ∨ j = 2 ∨ j = 3 ∨ j = 4 ∨ j = 5 ∨ j = 6 ∨ j = 7 ∨ j = 8 ∨ j = 9 ∨ j = 10 ∨ j = 11 by omega) with rfl | rfl | rfl | rfl | rfl | rfl | rfl | rfl | rfl | rfl | rfl | rfl <;> rfl, by decide⟩
theorem NK_X7_21 : zNK RX7 21 4 zf0_X4 := ⟨RX4, TX4, 5, tyX4, rfl, wu_X4, tyX4_ok, KL_X7_21, KI_X4, wi_X4, fun j hj => by rcases (show j = 0 ∨ j = 1 ∨ j = 2 ∨ j = 3 ∨ j = 4 by omega) with rfl | rfl | rfl | rfl | rfl <;> rfl, by decide⟩
theorem LN_X7_27_i : zLIN RX7 27 Y_X1_init 0 := ⟨⟨RX10, by decide +kernel⟩, zWi 64 (by decide +kernel) rfl, wi_X1, wc_X1_init, rfl, rfl, ⟨by decide +kernel, by decide +kernel, by decide +kernel⟩, by decide⟩
theorem LI_X7_28 : zLI RX7 28 Y_X4_init 0 := ⟨zWi 125 (by decide +kernel) rfl, zWi 126 (by decide +kernel) rfl, wi_X4, wc_X4_init, rfl, rfl, ⟨by decide +kernel, by decide +kernel, by decide +kernel⟩, by decide⟩
theorem NK_X4_15 : zNK RX4 15 8 zf0_X8 := ⟨RX8, TX8, 4, tyX8, rfl, wu_X8, tyX8_ok, KL_X4_15, KI_X8, wi_X8, fun j hj => by rcases (show j = 0 ∨ j = 1 ∨ j = 2 ∨ j = 3 by omega) with rfl | rfl | rfl | rfl <;> rfl, by decide⟩
theorem LN_X4_21_i : zLIN RX4 21 Y_X8_init 0 := ⟨⟨RX10, by decide +kernel⟩, zWi 133 (by decide +kernel) rfl, wi_X8, wc_X8_init, rfl, rfl, ⟨by decide +kernel, by decide +kernel, by decide +kernel⟩, by decide⟩
theorem NK_X10_16 : zNK RX10 16 0 zf0_X0 := ⟨RX0, TX0, 3, tyX0, rfl, wu_X0, tyX0_ok, KL_X10_16, KI_X0, wi_X0, fun j hj => by rcases (show j = 0 ∨ j = 1 ∨ j = 2 by omega) with rfl | rfl | rfl <;> rfl, by decide⟩
theorem LI_X10_18 : zLI RX10 18 Y_X0_init 0 := ⟨zWi 229 (by decide +kernel) rfl, zWi 230 (by decide +kernel) rfl, wi_X0, wc_X0_init, rfl, rfl, ⟨by decide +kernel, by decide +kernel, by decide +kernel⟩, by decide⟩
theorem NK_X0_15 : zNK RX0 15 7 zf0_X7 := ⟨RX7, TX7, 8, tyX7, rfl, wu_X7, tyX7_ok, KL_X0_15, KI_X7, wi_X7, fun j hj => by rcases (show j = 0 ∨ j = 1 ∨ j = 2 ∨ j = 3 ∨ j = 4 ∨ j = 5 ∨ j = 6 ∨ j = 7 by omega) with rfl | rfl | rfl | rfl | rfl | rfl | rfl | rfl <;> rfl, by decide⟩
theorem LI_X0_21 : zLI RX0 21 Y_X7_init 0 := ⟨zWi 235 (by decide +kernel) rfl, zWi 55 (by decide +kernel) rfl, wi_X7, wc_X7_init, rfl, rfl, ⟨by decide +kernel, by decide +kernel, by decide +kernel⟩, by decide⟩
theorem NK_X10_31 : zNK RX10 31 3 zf0_X3 := ⟨RX3, TX3, 4, tyX3, rfl, wu_X3, tyX3_ok, KL_X10_31, KI_X3, wi_X3, fun j hj => by rcases (show j = 0 ∨ j = 1 ∨ j = 2 ∨ j = 3 by omega) with rfl | rfl | rfl | rfl <;> rfl, by decide⟩
theorem LN_X10_33_i : zLIN RX10 33 Y_X3_init 0 := ⟨⟨RX10, by decide +kernel⟩, zWi 250 (by decide +kernel) rfl, wi_X3, wc_X3_init, rfl, rfl, ⟨by decide +kernel, by decide +kernel, by decide +kernel⟩, by decide⟩
theorem NK_X3_9 : zNK RX3 9 4 zf0_X4 := ⟨RX4, TX4, 5, tyX4, rfl, wu_X4, tyX4_ok, KL_X3_9, KI_X4, wi_X4, fun j hj => by rcases (show j = 0 ∨ j = 1 ∨ j = 2 ∨ j = 3 ∨ j = 4 by omega) with rfl | rfl | rfl | rfl | rfl <;> rfl, by decide⟩
theorem LI_X3_11 : zLI RX3 11 Y_X4_init 0 := ⟨zWi 254 (by decide +kernel) rfl, zWi 126 (by decide +kernel) rfl, wi_X4, wc_X4_init, rfl, rfl, ⟨by decide +kernel, by decide +kernel, by decide +kernel⟩, by decide⟩
theorem NK_X3_18 : zNK RX3 18 2 zf0_X2 := ⟨RX2, TX2, 2, tyX2, rfl, wu_X2, tyX2_ok, KL_X3_18, KI_X2, wi_X2, fun j hj => by rcases (show j = 0 ∨ j = 1 by omega) with rfl | rfl <;> rfl, by decide⟩
theorem LN_X3_20_i : zLIN RX3 20 Y_X2_init 0 := ⟨⟨RX10, by decide +kernel⟩, zWi 258 (by decide +kernel) rfl, wi_X2, wc_X2_init, rfl, rfl, ⟨by decide +kernel, by decide +kernel, by decide +kernel⟩, by decide⟩
theorem NK_X10_43 : zNK RX10 43 6 zf0_X6 := ⟨RX6, TX6, 10, tyX6, rfl, wu_X6, tyX6_ok, KL_X10_43, KI_X6, wi_X6, fun j hj => by rcases (show j = 0 ∨ j = 1 ∨ j = 2 ∨ j = 3 ∨ j = 4 ∨ j = 5 ∨ j = 6 ∨ j = 7 ∨ j = 8 ∨ j = 9 by omega) with rfl | rfl | rfl | rfl | rfl | rfl | rfl | rfl | rfl | rfl <;> rfl, by decide⟩
theorem LN_X10_45_i : zLIN RX10 45 Y_X6_init 0 := ⟨⟨RX10, by decide +kernel⟩, zWi 290 (by decide +kernel) rfl, wi_X6, wc_X6_init, rfl, rfl, ⟨by decide +kernel, by decide +kernel, by decide +kernel⟩, by decide⟩
theorem NK_X6_41 : zNK RX6 41 9 zf0_X9 := ⟨RX9, TX9, 10, tyX9, rfl, wu_X9, tyX9_ok, KL_X6_41, KI_X9, wi_X9, fun j hj => by rcases (show j = 0 ∨ j = 1 ∨ j = 2 ∨ j = 3 ∨ j = 4 ∨ j = 5 ∨ j = 6 ∨ j = 7 ∨ j = 8 ∨ j = 9 by omega) with rfl | rfl | rfl | rfl | rfl | rfl | rfl | rfl | rfl | rfl <;> rfl, by decide⟩
theorem LN_X6_43_i : zLIN RX6 43 Y_X9_init 0 := ⟨⟨RX10, by decide +kernel⟩, zWi 298 (by decide +kernel) rfl, wi_X9, wc_X9_init, rfl, rfl, ⟨by decide +kernel, by decide +kernel, by decide +kernel⟩, by decide⟩
theorem NK_X10_50 : zNK RX10 50 5 zf0_X5 := ⟨RX5, TX5, 9, tyX5, rfl, wu_X5, tyX5_ok, KL_X10_50, KI_X5, wi_X5, fun j hj => by rcases (show j = 0 ∨ j = 1 ∨ j = 2 ∨ j = 3 ∨ j = 4 ∨ j = 5 ∨ j = 6 ∨ j = 7 ∨ j = 8 by omega) with rfl | rfl | rfl | rfl | rfl | rfl | rfl | rfl | rfl <;> rfl, by decide⟩
theorem LN_X10_52_i : zLIN RX10 52 Y_X5_init 0 := ⟨⟨RX10, by decide +kernel⟩, zWi 378 (by decide +kernel) rfl, wi_X5, wc_X5_init, rfl, rfl, ⟨by decide +kernel, by decide +kernel, by decide +kernel⟩, by decide⟩
theorem FF_X1_9 : zFF RX1 9 1 3 := ⟨RX1, TX1, 12, tyX1, rfl, by decide, rfl, wf_X1_9, wu_X1, tyX1_ok, nmX1, rfl, rfl, fun q => ⟨rfl, rfl⟩⟩
theorem FF_X1_15 : zFF RX1 15 1 4 := ⟨RX1, TX1, 12, tyX1, rfl, by decide, rfl, wf_X1_15, wu_X1, tyX1_ok, nmX1, rfl, rfl, fun q => ⟨rfl, rfl⟩⟩
theorem FF_X1_18 : zFF RX1 18 1 7 := ⟨RX1, TX1, 12, tyX1, rfl, by decide, rfl, wf_X1_18, wu_X1, tyX1_ok, nmX1, rfl, rfl, fun q => ⟨rfl, rfl⟩⟩
theorem FF_X4_9 : zFF RX4 9 4 3 := ⟨RX4, TX4, 5, tyX4, rfl, by decide, rfl, wf_X4_9, wu_X4, tyX4_ok, nmX4, rfl, rfl, fun q => ⟨rfl, rfl⟩⟩
theorem FF_X4_17 : zFF RX4 17 4 4 := ⟨RX4, TX4, 5, tyX4, rfl, by decide, rfl, wf_X4_17, wu_X4, tyX4_ok, nmX4, rfl, rfl, fun q => ⟨rfl, rfl⟩⟩
theorem FF_X7_17 : zFF RX7 17 7 6 := ⟨RX7, TX7, 8, tyX7, rfl, by decide, rfl, wf_X7_17, wu_X7, tyX7_ok, nmX7, rfl, rfl, fun q => ⟨rfl, rfl⟩⟩
theorem FF_X7_23 : zFF RX7 23 7 7 := ⟨RX7, TX7, 8, tyX7, rfl, by decide, rfl, wf_X7_23, wu_X7, tyX7_ok, nmX7, rfl, rfl, fun q => ⟨rfl, rfl⟩⟩
theorem FF_X0_17 : zFF RX0 17 0 2 := ⟨RX0, TX0, 3, tyX0, rfl, by decide, rfl, wf_X0_17, wu_X0, tyX0_ok, nmX0, rfl, rfl, fun q => ⟨rfl, rfl⟩⟩
theorem FF_X2_9 : zFF RX2 9 2 1 := ⟨RX2, TX2, 2, tyX2, rfl, by decide, rfl, wf_X2_9, wu_X2, tyX2_ok, nmX2, rfl, rfl, fun q => ⟨rfl, rfl⟩⟩
theorem FF_X3_12 : zFF RX3 12 3 0 := ⟨RX3, TX3, 4, tyX3, rfl, by decide, rfl, wf_X3_12, wu_X3, tyX3_ok, nmX3, rfl, rfl, fun q => ⟨rfl, rfl⟩⟩
theorem FF_X3_21 : zFF RX3 21 3 1 := ⟨RX3, TX3, 4, tyX3, rfl, by decide, rfl, wf_X3_21, wu_X3, tyX3_ok, nmX3, rfl, rfl, fun q => ⟨rfl, rfl⟩⟩
theorem FF_X9_9 : zFF RX9 9 9 2 := ⟨RX9, TX9, 10, tyX9, rfl, by decide, rfl, wf_X9_9, wu_X9, tyX9_ok, nmX9, rfl, rfl, fun q => ⟨rfl, rfl⟩⟩
theorem FF_X9_15 : zFF RX9 15 9 5 := ⟨RX9, TX9, 10, tyX9, rfl, by decide, rfl, wf_X9_15, wu_X9, tyX9_ok, nmX9, rfl, rfl, fun q => ⟨rfl, rfl⟩⟩
theorem FF_X9_18 : zFF RX9 18 9 6 := ⟨RX9, TX9, 10, tyX9, rfl, by decide, rfl, wf_X9_18, wu_X9, tyX9_ok, nmX9, rfl, rfl, fun q => ⟨rfl, rfl⟩⟩
theorem FF_X9_21 : zFF RX9 21 9 7 := ⟨RX9, TX9, 10, tyX9, rfl, by decide, rfl, wf_X9_21, wu_X9, tyX9_ok, nmX9, rfl, rfl, fun q => ⟨rfl, rfl⟩⟩
theorem FF_X9_24 : zFF RX9 24 9 8 := ⟨RX9, TX9, 10, tyX9, rfl, by decide, rfl, wf_X9_24, wu_X9, tyX9_ok, nmX9, rfl, rfl, fun q => ⟨rfl, rfl⟩⟩
theorem FF_X9_27 : zFF RX9 27 9 9 := ⟨RX9, TX9, 10, tyX9, rfl, by decide, rfl, wf_X9_27, wu_X9, tyX9_ok, nmX9, rfl, rfl, fun q => ⟨rfl, rfl⟩⟩
theorem FF_X6_9 : zFF RX6 9 6 0 := ⟨RX6, TX6, 10, tyX6, rfl, by decide, rfl, wf_X6_9, wu_X6, tyX6_ok, nmX6, rfl, rfl, fun q => ⟨rfl, rfl⟩⟩
theorem FF_X6_15 : zFF RX6 15 6 1 := ⟨RX6, TX6, 10, tyX6, rfl, by decide, rfl, wf_X6_15, wu_X6, tyX6_ok, nmX6, rfl, rfl, fun q => ⟨rfl, rfl⟩⟩
theorem FF_X6_18 : zFF RX6 18 6 2 := ⟨RX6, TX6, 10, tyX6, rfl, by decide, rfl, wf_X6_18, wu_X6, tyX6_ok, nmX6, rfl, rfl, fun q => ⟨rfl, rfl⟩⟩
theorem FF_X6_21 : zFF RX6 21 6 3 := ⟨RX6, TX6, 10, tyX6, rfl, by decide, rfl, wf_X6_21, wu_X6, tyX6_ok, nmX6, rfl, rfl, fun q => ⟨rfl, rfl⟩⟩
theorem FF_X6_24 : zFF RX6 24 6 4 := ⟨RX6, TX6, 10, tyX6, rfl, by decide, rfl, wf_X6_24, wu_X6, tyX6_ok, nmX6, rfl, rfl, fun q => ⟨rfl, rfl⟩⟩
theorem FF_X6_27 : zFF RX6 27 6 5 := ⟨RX6, TX6, 10, tyX6, rfl, by decide, rfl, wf_X6_27, wu_X6, tyX6_ok, nmX6, rfl, rfl, fun q => ⟨rfl, rfl⟩⟩
theorem FF_X6_30 : zFF RX6 30 6 6 := ⟨RX6, TX6, 10, tyX6, rfl, by decide, rfl, wf_X6_30, wu_X6, tyX6_ok, nmX6, rfl, rfl, fun q => ⟨rfl, rfl⟩⟩
theorem FF_X6_33 : zFF RX6 33 6 7 := ⟨RX6, TX6, 10, tyX6, rfl, by decide, rfl, wf_X6_33, wu_X6, tyX6_ok, nmX6, rfl, rfl, fun q => ⟨rfl, rfl⟩⟩
theorem FF_X6_38 : zFF RX6 38 6 8 := ⟨RX6, TX6, 10, tyX6, rfl, by decide, rfl, wf_X6_38, wu_X6, tyX6_ok, nmX6, rfl, rfl, fun q => ⟨rfl, rfl⟩⟩
theorem FF_X6_44 : zFF RX6 44 6 9 := ⟨RX6, TX6, 10, tyX6, rfl, by decide, rfl, wf_X6_44, wu_X6, tyX6_ok, nmX6, rfl, rfl, fun q => ⟨rfl, rfl⟩⟩
theorem FF_X5_9 : zFF RX5 9 5 0 := ⟨RX5, TX5, 9, tyX5, rfl, by decide, rfl, wf_X5_9, wu_X5, tyX5_ok, nmX5, rfl, rfl, fun q => ⟨rfl, rfl⟩⟩
theorem FF_X5_15 : zFF RX5 15 5 1 := ⟨RX5, TX5, 9, tyX5, rfl, by decide, rfl, wf_X5_15, wu_X5, tyX5_ok, nmX5, rfl, rfl, fun q => ⟨rfl, rfl⟩⟩
theorem FF_X5_18 : zFF RX5 18 5 3 := ⟨RX5, TX5, 9, tyX5, rfl, by decide, rfl, wf_X5_18, wu_X5, tyX5_ok, nmX5, rfl, rfl, fun q => ⟨rfl, rfl⟩⟩
theorem FF_X5_21 : zFF RX5 21 5 4 := ⟨RX5, TX5, 9, tyX5, rfl, by decide, rfl, wf_X5_21, wu_X5, tyX5_ok, nmX5, rfl, rfl, fun q => ⟨rfl, rfl⟩⟩
theorem FF_X5_24 : zFF RX5 24 5 5 := ⟨RX5, TX5, 9, tyX5, rfl, by decide, rfl, wf_X5_24, wu_X5, tyX5_ok, nmX5, rfl, rfl, fun q => ⟨rfl, rfl⟩⟩
theorem FF_X5_27 : zFF RX5 27 5 6 := ⟨RX5, TX5, 9, tyX5, rfl, by decide, rfl, wf_X5_27, wu_X5, tyX5_ok, nmX5, rfl, rfl, fun q => ⟨rfl, rfl⟩⟩
theorem FF_X10_12 : zFF RX10 12 10 0 := ⟨RX10, TX10, 8, tyX10, rfl, by decide, rfl, wf_X10_12, wu_X10, tyX10_ok, nmX10, rfl, rfl, fun q => ⟨rfl, rfl⟩⟩
theorem FF_X10_19 : zFF RX10 19 10 1 := ⟨RX10, TX10, 8, tyX10, rfl, by decide, rfl, wf_X10_19, wu_X10, tyX10_ok, nmX10, rfl, rfl, fun q => ⟨rfl, rfl⟩⟩
theorem FF_X10_23 : zFF RX10 23 10 2 := ⟨RX10, TX10, 8, tyX10, rfl, by decide, rfl, wf_X10_23, wu_X10, tyX10_ok, nmX10, rfl, rfl, fun q => ⟨rfl, rfl⟩⟩
theorem FF_X10_27 : zFF RX10 27 10 3 := ⟨RX10, TX10, 8, tyX10, rfl, by decide, rfl, wf_X10_27, wu_X10, tyX10_ok, nmX10, rfl, rfl, fun q => ⟨rfl, rfl⟩⟩
theorem FF_X10_34 : zFF RX10 34 10 4 := ⟨RX10, TX10, 8, tyX10, rfl, by decide, rfl, wf_X10_34, wu_X10, tyX10_ok, nmX10, rfl, rfl, fun q => ⟨rfl, rfl⟩⟩
theorem FF_X10_42 : zFF RX10 42 10 5 := ⟨RX10, TX10, 8, tyX10, rfl, by decide, rfl, wf_X10_42, wu_X10, tyX10_ok, nmX10, rfl, rfl, fun q => ⟨rfl, rfl⟩⟩
theorem FF_X10_46 : zFF RX10 46 10 6 := ⟨RX10, TX10, 8, tyX10, rfl, by decide, rfl, wf_X10_46, wu_X10, tyX10_ok, nmX10, rfl, rfl, fun q => ⟨rfl, rfl⟩⟩
theorem FF_X10_53 : zFF RX10 53 10 7 := ⟨RX10, TX10, 8, tyX10, rfl, by decide, rfl, wf_X10_53, wu_X10, tyX10_ok, nmX10, rfl, rfl, fun q => ⟨rfl, rfl⟩⟩
