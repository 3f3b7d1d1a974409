/-! words for what is made: array classes, Object's constructor, classes by their links -/
theorem cl_L_7 : Cond.classLink RL 7 RX8 ∈ lw_g := lw_t1 (List.mem_of_getElem? (i := 14) (by decide +kernel)) (by decide +kernel)
theorem it_X8 : Cond.instantiable RX8 5 ∈ lw_g := lw_t1 (List.mem_of_getElem? (i := 15) (by decide +kernel)) (by decide +kernel)
theorem kL_9 : gK RL 9 yX8_init cX8_init 3 none 0 := ⟨cdX8_init, lw_t1 (List.mem_of_getElem? (i := 16) (by decide +kernel)) (by decide +kernel), inRX8, by decide +kernel⟩
theorem oi_X8 : Cond.methodLink RX8 1 Lib.objectInit ∈ lw_g := lw_t1 (List.mem_of_getElem? (i := 19) (by decide +kernel)) (by decide +kernel)
theorem oi_im : Cond.instanceMethod Lib.objectInit ∈ lw_g := lw_t1 (List.mem_of_getElem? (i := 20) (by decide +kernel)) (by decide +kernel)
theorem oi_cd : Cond.code Lib.objectInit ⟨#[0xb1]⟩ 1 none ∈ lw_g := lw_t1 (List.mem_of_getElem? (i := 21) rfl) rfl
theorem cl_X8_7 : Cond.classLink RX8 7 RX7 ∈ lw_g := lw_t1 (List.mem_of_getElem? (i := 22) (by decide +kernel)) (by decide +kernel)
theorem it_X7 : Cond.instantiable RX7 2 ∈ lw_g := lw_t1 (List.mem_of_getElem? (i := 23) (by decide +kernel)) (by decide +kernel)
theorem oi_X7 : Cond.methodLink RX7 3 Lib.objectInit ∈ lw_g := lw_t1 (List.mem_of_getElem? (i := 27) (by decide +kernel)) (by decide +kernel)
theorem ac_int : Cond.arrayClass .int ∈ lw_g := lw_t1 (List.mem_of_getElem? (i := 38) (by decide +kernel)) (by decide +kernel)
theorem cl_X8_10 : Cond.classLink RX8 10 RX1 ∈ lw_g := lw_t1 (List.mem_of_getElem? (i := 39) (by decide +kernel)) (by decide +kernel)
theorem it_X1 : Cond.instantiable RX1 9 ∈ lw_g := lw_t1 (List.mem_of_getElem? (i := 40) (by decide +kernel)) (by decide +kernel)
theorem kX8_12 : gK RX8 12 yX1_init cX1_init 2 none 0 := ⟨cdX1_init, lw_t1 (List.mem_of_getElem? (i := 41) (by decide +kernel)) (by decide +kernel), inRX1, by decide +kernel⟩
theorem oi_X1 : Cond.methodLink RX1 3 Lib.objectInit ∈ lw_g := lw_t1 (List.mem_of_getElem? (i := 44) (by decide +kernel)) (by decide +kernel)
theorem cl_X1_9 : Cond.classLink RX1 9 RX2 ∈ lw_g := lw_t1 (List.mem_of_getElem? (i := 45) (by decide +kernel)) (by decide +kernel)
theorem cl_X1_31 : Cond.classLink RX1 31 RX0 ∈ lw_g := lw_t1 (List.mem_of_getElem? (i := 47) (by decide +kernel)) (by decide +kernel)
theorem it_X0 : Cond.instantiable RX0 4 ∈ lw_g := lw_t1 (List.mem_of_getElem? (i := 48) (by decide +kernel)) (by decide +kernel)
theorem oi_X0 : Cond.methodLink RX0 3 Lib.objectInit ∈ lw_g := lw_t1 (List.mem_of_getElem? (i := 52) (by decide +kernel)) (by decide +kernel)
theorem ac_long : Cond.arrayClass .long ∈ lw_g := lw_t1 (List.mem_of_getElem? (i := 68) (by decide +kernel)) (by decide +kernel)
theorem cl_X1_38 : Cond.classLink RX1 38 RX4 ∈ lw_g := lw_t1 (List.mem_of_getElem? (i := 69) (by decide +kernel)) (by decide +kernel)
theorem it_X2 : Cond.instantiable RX2 16 ∈ lw_g := lw_t1 (List.mem_of_getElem? (i := 71) (by decide +kernel)) (by decide +kernel)
theorem oi_X2 : Cond.methodLink RX2 3 Lib.objectInit ∈ lw_g := lw_t1 (List.mem_of_getElem? (i := 75) (by decide +kernel)) (by decide +kernel)
theorem it_X4 : Cond.instantiable RX4 8 ∈ lw_g := lw_t1 (List.mem_of_getElem? (i := 140) (by decide +kernel)) (by decide +kernel)
theorem oi_X4 : Cond.methodLink RX4 3 Lib.objectInit ∈ lw_g := lw_t1 (List.mem_of_getElem? (i := 144) (by decide +kernel)) (by decide +kernel)
theorem ac_boolean : Cond.arrayClass .boolean ∈ lw_g := lw_t1 (List.mem_of_getElem? (i := 172) (by decide +kernel)) (by decide +kernel)
theorem cl_X8_19 : Cond.classLink RX8 19 RX3 ∈ lw_g := lw_t1 (List.mem_of_getElem? (i := 216) (by decide +kernel)) (by decide +kernel)
theorem it_X3 : Cond.instantiable RX3 9 ∈ lw_g := lw_t1 (List.mem_of_getElem? (i := 217) (by decide +kernel)) (by decide +kernel)
theorem kX8_21 : gK RX8 21 yX3_init cX3_init 2 none 1 := ⟨cdX3_init, lw_t1 (List.mem_of_getElem? (i := 218) (by decide +kernel)) (by decide +kernel), inRX3, by decide +kernel⟩
theorem oi_X3 : Cond.methodLink RX3 3 Lib.objectInit ∈ lw_g := lw_t1 (List.mem_of_getElem? (i := 221) (by decide +kernel)) (by decide +kernel)
theorem cl_X3_15 : Cond.classLink RX3 15 RX4 ∈ lw_g := lw_t1 (List.mem_of_getElem? (i := 222) (by decide +kernel)) (by decide +kernel)
theorem cl_X3_26 : Cond.classLink RX3 26 RX6 ∈ lw_g := lw_t1 (List.mem_of_getElem? (i := 224) (by decide +kernel)) (by decide +kernel)
theorem it_X6 : Cond.instantiable RX6 5 ∈ lw_g := lw_t1 (List.mem_of_getElem? (i := 225) (by decide +kernel)) (by decide +kernel)
theorem kX3_28 : gK RX3 28 yX6_init cX6_init 2 none 1 := ⟨cdX6_init, lw_t1 (List.mem_of_getElem? (i := 226) (by decide +kernel)) (by decide +kernel), inRX6, by decide +kernel⟩
theorem oi_X6 : Cond.methodLink RX6 3 Lib.objectInit ∈ lw_g := lw_t1 (List.mem_of_getElem? (i := 229) (by decide +kernel)) (by decide +kernel)
theorem cl_X8_32 : Cond.classLink RX8 32 RX5 ∈ lw_g := lw_t2 (List.mem_of_getElem? (i := 38) (by decide +kernel)) (by decide +kernel)
theorem it_X5 : Cond.instantiable RX5 9 ∈ lw_g := lw_t2 (List.mem_of_getElem? (i := 39) (by decide +kernel)) (by decide +kernel)
theorem kX8_34 : gK RX8 34 yX5_init cX5_init 2 none 1 := ⟨cdX5_init, lw_t2 (List.mem_of_getElem? (i := 40) (by decide +kernel)) (by decide +kernel), inRX5, by decide +kernel⟩
theorem oi_X5 : Cond.methodLink RX5 3 Lib.objectInit ∈ lw_g := lw_t2 (List.mem_of_getElem? (i := 43) (by decide +kernel)) (by decide +kernel)
theorem cl_L_10 : Cond.classLink RL 10 RX9 ∈ lw_g := lw_t4 (List.mem_of_getElem? (i := 57) (by decide +kernel)) (by decide +kernel)
theorem it_X9 : Cond.instantiable RX9 83 ∈ lw_g := lw_t4 (List.mem_of_getElem? (i := 58) (by decide +kernel)) (by decide +kernel)
theorem kL_12 : gK RL 12 yX9_init cX9_init 1 none 0 := ⟨cdX9_init, lw_t4 (List.mem_of_getElem? (i := 59) (by decide +kernel)) (by decide +kernel), inRX9, by decide +kernel⟩
theorem oi_X9 : Cond.methodLink RX9 7 Lib.objectInit ∈ lw_g := lw_t4 (List.mem_of_getElem? (i := 62) (by decide +kernel)) (by decide +kernel)
theorem ac_byte : Cond.arrayClass .byte ∈ lw_g := lw_t5 (List.mem_of_getElem? (i := 79) (by decide +kernel)) (by decide +kernel)
