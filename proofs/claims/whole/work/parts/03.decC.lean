theorem dX0_init_0 : decode cX0_init 0 = .ok (.aload_n 0, 1) := by decide +kernel
theorem dX0_init_1 : decode cX0_init 1 = .ok (.invokespecial 3, 3) := by decide +kernel
theorem dX0_init_4 : decode cX0_init 4 = .ok (.aload_n 0, 1) := by decide +kernel
theorem dX0_init_5 : decode cX0_init 5 = .ok (.iconst (-1), 1) := by decide +kernel
theorem dX0_init_6 : decode cX0_init 6 = .ok (.putfield 9, 3) := by decide +kernel
theorem dX0_init_9 : decode cX0_init 9 = .ok (.aload_n 0, 1) := by decide +kernel
theorem dX0_init_10 : decode cX0_init 10 = .ok (.sipush 300, 3) := by decide +kernel
theorem dX0_init_13 : decode cX0_init 13 = .ok (.newarray .int, 2) := by decide +kernel
theorem dX0_init_15 : decode cX0_init 15 = .ok (.putfield 15, 3) := by decide +kernel
theorem dX0_init_18 : decode cX0_init 18 = .ok (.aload_n 0, 1) := by decide +kernel
theorem dX0_init_19 : decode cX0_init 19 = .ok (.sipush 600, 3) := by decide +kernel
theorem dX0_init_22 : decode cX0_init 22 = .ok (.newarray .long, 2) := by decide +kernel
theorem dX0_init_24 : decode cX0_init 24 = .ok (.putfield 19, 3) := by decide +kernel
theorem dX0_init_27 : decode cX0_init 27 = .ok (.return_, 1) := by decide +kernel
theorem dX0_isFull_0 : decode cX0_isFull 0 = .ok (.aload_n 0, 1) := by decide +kernel
theorem dX0_isFull_1 : decode cX0_isFull 1 = .ok (.getfield 23, 3) := by decide +kernel
theorem dX0_isFull_4 : decode cX0_isFull 4 = .ok (.sipush 200, 3) := by decide +kernel
theorem dX0_isFull_7 : decode cX0_isFull 7 = .ok (.if_icmp .lt 7, 3) := by decide +kernel
theorem dX0_isFull_10 : decode cX0_isFull 10 = .ok (.iconst 1, 1) := by decide +kernel
theorem dX0_isFull_11 : decode cX0_isFull 11 = .ok (.goto 4, 3) := by decide +kernel
theorem dX0_isFull_14 : decode cX0_isFull 14 = .ok (.iconst 0, 1) := by decide +kernel
theorem dX0_isFull_15 : decode cX0_isFull 15 = .ok (.ireturn, 1) := by decide +kernel
theorem dX0_addLost_0 : decode cX0_addLost 0 = .ok (.aload_n 0, 1) := by decide +kernel
theorem dX0_addLost_1 : decode cX0_addLost 1 = .ok (.getfield 15, 3) := by decide +kernel
theorem dX0_addLost_4 : decode cX0_addLost 4 = .ok (.iload_n 2, 1) := by decide +kernel
theorem dX0_addLost_5 : decode cX0_addLost 5 = .ok (.dup2, 1) := by decide +kernel
theorem dX0_addLost_6 : decode cX0_addLost 6 = .ok (.iaload, 1) := by decide +kernel
theorem dX0_addLost_7 : decode cX0_addLost 7 = .ok (.iconst 1, 1) := by decide +kernel
theorem dX0_addLost_8 : decode cX0_addLost 8 = .ok (.iload_n 1, 1) := by decide +kernel
theorem dX0_addLost_9 : decode cX0_addLost 9 = .ok (.ishl, 1) := by decide +kernel
theorem dX0_addLost_10 : decode cX0_addLost 10 = .ok (.ior, 1) := by decide +kernel
theorem dX0_addLost_11 : decode cX0_addLost 11 = .ok (.iastore, 1) := by decide +kernel
theorem dX0_addLost_12 : decode cX0_addLost 12 = .ok (.aload_n 0, 1) := by decide +kernel
theorem dX0_addLost_13 : decode cX0_addLost 13 = .ok (.dup, 1) := by decide +kernel
theorem dX0_addLost_14 : decode cX0_addLost 14 = .ok (.getfield 23, 3) := by decide +kernel
theorem dX0_addLost_17 : decode cX0_addLost 17 = .ok (.dup_x1, 1) := by decide +kernel
theorem dX0_addLost_18 : decode cX0_addLost 18 = .ok (.iconst 1, 1) := by decide +kernel
theorem dX0_addLost_19 : decode cX0_addLost 19 = .ok (.iadd, 1) := by decide +kernel
theorem dX0_addLost_20 : decode cX0_addLost 20 = .ok (.putfield 23, 3) := by decide +kernel
theorem dX0_addLost_23 : decode cX0_addLost 23 = .ok (.ireturn, 1) := by decide +kernel
theorem dX0_addCut_0 : decode cX0_addCut 0 = .ok (.aload_n 0, 1) := by decide +kernel
theorem dX0_addCut_1 : decode cX0_addCut 1 = .ok (.getfield 15, 3) := by decide +kernel
theorem dX0_addCut_4 : decode cX0_addCut 4 = .ok (.iload_n 2, 1) := by decide +kernel
theorem dX0_addCut_5 : decode cX0_addCut 5 = .ok (.dup2, 1) := by decide +kernel
theorem dX0_addCut_6 : decode cX0_addCut 6 = .ok (.iaload, 1) := by decide +kernel
theorem dX0_addCut_7 : decode cX0_addCut 7 = .ok (.iconst 1, 1) := by decide +kernel
theorem dX0_addCut_8 : decode cX0_addCut 8 = .ok (.bipush 8, 2) := by decide +kernel
theorem dX0_addCut_10 : decode cX0_addCut 10 = .ok (.iload_n 1, 1) := by decide +kernel
theorem dX0_addCut_11 : decode cX0_addCut 11 = .ok (.iadd, 1) := by decide +kernel
theorem dX0_addCut_12 : decode cX0_addCut 12 = .ok (.ishl, 1) := by decide +kernel
theorem dX0_addCut_13 : decode cX0_addCut 13 = .ok (.ior, 1) := by decide +kernel
theorem dX0_addCut_14 : decode cX0_addCut 14 = .ok (.iastore, 1) := by decide +kernel
theorem dX0_addCut_15 : decode cX0_addCut 15 = .ok (.aload_n 0, 1) := by decide +kernel
theorem dX0_addCut_16 : decode cX0_addCut 16 = .ok (.aload_n 0, 1) := by decide +kernel
theorem dX0_addCut_17 : decode cX0_addCut 17 = .ok (.getfield 9, 3) := by decide +kernel
theorem dX0_addCut_20 : decode cX0_addCut 20 = .ok (.iload_n 2, 1) := by decide +kernel
theorem dX0_addCut_21 : decode cX0_addCut 21 = .ok (.invokestatic 26, 3) := by decide +kernel
theorem dX0_addCut_24 : decode cX0_addCut 24 = .ok (.putfield 9, 3) := by decide +kernel
theorem dX0_addCut_27 : decode cX0_addCut 27 = .ok (.aload_n 0, 1) := by decide +kernel
theorem dX0_addCut_28 : decode cX0_addCut 28 = .ok (.dup, 1) := by decide +kernel
theorem dX0_addCut_29 : decode cX0_addCut 29 = .ok (.getfield 23, 3) := by decide +kernel
theorem dX0_addCut_32 : decode cX0_addCut 32 = .ok (.dup_x1, 1) := by decide +kernel
theorem dX0_addCut_33 : decode cX0_addCut 33 = .ok (.iconst 1, 1) := by decide +kernel
theorem dX0_addCut_34 : decode cX0_addCut 34 = .ok (.iadd, 1) := by decide +kernel
theorem dX0_addCut_35 : decode cX0_addCut 35 = .ok (.putfield 23, 3) := by decide +kernel
theorem dX0_addCut_38 : decode cX0_addCut 38 = .ok (.ireturn, 1) := by decide +kernel
theorem dX0_addDown_0 : decode cX0_addDown 0 = .ok (.iload_n 2, 1) := by decide +kernel
theorem dX0_addDown_1 : decode cX0_addDown 1 = .ok (.istore 4, 2) := by decide +kernel
theorem dX0_addDown_3 : decode cX0_addDown 3 = .ok (.iload 4, 2) := by decide +kernel
theorem dX0_addDown_5 : decode cX0_addDown 5 = .ok (.iload_n 3, 1) := by decide +kernel
theorem dX0_addDown_6 : decode cX0_addDown 6 = .ok (.if_icmp .ge 25, 3) := by decide +kernel
theorem dX0_addDown_9 : decode cX0_addDown 9 = .ok (.aload_n 0, 1) := by decide +kernel
theorem dX0_addDown_10 : decode cX0_addDown 10 = .ok (.getfield 15, 3) := by decide +kernel
theorem dX0_addDown_13 : decode cX0_addDown 13 = .ok (.iload 4, 2) := by decide +kernel
theorem dX0_addDown_15 : decode cX0_addDown 15 = .ok (.dup2, 1) := by decide +kernel
theorem dX0_addDown_16 : decode cX0_addDown 16 = .ok (.iaload, 1) := by decide +kernel
theorem dX0_addDown_17 : decode cX0_addDown 17 = .ok (.iconst 1, 1) := by decide +kernel
theorem dX0_addDown_18 : decode cX0_addDown 18 = .ok (.bipush 16, 2) := by decide +kernel
theorem dX0_addDown_20 : decode cX0_addDown 20 = .ok (.iload_n 1, 1) := by decide +kernel
theorem dX0_addDown_21 : decode cX0_addDown 21 = .ok (.iadd, 1) := by decide +kernel
theorem dX0_addDown_22 : decode cX0_addDown 22 = .ok (.ishl, 1) := by decide +kernel
theorem dX0_addDown_23 : decode cX0_addDown 23 = .ok (.ior, 1) := by decide +kernel
theorem dX0_addDown_24 : decode cX0_addDown 24 = .ok (.iastore, 1) := by decide +kernel
theorem dX0_addDown_25 : decode cX0_addDown 25 = .ok (.iinc 4 1, 3) := by decide +kernel
theorem dX0_addDown_28 : decode cX0_addDown 28 = .ok (.goto (-25), 3) := by decide +kernel
theorem dX0_addDown_31 : decode cX0_addDown 31 = .ok (.aload_n 0, 1) := by decide +kernel
theorem dX0_addDown_32 : decode cX0_addDown 32 = .ok (.dup, 1) := by decide +kernel
theorem dX0_addDown_33 : decode cX0_addDown 33 = .ok (.getfield 23, 3) := by decide +kernel
theorem dX0_addDown_36 : decode cX0_addDown 36 = .ok (.dup_x1, 1) := by decide +kernel
theorem dX0_addDown_37 : decode cX0_addDown 37 = .ok (.iconst 1, 1) := by decide +kernel
theorem dX0_addDown_38 : decode cX0_addDown 38 = .ok (.iadd, 1) := by decide +kernel
theorem dX0_addDown_39 : decode cX0_addDown 39 = .ok (.putfield 23, 3) := by decide +kernel
theorem dX0_addDown_42 : decode cX0_addDown 42 = .ok (.ireturn, 1) := by decide +kernel
theorem dX0_addWrong_0 : decode cX0_addWrong 0 = .ok (.aload_n 0, 1) := by decide +kernel
theorem dX0_addWrong_1 : decode cX0_addWrong 1 = .ok (.getfield 19, 3) := by decide +kernel
theorem dX0_addWrong_4 : decode cX0_addWrong 4 = .ok (.iconst 2, 1) := by decide +kernel
theorem dX0_addWrong_5 : decode cX0_addWrong 5 = .ok (.iload_n 2, 1) := by decide +kernel
theorem dX0_addWrong_6 : decode cX0_addWrong 6 = .ok (.imul, 1) := by decide +kernel
theorem dX0_addWrong_7 : decode cX0_addWrong 7 = .ok (.iload_n 1, 1) := by decide +kernel
theorem dX0_addWrong_8 : decode cX0_addWrong 8 = .ok (.bipush 36, 2) := by decide +kernel
theorem dX0_addWrong_10 : decode cX0_addWrong 10 = .ok (.idiv, 1) := by decide +kernel
theorem dX0_addWrong_11 : decode cX0_addWrong 11 = .ok (.iadd, 1) := by decide +kernel
theorem dX0_addWrong_12 : decode cX0_addWrong 12 = .ok (.dup2, 1) := by decide +kernel
theorem dX0_addWrong_13 : decode cX0_addWrong 13 = .ok (.laload, 1) := by decide +kernel
theorem dX0_addWrong_14 : decode cX0_addWrong 14 = .ok (.lconst 1, 1) := by decide +kernel
theorem dX0_addWrong_15 : decode cX0_addWrong 15 = .ok (.iload_n 1, 1) := by decide +kernel
theorem dX0_addWrong_16 : decode cX0_addWrong 16 = .ok (.bipush 36, 2) := by decide +kernel
theorem dX0_addWrong_18 : decode cX0_addWrong 18 = .ok (.irem, 1) := by decide +kernel
theorem dX0_addWrong_19 : decode cX0_addWrong 19 = .ok (.lshl, 1) := by decide +kernel
theorem dX0_addWrong_20 : decode cX0_addWrong 20 = .ok (.lor, 1) := by decide +kernel
theorem dX0_addWrong_21 : decode cX0_addWrong 21 = .ok (.lastore, 1) := by decide +kernel
theorem dX0_addWrong_22 : decode cX0_addWrong 22 = .ok (.aload_n 0, 1) := by decide +kernel
theorem dX0_addWrong_23 : decode cX0_addWrong 23 = .ok (.dup, 1) := by decide +kernel
theorem dX0_addWrong_24 : decode cX0_addWrong 24 = .ok (.getfield 23, 3) := by decide +kernel
theorem dX0_addWrong_27 : decode cX0_addWrong 27 = .ok (.dup_x1, 1) := by decide +kernel
theorem dX0_addWrong_28 : decode cX0_addWrong 28 = .ok (.iconst 1, 1) := by decide +kernel
theorem dX0_addWrong_29 : decode cX0_addWrong 29 = .ok (.iadd, 1) := by decide +kernel
theorem dX0_addWrong_30 : decode cX0_addWrong 30 = .ok (.putfield 23, 3) := by decide +kernel
theorem dX0_addWrong_33 : decode cX0_addWrong 33 = .ok (.ireturn, 1) := by decide +kernel
theorem dX0_isLost_0 : decode cX0_isLost 0 = .ok (.aload_n 0, 1) := by decide +kernel
theorem dX0_isLost_1 : decode cX0_isLost 1 = .ok (.getfield 15, 3) := by decide +kernel
theorem dX0_isLost_4 : decode cX0_isLost 4 = .ok (.iload_n 2, 1) := by decide +kernel
theorem dX0_isLost_5 : decode cX0_isLost 5 = .ok (.iaload, 1) := by decide +kernel
theorem dX0_isLost_6 : decode cX0_isLost 6 = .ok (.iload_n 1, 1) := by decide +kernel
theorem dX0_isLost_7 : decode cX0_isLost 7 = .ok (.iushr, 1) := by decide +kernel
theorem dX0_isLost_8 : decode cX0_isLost 8 = .ok (.iconst 1, 1) := by decide +kernel
theorem dX0_isLost_9 : decode cX0_isLost 9 = .ok (.iand, 1) := by decide +kernel
theorem dX0_isLost_10 : decode cX0_isLost 10 = .ok (.ifCond .eq 7, 3) := by decide +kernel
theorem dX0_isLost_13 : decode cX0_isLost 13 = .ok (.iconst 1, 1) := by decide +kernel
theorem dX0_isLost_14 : decode cX0_isLost 14 = .ok (.goto 4, 3) := by decide +kernel
theorem dX0_isLost_17 : decode cX0_isLost 17 = .ok (.iconst 0, 1) := by decide +kernel
theorem dX0_isLost_18 : decode cX0_isLost 18 = .ok (.ireturn, 1) := by decide +kernel
theorem dX0_isCut_0 : decode cX0_isCut 0 = .ok (.aload_n 0, 1) := by decide +kernel
theorem dX0_isCut_1 : decode cX0_isCut 1 = .ok (.getfield 15, 3) := by decide +kernel
theorem dX0_isCut_4 : decode cX0_isCut 4 = .ok (.iload_n 2, 1) := by decide +kernel
theorem dX0_isCut_5 : decode cX0_isCut 5 = .ok (.iaload, 1) := by decide +kernel
theorem dX0_isCut_6 : decode cX0_isCut 6 = .ok (.bipush 8, 2) := by decide +kernel
theorem dX0_isCut_8 : decode cX0_isCut 8 = .ok (.iload_n 1, 1) := by decide +kernel
theorem dX0_isCut_9 : decode cX0_isCut 9 = .ok (.iadd, 1) := by decide +kernel
theorem dX0_isCut_10 : decode cX0_isCut 10 = .ok (.iushr, 1) := by decide +kernel
theorem dX0_isCut_11 : decode cX0_isCut 11 = .ok (.iconst 1, 1) := by decide +kernel
theorem dX0_isCut_12 : decode cX0_isCut 12 = .ok (.iand, 1) := by decide +kernel
theorem dX0_isCut_13 : decode cX0_isCut 13 = .ok (.ifCond .eq 7, 3) := by decide +kernel
theorem dX0_isCut_16 : decode cX0_isCut 16 = .ok (.iconst 1, 1) := by decide +kernel
theorem dX0_isCut_17 : decode cX0_isCut 17 = .ok (.goto 4, 3) := by decide +kernel
theorem dX0_isCut_20 : decode cX0_isCut 20 = .ok (.iconst 0, 1) := by decide +kernel
theorem dX0_isCut_21 : decode cX0_isCut 21 = .ok (.ireturn, 1) := by decide +kernel
theorem dX0_isDown_0 : decode cX0_isDown 0 = .ok (.aload_n 0, 1) := by decide +kernel
theorem dX0_isDown_1 : decode cX0_isDown 1 = .ok (.getfield 15, 3) := by decide +kernel
theorem dX0_isDown_4 : decode cX0_isDown 4 = .ok (.iload_n 2, 1) := by decide +kernel
theorem dX0_isDown_5 : decode cX0_isDown 5 = .ok (.iaload, 1) := by decide +kernel
theorem dX0_isDown_6 : decode cX0_isDown 6 = .ok (.bipush 16, 2) := by decide +kernel
theorem dX0_isDown_8 : decode cX0_isDown 8 = .ok (.iload_n 1, 1) := by decide +kernel
theorem dX0_isDown_9 : decode cX0_isDown 9 = .ok (.iadd, 1) := by decide +kernel
theorem dX0_isDown_10 : decode cX0_isDown 10 = .ok (.iushr, 1) := by decide +kernel
theorem dX0_isDown_11 : decode cX0_isDown 11 = .ok (.iconst 1, 1) := by decide +kernel
theorem dX0_isDown_12 : decode cX0_isDown 12 = .ok (.iand, 1) := by decide +kernel
theorem dX0_isDown_13 : decode cX0_isDown 13 = .ok (.ifCond .eq 7, 3) := by decide +kernel
theorem dX0_isDown_16 : decode cX0_isDown 16 = .ok (.iconst 1, 1) := by decide +kernel
theorem dX0_isDown_17 : decode cX0_isDown 17 = .ok (.goto 4, 3) := by decide +kernel
theorem dX0_isDown_20 : decode cX0_isDown 20 = .ok (.iconst 0, 1) := by decide +kernel
theorem dX0_isDown_21 : decode cX0_isDown 21 = .ok (.ireturn, 1) := by decide +kernel
theorem dX0_isWrong_0 : decode cX0_isWrong 0 = .ok (.aload_n 0, 1) := by decide +kernel
theorem dX0_isWrong_1 : decode cX0_isWrong 1 = .ok (.getfield 19, 3) := by decide +kernel
theorem dX0_isWrong_4 : decode cX0_isWrong 4 = .ok (.iconst 2, 1) := by decide +kernel
theorem dX0_isWrong_5 : decode cX0_isWrong 5 = .ok (.iload_n 2, 1) := by decide +kernel
theorem dX0_isWrong_6 : decode cX0_isWrong 6 = .ok (.imul, 1) := by decide +kernel
theorem dX0_isWrong_7 : decode cX0_isWrong 7 = .ok (.iload_n 1, 1) := by decide +kernel
theorem dX0_isWrong_8 : decode cX0_isWrong 8 = .ok (.bipush 36, 2) := by decide +kernel
theorem dX0_isWrong_10 : decode cX0_isWrong 10 = .ok (.idiv, 1) := by decide +kernel
theorem dX0_isWrong_11 : decode cX0_isWrong 11 = .ok (.iadd, 1) := by decide +kernel
theorem dX0_isWrong_12 : decode cX0_isWrong 12 = .ok (.laload, 1) := by decide +kernel
theorem dX0_isWrong_13 : decode cX0_isWrong 13 = .ok (.iload_n 1, 1) := by decide +kernel
theorem dX0_isWrong_14 : decode cX0_isWrong 14 = .ok (.bipush 36, 2) := by decide +kernel
theorem dX0_isWrong_16 : decode cX0_isWrong 16 = .ok (.irem, 1) := by decide +kernel
theorem dX0_isWrong_17 : decode cX0_isWrong 17 = .ok (.lushr, 1) := by decide +kernel
theorem dX0_isWrong_18 : decode cX0_isWrong 18 = .ok (.lconst 1, 1) := by decide +kernel
theorem dX0_isWrong_19 : decode cX0_isWrong 19 = .ok (.land, 1) := by decide +kernel
theorem dX0_isWrong_20 : decode cX0_isWrong 20 = .ok (.lconst 0, 1) := by decide +kernel
theorem dX0_isWrong_21 : decode cX0_isWrong 21 = .ok (.lcmp, 1) := by decide +kernel
theorem dX0_isWrong_22 : decode cX0_isWrong 22 = .ok (.ifCond .eq 7, 3) := by decide +kernel
theorem dX0_isWrong_25 : decode cX0_isWrong 25 = .ok (.iconst 1, 1) := by decide +kernel
theorem dX0_isWrong_26 : decode cX0_isWrong 26 = .ok (.goto 4, 3) := by decide +kernel
theorem dX0_isWrong_29 : decode cX0_isWrong 29 = .ok (.iconst 0, 1) := by decide +kernel
theorem dX0_isWrong_30 : decode cX0_isWrong 30 = .ok (.ireturn, 1) := by decide +kernel
theorem dX1_init_0 : decode cX1_init 0 = .ok (.aload_n 0, 1) := by decide +kernel
theorem dX1_init_1 : decode cX1_init 1 = .ok (.invokespecial 3, 3) := by decide +kernel
theorem dX1_init_4 : decode cX1_init 4 = .ok (.aload_n 0, 1) := by decide +kernel
theorem dX1_init_5 : decode cX1_init 5 = .ok (.bipush 8, 2) := by decide +kernel
theorem dX1_init_7 : decode cX1_init 7 = .ok (.anewarray 9, 3) := by decide +kernel
theorem dX1_init_10 : decode cX1_init 10 = .ok (.putfield 11, 3) := by decide +kernel
theorem dX1_init_13 : decode cX1_init 13 = .ok (.aload_n 0, 1) := by decide +kernel
theorem dX1_init_14 : decode cX1_init 14 = .ok (.bipush 6, 2) := by decide +kernel
theorem dX1_init_16 : decode cX1_init 16 = .ok (.newarray .int, 2) := by decide +kernel
theorem dX1_init_18 : decode cX1_init 18 = .ok (.putfield 17, 3) := by decide +kernel
theorem dX1_init_21 : decode cX1_init 21 = .ok (.aload_n 0, 1) := by decide +kernel
theorem dX1_init_22 : decode cX1_init 22 = .ok (.bipush 6, 2) := by decide +kernel
theorem dX1_init_24 : decode cX1_init 24 = .ok (.newarray .int, 2) := by decide +kernel
theorem dX1_init_26 : decode cX1_init 26 = .ok (.putfield 21, 3) := by decide +kernel
theorem dX1_init_29 : decode cX1_init 29 = .ok (.aload_n 0, 1) := by decide +kernel
theorem dX1_init_30 : decode cX1_init 30 = .ok (.iconst 2, 1) := by decide +kernel
theorem dX1_init_31 : decode cX1_init 31 = .ok (.putfield 24, 3) := by decide +kernel
theorem dX1_init_34 : decode cX1_init 34 = .ok (.aload_n 0, 1) := by decide +kernel
theorem dX1_init_35 : decode cX1_init 35 = .ok (.iconst 4, 1) := by decide +kernel
theorem dX1_init_36 : decode cX1_init 36 = .ok (.newarray .int, 2) := by decide +kernel
theorem dX1_init_38 : decode cX1_init 38 = .ok (.putfield 28, 3) := by decide +kernel
theorem dX1_init_41 : decode cX1_init 41 = .ok (.aload_n 0, 1) := by decide +kernel
theorem dX1_init_42 : decode cX1_init 42 = .ok (.new 31, 3) := by decide +kernel
theorem dX1_init_45 : decode cX1_init 45 = .ok (.dup, 1) := by decide +kernel
theorem dX1_init_46 : decode cX1_init 46 = .ok (.invokespecial 33, 3) := by decide +kernel
theorem dX1_init_49 : decode cX1_init 49 = .ok (.putfield 34, 3) := by decide +kernel
theorem dX1_init_52 : decode cX1_init 52 = .ok (.aload_n 0, 1) := by decide +kernel
theorem dX1_init_53 : decode cX1_init 53 = .ok (.iconst 2, 1) := by decide +kernel
theorem dX1_init_54 : decode cX1_init 54 = .ok (.anewarray 38, 3) := by decide +kernel
theorem dX1_init_57 : decode cX1_init 57 = .ok (.putfield 40, 3) := by decide +kernel
theorem dX1_init_60 : decode cX1_init 60 = .ok (.iconst 0, 1) := by decide +kernel
theorem dX1_init_61 : decode cX1_init 61 = .ok (.istore_n 1, 1) := by decide +kernel
theorem dX1_init_62 : decode cX1_init 62 = .ok (.iload_n 1, 1) := by decide +kernel
theorem dX1_init_63 : decode cX1_init 63 = .ok (.bipush 8, 2) := by decide +kernel
theorem dX1_init_65 : decode cX1_init 65 = .ok (.if_icmp .ge 22, 3) := by decide +kernel
theorem dX1_init_68 : decode cX1_init 68 = .ok (.aload_n 0, 1) := by decide +kernel
theorem dX1_init_69 : decode cX1_init 69 = .ok (.getfield 11, 3) := by decide +kernel
theorem dX1_init_72 : decode cX1_init 72 = .ok (.iload_n 1, 1) := by decide +kernel
theorem dX1_init_73 : decode cX1_init 73 = .ok (.new 9, 3) := by decide +kernel
theorem dX1_init_76 : decode cX1_init 76 = .ok (.dup, 1) := by decide +kernel
theorem dX1_init_77 : decode cX1_init 77 = .ok (.invokespecial 44, 3) := by decide +kernel
theorem dX1_init_80 : decode cX1_init 80 = .ok (.aastore, 1) := by decide +kernel
theorem dX1_init_81 : decode cX1_init 81 = .ok (.iinc 1 1, 3) := by decide +kernel
theorem dX1_init_84 : decode cX1_init 84 = .ok (.goto (-22), 3) := by decide +kernel
theorem dX1_init_87 : decode cX1_init 87 = .ok (.iconst 0, 1) := by decide +kernel
theorem dX1_init_88 : decode cX1_init 88 = .ok (.istore_n 1, 1) := by decide +kernel
theorem dX1_init_89 : decode cX1_init 89 = .ok (.iload_n 1, 1) := by decide +kernel
theorem dX1_init_90 : decode cX1_init 90 = .ok (.iconst 2, 1) := by decide +kernel
theorem dX1_init_91 : decode cX1_init 91 = .ok (.if_icmp .ge 22, 3) := by decide +kernel
theorem dX1_init_94 : decode cX1_init 94 = .ok (.aload_n 0, 1) := by decide +kernel
theorem dX1_init_95 : decode cX1_init 95 = .ok (.getfield 40, 3) := by decide +kernel
theorem dX1_init_98 : decode cX1_init 98 = .ok (.iload_n 1, 1) := by decide +kernel
theorem dX1_init_99 : decode cX1_init 99 = .ok (.new 38, 3) := by decide +kernel
theorem dX1_init_102 : decode cX1_init 102 = .ok (.dup, 1) := by decide +kernel
theorem dX1_init_103 : decode cX1_init 103 = .ok (.invokespecial 45, 3) := by decide +kernel
theorem dX1_init_106 : decode cX1_init 106 = .ok (.aastore, 1) := by decide +kernel
theorem dX1_init_107 : decode cX1_init 107 = .ok (.iinc 1 1, 3) := by decide +kernel
theorem dX1_init_110 : decode cX1_init 110 = .ok (.goto (-21), 3) := by decide +kernel
theorem dX1_init_113 : decode cX1_init 113 = .ok (.return_, 1) := by decide +kernel
theorem dX1_addMachine_0 : decode cX1_addMachine 0 = .ok (.aload_n 0, 1) := by decide +kernel
theorem dX1_addMachine_1 : decode cX1_addMachine 1 = .ok (.getfield 11, 3) := by decide +kernel
theorem dX1_addMachine_4 : decode cX1_addMachine 4 = .ok (.aload_n 0, 1) := by decide +kernel
theorem dX1_addMachine_5 : decode cX1_addMachine 5 = .ok (.getfield 46, 3) := by decide +kernel
theorem dX1_addMachine_8 : decode cX1_addMachine 8 = .ok (.aaload, 1) := by decide +kernel
theorem dX1_addMachine_9 : decode cX1_addMachine 9 = .ok (.astore 4, 2) := by decide +kernel
theorem dX1_addMachine_11 : decode cX1_addMachine 11 = .ok (.aload 4, 2) := by decide +kernel
theorem dX1_addMachine_13 : decode cX1_addMachine 13 = .ok (.iload_n 1, 1) := by decide +kernel
theorem dX1_addMachine_14 : decode cX1_addMachine 14 = .ok (.putfield 49, 3) := by decide +kernel
theorem dX1_addMachine_17 : decode cX1_addMachine 17 = .ok (.aload 4, 2) := by decide +kernel
theorem dX1_addMachine_19 : decode cX1_addMachine 19 = .ok (.iload_n 2, 1) := by decide +kernel
theorem dX1_addMachine_20 : decode cX1_addMachine 20 = .ok (.putfield 52, 3) := by decide +kernel
theorem dX1_addMachine_23 : decode cX1_addMachine 23 = .ok (.aload 4, 2) := by decide +kernel
theorem dX1_addMachine_25 : decode cX1_addMachine 25 = .ok (.iload_n 3, 1) := by decide +kernel
theorem dX1_addMachine_26 : decode cX1_addMachine 26 = .ok (.putfield 55, 3) := by decide +kernel
theorem dX1_addMachine_29 : decode cX1_addMachine 29 = .ok (.aload_n 0, 1) := by decide +kernel
theorem dX1_addMachine_30 : decode cX1_addMachine 30 = .ok (.dup, 1) := by decide +kernel
theorem dX1_addMachine_31 : decode cX1_addMachine 31 = .ok (.getfield 46, 3) := by decide +kernel
theorem dX1_addMachine_34 : decode cX1_addMachine 34 = .ok (.dup_x1, 1) := by decide +kernel
theorem dX1_addMachine_35 : decode cX1_addMachine 35 = .ok (.iconst 1, 1) := by decide +kernel
theorem dX1_addMachine_36 : decode cX1_addMachine 36 = .ok (.iadd, 1) := by decide +kernel
theorem dX1_addMachine_37 : decode cX1_addMachine 37 = .ok (.putfield 46, 3) := by decide +kernel
theorem dX1_addMachine_40 : decode cX1_addMachine 40 = .ok (.ireturn, 1) := by decide +kernel
theorem dX1_addFile_0 : decode cX1_addFile 0 = .ok (.aload_n 0, 1) := by decide +kernel
theorem dX1_addFile_1 : decode cX1_addFile 1 = .ok (.getfield 17, 3) := by decide +kernel
theorem dX1_addFile_4 : decode cX1_addFile 4 = .ok (.aload_n 0, 1) := by decide +kernel
theorem dX1_addFile_5 : decode cX1_addFile 5 = .ok (.getfield 58, 3) := by decide +kernel
theorem dX1_addFile_8 : decode cX1_addFile 8 = .ok (.iload_n 1, 1) := by decide +kernel
theorem dX1_addFile_9 : decode cX1_addFile 9 = .ok (.iastore, 1) := by decide +kernel
theorem dX1_addFile_10 : decode cX1_addFile 10 = .ok (.aload_n 0, 1) := by decide +kernel
theorem dX1_addFile_11 : decode cX1_addFile 11 = .ok (.getfield 21, 3) := by decide +kernel
theorem dX1_addFile_14 : decode cX1_addFile 14 = .ok (.aload_n 0, 1) := by decide +kernel
theorem dX1_addFile_15 : decode cX1_addFile 15 = .ok (.getfield 58, 3) := by decide +kernel
theorem dX1_addFile_18 : decode cX1_addFile 18 = .ok (.iload_n 2, 1) := by decide +kernel
theorem dX1_addFile_19 : decode cX1_addFile 19 = .ok (.iastore, 1) := by decide +kernel
theorem dX1_addFile_20 : decode cX1_addFile 20 = .ok (.aload_n 0, 1) := by decide +kernel
theorem dX1_addFile_21 : decode cX1_addFile 21 = .ok (.dup, 1) := by decide +kernel
theorem dX1_addFile_22 : decode cX1_addFile 22 = .ok (.getfield 58, 3) := by decide +kernel
theorem dX1_addFile_25 : decode cX1_addFile 25 = .ok (.dup_x1, 1) := by decide +kernel
theorem dX1_addFile_26 : decode cX1_addFile 26 = .ok (.iconst 1, 1) := by decide +kernel
theorem dX1_addFile_27 : decode cX1_addFile 27 = .ok (.iadd, 1) := by decide +kernel
theorem dX1_addFile_28 : decode cX1_addFile 28 = .ok (.putfield 58, 3) := by decide +kernel
theorem dX1_addFile_31 : decode cX1_addFile 31 = .ok (.ireturn, 1) := by decide +kernel
theorem dX1_hasBlock_0 : decode cX1_hasBlock 0 = .ok (.iload_n 1, 1) := by decide +kernel
theorem dX1_hasBlock_1 : decode cX1_hasBlock 1 = .ok (.aload_n 0, 1) := by decide +kernel
theorem dX1_hasBlock_2 : decode cX1_hasBlock 2 = .ok (.getfield 58, 3) := by decide +kernel
theorem dX1_hasBlock_5 : decode cX1_hasBlock 5 = .ok (.invokestatic 61, 3) := by decide +kernel
theorem dX1_hasBlock_8 : decode cX1_hasBlock 8 = .ok (.ifCond .eq 20, 3) := by decide +kernel
theorem dX1_hasBlock_11 : decode cX1_hasBlock 11 = .ok (.iload_n 2, 1) := by decide +kernel
theorem dX1_hasBlock_12 : decode cX1_hasBlock 12 = .ok (.aload_n 0, 1) := by decide +kernel
theorem dX1_hasBlock_13 : decode cX1_hasBlock 13 = .ok (.getfield 17, 3) := by decide +kernel
theorem dX1_hasBlock_16 : decode cX1_hasBlock 16 = .ok (.iload_n 1, 1) := by decide +kernel
theorem dX1_hasBlock_17 : decode cX1_hasBlock 17 = .ok (.iaload, 1) := by decide +kernel
theorem dX1_hasBlock_18 : decode cX1_hasBlock 18 = .ok (.invokestatic 61, 3) := by decide +kernel
theorem dX1_hasBlock_21 : decode cX1_hasBlock 21 = .ok (.ifCond .eq 7, 3) := by decide +kernel
theorem dX1_hasBlock_24 : decode cX1_hasBlock 24 = .ok (.iconst 1, 1) := by decide +kernel
theorem dX1_hasBlock_25 : decode cX1_hasBlock 25 = .ok (.goto 4, 3) := by decide +kernel
theorem dX1_hasBlock_28 : decode cX1_hasBlock 28 = .ok (.iconst 0, 1) := by decide +kernel
theorem dX1_hasBlock_29 : decode cX1_hasBlock 29 = .ok (.ireturn, 1) := by decide +kernel
theorem dX1_setWakes_0 : decode cX1_setWakes 0 = .ok (.iconst 0, 1) := by decide +kernel
theorem dX1_setWakes_1 : decode cX1_setWakes 1 = .ok (.istore_n 3, 1) := by decide +kernel
theorem dX1_setWakes_2 : decode cX1_setWakes 2 = .ok (.iload_n 3, 1) := by decide +kernel
theorem dX1_setWakes_3 : decode cX1_setWakes 3 = .ok (.iconst 4, 1) := by decide +kernel
theorem dX1_setWakes_4 : decode cX1_setWakes 4 = .ok (.if_icmp .ge 45, 3) := by decide +kernel
theorem dX1_setWakes_7 : decode cX1_setWakes 7 = .ok (.iload_n 1, 1) := by decide +kernel
theorem dX1_setWakes_8 : decode cX1_setWakes 8 = .ok (.iconst 2, 1) := by decide +kernel
theorem dX1_setWakes_9 : decode cX1_setWakes 9 = .ok (.iconst 3, 1) := by decide +kernel
theorem dX1_setWakes_10 : decode cX1_setWakes 10 = .ok (.iload_n 3, 1) := by decide +kernel
theorem dX1_setWakes_11 : decode cX1_setWakes 11 = .ok (.isub, 1) := by decide +kernel
theorem dX1_setWakes_12 : decode cX1_setWakes 12 = .ok (.imul, 1) := by decide +kernel
theorem dX1_setWakes_13 : decode cX1_setWakes 13 = .ok (.iushr, 1) := by decide +kernel
theorem dX1_setWakes_14 : decode cX1_setWakes 14 = .ok (.iconst 3, 1) := by decide +kernel
theorem dX1_setWakes_15 : decode cX1_setWakes 15 = .ok (.iand, 1) := by decide +kernel
theorem dX1_setWakes_16 : decode cX1_setWakes 16 = .ok (.istore 4, 2) := by decide +kernel
theorem dX1_setWakes_18 : decode cX1_setWakes 18 = .ok (.iload 4, 2) := by decide +kernel
theorem dX1_setWakes_20 : decode cX1_setWakes 20 = .ok (.ifCond .eq 13, 3) := by decide +kernel
theorem dX1_setWakes_23 : decode cX1_setWakes 23 = .ok (.aload_n 0, 1) := by decide +kernel
theorem dX1_setWakes_24 : decode cX1_setWakes 24 = .ok (.iload_n 3, 1) := by decide +kernel
theorem dX1_setWakes_25 : decode cX1_setWakes 25 = .ok (.invokevirtual 65, 3) := by decide +kernel
theorem dX1_setWakes_28 : decode cX1_setWakes 28 = .ok (.ifCond .ne 5, 3) := by decide +kernel
theorem dX1_setWakes_31 : decode cX1_setWakes 31 = .ok (.iconst 0, 1) := by decide +kernel
theorem dX1_setWakes_32 : decode cX1_setWakes 32 = .ok (.ireturn, 1) := by decide +kernel
theorem dX1_setWakes_33 : decode cX1_setWakes 33 = .ok (.aload_n 0, 1) := by decide +kernel
theorem dX1_setWakes_34 : decode cX1_setWakes 34 = .ok (.getfield 28, 3) := by decide +kernel
theorem dX1_setWakes_37 : decode cX1_setWakes 37 = .ok (.iload_n 3, 1) := by decide +kernel
theorem dX1_setWakes_38 : decode cX1_setWakes 38 = .ok (.iload 4, 2) := by decide +kernel
theorem dX1_setWakes_40 : decode cX1_setWakes 40 = .ok (.iload_n 2, 1) := by decide +kernel
theorem dX1_setWakes_41 : decode cX1_setWakes 41 = .ok (.imul, 1) := by decide +kernel
theorem dX1_setWakes_42 : decode cX1_setWakes 42 = .ok (.iastore, 1) := by decide +kernel
theorem dX1_setWakes_43 : decode cX1_setWakes 43 = .ok (.iinc 3 1, 3) := by decide +kernel
theorem dX1_setWakes_46 : decode cX1_setWakes 46 = .ok (.goto (-44), 3) := by decide +kernel
theorem dX1_setWakes_49 : decode cX1_setWakes 49 = .ok (.iconst 1, 1) := by decide +kernel
theorem dX1_setWakes_50 : decode cX1_setWakes 50 = .ok (.ireturn, 1) := by decide +kernel
theorem dX1_hasKind_0 : decode cX1_hasKind 0 = .ok (.iconst 0, 1) := by decide +kernel
theorem dX1_hasKind_1 : decode cX1_hasKind 1 = .ok (.istore_n 2, 1) := by decide +kernel
theorem dX1_hasKind_2 : decode cX1_hasKind 2 = .ok (.iload_n 2, 1) := by decide +kernel
theorem dX1_hasKind_3 : decode cX1_hasKind 3 = .ok (.aload_n 0, 1) := by decide +kernel
theorem dX1_hasKind_4 : decode cX1_hasKind 4 = .ok (.getfield 46, 3) := by decide +kernel
theorem dX1_hasKind_7 : decode cX1_hasKind 7 = .ok (.if_icmp .ge 24, 3) := by decide +kernel
theorem dX1_hasKind_10 : decode cX1_hasKind 10 = .ok (.aload_n 0, 1) := by decide +kernel
theorem dX1_hasKind_11 : decode cX1_hasKind 11 = .ok (.getfield 11, 3) := by decide +kernel
theorem dX1_hasKind_14 : decode cX1_hasKind 14 = .ok (.iload_n 2, 1) := by decide +kernel
theorem dX1_hasKind_15 : decode cX1_hasKind 15 = .ok (.aaload, 1) := by decide +kernel
theorem dX1_hasKind_16 : decode cX1_hasKind 16 = .ok (.getfield 49, 3) := by decide +kernel
theorem dX1_hasKind_19 : decode cX1_hasKind 19 = .ok (.iload_n 1, 1) := by decide +kernel
theorem dX1_hasKind_20 : decode cX1_hasKind 20 = .ok (.if_icmp .ne 5, 3) := by decide +kernel
theorem dX1_hasKind_23 : decode cX1_hasKind 23 = .ok (.iconst 1, 1) := by decide +kernel
theorem dX1_hasKind_24 : decode cX1_hasKind 24 = .ok (.ireturn, 1) := by decide +kernel
theorem dX1_hasKind_25 : decode cX1_hasKind 25 = .ok (.iinc 2 1, 3) := by decide +kernel
theorem dX1_hasKind_28 : decode cX1_hasKind 28 = .ok (.goto (-26), 3) := by decide +kernel
theorem dX1_hasKind_31 : decode cX1_hasKind 31 = .ok (.iconst 0, 1) := by decide +kernel
theorem dX1_hasKind_32 : decode cX1_hasKind 32 = .ok (.ireturn, 1) := by decide +kernel
theorem dX1_mustWait_0 : decode cX1_mustWait 0 = .ok (.iconst 0, 1) := by decide +kernel
theorem dX1_mustWait_1 : decode cX1_mustWait 1 = .ok (.istore_n 3, 1) := by decide +kernel
theorem dX1_mustWait_2 : decode cX1_mustWait 2 = .ok (.iload_n 3, 1) := by decide +kernel
theorem dX1_mustWait_3 : decode cX1_mustWait 3 = .ok (.aload_n 0, 1) := by decide +kernel
theorem dX1_mustWait_4 : decode cX1_mustWait 4 = .ok (.getfield 46, 3) := by decide +kernel
theorem dX1_mustWait_7 : decode cX1_mustWait 7 = .ok (.if_icmp .ge 45, 3) := by decide +kernel
theorem dX1_mustWait_10 : decode cX1_mustWait 10 = .ok (.aload_n 0, 1) := by decide +kernel
theorem dX1_mustWait_11 : decode cX1_mustWait 11 = .ok (.getfield 11, 3) := by decide +kernel
theorem dX1_mustWait_14 : decode cX1_mustWait 14 = .ok (.iload_n 3, 1) := by decide +kernel
theorem dX1_mustWait_15 : decode cX1_mustWait 15 = .ok (.aaload, 1) := by decide +kernel
theorem dX1_mustWait_16 : decode cX1_mustWait 16 = .ok (.astore 4, 2) := by decide +kernel
theorem dX1_mustWait_18 : decode cX1_mustWait 18 = .ok (.iload_n 3, 1) := by decide +kernel
theorem dX1_mustWait_19 : decode cX1_mustWait 19 = .ok (.iload_n 1, 1) := by decide +kernel
theorem dX1_mustWait_20 : decode cX1_mustWait 20 = .ok (.if_icmp .eq 26, 3) := by decide +kernel
theorem dX1_mustWait_23 : decode cX1_mustWait 23 = .ok (.iload_n 2, 1) := by decide +kernel
theorem dX1_mustWait_24 : decode cX1_mustWait 24 = .ok (.aload 4, 2) := by decide +kernel
theorem dX1_mustWait_26 : decode cX1_mustWait 26 = .ok (.getfield 49, 3) := by decide +kernel
theorem dX1_mustWait_29 : decode cX1_mustWait 29 = .ok (.iushr, 1) := by decide +kernel
theorem dX1_mustWait_30 : decode cX1_mustWait 30 = .ok (.iconst 1, 1) := by decide +kernel
theorem dX1_mustWait_31 : decode cX1_mustWait 31 = .ok (.iand, 1) := by decide +kernel
theorem dX1_mustWait_32 : decode cX1_mustWait 32 = .ok (.ifCond .eq 14, 3) := by decide +kernel
theorem dX1_mustWait_35 : decode cX1_mustWait 35 = .ok (.aload 4, 2) := by decide +kernel
theorem dX1_mustWait_37 : decode cX1_mustWait 37 = .ok (.getfield 69, 3) := by decide +kernel
theorem dX1_mustWait_40 : decode cX1_mustWait 40 = .ok (.iconst 4, 1) := by decide +kernel
theorem dX1_mustWait_41 : decode cX1_mustWait 41 = .ok (.if_icmp .eq 5, 3) := by decide +kernel
theorem dX1_mustWait_44 : decode cX1_mustWait 44 = .ok (.iconst 1, 1) := by decide +kernel
theorem dX1_mustWait_45 : decode cX1_mustWait 45 = .ok (.ireturn, 1) := by decide +kernel
theorem dX1_mustWait_46 : decode cX1_mustWait 46 = .ok (.iinc 3 1, 3) := by decide +kernel
theorem dX1_mustWait_49 : decode cX1_mustWait 49 = .ok (.goto (-47), 3) := by decide +kernel
theorem dX1_mustWait_52 : decode cX1_mustWait 52 = .ok (.iconst 0, 1) := by decide +kernel
theorem dX1_mustWait_53 : decode cX1_mustWait 53 = .ok (.ireturn, 1) := by decide +kernel
theorem dX2_init_0 : decode cX2_init 0 = .ok (.aload_n 0, 1) := by decide +kernel
theorem dX2_init_1 : decode cX2_init 1 = .ok (.invokespecial 3, 3) := by decide +kernel
theorem dX2_init_4 : decode cX2_init 4 = .ok (.return_, 1) := by decide +kernel
theorem dX2_reset_0 : decode cX2_reset 0 = .ok (.aload_n 0, 1) := by decide +kernel
theorem dX2_reset_1 : decode cX2_reset 1 = .ok (.iconst 0, 1) := by decide +kernel
theorem dX2_reset_2 : decode cX2_reset 2 = .ok (.putfield 9, 3) := by decide +kernel
theorem dX2_reset_5 : decode cX2_reset 5 = .ok (.aload_n 0, 1) := by decide +kernel
theorem dX2_reset_6 : decode cX2_reset 6 = .ok (.iconst (-1), 1) := by decide +kernel
theorem dX2_reset_7 : decode cX2_reset 7 = .ok (.putfield 15, 3) := by decide +kernel
theorem dX2_reset_10 : decode cX2_reset 10 = .ok (.aload_n 0, 1) := by decide +kernel
theorem dX2_reset_11 : decode cX2_reset 11 = .ok (.iconst 0, 1) := by decide +kernel
theorem dX2_reset_12 : decode cX2_reset 12 = .ok (.putfield 18, 3) := by decide +kernel
theorem dX2_reset_15 : decode cX2_reset 15 = .ok (.aload_n 0, 1) := by decide +kernel
theorem dX2_reset_16 : decode cX2_reset 16 = .ok (.iconst 0, 1) := by decide +kernel
theorem dX2_reset_17 : decode cX2_reset 17 = .ok (.invokevirtual 21, 3) := by decide +kernel
theorem dX2_reset_20 : decode cX2_reset 20 = .ok (.aload_n 0, 1) := by decide +kernel
theorem dX2_reset_21 : decode cX2_reset 21 = .ok (.invokevirtual 25, 3) := by decide +kernel
theorem dX2_reset_24 : decode cX2_reset 24 = .ok (.return_, 1) := by decide +kernel
theorem dX2_losePower_0 : decode cX2_losePower 0 = .ok (.aload_n 0, 1) := by decide +kernel
theorem dX2_losePower_1 : decode cX2_losePower 1 = .ok (.iconst 0, 1) := by decide +kernel
theorem dX2_losePower_2 : decode cX2_losePower 2 = .ok (.invokevirtual 21, 3) := by decide +kernel
theorem dX2_losePower_5 : decode cX2_losePower 5 = .ok (.aload_n 0, 1) := by decide +kernel
theorem dX2_losePower_6 : decode cX2_losePower 6 = .ok (.invokevirtual 25, 3) := by decide +kernel
theorem dX2_losePower_9 : decode cX2_losePower 9 = .ok (.aload_n 0, 1) := by decide +kernel
theorem dX2_losePower_10 : decode cX2_losePower 10 = .ok (.iload_n 1, 1) := by decide +kernel
theorem dX2_losePower_11 : decode cX2_losePower 11 = .ok (.iconst 3, 1) := by decide +kernel
theorem dX2_losePower_12 : decode cX2_losePower 12 = .ok (.iadd, 1) := by decide +kernel
theorem dX2_losePower_13 : decode cX2_losePower 13 = .ok (.putfield 18, 3) := by decide +kernel
theorem dX2_losePower_16 : decode cX2_losePower 16 = .ok (.return_, 1) := by decide +kernel
theorem dX2_begin_0 : decode cX2_begin 0 = .ok (.aload_n 0, 1) := by decide +kernel
theorem dX2_begin_1 : decode cX2_begin 1 = .ok (.iconst 1, 1) := by decide +kernel
theorem dX2_begin_2 : decode cX2_begin 2 = .ok (.invokevirtual 21, 3) := by decide +kernel
theorem dX2_begin_5 : decode cX2_begin 5 = .ok (.aload_n 0, 1) := by decide +kernel
theorem dX2_begin_6 : decode cX2_begin 6 = .ok (.invokevirtual 25, 3) := by decide +kernel
theorem dX2_begin_9 : decode cX2_begin 9 = .ok (.aload_n 0, 1) := by decide +kernel
theorem dX2_begin_10 : decode cX2_begin 10 = .ok (.dup, 1) := by decide +kernel
theorem dX2_begin_11 : decode cX2_begin 11 = .ok (.getfield 9, 3) := by decide +kernel
theorem dX2_begin_14 : decode cX2_begin 14 = .ok (.iconst 1, 1) := by decide +kernel
theorem dX2_begin_15 : decode cX2_begin 15 = .ok (.iadd, 1) := by decide +kernel
theorem dX2_begin_16 : decode cX2_begin 16 = .ok (.putfield 9, 3) := by decide +kernel
theorem dX2_begin_19 : decode cX2_begin 19 = .ok (.aload_n 0, 1) := by decide +kernel
theorem dX2_begin_20 : decode cX2_begin 20 = .ok (.iload_n 1, 1) := by decide +kernel
theorem dX2_begin_21 : decode cX2_begin 21 = .ok (.putfield 28, 3) := by decide +kernel
theorem dX2_begin_24 : decode cX2_begin 24 = .ok (.return_, 1) := by decide +kernel
theorem dX2_failToAsk_0 : decode cX2_failToAsk 0 = .ok (.aload_n 0, 1) := by decide +kernel
theorem dX2_failToAsk_1 : decode cX2_failToAsk 1 = .ok (.dup, 1) := by decide +kernel
theorem dX2_failToAsk_2 : decode cX2_failToAsk 2 = .ok (.getfield 31, 3) := by decide +kernel
theorem dX2_failToAsk_5 : decode cX2_failToAsk 5 = .ok (.iconst 1, 1) := by decide +kernel
theorem dX2_failToAsk_6 : decode cX2_failToAsk 6 = .ok (.iadd, 1) := by decide +kernel
theorem dX2_failToAsk_7 : decode cX2_failToAsk 7 = .ok (.putfield 31, 3) := by decide +kernel
theorem dX2_failToAsk_10 : decode cX2_failToAsk 10 = .ok (.aload_n 0, 1) := by decide +kernel
theorem dX2_failToAsk_11 : decode cX2_failToAsk 11 = .ok (.getfield 31, 3) := by decide +kernel
theorem dX2_failToAsk_14 : decode cX2_failToAsk 14 = .ok (.iconst 5, 1) := by decide +kernel
theorem dX2_failToAsk_15 : decode cX2_failToAsk 15 = .ok (.if_icmp .lt 11, 3) := by decide +kernel
theorem dX2_failToAsk_18 : decode cX2_failToAsk 18 = .ok (.aload_n 0, 1) := by decide +kernel
theorem dX2_failToAsk_19 : decode cX2_failToAsk 19 = .ok (.iload_n 1, 1) := by decide +kernel
theorem dX2_failToAsk_20 : decode cX2_failToAsk 20 = .ok (.invokevirtual 34, 3) := by decide +kernel
theorem dX2_failToAsk_23 : decode cX2_failToAsk 23 = .ok (.goto 15, 3) := by decide +kernel
theorem dX2_failToAsk_26 : decode cX2_failToAsk 26 = .ok (.aload_n 0, 1) := by decide +kernel
theorem dX2_failToAsk_27 : decode cX2_failToAsk 27 = .ok (.iload_n 2, 1) := by decide +kernel
theorem dX2_failToAsk_28 : decode cX2_failToAsk 28 = .ok (.iconst 1, 1) := by decide +kernel
theorem dX2_failToAsk_29 : decode cX2_failToAsk 29 = .ok (.aload_n 0, 1) := by decide +kernel
theorem dX2_failToAsk_30 : decode cX2_failToAsk 30 = .ok (.getfield 31, 3) := by decide +kernel
theorem dX2_failToAsk_33 : decode cX2_failToAsk 33 = .ok (.ishl, 1) := by decide +kernel
theorem dX2_failToAsk_34 : decode cX2_failToAsk 34 = .ok (.iadd, 1) := by decide +kernel
theorem dX2_failToAsk_35 : decode cX2_failToAsk 35 = .ok (.putfield 28, 3) := by decide +kernel
theorem dX2_failToAsk_38 : decode cX2_failToAsk 38 = .ok (.return_, 1) := by decide +kernel
theorem dX2_fetch_0 : decode cX2_fetch 0 = .ok (.aload_n 0, 1) := by decide +kernel
theorem dX2_fetch_1 : decode cX2_fetch 1 = .ok (.iconst 2, 1) := by decide +kernel
theorem dX2_fetch_2 : decode cX2_fetch 2 = .ok (.invokevirtual 21, 3) := by decide +kernel
theorem dX2_fetch_5 : decode cX2_fetch 5 = .ok (.aload_n 0, 1) := by decide +kernel
theorem dX2_fetch_6 : decode cX2_fetch 6 = .ok (.iload_n 1, 1) := by decide +kernel
theorem dX2_fetch_7 : decode cX2_fetch 7 = .ok (.putfield 37, 3) := by decide +kernel
theorem dX2_fetch_10 : decode cX2_fetch 10 = .ok (.aload_n 0, 1) := by decide +kernel
theorem dX2_fetch_11 : decode cX2_fetch 11 = .ok (.iconst 0, 1) := by decide +kernel
theorem dX2_fetch_12 : decode cX2_fetch 12 = .ok (.putfield 40, 3) := by decide +kernel
theorem dX2_fetch_15 : decode cX2_fetch 15 = .ok (.aload_n 0, 1) := by decide +kernel
theorem dX2_fetch_16 : decode cX2_fetch 16 = .ok (.iload_n 2, 1) := by decide +kernel
theorem dX2_fetch_17 : decode cX2_fetch 17 = .ok (.putfield 43, 3) := by decide +kernel
theorem dX2_fetch_20 : decode cX2_fetch 20 = .ok (.aload_n 0, 1) := by decide +kernel
theorem dX2_fetch_21 : decode cX2_fetch 21 = .ok (.iload_n 3, 1) := by decide +kernel
theorem dX2_fetch_22 : decode cX2_fetch 22 = .ok (.putfield 46, 3) := by decide +kernel
theorem dX2_fetch_25 : decode cX2_fetch 25 = .ok (.return_, 1) := by decide +kernel
theorem dX2_getNone_0 : decode cX2_getNone 0 = .ok (.aload_n 0, 1) := by decide +kernel
theorem dX2_getNone_1 : decode cX2_getNone 1 = .ok (.dup, 1) := by decide +kernel
theorem dX2_getNone_2 : decode cX2_getNone 2 = .ok (.getfield 49, 3) := by decide +kernel
theorem dX2_getNone_5 : decode cX2_getNone 5 = .ok (.iconst 1, 1) := by decide +kernel
theorem dX2_getNone_6 : decode cX2_getNone 6 = .ok (.iadd, 1) := by decide +kernel
theorem dX2_getNone_7 : decode cX2_getNone 7 = .ok (.putfield 49, 3) := by decide +kernel
theorem dX2_getNone_10 : decode cX2_getNone 10 = .ok (.aload_n 0, 1) := by decide +kernel
theorem dX2_getNone_11 : decode cX2_getNone 11 = .ok (.getfield 49, 3) := by decide +kernel
theorem dX2_getNone_14 : decode cX2_getNone 14 = .ok (.bipush 12, 2) := by decide +kernel
theorem dX2_getNone_16 : decode cX2_getNone 16 = .ok (.if_icmp .lt 8, 3) := by decide +kernel
theorem dX2_getNone_19 : decode cX2_getNone 19 = .ok (.aload_n 0, 1) := by decide +kernel
theorem dX2_getNone_20 : decode cX2_getNone 20 = .ok (.iconst 4, 1) := by decide +kernel
theorem dX2_getNone_21 : decode cX2_getNone 21 = .ok (.invokevirtual 34, 3) := by decide +kernel
theorem dX2_getNone_24 : decode cX2_getNone 24 = .ok (.return_, 1) := by decide +kernel
theorem dX2_getWrong_0 : decode cX2_getWrong 0 = .ok (.aload_n 0, 1) := by decide +kernel
theorem dX2_getWrong_1 : decode cX2_getWrong 1 = .ok (.dup, 1) := by decide +kernel
theorem dX2_getWrong_2 : decode cX2_getWrong 2 = .ok (.getfield 52, 3) := by decide +kernel
theorem dX2_getWrong_5 : decode cX2_getWrong 5 = .ok (.iconst 1, 1) := by decide +kernel
theorem dX2_getWrong_6 : decode cX2_getWrong 6 = .ok (.iadd, 1) := by decide +kernel
theorem dX2_getWrong_7 : decode cX2_getWrong 7 = .ok (.putfield 52, 3) := by decide +kernel
theorem dX2_getWrong_10 : decode cX2_getWrong 10 = .ok (.aload_n 0, 1) := by decide +kernel
theorem dX2_getWrong_11 : decode cX2_getWrong 11 = .ok (.getfield 52, 3) := by decide +kernel
theorem dX2_getWrong_14 : decode cX2_getWrong 14 = .ok (.iconst 4, 1) := by decide +kernel
theorem dX2_getWrong_15 : decode cX2_getWrong 15 = .ok (.if_icmp .lt 8, 3) := by decide +kernel
theorem dX2_getWrong_18 : decode cX2_getWrong 18 = .ok (.aload_n 0, 1) := by decide +kernel
theorem dX2_getWrong_19 : decode cX2_getWrong 19 = .ok (.iconst 3, 1) := by decide +kernel
theorem dX2_getWrong_20 : decode cX2_getWrong 20 = .ok (.invokevirtual 34, 3) := by decide +kernel
theorem dX2_getWrong_23 : decode cX2_getWrong 23 = .ok (.return_, 1) := by decide +kernel
theorem dX2_install_0 : decode cX2_install 0 = .ok (.aload_n 0, 1) := by decide +kernel
theorem dX2_install_1 : decode cX2_install 1 = .ok (.iconst 3, 1) := by decide +kernel
theorem dX2_install_2 : decode cX2_install 2 = .ok (.putfield 55, 3) := by decide +kernel
theorem dX2_install_5 : decode cX2_install 5 = .ok (.aload_n 0, 1) := by decide +kernel
theorem dX2_install_6 : decode cX2_install 6 = .ok (.iconst 0, 1) := by decide +kernel
theorem dX2_install_7 : decode cX2_install 7 = .ok (.putfield 40, 3) := by decide +kernel
theorem dX2_install_10 : decode cX2_install 10 = .ok (.aload_n 0, 1) := by decide +kernel
theorem dX2_install_11 : decode cX2_install 11 = .ok (.iload_n 1, 1) := by decide +kernel
theorem dX2_install_12 : decode cX2_install 12 = .ok (.putfield 46, 3) := by decide +kernel
theorem dX2_install_15 : decode cX2_install 15 = .ok (.return_, 1) := by decide +kernel
theorem dX2_write_0 : decode cX2_write 0 = .ok (.aload_n 0, 1) := by decide +kernel
theorem dX2_write_1 : decode cX2_write 1 = .ok (.getfield 40, 3) := by decide +kernel
theorem dX2_write_4 : decode cX2_write 4 = .ok (.iload_n 1, 1) := by decide +kernel
theorem dX2_write_5 : decode cX2_write 5 = .ok (.if_icmp .ge 16, 3) := by decide +kernel
theorem dX2_write_8 : decode cX2_write 8 = .ok (.aload_n 0, 1) := by decide +kernel
theorem dX2_write_9 : decode cX2_write 9 = .ok (.dup, 1) := by decide +kernel
theorem dX2_write_10 : decode cX2_write 10 = .ok (.getfield 40, 3) := by decide +kernel
theorem dX2_write_13 : decode cX2_write 13 = .ok (.iconst 1, 1) := by decide +kernel
theorem dX2_write_14 : decode cX2_write 14 = .ok (.iadd, 1) := by decide +kernel
theorem dX2_write_15 : decode cX2_write 15 = .ok (.putfield 40, 3) := by decide +kernel
theorem dX2_write_18 : decode cX2_write 18 = .ok (.goto 16, 3) := by decide +kernel
theorem dX2_write_21 : decode cX2_write 21 = .ok (.aload_n 0, 1) := by decide +kernel
theorem dX2_write_22 : decode cX2_write 22 = .ok (.aload_n 0, 1) := by decide +kernel
theorem dX2_write_23 : decode cX2_write 23 = .ok (.getfield 37, 3) := by decide +kernel
theorem dX2_write_26 : decode cX2_write 26 = .ok (.putfield 15, 3) := by decide +kernel
theorem dX2_write_29 : decode cX2_write 29 = .ok (.aload_n 0, 1) := by decide +kernel
theorem dX2_write_30 : decode cX2_write 30 = .ok (.iconst 4, 1) := by decide +kernel
theorem dX2_write_31 : decode cX2_write 31 = .ok (.invokevirtual 21, 3) := by decide +kernel
theorem dX2_write_34 : decode cX2_write 34 = .ok (.return_, 1) := by decide +kernel
theorem dX2_enterRescue_0 : decode cX2_enterRescue 0 = .ok (.aload_n 0, 1) := by decide +kernel
theorem dX2_enterRescue_1 : decode cX2_enterRescue 1 = .ok (.iconst 5, 1) := by decide +kernel
theorem dX2_enterRescue_2 : decode cX2_enterRescue 2 = .ok (.invokevirtual 21, 3) := by decide +kernel
theorem dX2_enterRescue_5 : decode cX2_enterRescue 5 = .ok (.aload_n 0, 1) := by decide +kernel
theorem dX2_enterRescue_6 : decode cX2_enterRescue 6 = .ok (.iload_n 1, 1) := by decide +kernel
theorem dX2_enterRescue_7 : decode cX2_enterRescue 7 = .ok (.putfield 58, 3) := by decide +kernel
theorem dX2_enterRescue_10 : decode cX2_enterRescue 10 = .ok (.return_, 1) := by decide +kernel
theorem dX2_isSettled_0 : decode cX2_isSettled 0 = .ok (.aload_n 0, 1) := by decide +kernel
theorem dX2_isSettled_1 : decode cX2_isSettled 1 = .ok (.getfield 55, 3) := by decide +kernel
theorem dX2_isSettled_4 : decode cX2_isSettled 4 = .ok (.iconst 4, 1) := by decide +kernel
theorem dX2_isSettled_5 : decode cX2_isSettled 5 = .ok (.if_icmp .eq 11, 3) := by decide +kernel
theorem dX2_isSettled_8 : decode cX2_isSettled 8 = .ok (.aload_n 0, 1) := by decide +kernel
theorem dX2_isSettled_9 : decode cX2_isSettled 9 = .ok (.getfield 55, 3) := by decide +kernel
theorem dX2_isSettled_12 : decode cX2_isSettled 12 = .ok (.iconst 5, 1) := by decide +kernel
theorem dX2_isSettled_13 : decode cX2_isSettled 13 = .ok (.if_icmp .ne 7, 3) := by decide +kernel
theorem dX2_isSettled_16 : decode cX2_isSettled 16 = .ok (.iconst 1, 1) := by decide +kernel
theorem dX2_isSettled_17 : decode cX2_isSettled 17 = .ok (.goto 4, 3) := by decide +kernel
theorem dX2_isSettled_20 : decode cX2_isSettled 20 = .ok (.iconst 0, 1) := by decide +kernel
theorem dX2_isSettled_21 : decode cX2_isSettled 21 = .ok (.ireturn, 1) := by decide +kernel
theorem dX2_snapshot_0 : decode cX2_snapshot 0 = .ok (.aload_n 0, 1) := by decide +kernel
theorem dX2_snapshot_1 : decode cX2_snapshot 1 = .ok (.getfield 55, 3) := by decide +kernel
theorem dX2_snapshot_4 : decode cX2_snapshot 4 = .ok (.iconst 1, 1) := by decide +kernel
theorem dX2_snapshot_5 : decode cX2_snapshot 5 = .ok (.iadd, 1) := by decide +kernel
theorem dX2_snapshot_6 : decode cX2_snapshot 6 = .ok (.aload_n 0, 1) := by decide +kernel
theorem dX2_snapshot_7 : decode cX2_snapshot 7 = .ok (.getfield 37, 3) := by decide +kernel
theorem dX2_snapshot_10 : decode cX2_snapshot 10 = .ok (.iconst 1, 1) := by decide +kernel
theorem dX2_snapshot_11 : decode cX2_snapshot 11 = .ok (.iadd, 1) := by decide +kernel
theorem dX2_snapshot_12 : decode cX2_snapshot 12 = .ok (.iconst 4, 1) := by decide +kernel
theorem dX2_snapshot_13 : decode cX2_snapshot 13 = .ok (.ishl, 1) := by decide +kernel
theorem dX2_snapshot_14 : decode cX2_snapshot 14 = .ok (.ior, 1) := by decide +kernel
theorem dX2_snapshot_15 : decode cX2_snapshot 15 = .ok (.aload_n 0, 1) := by decide +kernel
theorem dX2_snapshot_16 : decode cX2_snapshot 16 = .ok (.getfield 40, 3) := by decide +kernel
theorem dX2_snapshot_19 : decode cX2_snapshot 19 = .ok (.iconst 1, 1) := by decide +kernel
theorem dX2_snapshot_20 : decode cX2_snapshot 20 = .ok (.iadd, 1) := by decide +kernel
theorem dX2_snapshot_21 : decode cX2_snapshot 21 = .ok (.bipush 8, 2) := by decide +kernel
theorem dX2_snapshot_23 : decode cX2_snapshot 23 = .ok (.ishl, 1) := by decide +kernel
theorem dX2_snapshot_24 : decode cX2_snapshot 24 = .ok (.ior, 1) := by decide +kernel
theorem dX2_snapshot_25 : decode cX2_snapshot 25 = .ok (.aload_n 0, 1) := by decide +kernel
theorem dX2_snapshot_26 : decode cX2_snapshot 26 = .ok (.getfield 15, 3) := by decide +kernel
theorem dX2_snapshot_29 : decode cX2_snapshot 29 = .ok (.iconst 1, 1) := by decide +kernel
theorem dX2_snapshot_30 : decode cX2_snapshot 30 = .ok (.iadd, 1) := by decide +kernel
theorem dX2_snapshot_31 : decode cX2_snapshot 31 = .ok (.bipush 12, 2) := by decide +kernel
theorem dX2_snapshot_33 : decode cX2_snapshot 33 = .ok (.ishl, 1) := by decide +kernel
theorem dX2_snapshot_34 : decode cX2_snapshot 34 = .ok (.ior, 1) := by decide +kernel
theorem dX2_snapshot_35 : decode cX2_snapshot 35 = .ok (.aload_n 0, 1) := by decide +kernel
theorem dX2_snapshot_36 : decode cX2_snapshot 36 = .ok (.getfield 58, 3) := by decide +kernel
theorem dX2_snapshot_39 : decode cX2_snapshot 39 = .ok (.iconst 1, 1) := by decide +kernel
theorem dX2_snapshot_40 : decode cX2_snapshot 40 = .ok (.iadd, 1) := by decide +kernel
theorem dX2_snapshot_41 : decode cX2_snapshot 41 = .ok (.bipush 16, 2) := by decide +kernel
theorem dX2_snapshot_43 : decode cX2_snapshot 43 = .ok (.ishl, 1) := by decide +kernel
theorem dX2_snapshot_44 : decode cX2_snapshot 44 = .ok (.ior, 1) := by decide +kernel
theorem dX2_snapshot_45 : decode cX2_snapshot 45 = .ok (.aload_n 0, 1) := by decide +kernel
theorem dX2_snapshot_46 : decode cX2_snapshot 46 = .ok (.getfield 31, 3) := by decide +kernel
theorem dX2_snapshot_49 : decode cX2_snapshot 49 = .ok (.iconst 1, 1) := by decide +kernel
theorem dX2_snapshot_50 : decode cX2_snapshot 50 = .ok (.iadd, 1) := by decide +kernel
theorem dX2_snapshot_51 : decode cX2_snapshot 51 = .ok (.bipush 20, 2) := by decide +kernel
theorem dX2_snapshot_53 : decode cX2_snapshot 53 = .ok (.ishl, 1) := by decide +kernel
theorem dX2_snapshot_54 : decode cX2_snapshot 54 = .ok (.ior, 1) := by decide +kernel
theorem dX2_snapshot_55 : decode cX2_snapshot 55 = .ok (.aload_n 0, 1) := by decide +kernel
theorem dX2_snapshot_56 : decode cX2_snapshot 56 = .ok (.getfield 52, 3) := by decide +kernel
theorem dX2_snapshot_59 : decode cX2_snapshot 59 = .ok (.iconst 1, 1) := by decide +kernel
theorem dX2_snapshot_60 : decode cX2_snapshot 60 = .ok (.iadd, 1) := by decide +kernel
theorem dX2_snapshot_61 : decode cX2_snapshot 61 = .ok (.bipush 24, 2) := by decide +kernel
theorem dX2_snapshot_63 : decode cX2_snapshot 63 = .ok (.ishl, 1) := by decide +kernel
theorem dX2_snapshot_64 : decode cX2_snapshot 64 = .ok (.ior, 1) := by decide +kernel
theorem dX2_snapshot_65 : decode cX2_snapshot 65 = .ok (.i2l, 1) := by decide +kernel
theorem dX2_snapshot_66 : decode cX2_snapshot 66 = .ok (.lstore_n 1, 1) := by decide +kernel
theorem dX2_snapshot_67 : decode cX2_snapshot 67 = .ok (.aload_n 0, 1) := by decide +kernel
theorem dX2_snapshot_68 : decode cX2_snapshot 68 = .ok (.getfield 49, 3) := by decide +kernel
theorem dX2_snapshot_71 : decode cX2_snapshot 71 = .ok (.iconst 1, 1) := by decide +kernel
theorem dX2_snapshot_72 : decode cX2_snapshot 72 = .ok (.iadd, 1) := by decide +kernel
theorem dX2_snapshot_73 : decode cX2_snapshot 73 = .ok (.aload_n 0, 1) := by decide +kernel
theorem dX2_snapshot_74 : decode cX2_snapshot 74 = .ok (.getfield 9, 3) := by decide +kernel
theorem dX2_snapshot_77 : decode cX2_snapshot 77 = .ok (.iconst 1, 1) := by decide +kernel
theorem dX2_snapshot_78 : decode cX2_snapshot 78 = .ok (.iadd, 1) := by decide +kernel
theorem dX2_snapshot_79 : decode cX2_snapshot 79 = .ok (.iconst 4, 1) := by decide +kernel
theorem dX2_snapshot_80 : decode cX2_snapshot 80 = .ok (.ishl, 1) := by decide +kernel
theorem dX2_snapshot_81 : decode cX2_snapshot 81 = .ok (.ior, 1) := by decide +kernel
theorem dX2_snapshot_82 : decode cX2_snapshot 82 = .ok (.aload_n 0, 1) := by decide +kernel
theorem dX2_snapshot_83 : decode cX2_snapshot 83 = .ok (.getfield 43, 3) := by decide +kernel
theorem dX2_snapshot_86 : decode cX2_snapshot 86 = .ok (.iconst 1, 1) := by decide +kernel
theorem dX2_snapshot_87 : decode cX2_snapshot 87 = .ok (.iadd, 1) := by decide +kernel
theorem dX2_snapshot_88 : decode cX2_snapshot 88 = .ok (.bipush 12, 2) := by decide +kernel
theorem dX2_snapshot_90 : decode cX2_snapshot 90 = .ok (.ishl, 1) := by decide +kernel
theorem dX2_snapshot_91 : decode cX2_snapshot 91 = .ok (.ior, 1) := by decide +kernel
theorem dX2_snapshot_92 : decode cX2_snapshot 92 = .ok (.i2l, 1) := by decide +kernel
theorem dX2_snapshot_93 : decode cX2_snapshot 93 = .ok (.lstore_n 3, 1) := by decide +kernel
theorem dX2_snapshot_94 : decode cX2_snapshot 94 = .ok (.lload_n 3, 1) := by decide +kernel
theorem dX2_snapshot_95 : decode cX2_snapshot 95 = .ok (.bipush 28, 2) := by decide +kernel
theorem dX2_snapshot_97 : decode cX2_snapshot 97 = .ok (.lshl, 1) := by decide +kernel
theorem dX2_snapshot_98 : decode cX2_snapshot 98 = .ok (.lload_n 1, 1) := by decide +kernel
theorem dX2_snapshot_99 : decode cX2_snapshot 99 = .ok (.lor, 1) := by decide +kernel
theorem dX2_snapshot_100 : decode cX2_snapshot 100 = .ok (.lreturn, 1) := by decide +kernel
theorem dX2_enter_0 : decode cX2_enter 0 = .ok (.aload_n 0, 1) := by decide +kernel
theorem dX2_enter_1 : decode cX2_enter 1 = .ok (.iload_n 1, 1) := by decide +kernel
theorem dX2_enter_2 : decode cX2_enter 2 = .ok (.putfield 55, 3) := by decide +kernel
theorem dX2_enter_5 : decode cX2_enter 5 = .ok (.aload_n 0, 1) := by decide +kernel
theorem dX2_enter_6 : decode cX2_enter 6 = .ok (.iconst (-1), 1) := by decide +kernel
theorem dX2_enter_7 : decode cX2_enter 7 = .ok (.putfield 37, 3) := by decide +kernel
theorem dX2_enter_10 : decode cX2_enter 10 = .ok (.aload_n 0, 1) := by decide +kernel
theorem dX2_enter_11 : decode cX2_enter 11 = .ok (.iconst (-1), 1) := by decide +kernel
theorem dX2_enter_12 : decode cX2_enter 12 = .ok (.putfield 40, 3) := by decide +kernel
theorem dX2_enter_15 : decode cX2_enter 15 = .ok (.aload_n 0, 1) := by decide +kernel
theorem dX2_enter_16 : decode cX2_enter 16 = .ok (.iconst 0, 1) := by decide +kernel
theorem dX2_enter_17 : decode cX2_enter 17 = .ok (.putfield 58, 3) := by decide +kernel
theorem dX2_enter_20 : decode cX2_enter 20 = .ok (.aload_n 0, 1) := by decide +kernel
theorem dX2_enter_21 : decode cX2_enter 21 = .ok (.iconst 0, 1) := by decide +kernel
theorem dX2_enter_22 : decode cX2_enter 22 = .ok (.putfield 43, 3) := by decide +kernel
theorem dX2_enter_25 : decode cX2_enter 25 = .ok (.return_, 1) := by decide +kernel
theorem dX2_clearTallies_0 : decode cX2_clearTallies 0 = .ok (.aload_n 0, 1) := by decide +kernel
theorem dX2_clearTallies_1 : decode cX2_clearTallies 1 = .ok (.iconst 0, 1) := by decide +kernel
theorem dX2_clearTallies_2 : decode cX2_clearTallies 2 = .ok (.putfield 31, 3) := by decide +kernel
theorem dX2_clearTallies_5 : decode cX2_clearTallies 5 = .ok (.aload_n 0, 1) := by decide +kernel
theorem dX2_clearTallies_6 : decode cX2_clearTallies 6 = .ok (.iconst 0, 1) := by decide +kernel
theorem dX2_clearTallies_7 : decode cX2_clearTallies 7 = .ok (.putfield 52, 3) := by decide +kernel
theorem dX2_clearTallies_10 : decode cX2_clearTallies 10 = .ok (.aload_n 0, 1) := by decide +kernel
theorem dX2_clearTallies_11 : decode cX2_clearTallies 11 = .ok (.iconst 0, 1) := by decide +kernel
theorem dX2_clearTallies_12 : decode cX2_clearTallies 12 = .ok (.putfield 49, 3) := by decide +kernel
theorem dX2_clearTallies_15 : decode cX2_clearTallies 15 = .ok (.return_, 1) := by decide +kernel
theorem dX3_init_0 : decode cX3_init 0 = .ok (.aload_n 0, 1) := by decide +kernel
theorem dX3_init_1 : decode cX3_init 1 = .ok (.invokespecial 3, 3) := by decide +kernel
theorem dX3_init_4 : decode cX3_init 4 = .ok (.aload_n 0, 1) := by decide +kernel
theorem dX3_init_5 : decode cX3_init 5 = .ok (.bipush 32, 2) := by decide +kernel
theorem dX3_init_7 : decode cX3_init 7 = .ok (.newarray .int, 2) := by decide +kernel
theorem dX3_init_9 : decode cX3_init 9 = .ok (.putfield 9, 3) := by decide +kernel
theorem dX3_init_12 : decode cX3_init 12 = .ok (.aload_n 0, 1) := by decide +kernel
theorem dX3_init_13 : decode cX3_init 13 = .ok (.new 15, 3) := by decide +kernel
theorem dX3_init_16 : decode cX3_init 16 = .ok (.dup, 1) := by decide +kernel
theorem dX3_init_17 : decode cX3_init 17 = .ok (.invokespecial 17, 3) := by decide +kernel
theorem dX3_init_20 : decode cX3_init 20 = .ok (.putfield 18, 3) := by decide +kernel
theorem dX3_init_23 : decode cX3_init 23 = .ok (.aload_n 0, 1) := by decide +kernel
theorem dX3_init_24 : decode cX3_init 24 = .ok (.iconst (-1), 1) := by decide +kernel
theorem dX3_init_25 : decode cX3_init 25 = .ok (.putfield 22, 3) := by decide +kernel
theorem dX3_init_28 : decode cX3_init 28 = .ok (.aload_n 0, 1) := by decide +kernel
theorem dX3_init_29 : decode cX3_init 29 = .ok (.new 26, 3) := by decide +kernel
theorem dX3_init_32 : decode cX3_init 32 = .ok (.dup, 1) := by decide +kernel
theorem dX3_init_33 : decode cX3_init 33 = .ok (.aload_n 1, 1) := by decide +kernel
theorem dX3_init_34 : decode cX3_init 34 = .ok (.invokespecial 28, 3) := by decide +kernel
theorem dX3_init_37 : decode cX3_init 37 = .ok (.putfield 31, 3) := by decide +kernel
theorem dX3_init_40 : decode cX3_init 40 = .ok (.return_, 1) := by decide +kernel
theorem dX3_exchange_0 : decode cX3_exchange 0 = .ok (.aload_n 0, 1) := by decide +kernel
theorem dX3_exchange_1 : decode cX3_exchange 1 = .ok (.getfield 18, 3) := by decide +kernel
theorem dX3_exchange_4 : decode cX3_exchange 4 = .ok (.astore_n 2, 1) := by decide +kernel
theorem dX3_exchange_5 : decode cX3_exchange 5 = .ok (.aload_n 0, 1) := by decide +kernel
theorem dX3_exchange_6 : decode cX3_exchange 6 = .ok (.aload_n 1, 1) := by decide +kernel
theorem dX3_exchange_7 : decode cX3_exchange 7 = .ok (.putfield 18, 3) := by decide +kernel
theorem dX3_exchange_10 : decode cX3_exchange 10 = .ok (.aload_n 2, 1) := by decide +kernel
theorem dX3_exchange_11 : decode cX3_exchange 11 = .ok (.areturn, 1) := by decide +kernel
theorem dX3_compile_0 : decode cX3_compile 0 = .ok (.aload_n 0, 1) := by decide +kernel
theorem dX3_compile_1 : decode cX3_compile 1 = .ok (.invokevirtual 35, 3) := by decide +kernel
theorem dX3_compile_4 : decode cX3_compile 4 = .ok (.iconst 0, 1) := by decide +kernel
theorem dX3_compile_5 : decode cX3_compile 5 = .ok (.istore_n 1, 1) := by decide +kernel
theorem dX3_compile_6 : decode cX3_compile 6 = .ok (.iload_n 1, 1) := by decide +kernel
theorem dX3_compile_7 : decode cX3_compile 7 = .ok (.sipush 400, 3) := by decide +kernel
theorem dX3_compile_10 : decode cX3_compile 10 = .ok (.if_icmp .gt 110, 3) := by decide +kernel
theorem dX3_compile_13 : decode cX3_compile 13 = .ok (.aload_n 0, 1) := by decide +kernel
theorem dX3_compile_14 : decode cX3_compile 14 = .ok (.getfield 31, 3) := by decide +kernel
theorem dX3_compile_17 : decode cX3_compile 17 = .ok (.invokevirtual 38, 3) := by decide +kernel
theorem dX3_compile_20 : decode cX3_compile 20 = .ok (.aload_n 0, 1) := by decide +kernel
theorem dX3_compile_21 : decode cX3_compile 21 = .ok (.aload_n 0, 1) := by decide +kernel
theorem dX3_compile_22 : decode cX3_compile 22 = .ok (.getfield 31, 3) := by decide +kernel
theorem dX3_compile_25 : decode cX3_compile 25 = .ok (.getfield 41, 3) := by decide +kernel
theorem dX3_compile_28 : decode cX3_compile 28 = .ok (.invokevirtual 44, 3) := by decide +kernel
theorem dX3_compile_31 : decode cX3_compile 31 = .ok (.istore_n 2, 1) := by decide +kernel
theorem dX3_compile_32 : decode cX3_compile 32 = .ok (.iload_n 2, 1) := by decide +kernel
theorem dX3_compile_33 : decode cX3_compile 33 = .ok (.iconst (-1), 1) := by decide +kernel
theorem dX3_compile_34 : decode cX3_compile 34 = .ok (.if_icmp .ne 16, 3) := by decide +kernel
theorem dX3_compile_37 : decode cX3_compile 37 = .ok (.aload_n 0, 1) := by decide +kernel
theorem dX3_compile_38 : decode cX3_compile 38 = .ok (.aload_n 0, 1) := by decide +kernel
theorem dX3_compile_39 : decode cX3_compile 39 = .ok (.getfield 31, 3) := by decide +kernel
theorem dX3_compile_42 : decode cX3_compile 42 = .ok (.getfield 48, 3) := by decide +kernel
theorem dX3_compile_45 : decode cX3_compile 45 = .ok (.putfield 22, 3) := by decide +kernel
theorem dX3_compile_48 : decode cX3_compile 48 = .ok (.iconst 1, 1) := by decide +kernel
theorem dX3_compile_49 : decode cX3_compile 49 = .ok (.ireturn, 1) := by decide +kernel
theorem dX3_compile_50 : decode cX3_compile 50 = .ok (.iload_n 2, 1) := by decide +kernel
theorem dX3_compile_51 : decode cX3_compile 51 = .ok (.bipush 7, 2) := by decide +kernel
theorem dX3_compile_53 : decode cX3_compile 53 = .ok (.if_icmp .ne 25, 3) := by decide +kernel
theorem dX3_compile_56 : decode cX3_compile 56 = .ok (.aload_n 0, 1) := by decide +kernel
theorem dX3_compile_57 : decode cX3_compile 57 = .ok (.aload_n 0, 1) := by decide +kernel
theorem dX3_compile_58 : decode cX3_compile 58 = .ok (.getfield 51, 3) := by decide +kernel
theorem dX3_compile_61 : decode cX3_compile 61 = .ok (.putfield 22, 3) := by decide +kernel
theorem dX3_compile_64 : decode cX3_compile 64 = .ok (.aload_n 0, 1) := by decide +kernel
theorem dX3_compile_65 : decode cX3_compile 65 = .ok (.getfield 51, 3) := by decide +kernel
theorem dX3_compile_68 : decode cX3_compile 68 = .ok (.iconst (-1), 1) := by decide +kernel
theorem dX3_compile_69 : decode cX3_compile 69 = .ok (.if_icmp .ne 7, 3) := by decide +kernel
theorem dX3_compile_72 : decode cX3_compile 72 = .ok (.iconst 0, 1) := by decide +kernel
theorem dX3_compile_73 : decode cX3_compile 73 = .ok (.goto 4, 3) := by decide +kernel
theorem dX3_compile_76 : decode cX3_compile 76 = .ok (.iconst 5, 1) := by decide +kernel
theorem dX3_compile_77 : decode cX3_compile 77 = .ok (.ireturn, 1) := by decide +kernel
theorem dX3_compile_78 : decode cX3_compile 78 = .ok (.iload_n 1, 1) := by decide +kernel
theorem dX3_compile_79 : decode cX3_compile 79 = .ok (.sipush 400, 3) := by decide +kernel
theorem dX3_compile_82 : decode cX3_compile 82 = .ok (.if_icmp .eq 10, 3) := by decide +kernel
theorem dX3_compile_85 : decode cX3_compile 85 = .ok (.aload_n 0, 1) := by decide +kernel
theorem dX3_compile_86 : decode cX3_compile 86 = .ok (.invokevirtual 54, 3) := by decide +kernel
theorem dX3_compile_89 : decode cX3_compile 89 = .ok (.ifCond .eq 16, 3) := by decide +kernel
theorem dX3_compile_92 : decode cX3_compile 92 = .ok (.aload_n 0, 1) := by decide +kernel
theorem dX3_compile_93 : decode cX3_compile 93 = .ok (.aload_n 0, 1) := by decide +kernel
theorem dX3_compile_94 : decode cX3_compile 94 = .ok (.getfield 31, 3) := by decide +kernel
theorem dX3_compile_97 : decode cX3_compile 97 = .ok (.getfield 48, 3) := by decide +kernel
theorem dX3_compile_100 : decode cX3_compile 100 = .ok (.putfield 22, 3) := by decide +kernel
theorem dX3_compile_103 : decode cX3_compile 103 = .ok (.iconst 2, 1) := by decide +kernel
theorem dX3_compile_104 : decode cX3_compile 104 = .ok (.ireturn, 1) := by decide +kernel
theorem dX3_compile_105 : decode cX3_compile 105 = .ok (.aload_n 0, 1) := by decide +kernel
theorem dX3_compile_106 : decode cX3_compile 106 = .ok (.invokevirtual 58, 3) := by decide +kernel
theorem dX3_compile_109 : decode cX3_compile 109 = .ok (.aload_n 0, 1) := by decide +kernel
theorem dX3_compile_110 : decode cX3_compile 110 = .ok (.iload_n 2, 1) := by decide +kernel
theorem dX3_compile_111 : decode cX3_compile 111 = .ok (.putfield 61, 3) := by decide +kernel
theorem dX3_compile_114 : decode cX3_compile 114 = .ok (.iinc 1 1, 3) := by decide +kernel
theorem dX3_compile_117 : decode cX3_compile 117 = .ok (.goto (-111), 3) := by decide +kernel
theorem dX3_compile_120 : decode cX3_compile 120 = .ok (.iconst 2, 1) := by decide +kernel
theorem dX3_compile_121 : decode cX3_compile 121 = .ok (.ireturn, 1) := by decide +kernel
theorem dX3_begin_0 : decode cX3_begin 0 = .ok (.aload_n 0, 1) := by decide +kernel
theorem dX3_begin_1 : decode cX3_begin 1 = .ok (.getfield 31, 3) := by decide +kernel
theorem dX3_begin_4 : decode cX3_begin 4 = .ok (.invokevirtual 64, 3) := by decide +kernel
theorem dX3_begin_7 : decode cX3_begin 7 = .ok (.aload_n 0, 1) := by decide +kernel
theorem dX3_begin_8 : decode cX3_begin 8 = .ok (.getfield 18, 3) := by decide +kernel
theorem dX3_begin_11 : decode cX3_begin 11 = .ok (.invokevirtual 67, 3) := by decide +kernel
theorem dX3_begin_14 : decode cX3_begin 14 = .ok (.aload_n 0, 1) := by decide +kernel
theorem dX3_begin_15 : decode cX3_begin 15 = .ok (.iconst 0, 1) := by decide +kernel
theorem dX3_begin_16 : decode cX3_begin 16 = .ok (.putfield 70, 3) := by decide +kernel
theorem dX3_begin_19 : decode cX3_begin 19 = .ok (.aload_n 0, 1) := by decide +kernel
theorem dX3_begin_20 : decode cX3_begin 20 = .ok (.iconst 0, 1) := by decide +kernel
theorem dX3_begin_21 : decode cX3_begin 21 = .ok (.putfield 61, 3) := by decide +kernel
theorem dX3_begin_24 : decode cX3_begin 24 = .ok (.aload_n 0, 1) := by decide +kernel
theorem dX3_begin_25 : decode cX3_begin 25 = .ok (.iconst 0, 1) := by decide +kernel
theorem dX3_begin_26 : decode cX3_begin 26 = .ok (.putfield 73, 3) := by decide +kernel
theorem dX3_begin_29 : decode cX3_begin 29 = .ok (.aload_n 0, 1) := by decide +kernel
theorem dX3_begin_30 : decode cX3_begin 30 = .ok (.iconst 0, 1) := by decide +kernel
theorem dX3_begin_31 : decode cX3_begin 31 = .ok (.putfield 76, 3) := by decide +kernel
theorem dX3_begin_34 : decode cX3_begin 34 = .ok (.aload_n 0, 1) := by decide +kernel
theorem dX3_begin_35 : decode cX3_begin 35 = .ok (.iconst (-1), 1) := by decide +kernel
theorem dX3_begin_36 : decode cX3_begin 36 = .ok (.putfield 51, 3) := by decide +kernel
theorem dX3_begin_39 : decode cX3_begin 39 = .ok (.return_, 1) := by decide +kernel
theorem dX3_following_0 : decode cX3_following 0 = .ok (.aload_n 0, 1) := by decide +kernel
theorem dX3_following_1 : decode cX3_following 1 = .ok (.getfield 61, 3) := by decide +kernel
theorem dX3_following_4 : decode cX3_following 4 = .ok (.tableswitch 152 0 5 #[40, 69, 80, 102, 113, 125], 40) := by decide +kernel
theorem dX3_following_44 : decode cX3_following 44 = .ok (.iload_n 1, 1) := by decide +kernel
theorem dX3_following_45 : decode cX3_following 45 = .ok (.iconst 4, 1) := by decide +kernel
theorem dX3_following_46 : decode cX3_following 46 = .ok (.if_icmp .ne 7, 3) := by decide +kernel
theorem dX3_following_49 : decode cX3_following 49 = .ok (.iconst 1, 1) := by decide +kernel
theorem dX3_following_50 : decode cX3_following 50 = .ok (.goto 22, 3) := by decide +kernel
theorem dX3_following_53 : decode cX3_following 53 = .ok (.iload_n 1, 1) := by decide +kernel
theorem dX3_following_54 : decode cX3_following 54 = .ok (.iconst 5, 1) := by decide +kernel
theorem dX3_following_55 : decode cX3_following 55 = .ok (.if_icmp .ne 7, 3) := by decide +kernel
theorem dX3_following_58 : decode cX3_following 58 = .ok (.iconst 3, 1) := by decide +kernel
theorem dX3_following_59 : decode cX3_following 59 = .ok (.goto 13, 3) := by decide +kernel
theorem dX3_following_62 : decode cX3_following 62 = .ok (.iload_n 1, 1) := by decide +kernel
theorem dX3_following_63 : decode cX3_following 63 = .ok (.ifCond .ne 8, 3) := by decide +kernel
theorem dX3_following_66 : decode cX3_following 66 = .ok (.bipush 7, 2) := by decide +kernel
theorem dX3_following_68 : decode cX3_following 68 = .ok (.goto 4, 3) := by decide +kernel
theorem dX3_following_71 : decode cX3_following 71 = .ok (.iconst (-1), 1) := by decide +kernel
theorem dX3_following_72 : decode cX3_following 72 = .ok (.ireturn, 1) := by decide +kernel
theorem dX3_following_73 : decode cX3_following 73 = .ok (.iload_n 1, 1) := by decide +kernel
theorem dX3_following_74 : decode cX3_following 74 = .ok (.iconst 2, 1) := by decide +kernel
theorem dX3_following_75 : decode cX3_following 75 = .ok (.if_icmp .ne 7, 3) := by decide +kernel
theorem dX3_following_78 : decode cX3_following 78 = .ok (.iconst 2, 1) := by decide +kernel
theorem dX3_following_79 : decode cX3_following 79 = .ok (.goto 4, 3) := by decide +kernel
theorem dX3_following_82 : decode cX3_following 82 = .ok (.iconst (-1), 1) := by decide +kernel
theorem dX3_following_83 : decode cX3_following 83 = .ok (.ireturn, 1) := by decide +kernel
theorem dX3_following_84 : decode cX3_following 84 = .ok (.iload_n 1, 1) := by decide +kernel
theorem dX3_following_85 : decode cX3_following 85 = .ok (.bipush 6, 2) := by decide +kernel
theorem dX3_following_87 : decode cX3_following 87 = .ok (.if_icmp .ne 7, 3) := by decide +kernel
theorem dX3_following_90 : decode cX3_following 90 = .ok (.iconst 5, 1) := by decide +kernel
theorem dX3_following_91 : decode cX3_following 91 = .ok (.goto 14, 3) := by decide +kernel
theorem dX3_following_94 : decode cX3_following 94 = .ok (.iload_n 1, 1) := by decide +kernel
theorem dX3_following_95 : decode cX3_following 95 = .ok (.bipush 12, 2) := by decide +kernel
theorem dX3_following_97 : decode cX3_following 97 = .ok (.if_icmp .ne 7, 3) := by decide +kernel
theorem dX3_following_100 : decode cX3_following 100 = .ok (.iconst 0, 1) := by decide +kernel
theorem dX3_following_101 : decode cX3_following 101 = .ok (.goto 4, 3) := by decide +kernel
theorem dX3_following_104 : decode cX3_following 104 = .ok (.iconst (-1), 1) := by decide +kernel
theorem dX3_following_105 : decode cX3_following 105 = .ok (.ireturn, 1) := by decide +kernel
theorem dX3_following_106 : decode cX3_following 106 = .ok (.iload_n 1, 1) := by decide +kernel
theorem dX3_following_107 : decode cX3_following 107 = .ok (.iconst 2, 1) := by decide +kernel
theorem dX3_following_108 : decode cX3_following 108 = .ok (.if_icmp .ne 7, 3) := by decide +kernel
theorem dX3_following_111 : decode cX3_following 111 = .ok (.iconst 4, 1) := by decide +kernel
theorem dX3_following_112 : decode cX3_following 112 = .ok (.goto 4, 3) := by decide +kernel
theorem dX3_following_115 : decode cX3_following 115 = .ok (.iconst (-1), 1) := by decide +kernel
theorem dX3_following_116 : decode cX3_following 116 = .ok (.ireturn, 1) := by decide +kernel
theorem dX3_following_117 : decode cX3_following 117 = .ok (.iload_n 1, 1) := by decide +kernel
theorem dX3_following_118 : decode cX3_following 118 = .ok (.bipush 6, 2) := by decide +kernel
theorem dX3_following_120 : decode cX3_following 120 = .ok (.if_icmp .ne 7, 3) := by decide +kernel
theorem dX3_following_123 : decode cX3_following 123 = .ok (.iconst 5, 1) := by decide +kernel
theorem dX3_following_124 : decode cX3_following 124 = .ok (.goto 4, 3) := by decide +kernel
theorem dX3_following_127 : decode cX3_following 127 = .ok (.iconst (-1), 1) := by decide +kernel
theorem dX3_following_128 : decode cX3_following 128 = .ok (.ireturn, 1) := by decide +kernel
theorem dX3_following_129 : decode cX3_following 129 = .ok (.iload_n 1, 1) := by decide +kernel
theorem dX3_following_130 : decode cX3_following 130 = .ok (.iconst 2, 1) := by decide +kernel
theorem dX3_following_131 : decode cX3_following 131 = .ok (.if_icmp .eq 8, 3) := by decide +kernel
theorem dX3_following_134 : decode cX3_following 134 = .ok (.iload_n 1, 1) := by decide +kernel
theorem dX3_following_135 : decode cX3_following 135 = .ok (.iconst 3, 1) := by decide +kernel
theorem dX3_following_136 : decode cX3_following 136 = .ok (.if_icmp .ne 8, 3) := by decide +kernel
theorem dX3_following_139 : decode cX3_following 139 = .ok (.bipush 6, 2) := by decide +kernel
theorem dX3_following_141 : decode cX3_following 141 = .ok (.goto 14, 3) := by decide +kernel
theorem dX3_following_144 : decode cX3_following 144 = .ok (.iload_n 1, 1) := by decide +kernel
theorem dX3_following_145 : decode cX3_following 145 = .ok (.bipush 10, 2) := by decide +kernel
theorem dX3_following_147 : decode cX3_following 147 = .ok (.if_icmp .ne 7, 3) := by decide +kernel
theorem dX3_following_150 : decode cX3_following 150 = .ok (.iconst 5, 1) := by decide +kernel
theorem dX3_following_151 : decode cX3_following 151 = .ok (.goto 4, 3) := by decide +kernel
theorem dX3_following_154 : decode cX3_following 154 = .ok (.iconst (-1), 1) := by decide +kernel
theorem dX3_following_155 : decode cX3_following 155 = .ok (.ireturn, 1) := by decide +kernel
theorem dX3_following_156 : decode cX3_following 156 = .ok (.aload_n 0, 1) := by decide +kernel
theorem dX3_following_157 : decode cX3_following 157 = .ok (.iload_n 1, 1) := by decide +kernel
theorem dX3_following_158 : decode cX3_following 158 = .ok (.invokevirtual 80, 3) := by decide +kernel
theorem dX3_following_161 : decode cX3_following 161 = .ok (.ireturn, 1) := by decide +kernel
theorem dX3_followingUnit_0 : decode cX3_followingUnit 0 = .ok (.iload_n 1, 1) := by decide +kernel
theorem dX3_followingUnit_1 : decode cX3_followingUnit 1 = .ok (.bipush 9, 2) := by decide +kernel
theorem dX3_followingUnit_3 : decode cX3_followingUnit 3 = .ok (.if_icmp .ne 5, 3) := by decide +kernel
theorem dX3_followingUnit_6 : decode cX3_followingUnit 6 = .ok (.iconst 5, 1) := by decide +kernel
theorem dX3_followingUnit_7 : decode cX3_followingUnit 7 = .ok (.ireturn, 1) := by decide +kernel
theorem dX3_followingUnit_8 : decode cX3_followingUnit 8 = .ok (.aload_n 0, 1) := by decide +kernel
theorem dX3_followingUnit_9 : decode cX3_followingUnit 9 = .ok (.getfield 73, 3) := by decide +kernel
theorem dX3_followingUnit_12 : decode cX3_followingUnit 12 = .ok (.ifCond .le 16, 3) := by decide +kernel
theorem dX3_followingUnit_15 : decode cX3_followingUnit 15 = .ok (.iload_n 1, 1) := by decide +kernel
theorem dX3_followingUnit_16 : decode cX3_followingUnit 16 = .ok (.bipush 11, 2) := by decide +kernel
theorem dX3_followingUnit_18 : decode cX3_followingUnit 18 = .ok (.if_icmp .ne 8, 3) := by decide +kernel
theorem dX3_followingUnit_21 : decode cX3_followingUnit 21 = .ok (.bipush 6, 2) := by decide +kernel
theorem dX3_followingUnit_23 : decode cX3_followingUnit 23 = .ok (.goto 4, 3) := by decide +kernel
theorem dX3_followingUnit_26 : decode cX3_followingUnit 26 = .ok (.iconst (-1), 1) := by decide +kernel
theorem dX3_followingUnit_27 : decode cX3_followingUnit 27 = .ok (.ireturn, 1) := by decide +kernel
theorem dX3_followingUnit_28 : decode cX3_followingUnit 28 = .ok (.aload_n 0, 1) := by decide +kernel
theorem dX3_followingUnit_29 : decode cX3_followingUnit 29 = .ok (.getfield 76, 3) := by decide +kernel
theorem dX3_followingUnit_32 : decode cX3_followingUnit 32 = .ok (.ifCond .ne 15, 3) := by decide +kernel
theorem dX3_followingUnit_35 : decode cX3_followingUnit 35 = .ok (.iload_n 1, 1) := by decide +kernel
theorem dX3_followingUnit_36 : decode cX3_followingUnit 36 = .ok (.bipush 8, 2) := by decide +kernel
theorem dX3_followingUnit_38 : decode cX3_followingUnit 38 = .ok (.if_icmp .ne 7, 3) := by decide +kernel
theorem dX3_followingUnit_41 : decode cX3_followingUnit 41 = .ok (.iconst 5, 1) := by decide +kernel
theorem dX3_followingUnit_42 : decode cX3_followingUnit 42 = .ok (.goto 4, 3) := by decide +kernel
theorem dX3_followingUnit_45 : decode cX3_followingUnit 45 = .ok (.iconst (-1), 1) := by decide +kernel
theorem dX3_followingUnit_46 : decode cX3_followingUnit 46 = .ok (.ireturn, 1) := by decide +kernel
theorem dX3_followingUnit_47 : decode cX3_followingUnit 47 = .ok (.iload_n 1, 1) := by decide +kernel
theorem dX3_followingUnit_48 : decode cX3_followingUnit 48 = .ok (.bipush 7, 2) := by decide +kernel
theorem dX3_followingUnit_50 : decode cX3_followingUnit 50 = .ok (.if_icmp .ne 7, 3) := by decide +kernel
theorem dX3_followingUnit_53 : decode cX3_followingUnit 53 = .ok (.iconst 5, 1) := by decide +kernel
theorem dX3_followingUnit_54 : decode cX3_followingUnit 54 = .ok (.goto 14, 3) := by decide +kernel
theorem dX3_followingUnit_57 : decode cX3_followingUnit 57 = .ok (.iload_n 1, 1) := by decide +kernel
theorem dX3_followingUnit_58 : decode cX3_followingUnit 58 = .ok (.bipush 12, 2) := by decide +kernel
theorem dX3_followingUnit_60 : decode cX3_followingUnit 60 = .ok (.if_icmp .ne 7, 3) := by decide +kernel
theorem dX3_followingUnit_63 : decode cX3_followingUnit 63 = .ok (.iconst 0, 1) := by decide +kernel
theorem dX3_followingUnit_64 : decode cX3_followingUnit 64 = .ok (.goto 4, 3) := by decide +kernel
theorem dX3_followingUnit_67 : decode cX3_followingUnit 67 = .ok (.iconst (-1), 1) := by decide +kernel
theorem dX3_followingUnit_68 : decode cX3_followingUnit 68 = .ok (.ireturn, 1) := by decide +kernel
theorem dX3_isOverfull_0 : decode cX3_isOverfull 0 = .ok (.aload_n 0, 1) := by decide +kernel
theorem dX3_isOverfull_1 : decode cX3_isOverfull 1 = .ok (.getfield 61, 3) := by decide +kernel
theorem dX3_isOverfull_4 : decode cX3_isOverfull 4 = .ok (.ifCond .ne 15, 3) := by decide +kernel
theorem dX3_isOverfull_7 : decode cX3_isOverfull 7 = .ok (.aload_n 0, 1) := by decide +kernel
theorem dX3_isOverfull_8 : decode cX3_isOverfull 8 = .ok (.getfield 18, 3) := by decide +kernel
theorem dX3_isOverfull_11 : decode cX3_isOverfull 11 = .ok (.getfield 83, 3) := by decide +kernel
theorem dX3_isOverfull_14 : decode cX3_isOverfull 14 = .ok (.bipush 20, 2) := by decide +kernel
theorem dX3_isOverfull_16 : decode cX3_isOverfull 16 = .ok (.if_icmp .ge 24, 3) := by decide +kernel
theorem dX3_isOverfull_19 : decode cX3_isOverfull 19 = .ok (.aload_n 0, 1) := by decide +kernel
theorem dX3_isOverfull_20 : decode cX3_isOverfull 20 = .ok (.getfield 31, 3) := by decide +kernel
theorem dX3_isOverfull_23 : decode cX3_isOverfull 23 = .ok (.getfield 41, 3) := by decide +kernel
theorem dX3_isOverfull_26 : decode cX3_isOverfull 26 = .ok (.bipush 10, 2) := by decide +kernel
theorem dX3_isOverfull_28 : decode cX3_isOverfull 28 = .ok (.if_icmp .ne 16, 3) := by decide +kernel
theorem dX3_isOverfull_31 : decode cX3_isOverfull 31 = .ok (.aload_n 0, 1) := by decide +kernel
theorem dX3_isOverfull_32 : decode cX3_isOverfull 32 = .ok (.getfield 73, 3) := by decide +kernel
theorem dX3_isOverfull_35 : decode cX3_isOverfull 35 = .ok (.bipush 6, 2) := by decide +kernel
theorem dX3_isOverfull_37 : decode cX3_isOverfull 37 = .ok (.if_icmp .lt 7, 3) := by decide +kernel
theorem dX3_isOverfull_40 : decode cX3_isOverfull 40 = .ok (.iconst 1, 1) := by decide +kernel
theorem dX3_isOverfull_41 : decode cX3_isOverfull 41 = .ok (.goto 4, 3) := by decide +kernel
theorem dX3_isOverfull_44 : decode cX3_isOverfull 44 = .ok (.iconst 0, 1) := by decide +kernel
theorem dX3_isOverfull_45 : decode cX3_isOverfull 45 = .ok (.ireturn, 1) := by decide +kernel
theorem dX3_take_0 : decode cX3_take 0 = .ok (.aload_n 0, 1) := by decide +kernel
theorem dX3_take_1 : decode cX3_take 1 = .ok (.getfield 61, 3) := by decide +kernel
theorem dX3_take_4 : decode cX3_take 4 = .ok (.tableswitch 101 0 6 #[44, 70, 101, 79, 101, 87, 94], 44) := by decide +kernel
theorem dX3_take_48 : decode cX3_take 48 = .ok (.aload_n 0, 1) := by decide +kernel
theorem dX3_take_49 : decode cX3_take 49 = .ok (.getfield 18, 3) := by decide +kernel
theorem dX3_take_52 : decode cX3_take 52 = .ok (.aload_n 0, 1) := by decide +kernel
theorem dX3_take_53 : decode cX3_take 53 = .ok (.getfield 31, 3) := by decide +kernel
theorem dX3_take_56 : decode cX3_take 56 = .ok (.getfield 41, 3) := by decide +kernel
theorem dX3_take_59 : decode cX3_take 59 = .ok (.iconst 5, 1) := by decide +kernel
theorem dX3_take_60 : decode cX3_take 60 = .ok (.if_icmp .ne 7, 3) := by decide +kernel
theorem dX3_take_63 : decode cX3_take 63 = .ok (.iconst 1, 1) := by decide +kernel
theorem dX3_take_64 : decode cX3_take 64 = .ok (.goto 4, 3) := by decide +kernel
theorem dX3_take_67 : decode cX3_take 67 = .ok (.iconst 0, 1) := by decide +kernel
theorem dX3_take_68 : decode cX3_take 68 = .ok (.invokevirtual 86, 3) := by decide +kernel
theorem dX3_take_71 : decode cX3_take 71 = .ok (.goto 39, 3) := by decide +kernel
theorem dX3_take_74 : decode cX3_take 74 = .ok (.aload_n 0, 1) := by decide +kernel
theorem dX3_take_75 : decode cX3_take 75 = .ok (.bipush 6, 2) := by decide +kernel
theorem dX3_take_77 : decode cX3_take 77 = .ok (.invokevirtual 90, 3) := by decide +kernel
theorem dX3_take_80 : decode cX3_take 80 = .ok (.goto 30, 3) := by decide +kernel
theorem dX3_take_83 : decode cX3_take 83 = .ok (.aload_n 0, 1) := by decide +kernel
theorem dX3_take_84 : decode cX3_take 84 = .ok (.iconst 4, 1) := by decide +kernel
theorem dX3_take_85 : decode cX3_take 85 = .ok (.invokevirtual 90, 3) := by decide +kernel
theorem dX3_take_88 : decode cX3_take 88 = .ok (.goto 22, 3) := by decide +kernel
theorem dX3_take_91 : decode cX3_take 91 = .ok (.aload_n 0, 1) := by decide +kernel
theorem dX3_take_92 : decode cX3_take 92 = .ok (.invokevirtual 94, 3) := by decide +kernel
theorem dX3_take_95 : decode cX3_take 95 = .ok (.goto 15, 3) := by decide +kernel
theorem dX3_take_98 : decode cX3_take 98 = .ok (.aload_n 0, 1) := by decide +kernel
theorem dX3_take_99 : decode cX3_take 99 = .ok (.invokevirtual 97, 3) := by decide +kernel
theorem dX3_take_102 : decode cX3_take 102 = .ok (.goto 8, 3) := by decide +kernel
theorem dX3_take_105 : decode cX3_take 105 = .ok (.aload_n 0, 1) := by decide +kernel
theorem dX3_take_106 : decode cX3_take 106 = .ok (.iconst 0, 1) := by decide +kernel
theorem dX3_take_107 : decode cX3_take 107 = .ok (.putfield 76, 3) := by decide +kernel
theorem dX3_take_110 : decode cX3_take 110 = .ok (.return_, 1) := by decide +kernel
theorem dX3_takeNumber_0 : decode cX3_takeNumber 0 = .ok (.aload_n 0, 1) := by decide +kernel
theorem dX3_takeNumber_1 : decode cX3_takeNumber 1 = .ok (.getfield 31, 3) := by decide +kernel
theorem dX3_takeNumber_4 : decode cX3_takeNumber 4 = .ok (.getfield 100, 3) := by decide +kernel
theorem dX3_takeNumber_7 : decode cX3_takeNumber 7 = .ok (.iload_n 1, 1) := by decide +kernel
theorem dX3_takeNumber_8 : decode cX3_takeNumber 8 = .ok (.if_icmp .lt 22, 3) := by decide +kernel
theorem dX3_takeNumber_11 : decode cX3_takeNumber 11 = .ok (.aload_n 0, 1) := by decide +kernel
theorem dX3_takeNumber_12 : decode cX3_takeNumber 12 = .ok (.getfield 51, 3) := by decide +kernel
theorem dX3_takeNumber_15 : decode cX3_takeNumber 15 = .ok (.iconst (-1), 1) := by decide +kernel
theorem dX3_takeNumber_16 : decode cX3_takeNumber 16 = .ok (.if_icmp .ne 14, 3) := by decide +kernel
theorem dX3_takeNumber_19 : decode cX3_takeNumber 19 = .ok (.aload_n 0, 1) := by decide +kernel
theorem dX3_takeNumber_20 : decode cX3_takeNumber 20 = .ok (.aload_n 0, 1) := by decide +kernel
theorem dX3_takeNumber_21 : decode cX3_takeNumber 21 = .ok (.getfield 31, 3) := by decide +kernel
theorem dX3_takeNumber_24 : decode cX3_takeNumber 24 = .ok (.getfield 48, 3) := by decide +kernel
theorem dX3_takeNumber_27 : decode cX3_takeNumber 27 = .ok (.putfield 51, 3) := by decide +kernel
theorem dX3_takeNumber_30 : decode cX3_takeNumber 30 = .ok (.aload_n 0, 1) := by decide +kernel
theorem dX3_takeNumber_31 : decode cX3_takeNumber 31 = .ok (.getfield 18, 3) := by decide +kernel
theorem dX3_takeNumber_34 : decode cX3_takeNumber 34 = .ok (.aload_n 0, 1) := by decide +kernel
theorem dX3_takeNumber_35 : decode cX3_takeNumber 35 = .ok (.getfield 31, 3) := by decide +kernel
theorem dX3_takeNumber_38 : decode cX3_takeNumber 38 = .ok (.getfield 100, 3) := by decide +kernel
theorem dX3_takeNumber_41 : decode cX3_takeNumber 41 = .ok (.invokevirtual 103, 3) := by decide +kernel
theorem dX3_takeNumber_44 : decode cX3_takeNumber 44 = .ok (.return_, 1) := by decide +kernel
theorem dX3_takeUnit_0 : decode cX3_takeUnit 0 = .ok (.aload_n 0, 1) := by decide +kernel
theorem dX3_takeUnit_1 : decode cX3_takeUnit 1 = .ok (.getfield 31, 3) := by decide +kernel
theorem dX3_takeUnit_4 : decode cX3_takeUnit 4 = .ok (.getfield 41, 3) := by decide +kernel
theorem dX3_takeUnit_7 : decode cX3_takeUnit 7 = .ok (.bipush 10, 2) := by decide +kernel
theorem dX3_takeUnit_9 : decode cX3_takeUnit 9 = .ok (.if_icmp .ne 21, 3) := by decide +kernel
theorem dX3_takeUnit_12 : decode cX3_takeUnit 12 = .ok (.aload_n 0, 1) := by decide +kernel
theorem dX3_takeUnit_13 : decode cX3_takeUnit 13 = .ok (.dup, 1) := by decide +kernel
theorem dX3_takeUnit_14 : decode cX3_takeUnit 14 = .ok (.getfield 73, 3) := by decide +kernel
theorem dX3_takeUnit_17 : decode cX3_takeUnit 17 = .ok (.iconst 1, 1) := by decide +kernel
theorem dX3_takeUnit_18 : decode cX3_takeUnit 18 = .ok (.iadd, 1) := by decide +kernel
theorem dX3_takeUnit_19 : decode cX3_takeUnit 19 = .ok (.putfield 73, 3) := by decide +kernel
theorem dX3_takeUnit_22 : decode cX3_takeUnit 22 = .ok (.aload_n 0, 1) := by decide +kernel
theorem dX3_takeUnit_23 : decode cX3_takeUnit 23 = .ok (.iconst 0, 1) := by decide +kernel
theorem dX3_takeUnit_24 : decode cX3_takeUnit 24 = .ok (.invokevirtual 106, 3) := by decide +kernel
theorem dX3_takeUnit_27 : decode cX3_takeUnit 27 = .ok (.goto 43, 3) := by decide +kernel
theorem dX3_takeUnit_30 : decode cX3_takeUnit 30 = .ok (.aload_n 0, 1) := by decide +kernel
theorem dX3_takeUnit_31 : decode cX3_takeUnit 31 = .ok (.getfield 18, 3) := by decide +kernel
theorem dX3_takeUnit_34 : decode cX3_takeUnit 34 = .ok (.aload_n 0, 1) := by decide +kernel
theorem dX3_takeUnit_35 : decode cX3_takeUnit 35 = .ok (.getfield 31, 3) := by decide +kernel
theorem dX3_takeUnit_38 : decode cX3_takeUnit 38 = .ok (.getfield 41, 3) := by decide +kernel
theorem dX3_takeUnit_41 : decode cX3_takeUnit 41 = .ok (.iconst 3, 1) := by decide +kernel
theorem dX3_takeUnit_42 : decode cX3_takeUnit 42 = .ok (.if_icmp .ne 18, 3) := by decide +kernel
theorem dX3_takeUnit_45 : decode cX3_takeUnit 45 = .ok (.bipush 16, 2) := by decide +kernel
theorem dX3_takeUnit_47 : decode cX3_takeUnit 47 = .ok (.aload_n 0, 1) := by decide +kernel
theorem dX3_takeUnit_48 : decode cX3_takeUnit 48 = .ok (.getfield 31, 3) := by decide +kernel
theorem dX3_takeUnit_51 : decode cX3_takeUnit 51 = .ok (.getfield 100, 3) := by decide +kernel
theorem dX3_takeUnit_54 : decode cX3_takeUnit 54 = .ok (.iadd, 1) := by decide +kernel
theorem dX3_takeUnit_55 : decode cX3_takeUnit 55 = .ok (.iconst (-1), 1) := by decide +kernel
theorem dX3_takeUnit_56 : decode cX3_takeUnit 56 = .ok (.ixor, 1) := by decide +kernel
theorem dX3_takeUnit_57 : decode cX3_takeUnit 57 = .ok (.goto 10, 3) := by decide +kernel
theorem dX3_takeUnit_60 : decode cX3_takeUnit 60 = .ok (.aload_n 0, 1) := by decide +kernel
theorem dX3_takeUnit_61 : decode cX3_takeUnit 61 = .ok (.getfield 31, 3) := by decide +kernel
theorem dX3_takeUnit_64 : decode cX3_takeUnit 64 = .ok (.getfield 100, 3) := by decide +kernel
theorem dX3_takeUnit_67 : decode cX3_takeUnit 67 = .ok (.invokevirtual 109, 3) := by decide +kernel
theorem dX3_takeUnit_70 : decode cX3_takeUnit 70 = .ok (.return_, 1) := by decide +kernel
theorem dX3_takeBehindUnit_0 : decode cX3_takeBehindUnit 0 = .ok (.aload_n 0, 1) := by decide +kernel
theorem dX3_takeBehindUnit_1 : decode cX3_takeBehindUnit 1 = .ok (.getfield 31, 3) := by decide +kernel
theorem dX3_takeBehindUnit_4 : decode cX3_takeBehindUnit 4 = .ok (.getfield 41, 3) := by decide +kernel
theorem dX3_takeBehindUnit_7 : decode cX3_takeBehindUnit 7 = .ok (.lookupswitch 65 #[(11, 25), (12, 57)], 25) := by decide +kernel
theorem dX3_takeBehindUnit_32 : decode cX3_takeBehindUnit 32 = .ok (.aload_n 0, 1) := by decide +kernel
theorem dX3_takeBehindUnit_33 : decode cX3_takeBehindUnit 33 = .ok (.iconst 1, 1) := by decide +kernel
theorem dX3_takeBehindUnit_34 : decode cX3_takeBehindUnit 34 = .ok (.invokevirtual 112, 3) := by decide +kernel
theorem dX3_takeBehindUnit_37 : decode cX3_takeBehindUnit 37 = .ok (.aload_n 0, 1) := by decide +kernel
theorem dX3_takeBehindUnit_38 : decode cX3_takeBehindUnit 38 = .ok (.iconst 0, 1) := by decide +kernel
theorem dX3_takeBehindUnit_39 : decode cX3_takeBehindUnit 39 = .ok (.aload_n 0, 1) := by decide +kernel
theorem dX3_takeBehindUnit_40 : decode cX3_takeBehindUnit 40 = .ok (.getfield 70, 3) := by decide +kernel
theorem dX3_takeBehindUnit_43 : decode cX3_takeBehindUnit 43 = .ok (.iconst 1, 1) := by decide +kernel
theorem dX3_takeBehindUnit_44 : decode cX3_takeBehindUnit 44 = .ok (.isub, 1) := by decide +kernel
theorem dX3_takeBehindUnit_45 : decode cX3_takeBehindUnit 45 = .ok (.invokestatic 115, 3) := by decide +kernel
theorem dX3_takeBehindUnit_48 : decode cX3_takeBehindUnit 48 = .ok (.putfield 70, 3) := by decide +kernel
theorem dX3_takeBehindUnit_51 : decode cX3_takeBehindUnit 51 = .ok (.aload_n 0, 1) := by decide +kernel
theorem dX3_takeBehindUnit_52 : decode cX3_takeBehindUnit 52 = .ok (.dup, 1) := by decide +kernel
theorem dX3_takeBehindUnit_53 : decode cX3_takeBehindUnit 53 = .ok (.getfield 73, 3) := by decide +kernel
theorem dX3_takeBehindUnit_56 : decode cX3_takeBehindUnit 56 = .ok (.iconst 1, 1) := by decide +kernel
theorem dX3_takeBehindUnit_57 : decode cX3_takeBehindUnit 57 = .ok (.isub, 1) := by decide +kernel
theorem dX3_takeBehindUnit_58 : decode cX3_takeBehindUnit 58 = .ok (.putfield 73, 3) := by decide +kernel
theorem dX3_takeBehindUnit_61 : decode cX3_takeBehindUnit 61 = .ok (.goto 77, 3) := by decide +kernel
theorem dX3_takeBehindUnit_64 : decode cX3_takeBehindUnit 64 = .ok (.aload_n 0, 1) := by decide +kernel
theorem dX3_takeBehindUnit_65 : decode cX3_takeBehindUnit 65 = .ok (.iconst 1, 1) := by decide +kernel
theorem dX3_takeBehindUnit_66 : decode cX3_takeBehindUnit 66 = .ok (.invokevirtual 112, 3) := by decide +kernel
theorem dX3_takeBehindUnit_69 : decode cX3_takeBehindUnit 69 = .ok (.goto 69, 3) := by decide +kernel
theorem dX3_takeBehindUnit_72 : decode cX3_takeBehindUnit 72 = .ok (.aload_n 0, 1) := by decide +kernel
theorem dX3_takeBehindUnit_73 : decode cX3_takeBehindUnit 73 = .ok (.getstatic 121, 3) := by decide +kernel
theorem dX3_takeBehindUnit_76 : decode cX3_takeBehindUnit 76 = .ok (.aload_n 0, 1) := by decide +kernel
theorem dX3_takeBehindUnit_77 : decode cX3_takeBehindUnit 77 = .ok (.getfield 31, 3) := by decide +kernel
theorem dX3_takeBehindUnit_80 : decode cX3_takeBehindUnit 80 = .ok (.getfield 100, 3) := by decide +kernel
theorem dX3_takeBehindUnit_83 : decode cX3_takeBehindUnit 83 = .ok (.iaload, 1) := by decide +kernel
theorem dX3_takeBehindUnit_84 : decode cX3_takeBehindUnit 84 = .ok (.invokevirtual 112, 3) := by decide +kernel
theorem dX3_takeBehindUnit_87 : decode cX3_takeBehindUnit 87 = .ok (.aload_n 0, 1) := by decide +kernel
theorem dX3_takeBehindUnit_88 : decode cX3_takeBehindUnit 88 = .ok (.aload_n 0, 1) := by decide +kernel
theorem dX3_takeBehindUnit_89 : decode cX3_takeBehindUnit 89 = .ok (.getfield 31, 3) := by decide +kernel
theorem dX3_takeBehindUnit_92 : decode cX3_takeBehindUnit 92 = .ok (.getfield 100, 3) := by decide +kernel
theorem dX3_takeBehindUnit_95 : decode cX3_takeBehindUnit 95 = .ok (.invokevirtual 106, 3) := by decide +kernel
theorem dX3_takeBehindUnit_98 : decode cX3_takeBehindUnit 98 = .ok (.aload_n 0, 1) := by decide +kernel
theorem dX3_takeBehindUnit_99 : decode cX3_takeBehindUnit 99 = .ok (.aload_n 0, 1) := by decide +kernel
theorem dX3_takeBehindUnit_100 : decode cX3_takeBehindUnit 100 = .ok (.getfield 31, 3) := by decide +kernel
theorem dX3_takeBehindUnit_103 : decode cX3_takeBehindUnit 103 = .ok (.getfield 41, 3) := by decide +kernel
theorem dX3_takeBehindUnit_106 : decode cX3_takeBehindUnit 106 = .ok (.bipush 8, 2) := by decide +kernel
theorem dX3_takeBehindUnit_108 : decode cX3_takeBehindUnit 108 = .ok (.if_icmp .eq 22, 3) := by decide +kernel
theorem dX3_takeBehindUnit_111 : decode cX3_takeBehindUnit 111 = .ok (.aload_n 0, 1) := by decide +kernel
theorem dX3_takeBehindUnit_112 : decode cX3_takeBehindUnit 112 = .ok (.getfield 76, 3) := by decide +kernel
theorem dX3_takeBehindUnit_115 : decode cX3_takeBehindUnit 115 = .ok (.ifCond .eq 19, 3) := by decide +kernel
theorem dX3_takeBehindUnit_118 : decode cX3_takeBehindUnit 118 = .ok (.aload_n 0, 1) := by decide +kernel
theorem dX3_takeBehindUnit_119 : decode cX3_takeBehindUnit 119 = .ok (.getfield 31, 3) := by decide +kernel
theorem dX3_takeBehindUnit_122 : decode cX3_takeBehindUnit 122 = .ok (.getfield 41, 3) := by decide +kernel
theorem dX3_takeBehindUnit_125 : decode cX3_takeBehindUnit 125 = .ok (.bipush 9, 2) := by decide +kernel
theorem dX3_takeBehindUnit_127 : decode cX3_takeBehindUnit 127 = .ok (.if_icmp .ne 7, 3) := by decide +kernel
theorem dX3_takeBehindUnit_130 : decode cX3_takeBehindUnit 130 = .ok (.iconst 1, 1) := by decide +kernel
theorem dX3_takeBehindUnit_131 : decode cX3_takeBehindUnit 131 = .ok (.goto 4, 3) := by decide +kernel
theorem dX3_takeBehindUnit_134 : decode cX3_takeBehindUnit 134 = .ok (.iconst 0, 1) := by decide +kernel
theorem dX3_takeBehindUnit_135 : decode cX3_takeBehindUnit 135 = .ok (.putfield 76, 3) := by decide +kernel
theorem dX3_takeBehindUnit_138 : decode cX3_takeBehindUnit 138 = .ok (.return_, 1) := by decide +kernel
theorem dX3_emitDownTo_0 : decode cX3_emitDownTo 0 = .ok (.aload_n 0, 1) := by decide +kernel
theorem dX3_emitDownTo_1 : decode cX3_emitDownTo 1 = .ok (.getfield 70, 3) := by decide +kernel
theorem dX3_emitDownTo_4 : decode cX3_emitDownTo 4 = .ok (.ifCond .le 53, 3) := by decide +kernel
theorem dX3_emitDownTo_7 : decode cX3_emitDownTo 7 = .ok (.getstatic 121, 3) := by decide +kernel
theorem dX3_emitDownTo_10 : decode cX3_emitDownTo 10 = .ok (.aload_n 0, 1) := by decide +kernel
theorem dX3_emitDownTo_11 : decode cX3_emitDownTo 11 = .ok (.getfield 9, 3) := by decide +kernel
theorem dX3_emitDownTo_14 : decode cX3_emitDownTo 14 = .ok (.aload_n 0, 1) := by decide +kernel
theorem dX3_emitDownTo_15 : decode cX3_emitDownTo 15 = .ok (.getfield 70, 3) := by decide +kernel
theorem dX3_emitDownTo_18 : decode cX3_emitDownTo 18 = .ok (.iconst 1, 1) := by decide +kernel
theorem dX3_emitDownTo_19 : decode cX3_emitDownTo 19 = .ok (.isub, 1) := by decide +kernel
theorem dX3_emitDownTo_20 : decode cX3_emitDownTo 20 = .ok (.iaload, 1) := by decide +kernel
theorem dX3_emitDownTo_21 : decode cX3_emitDownTo 21 = .ok (.iaload, 1) := by decide +kernel
theorem dX3_emitDownTo_22 : decode cX3_emitDownTo 22 = .ok (.iload_n 1, 1) := by decide +kernel
theorem dX3_emitDownTo_23 : decode cX3_emitDownTo 23 = .ok (.if_icmp .lt 34, 3) := by decide +kernel
theorem dX3_emitDownTo_26 : decode cX3_emitDownTo 26 = .ok (.aload_n 0, 1) := by decide +kernel
theorem dX3_emitDownTo_27 : decode cX3_emitDownTo 27 = .ok (.dup, 1) := by decide +kernel
theorem dX3_emitDownTo_28 : decode cX3_emitDownTo 28 = .ok (.getfield 70, 3) := by decide +kernel
theorem dX3_emitDownTo_31 : decode cX3_emitDownTo 31 = .ok (.iconst 1, 1) := by decide +kernel
theorem dX3_emitDownTo_32 : decode cX3_emitDownTo 32 = .ok (.isub, 1) := by decide +kernel
theorem dX3_emitDownTo_33 : decode cX3_emitDownTo 33 = .ok (.putfield 70, 3) := by decide +kernel
theorem dX3_emitDownTo_36 : decode cX3_emitDownTo 36 = .ok (.aload_n 0, 1) := by decide +kernel
theorem dX3_emitDownTo_37 : decode cX3_emitDownTo 37 = .ok (.getfield 18, 3) := by decide +kernel
theorem dX3_emitDownTo_40 : decode cX3_emitDownTo 40 = .ok (.aload_n 0, 1) := by decide +kernel
theorem dX3_emitDownTo_41 : decode cX3_emitDownTo 41 = .ok (.getfield 9, 3) := by decide +kernel
theorem dX3_emitDownTo_44 : decode cX3_emitDownTo 44 = .ok (.aload_n 0, 1) := by decide +kernel
theorem dX3_emitDownTo_45 : decode cX3_emitDownTo 45 = .ok (.getfield 70, 3) := by decide +kernel
theorem dX3_emitDownTo_48 : decode cX3_emitDownTo 48 = .ok (.iaload, 1) := by decide +kernel
theorem dX3_emitDownTo_49 : decode cX3_emitDownTo 49 = .ok (.iconst (-1), 1) := by decide +kernel
theorem dX3_emitDownTo_50 : decode cX3_emitDownTo 50 = .ok (.ixor, 1) := by decide +kernel
theorem dX3_emitDownTo_51 : decode cX3_emitDownTo 51 = .ok (.invokevirtual 109, 3) := by decide +kernel
theorem dX3_emitDownTo_54 : decode cX3_emitDownTo 54 = .ok (.goto (-54), 3) := by decide +kernel
theorem dX3_emitDownTo_57 : decode cX3_emitDownTo 57 = .ok (.return_, 1) := by decide +kernel
theorem dX3_push_0 : decode cX3_push 0 = .ok (.aload_n 0, 1) := by decide +kernel
theorem dX3_push_1 : decode cX3_push 1 = .ok (.getfield 70, 3) := by decide +kernel
theorem dX3_push_4 : decode cX3_push 4 = .ok (.bipush 32, 2) := by decide +kernel
theorem dX3_push_6 : decode cX3_push 6 = .ok (.if_icmp .ge 23, 3) := by decide +kernel
theorem dX3_push_9 : decode cX3_push 9 = .ok (.aload_n 0, 1) := by decide +kernel
theorem dX3_push_10 : decode cX3_push 10 = .ok (.getfield 9, 3) := by decide +kernel
theorem dX3_push_13 : decode cX3_push 13 = .ok (.aload_n 0, 1) := by decide +kernel
theorem dX3_push_14 : decode cX3_push 14 = .ok (.getfield 70, 3) := by decide +kernel
theorem dX3_push_17 : decode cX3_push 17 = .ok (.iload_n 1, 1) := by decide +kernel
theorem dX3_push_18 : decode cX3_push 18 = .ok (.iastore, 1) := by decide +kernel
theorem dX3_push_19 : decode cX3_push 19 = .ok (.aload_n 0, 1) := by decide +kernel
theorem dX3_push_20 : decode cX3_push 20 = .ok (.dup, 1) := by decide +kernel
theorem dX3_push_21 : decode cX3_push 21 = .ok (.getfield 70, 3) := by decide +kernel
theorem dX3_push_24 : decode cX3_push 24 = .ok (.iconst 1, 1) := by decide +kernel
theorem dX3_push_25 : decode cX3_push 25 = .ok (.iadd, 1) := by decide +kernel
theorem dX3_push_26 : decode cX3_push 26 = .ok (.putfield 70, 3) := by decide +kernel
theorem dX3_push_29 : decode cX3_push 29 = .ok (.return_, 1) := by decide +kernel
theorem dX4_init_0 : decode cX4_init 0 = .ok (.aload_n 0, 1) := by decide +kernel
theorem dX4_init_1 : decode cX4_init 1 = .ok (.invokespecial 3, 3) := by decide +kernel
theorem dX4_init_4 : decode cX4_init 4 = .ok (.aload_n 0, 1) := by decide +kernel
theorem dX4_init_5 : decode cX4_init 5 = .ok (.bipush 20, 2) := by decide +kernel
theorem dX4_init_7 : decode cX4_init 7 = .ok (.newarray .boolean, 2) := by decide +kernel
theorem dX4_init_9 : decode cX4_init 9 = .ok (.putfield 9, 3) := by decide +kernel
theorem dX4_init_12 : decode cX4_init 12 = .ok (.aload_n 0, 1) := by decide +kernel
theorem dX4_init_13 : decode cX4_init 13 = .ok (.bipush 20, 2) := by decide +kernel
theorem dX4_init_15 : decode cX4_init 15 = .ok (.newarray .int, 2) := by decide +kernel
theorem dX4_init_17 : decode cX4_init 17 = .ok (.putfield 15, 3) := by decide +kernel
theorem dX4_init_20 : decode cX4_init 20 = .ok (.aload_n 0, 1) := by decide +kernel
theorem dX4_init_21 : decode cX4_init 21 = .ok (.bipush 20, 2) := by decide +kernel
theorem dX4_init_23 : decode cX4_init 23 = .ok (.newarray .int, 2) := by decide +kernel
theorem dX4_init_25 : decode cX4_init 25 = .ok (.putfield 19, 3) := by decide +kernel
theorem dX4_init_28 : decode cX4_init 28 = .ok (.aload_n 0, 1) := by decide +kernel
theorem dX4_init_29 : decode cX4_init 29 = .ok (.bipush 20, 2) := by decide +kernel
theorem dX4_init_31 : decode cX4_init 31 = .ok (.newarray .int, 2) := by decide +kernel
theorem dX4_init_33 : decode cX4_init 33 = .ok (.putfield 22, 3) := by decide +kernel
theorem dX4_init_36 : decode cX4_init 36 = .ok (.aload_n 0, 1) := by decide +kernel
theorem dX4_init_37 : decode cX4_init 37 = .ok (.sipush 400, 3) := by decide +kernel
theorem dX4_init_40 : decode cX4_init 40 = .ok (.newarray .int, 2) := by decide +kernel
theorem dX4_init_42 : decode cX4_init 42 = .ok (.putfield 25, 3) := by decide +kernel
theorem dX4_init_45 : decode cX4_init 45 = .ok (.aload_n 0, 1) := by decide +kernel
theorem dX4_init_46 : decode cX4_init 46 = .ok (.bipush 32, 2) := by decide +kernel
theorem dX4_init_48 : decode cX4_init 48 = .ok (.newarray .int, 2) := by decide +kernel
theorem dX4_init_50 : decode cX4_init 50 = .ok (.putfield 28, 3) := by decide +kernel
theorem dX4_init_53 : decode cX4_init 53 = .ok (.return_, 1) := by decide +kernel
theorem dX4_clear_0 : decode cX4_clear 0 = .ok (.aload_n 0, 1) := by decide +kernel
theorem dX4_clear_1 : decode cX4_clear 1 = .ok (.iconst 0, 1) := by decide +kernel
theorem dX4_clear_2 : decode cX4_clear 2 = .ok (.putfield 31, 3) := by decide +kernel
theorem dX4_clear_5 : decode cX4_clear 5 = .ok (.aload_n 0, 1) := by decide +kernel
theorem dX4_clear_6 : decode cX4_clear 6 = .ok (.iconst 0, 1) := by decide +kernel
theorem dX4_clear_7 : decode cX4_clear 7 = .ok (.putfield 35, 3) := by decide +kernel
theorem dX4_clear_10 : decode cX4_clear 10 = .ok (.return_, 1) := by decide +kernel
theorem dX4_add_0 : decode cX4_add 0 = .ok (.aload_n 0, 1) := by decide +kernel
theorem dX4_add_1 : decode cX4_add 1 = .ok (.getfield 31, 3) := by decide +kernel
theorem dX4_add_4 : decode cX4_add 4 = .ok (.bipush 20, 2) := by decide +kernel
theorem dX4_add_6 : decode cX4_add 6 = .ok (.if_icmp .ge 49, 3) := by decide +kernel
theorem dX4_add_9 : decode cX4_add 9 = .ok (.aload_n 0, 1) := by decide +kernel
theorem dX4_add_10 : decode cX4_add 10 = .ok (.getfield 9, 3) := by decide +kernel
theorem dX4_add_13 : decode cX4_add 13 = .ok (.aload_n 0, 1) := by decide +kernel
theorem dX4_add_14 : decode cX4_add 14 = .ok (.getfield 31, 3) := by decide +kernel
theorem dX4_add_17 : decode cX4_add 17 = .ok (.iload_n 1, 1) := by decide +kernel
theorem dX4_add_18 : decode cX4_add 18 = .ok (.bastore, 1) := by decide +kernel
theorem dX4_add_19 : decode cX4_add 19 = .ok (.aload_n 0, 1) := by decide +kernel
theorem dX4_add_20 : decode cX4_add 20 = .ok (.getfield 19, 3) := by decide +kernel
theorem dX4_add_23 : decode cX4_add 23 = .ok (.aload_n 0, 1) := by decide +kernel
theorem dX4_add_24 : decode cX4_add 24 = .ok (.getfield 31, 3) := by decide +kernel
theorem dX4_add_27 : decode cX4_add 27 = .ok (.aload_n 0, 1) := by decide +kernel
theorem dX4_add_28 : decode cX4_add 28 = .ok (.getfield 35, 3) := by decide +kernel
theorem dX4_add_31 : decode cX4_add 31 = .ok (.iastore, 1) := by decide +kernel
theorem dX4_add_32 : decode cX4_add 32 = .ok (.aload_n 0, 1) := by decide +kernel
theorem dX4_add_33 : decode cX4_add 33 = .ok (.getfield 22, 3) := by decide +kernel
theorem dX4_add_36 : decode cX4_add 36 = .ok (.aload_n 0, 1) := by decide +kernel
theorem dX4_add_37 : decode cX4_add 37 = .ok (.getfield 31, 3) := by decide +kernel
theorem dX4_add_40 : decode cX4_add 40 = .ok (.aload_n 0, 1) := by decide +kernel
theorem dX4_add_41 : decode cX4_add 41 = .ok (.getfield 35, 3) := by decide +kernel
theorem dX4_add_44 : decode cX4_add 44 = .ok (.iastore, 1) := by decide +kernel
theorem dX4_add_45 : decode cX4_add 45 = .ok (.aload_n 0, 1) := by decide +kernel
theorem dX4_add_46 : decode cX4_add 46 = .ok (.dup, 1) := by decide +kernel
theorem dX4_add_47 : decode cX4_add 47 = .ok (.getfield 31, 3) := by decide +kernel
theorem dX4_add_50 : decode cX4_add 50 = .ok (.iconst 1, 1) := by decide +kernel
theorem dX4_add_51 : decode cX4_add 51 = .ok (.iadd, 1) := by decide +kernel
theorem dX4_add_52 : decode cX4_add 52 = .ok (.putfield 31, 3) := by decide +kernel
theorem dX4_add_55 : decode cX4_add 55 = .ok (.return_, 1) := by decide +kernel
theorem dX4_setNumber_0 : decode cX4_setNumber 0 = .ok (.aload_n 0, 1) := by decide +kernel
theorem dX4_setNumber_1 : decode cX4_setNumber 1 = .ok (.getfield 31, 3) := by decide +kernel
theorem dX4_setNumber_4 : decode cX4_setNumber 4 = .ok (.ifCond .le 15, 3) := by decide +kernel
theorem dX4_setNumber_7 : decode cX4_setNumber 7 = .ok (.aload_n 0, 1) := by decide +kernel
theorem dX4_setNumber_8 : decode cX4_setNumber 8 = .ok (.getfield 15, 3) := by decide +kernel
theorem dX4_setNumber_11 : decode cX4_setNumber 11 = .ok (.aload_n 0, 1) := by decide +kernel
theorem dX4_setNumber_12 : decode cX4_setNumber 12 = .ok (.getfield 31, 3) := by decide +kernel
theorem dX4_setNumber_15 : decode cX4_setNumber 15 = .ok (.iconst 1, 1) := by decide +kernel
theorem dX4_setNumber_16 : decode cX4_setNumber 16 = .ok (.isub, 1) := by decide +kernel
theorem dX4_setNumber_17 : decode cX4_setNumber 17 = .ok (.iload_n 1, 1) := by decide +kernel
theorem dX4_setNumber_18 : decode cX4_setNumber 18 = .ok (.iastore, 1) := by decide +kernel
theorem dX4_setNumber_19 : decode cX4_setNumber 19 = .ok (.return_, 1) := by decide +kernel
theorem dX4_emit_0 : decode cX4_emit 0 = .ok (.aload_n 0, 1) := by decide +kernel
theorem dX4_emit_1 : decode cX4_emit 1 = .ok (.getfield 31, 3) := by decide +kernel
theorem dX4_emit_4 : decode cX4_emit 4 = .ok (.ifCond .le 48, 3) := by decide +kernel
theorem dX4_emit_7 : decode cX4_emit 7 = .ok (.aload_n 0, 1) := by decide +kernel
theorem dX4_emit_8 : decode cX4_emit 8 = .ok (.getfield 35, 3) := by decide +kernel
theorem dX4_emit_11 : decode cX4_emit 11 = .ok (.sipush 400, 3) := by decide +kernel
theorem dX4_emit_14 : decode cX4_emit 14 = .ok (.if_icmp .ge 38, 3) := by decide +kernel
theorem dX4_emit_17 : decode cX4_emit 17 = .ok (.aload_n 0, 1) := by decide +kernel
theorem dX4_emit_18 : decode cX4_emit 18 = .ok (.getfield 25, 3) := by decide +kernel
theorem dX4_emit_21 : decode cX4_emit 21 = .ok (.aload_n 0, 1) := by decide +kernel
theorem dX4_emit_22 : decode cX4_emit 22 = .ok (.getfield 35, 3) := by decide +kernel
theorem dX4_emit_25 : decode cX4_emit 25 = .ok (.iload_n 1, 1) := by decide +kernel
theorem dX4_emit_26 : decode cX4_emit 26 = .ok (.iastore, 1) := by decide +kernel
theorem dX4_emit_27 : decode cX4_emit 27 = .ok (.aload_n 0, 1) := by decide +kernel
theorem dX4_emit_28 : decode cX4_emit 28 = .ok (.dup, 1) := by decide +kernel
theorem dX4_emit_29 : decode cX4_emit 29 = .ok (.getfield 35, 3) := by decide +kernel
theorem dX4_emit_32 : decode cX4_emit 32 = .ok (.iconst 1, 1) := by decide +kernel
theorem dX4_emit_33 : decode cX4_emit 33 = .ok (.iadd, 1) := by decide +kernel
theorem dX4_emit_34 : decode cX4_emit 34 = .ok (.putfield 35, 3) := by decide +kernel
theorem dX4_emit_37 : decode cX4_emit 37 = .ok (.aload_n 0, 1) := by decide +kernel
theorem dX4_emit_38 : decode cX4_emit 38 = .ok (.getfield 22, 3) := by decide +kernel
theorem dX4_emit_41 : decode cX4_emit 41 = .ok (.aload_n 0, 1) := by decide +kernel
theorem dX4_emit_42 : decode cX4_emit 42 = .ok (.getfield 31, 3) := by decide +kernel
theorem dX4_emit_45 : decode cX4_emit 45 = .ok (.iconst 1, 1) := by decide +kernel
theorem dX4_emit_46 : decode cX4_emit 46 = .ok (.isub, 1) := by decide +kernel
theorem dX4_emit_47 : decode cX4_emit 47 = .ok (.aload_n 0, 1) := by decide +kernel
theorem dX4_emit_48 : decode cX4_emit 48 = .ok (.getfield 35, 3) := by decide +kernel
theorem dX4_emit_51 : decode cX4_emit 51 = .ok (.iastore, 1) := by decide +kernel
theorem dX4_emit_52 : decode cX4_emit 52 = .ok (.return_, 1) := by decide +kernel
theorem dX4_choose_0 : decode cX4_choose 0 = .ok (.iconst (-1), 1) := by decide +kernel
theorem dX4_choose_1 : decode cX4_choose 1 = .ok (.istore_n 3, 1) := by decide +kernel
theorem dX4_choose_2 : decode cX4_choose 2 = .ok (.iconst 0, 1) := by decide +kernel
theorem dX4_choose_3 : decode cX4_choose 3 = .ok (.istore 4, 2) := by decide +kernel
theorem dX4_choose_5 : decode cX4_choose 5 = .ok (.iload 4, 2) := by decide +kernel
theorem dX4_choose_7 : decode cX4_choose 7 = .ok (.aload_n 0, 1) := by decide +kernel
theorem dX4_choose_8 : decode cX4_choose 8 = .ok (.getfield 31, 3) := by decide +kernel
theorem dX4_choose_11 : decode cX4_choose 11 = .ok (.if_icmp .ge 56, 3) := by decide +kernel
theorem dX4_choose_14 : decode cX4_choose 14 = .ok (.aload_n 0, 1) := by decide +kernel
theorem dX4_choose_15 : decode cX4_choose 15 = .ok (.getfield 9, 3) := by decide +kernel
theorem dX4_choose_18 : decode cX4_choose 18 = .ok (.iload 4, 2) := by decide +kernel
theorem dX4_choose_20 : decode cX4_choose 20 = .ok (.baload, 1) := by decide +kernel
theorem dX4_choose_21 : decode cX4_choose 21 = .ok (.ifCond .ne 40, 3) := by decide +kernel
theorem dX4_choose_24 : decode cX4_choose 24 = .ok (.aload_n 0, 1) := by decide +kernel
theorem dX4_choose_25 : decode cX4_choose 25 = .ok (.iload 4, 2) := by decide +kernel
theorem dX4_choose_27 : decode cX4_choose 27 = .ok (.aload_n 1, 1) := by decide +kernel
theorem dX4_choose_28 : decode cX4_choose 28 = .ok (.invokevirtual 38, 3) := by decide +kernel
theorem dX4_choose_31 : decode cX4_choose 31 = .ok (.ifCond .eq 30, 3) := by decide +kernel
theorem dX4_choose_34 : decode cX4_choose 34 = .ok (.iload_n 3, 1) := by decide +kernel
theorem dX4_choose_35 : decode cX4_choose 35 = .ok (.iconst (-1), 1) := by decide +kernel
theorem dX4_choose_36 : decode cX4_choose 36 = .ok (.if_icmp .eq 17, 3) := by decide +kernel
theorem dX4_choose_39 : decode cX4_choose 39 = .ok (.iload_n 3, 1) := by decide +kernel
theorem dX4_choose_40 : decode cX4_choose 40 = .ok (.aload_n 0, 1) := by decide +kernel
theorem dX4_choose_41 : decode cX4_choose 41 = .ok (.getfield 15, 3) := by decide +kernel
theorem dX4_choose_44 : decode cX4_choose 44 = .ok (.iload 4, 2) := by decide +kernel
theorem dX4_choose_46 : decode cX4_choose 46 = .ok (.iaload, 1) := by decide +kernel
theorem dX4_choose_47 : decode cX4_choose 47 = .ok (.if_icmp .eq 6, 3) := by decide +kernel
theorem dX4_choose_50 : decode cX4_choose 50 = .ok (.bipush (-2), 2) := by decide +kernel
theorem dX4_choose_52 : decode cX4_choose 52 = .ok (.ireturn, 1) := by decide +kernel
theorem dX4_choose_53 : decode cX4_choose 53 = .ok (.aload_n 0, 1) := by decide +kernel
theorem dX4_choose_54 : decode cX4_choose 54 = .ok (.getfield 15, 3) := by decide +kernel
theorem dX4_choose_57 : decode cX4_choose 57 = .ok (.iload 4, 2) := by decide +kernel
theorem dX4_choose_59 : decode cX4_choose 59 = .ok (.iaload, 1) := by decide +kernel
theorem dX4_choose_60 : decode cX4_choose 60 = .ok (.istore_n 3, 1) := by decide +kernel
theorem dX4_choose_61 : decode cX4_choose 61 = .ok (.iinc 4 1, 3) := by decide +kernel
theorem dX4_choose_64 : decode cX4_choose 64 = .ok (.goto (-59), 3) := by decide +kernel
theorem dX4_choose_67 : decode cX4_choose 67 = .ok (.iload_n 3, 1) := by decide +kernel
theorem dX4_choose_68 : decode cX4_choose 68 = .ok (.iload_n 2, 1) := by decide +kernel
theorem dX4_choose_69 : decode cX4_choose 69 = .ok (.if_icmp .ge 7, 3) := by decide +kernel
theorem dX4_choose_72 : decode cX4_choose 72 = .ok (.iload_n 3, 1) := by decide +kernel
theorem dX4_choose_73 : decode cX4_choose 73 = .ok (.goto 5, 3) := by decide +kernel
theorem dX4_choose_76 : decode cX4_choose 76 = .ok (.bipush (-2), 2) := by decide +kernel
theorem dX4_choose_78 : decode cX4_choose 78 = .ok (.ireturn, 1) := by decide +kernel
theorem dX4_kindsAhead_0 : decode cX4_kindsAhead 0 = .ok (.iconst 0, 1) := by decide +kernel
theorem dX4_kindsAhead_1 : decode cX4_kindsAhead 1 = .ok (.istore_n 2, 1) := by decide +kernel
theorem dX4_kindsAhead_2 : decode cX4_kindsAhead 2 = .ok (.iconst 0, 1) := by decide +kernel
theorem dX4_kindsAhead_3 : decode cX4_kindsAhead 3 = .ok (.istore_n 3, 1) := by decide +kernel
theorem dX4_kindsAhead_4 : decode cX4_kindsAhead 4 = .ok (.iload_n 3, 1) := by decide +kernel
theorem dX4_kindsAhead_5 : decode cX4_kindsAhead 5 = .ok (.aload_n 0, 1) := by decide +kernel
theorem dX4_kindsAhead_6 : decode cX4_kindsAhead 6 = .ok (.getfield 31, 3) := by decide +kernel
theorem dX4_kindsAhead_9 : decode cX4_kindsAhead 9 = .ok (.if_icmp .ge 38, 3) := by decide +kernel
theorem dX4_kindsAhead_12 : decode cX4_kindsAhead 12 = .ok (.aload_n 0, 1) := by decide +kernel
theorem dX4_kindsAhead_13 : decode cX4_kindsAhead 13 = .ok (.getfield 9, 3) := by decide +kernel
theorem dX4_kindsAhead_16 : decode cX4_kindsAhead 16 = .ok (.iload_n 3, 1) := by decide +kernel
theorem dX4_kindsAhead_17 : decode cX4_kindsAhead 17 = .ok (.baload, 1) := by decide +kernel
theorem dX4_kindsAhead_18 : decode cX4_kindsAhead 18 = .ok (.ifCond .eq 23, 3) := by decide +kernel
theorem dX4_kindsAhead_21 : decode cX4_kindsAhead 21 = .ok (.aload_n 0, 1) := by decide +kernel
theorem dX4_kindsAhead_22 : decode cX4_kindsAhead 22 = .ok (.iload_n 3, 1) := by decide +kernel
theorem dX4_kindsAhead_23 : decode cX4_kindsAhead 23 = .ok (.aload_n 1, 1) := by decide +kernel
theorem dX4_kindsAhead_24 : decode cX4_kindsAhead 24 = .ok (.invokevirtual 38, 3) := by decide +kernel
theorem dX4_kindsAhead_27 : decode cX4_kindsAhead 27 = .ok (.ifCond .eq 14, 3) := by decide +kernel
theorem dX4_kindsAhead_30 : decode cX4_kindsAhead 30 = .ok (.iload_n 2, 1) := by decide +kernel
theorem dX4_kindsAhead_31 : decode cX4_kindsAhead 31 = .ok (.iconst 1, 1) := by decide +kernel
theorem dX4_kindsAhead_32 : decode cX4_kindsAhead 32 = .ok (.aload_n 0, 1) := by decide +kernel
theorem dX4_kindsAhead_33 : decode cX4_kindsAhead 33 = .ok (.getfield 15, 3) := by decide +kernel
theorem dX4_kindsAhead_36 : decode cX4_kindsAhead 36 = .ok (.iload_n 3, 1) := by decide +kernel
theorem dX4_kindsAhead_37 : decode cX4_kindsAhead 37 = .ok (.iaload, 1) := by decide +kernel
theorem dX4_kindsAhead_38 : decode cX4_kindsAhead 38 = .ok (.ishl, 1) := by decide +kernel
theorem dX4_kindsAhead_39 : decode cX4_kindsAhead 39 = .ok (.ior, 1) := by decide +kernel
theorem dX4_kindsAhead_40 : decode cX4_kindsAhead 40 = .ok (.istore_n 2, 1) := by decide +kernel
theorem dX4_kindsAhead_41 : decode cX4_kindsAhead 41 = .ok (.iinc 3 1, 3) := by decide +kernel
theorem dX4_kindsAhead_44 : decode cX4_kindsAhead 44 = .ok (.goto (-40), 3) := by decide +kernel
theorem dX4_kindsAhead_47 : decode cX4_kindsAhead 47 = .ok (.iload_n 2, 1) := by decide +kernel
theorem dX4_kindsAhead_48 : decode cX4_kindsAhead 48 = .ok (.ireturn, 1) := by decide +kernel
theorem dX4_holds_0 : decode cX4_holds 0 = .ok (.aload_n 0, 1) := by decide +kernel
theorem dX4_holds_1 : decode cX4_holds 1 = .ok (.getfield 19, 3) := by decide +kernel
theorem dX4_holds_4 : decode cX4_holds 4 = .ok (.iload_n 1, 1) := by decide +kernel
theorem dX4_holds_5 : decode cX4_holds 5 = .ok (.iaload, 1) := by decide +kernel
theorem dX4_holds_6 : decode cX4_holds 6 = .ok (.aload_n 0, 1) := by decide +kernel
theorem dX4_holds_7 : decode cX4_holds 7 = .ok (.getfield 22, 3) := by decide +kernel
theorem dX4_holds_10 : decode cX4_holds 10 = .ok (.iload_n 1, 1) := by decide +kernel
theorem dX4_holds_11 : decode cX4_holds 11 = .ok (.iaload, 1) := by decide +kernel
theorem dX4_holds_12 : decode cX4_holds 12 = .ok (.if_icmp .ne 5, 3) := by decide +kernel
theorem dX4_holds_15 : decode cX4_holds 15 = .ok (.iconst 1, 1) := by decide +kernel
theorem dX4_holds_16 : decode cX4_holds 16 = .ok (.ireturn, 1) := by decide +kernel
theorem dX4_holds_17 : decode cX4_holds 17 = .ok (.iconst 0, 1) := by decide +kernel
theorem dX4_holds_18 : decode cX4_holds 18 = .ok (.istore_n 3, 1) := by decide +kernel
theorem dX4_holds_19 : decode cX4_holds 19 = .ok (.aload_n 0, 1) := by decide +kernel
theorem dX4_holds_20 : decode cX4_holds 20 = .ok (.getfield 19, 3) := by decide +kernel
theorem dX4_holds_23 : decode cX4_holds 23 = .ok (.iload_n 1, 1) := by decide +kernel
theorem dX4_holds_24 : decode cX4_holds 24 = .ok (.iaload, 1) := by decide +kernel
theorem dX4_holds_25 : decode cX4_holds 25 = .ok (.istore 4, 2) := by decide +kernel
theorem dX4_holds_27 : decode cX4_holds 27 = .ok (.iload 4, 2) := by decide +kernel
theorem dX4_holds_29 : decode cX4_holds 29 = .ok (.aload_n 0, 1) := by decide +kernel
theorem dX4_holds_30 : decode cX4_holds 30 = .ok (.getfield 22, 3) := by decide +kernel
theorem dX4_holds_33 : decode cX4_holds 33 = .ok (.iload_n 1, 1) := by decide +kernel
theorem dX4_holds_34 : decode cX4_holds 34 = .ok (.iaload, 1) := by decide +kernel
theorem dX4_holds_35 : decode cX4_holds 35 = .ok (.if_icmp .ge 108, 3) := by decide +kernel
theorem dX4_holds_38 : decode cX4_holds 38 = .ok (.aload_n 0, 1) := by decide +kernel
theorem dX4_holds_39 : decode cX4_holds 39 = .ok (.getfield 25, 3) := by decide +kernel
theorem dX4_holds_42 : decode cX4_holds 42 = .ok (.iload 4, 2) := by decide +kernel
theorem dX4_holds_44 : decode cX4_holds 44 = .ok (.iaload, 1) := by decide +kernel
theorem dX4_holds_45 : decode cX4_holds 45 = .ok (.istore 5, 2) := by decide +kernel
theorem dX4_holds_47 : decode cX4_holds 47 = .ok (.iload 5, 2) := by decide +kernel
theorem dX4_holds_49 : decode cX4_holds 49 = .ok (.iconst (-1), 1) := by decide +kernel
theorem dX4_holds_50 : decode cX4_holds 50 = .ok (.ixor, 1) := by decide +kernel
theorem dX4_holds_51 : decode cX4_holds 51 = .ok (.istore 6, 2) := by decide +kernel
theorem dX4_holds_53 : decode cX4_holds 53 = .ok (.iload 6, 2) := by decide +kernel
theorem dX4_holds_55 : decode cX4_holds 55 = .ok (.ifCond .lt 10, 3) := by decide +kernel
theorem dX4_holds_58 : decode cX4_holds 58 = .ok (.iload 6, 2) := by decide +kernel
theorem dX4_holds_60 : decode cX4_holds 60 = .ok (.bipush 16, 2) := by decide +kernel
theorem dX4_holds_62 : decode cX4_holds 62 = .ok (.if_icmp .lt 40, 3) := by decide +kernel
theorem dX4_holds_65 : decode cX4_holds 65 = .ok (.iload_n 3, 1) := by decide +kernel
theorem dX4_holds_66 : decode cX4_holds 66 = .ok (.bipush 32, 2) := by decide +kernel
theorem dX4_holds_68 : decode cX4_holds 68 = .ok (.if_icmp .ge 69, 3) := by decide +kernel
theorem dX4_holds_71 : decode cX4_holds 71 = .ok (.aload_n 0, 1) := by decide +kernel
theorem dX4_holds_72 : decode cX4_holds 72 = .ok (.getfield 28, 3) := by decide +kernel
theorem dX4_holds_75 : decode cX4_holds 75 = .ok (.iload_n 3, 1) := by decide +kernel
theorem dX4_holds_76 : decode cX4_holds 76 = .ok (.iload 6, 2) := by decide +kernel
theorem dX4_holds_78 : decode cX4_holds 78 = .ok (.ifCond .ge 8, 3) := by decide +kernel
theorem dX4_holds_81 : decode cX4_holds 81 = .ok (.iload 5, 2) := by decide +kernel
theorem dX4_holds_83 : decode cX4_holds 83 = .ok (.goto 12, 3) := by decide +kernel
theorem dX4_holds_86 : decode cX4_holds 86 = .ok (.iload 6, 2) := by decide +kernel
theorem dX4_holds_88 : decode cX4_holds 88 = .ok (.bipush 16, 2) := by decide +kernel
theorem dX4_holds_90 : decode cX4_holds 90 = .ok (.isub, 1) := by decide +kernel
theorem dX4_holds_91 : decode cX4_holds 91 = .ok (.aload_n 2, 1) := by decide +kernel
theorem dX4_holds_92 : decode cX4_holds 92 = .ok (.invokestatic 42, 3) := by decide +kernel
theorem dX4_holds_95 : decode cX4_holds 95 = .ok (.iastore, 1) := by decide +kernel
theorem dX4_holds_96 : decode cX4_holds 96 = .ok (.iinc 3 1, 3) := by decide +kernel
theorem dX4_holds_99 : decode cX4_holds 99 = .ok (.goto 38, 3) := by decide +kernel
theorem dX4_holds_102 : decode cX4_holds 102 = .ok (.iload_n 3, 1) := by decide +kernel
theorem dX4_holds_103 : decode cX4_holds 103 = .ok (.iconst 2, 1) := by decide +kernel
theorem dX4_holds_104 : decode cX4_holds 104 = .ok (.if_icmp .lt 33, 3) := by decide +kernel
theorem dX4_holds_107 : decode cX4_holds 107 = .ok (.iinc 3 (-1), 3) := by decide +kernel
theorem dX4_holds_110 : decode cX4_holds 110 = .ok (.aload_n 0, 1) := by decide +kernel
theorem dX4_holds_111 : decode cX4_holds 111 = .ok (.getfield 28, 3) := by decide +kernel
theorem dX4_holds_114 : decode cX4_holds 114 = .ok (.iload_n 3, 1) := by decide +kernel
theorem dX4_holds_115 : decode cX4_holds 115 = .ok (.iconst 1, 1) := by decide +kernel
theorem dX4_holds_116 : decode cX4_holds 116 = .ok (.isub, 1) := by decide +kernel
theorem dX4_holds_117 : decode cX4_holds 117 = .ok (.iload 6, 2) := by decide +kernel
theorem dX4_holds_119 : decode cX4_holds 119 = .ok (.aload_n 0, 1) := by decide +kernel
theorem dX4_holds_120 : decode cX4_holds 120 = .ok (.getfield 28, 3) := by decide +kernel
theorem dX4_holds_123 : decode cX4_holds 123 = .ok (.iload_n 3, 1) := by decide +kernel
theorem dX4_holds_124 : decode cX4_holds 124 = .ok (.iconst 1, 1) := by decide +kernel
theorem dX4_holds_125 : decode cX4_holds 125 = .ok (.isub, 1) := by decide +kernel
theorem dX4_holds_126 : decode cX4_holds 126 = .ok (.iaload, 1) := by decide +kernel
theorem dX4_holds_127 : decode cX4_holds 127 = .ok (.aload_n 0, 1) := by decide +kernel
theorem dX4_holds_128 : decode cX4_holds 128 = .ok (.getfield 28, 3) := by decide +kernel
theorem dX4_holds_131 : decode cX4_holds 131 = .ok (.iload_n 3, 1) := by decide +kernel
theorem dX4_holds_132 : decode cX4_holds 132 = .ok (.iaload, 1) := by decide +kernel
theorem dX4_holds_133 : decode cX4_holds 133 = .ok (.invokestatic 46, 3) := by decide +kernel
theorem dX4_holds_136 : decode cX4_holds 136 = .ok (.iastore, 1) := by decide +kernel
theorem dX4_holds_137 : decode cX4_holds 137 = .ok (.iinc 4 1, 3) := by decide +kernel
theorem dX4_holds_140 : decode cX4_holds 140 = .ok (.goto (-113), 3) := by decide +kernel
theorem dX4_holds_143 : decode cX4_holds 143 = .ok (.aload_n 0, 1) := by decide +kernel
theorem dX4_holds_144 : decode cX4_holds 144 = .ok (.getfield 28, 3) := by decide +kernel
theorem dX4_holds_147 : decode cX4_holds 147 = .ok (.iconst 0, 1) := by decide +kernel
theorem dX4_holds_148 : decode cX4_holds 148 = .ok (.iaload, 1) := by decide +kernel
theorem dX4_holds_149 : decode cX4_holds 149 = .ok (.ifCond .eq 7, 3) := by decide +kernel
theorem dX4_holds_152 : decode cX4_holds 152 = .ok (.iconst 1, 1) := by decide +kernel
theorem dX4_holds_153 : decode cX4_holds 153 = .ok (.goto 4, 3) := by decide +kernel
theorem dX4_holds_156 : decode cX4_holds 156 = .ok (.iconst 0, 1) := by decide +kernel
theorem dX4_holds_157 : decode cX4_holds 157 = .ok (.ireturn, 1) := by decide +kernel
theorem dX4_valueOf_0 : decode cX4_valueOf 0 = .ok (.iload_n 0, 1) := by decide +kernel
theorem dX4_valueOf_1 : decode cX4_valueOf 1 = .ok (.aload_n 1, 1) := by decide +kernel
theorem dX4_valueOf_2 : decode cX4_valueOf 2 = .ok (.arraylength, 1) := by decide +kernel
theorem dX4_valueOf_3 : decode cX4_valueOf 3 = .ok (.if_icmp .ge 9, 3) := by decide +kernel
theorem dX4_valueOf_6 : decode cX4_valueOf 6 = .ok (.aload_n 1, 1) := by decide +kernel
theorem dX4_valueOf_7 : decode cX4_valueOf 7 = .ok (.iload_n 0, 1) := by decide +kernel
theorem dX4_valueOf_8 : decode cX4_valueOf 8 = .ok (.iaload, 1) := by decide +kernel
theorem dX4_valueOf_9 : decode cX4_valueOf 9 = .ok (.goto 4, 3) := by decide +kernel
theorem dX4_valueOf_12 : decode cX4_valueOf 12 = .ok (.iconst 0, 1) := by decide +kernel
theorem dX4_valueOf_13 : decode cX4_valueOf 13 = .ok (.ireturn, 1) := by decide +kernel
theorem dX4_apply_0 : decode cX4_apply 0 = .ok (.iload_n 0, 1) := by decide +kernel
theorem dX4_apply_1 : decode cX4_apply 1 = .ok (.tableswitch 107 1 8 #[47, 51, 55, 66, 77, 88, 99, 103], 47) := by decide +kernel
theorem dX4_apply_48 : decode cX4_apply 48 = .ok (.iload_n 1, 1) := by decide +kernel
theorem dX4_apply_49 : decode cX4_apply 49 = .ok (.iload_n 2, 1) := by decide +kernel
theorem dX4_apply_50 : decode cX4_apply 50 = .ok (.ior, 1) := by decide +kernel
theorem dX4_apply_51 : decode cX4_apply 51 = .ok (.ireturn, 1) := by decide +kernel
theorem dX4_apply_52 : decode cX4_apply 52 = .ok (.iload_n 1, 1) := by decide +kernel
theorem dX4_apply_53 : decode cX4_apply 53 = .ok (.iload_n 2, 1) := by decide +kernel
theorem dX4_apply_54 : decode cX4_apply 54 = .ok (.iand, 1) := by decide +kernel
theorem dX4_apply_55 : decode cX4_apply 55 = .ok (.ireturn, 1) := by decide +kernel
theorem dX4_apply_56 : decode cX4_apply 56 = .ok (.iload_n 1, 1) := by decide +kernel
theorem dX4_apply_57 : decode cX4_apply 57 = .ok (.iload_n 2, 1) := by decide +kernel
theorem dX4_apply_58 : decode cX4_apply 58 = .ok (.if_icmp .ne 7, 3) := by decide +kernel
theorem dX4_apply_61 : decode cX4_apply 61 = .ok (.iconst 1, 1) := by decide +kernel
theorem dX4_apply_62 : decode cX4_apply 62 = .ok (.goto 4, 3) := by decide +kernel
theorem dX4_apply_65 : decode cX4_apply 65 = .ok (.iconst 0, 1) := by decide +kernel
theorem dX4_apply_66 : decode cX4_apply 66 = .ok (.ireturn, 1) := by decide +kernel
theorem dX4_apply_67 : decode cX4_apply 67 = .ok (.iload_n 1, 1) := by decide +kernel
theorem dX4_apply_68 : decode cX4_apply 68 = .ok (.iload_n 2, 1) := by decide +kernel
theorem dX4_apply_69 : decode cX4_apply 69 = .ok (.if_icmp .eq 7, 3) := by decide +kernel
theorem dX4_apply_72 : decode cX4_apply 72 = .ok (.iconst 1, 1) := by decide +kernel
theorem dX4_apply_73 : decode cX4_apply 73 = .ok (.goto 4, 3) := by decide +kernel
theorem dX4_apply_76 : decode cX4_apply 76 = .ok (.iconst 0, 1) := by decide +kernel
theorem dX4_apply_77 : decode cX4_apply 77 = .ok (.ireturn, 1) := by decide +kernel
theorem dX4_apply_78 : decode cX4_apply 78 = .ok (.iload_n 1, 1) := by decide +kernel
theorem dX4_apply_79 : decode cX4_apply 79 = .ok (.iload_n 2, 1) := by decide +kernel
theorem dX4_apply_80 : decode cX4_apply 80 = .ok (.if_icmp .ge 7, 3) := by decide +kernel
theorem dX4_apply_83 : decode cX4_apply 83 = .ok (.iconst 1, 1) := by decide +kernel
theorem dX4_apply_84 : decode cX4_apply 84 = .ok (.goto 4, 3) := by decide +kernel
theorem dX4_apply_87 : decode cX4_apply 87 = .ok (.iconst 0, 1) := by decide +kernel
theorem dX4_apply_88 : decode cX4_apply 88 = .ok (.ireturn, 1) := by decide +kernel
theorem dX4_apply_89 : decode cX4_apply 89 = .ok (.iload_n 1, 1) := by decide +kernel
theorem dX4_apply_90 : decode cX4_apply 90 = .ok (.iload_n 2, 1) := by decide +kernel
theorem dX4_apply_91 : decode cX4_apply 91 = .ok (.if_icmp .gt 7, 3) := by decide +kernel
theorem dX4_apply_94 : decode cX4_apply 94 = .ok (.iconst 1, 1) := by decide +kernel
theorem dX4_apply_95 : decode cX4_apply 95 = .ok (.goto 4, 3) := by decide +kernel
theorem dX4_apply_98 : decode cX4_apply 98 = .ok (.iconst 0, 1) := by decide +kernel
theorem dX4_apply_99 : decode cX4_apply 99 = .ok (.ireturn, 1) := by decide +kernel
theorem dX4_apply_100 : decode cX4_apply 100 = .ok (.iload_n 1, 1) := by decide +kernel
theorem dX4_apply_101 : decode cX4_apply 101 = .ok (.iload_n 2, 1) := by decide +kernel
theorem dX4_apply_102 : decode cX4_apply 102 = .ok (.iadd, 1) := by decide +kernel
theorem dX4_apply_103 : decode cX4_apply 103 = .ok (.ireturn, 1) := by decide +kernel
theorem dX4_apply_104 : decode cX4_apply 104 = .ok (.iload_n 1, 1) := by decide +kernel
theorem dX4_apply_105 : decode cX4_apply 105 = .ok (.iload_n 2, 1) := by decide +kernel
theorem dX4_apply_106 : decode cX4_apply 106 = .ok (.isub, 1) := by decide +kernel
theorem dX4_apply_107 : decode cX4_apply 107 = .ok (.ireturn, 1) := by decide +kernel
theorem dX4_apply_108 : decode cX4_apply 108 = .ok (.iload_n 1, 1) := by decide +kernel
theorem dX4_apply_109 : decode cX4_apply 109 = .ok (.iload_n 2, 1) := by decide +kernel
theorem dX4_apply_110 : decode cX4_apply 110 = .ok (.imul, 1) := by decide +kernel
theorem dX4_apply_111 : decode cX4_apply 111 = .ok (.ireturn, 1) := by decide +kernel
theorem dX5_init_0 : decode cX5_init 0 = .ok (.aload_n 0, 1) := by decide +kernel
theorem dX5_init_1 : decode cX5_init 1 = .ok (.invokespecial 3, 3) := by decide +kernel
theorem dX5_init_4 : decode cX5_init 4 = .ok (.aload_n 0, 1) := by decide +kernel
theorem dX5_init_5 : decode cX5_init 5 = .ok (.sipush 2400, 3) := by decide +kernel
theorem dX5_init_8 : decode cX5_init 8 = .ok (.newarray .long, 2) := by decide +kernel
theorem dX5_init_10 : decode cX5_init 10 = .ok (.putfield 9, 3) := by decide +kernel
theorem dX5_init_13 : decode cX5_init 13 = .ok (.aload_n 0, 1) := by decide +kernel
theorem dX5_init_14 : decode cX5_init 14 = .ok (.sipush 300, 3) := by decide +kernel
theorem dX5_init_17 : decode cX5_init 17 = .ok (.newarray .int, 2) := by decide +kernel
theorem dX5_init_19 : decode cX5_init 19 = .ok (.putfield 15, 3) := by decide +kernel
theorem dX5_init_22 : decode cX5_init 22 = .ok (.aload_n 0, 1) := by decide +kernel
theorem dX5_init_23 : decode cX5_init 23 = .ok (.bipush 72, 2) := by decide +kernel
theorem dX5_init_25 : decode cX5_init 25 = .ok (.newarray .int, 2) := by decide +kernel
theorem dX5_init_27 : decode cX5_init 27 = .ok (.putfield 19, 3) := by decide +kernel
theorem dX5_init_30 : decode cX5_init 30 = .ok (.aload_n 0, 1) := by decide +kernel
theorem dX5_init_31 : decode cX5_init 31 = .ok (.bipush 72, 2) := by decide +kernel
theorem dX5_init_33 : decode cX5_init 33 = .ok (.newarray .int, 2) := by decide +kernel
theorem dX5_init_35 : decode cX5_init 35 = .ok (.putfield 22, 3) := by decide +kernel
theorem dX5_init_38 : decode cX5_init 38 = .ok (.aload_n 0, 1) := by decide +kernel
theorem dX5_init_39 : decode cX5_init 39 = .ok (.bipush 8, 2) := by decide +kernel
theorem dX5_init_41 : decode cX5_init 41 = .ok (.newarray .int, 2) := by decide +kernel
theorem dX5_init_43 : decode cX5_init 43 = .ok (.putfield 25, 3) := by decide +kernel
theorem dX5_init_46 : decode cX5_init 46 = .ok (.aload_n 0, 1) := by decide +kernel
theorem dX5_init_47 : decode cX5_init 47 = .ok (.bipush 7, 2) := by decide +kernel
theorem dX5_init_49 : decode cX5_init 49 = .ok (.newarray .int, 2) := by decide +kernel
theorem dX5_init_51 : decode cX5_init 51 = .ok (.putfield 28, 3) := by decide +kernel
theorem dX5_init_54 : decode cX5_init 54 = .ok (.aload_n 0, 1) := by decide +kernel
theorem dX5_init_55 : decode cX5_init 55 = .ok (.aload_n 1, 1) := by decide +kernel
theorem dX5_init_56 : decode cX5_init 56 = .ok (.putfield 31, 3) := by decide +kernel
theorem dX5_init_59 : decode cX5_init 59 = .ok (.return_, 1) := by decide +kernel
theorem dX5_play_0 : decode cX5_play 0 = .ok (.aload_n 0, 1) := by decide +kernel
theorem dX5_play_1 : decode cX5_play 1 = .ok (.invokevirtual 35, 3) := by decide +kernel
theorem dX5_play_4 : decode cX5_play 4 = .ok (.iconst 0, 1) := by decide +kernel
theorem dX5_play_5 : decode cX5_play 5 = .ok (.istore_n 2, 1) := by decide +kernel
theorem dX5_play_6 : decode cX5_play 6 = .ok (.iload_n 2, 1) := by decide +kernel
theorem dX5_play_7 : decode cX5_play 7 = .ok (.sipush 300, 3) := by decide +kernel
theorem dX5_play_10 : decode cX5_play 10 = .ok (.if_icmp .ge 72, 3) := by decide +kernel
theorem dX5_play_13 : decode cX5_play 13 = .ok (.aload_n 0, 1) := by decide +kernel
theorem dX5_play_14 : decode cX5_play 14 = .ok (.iload_n 2, 1) := by decide +kernel
theorem dX5_play_15 : decode cX5_play 15 = .ok (.invokevirtual 38, 3) := by decide +kernel
theorem dX5_play_18 : decode cX5_play 18 = .ok (.aload_n 0, 1) := by decide +kernel
theorem dX5_play_19 : decode cX5_play 19 = .ok (.iload_n 2, 1) := by decide +kernel
theorem dX5_play_20 : decode cX5_play 20 = .ok (.invokevirtual 42, 3) := by decide +kernel
theorem dX5_play_23 : decode cX5_play 23 = .ok (.aload_n 0, 1) := by decide +kernel
theorem dX5_play_24 : decode cX5_play 24 = .ok (.iload_n 2, 1) := by decide +kernel
theorem dX5_play_25 : decode cX5_play 25 = .ok (.invokevirtual 45, 3) := by decide +kernel
theorem dX5_play_28 : decode cX5_play 28 = .ok (.aload_n 0, 1) := by decide +kernel
theorem dX5_play_29 : decode cX5_play 29 = .ok (.iload_n 2, 1) := by decide +kernel
theorem dX5_play_30 : decode cX5_play 30 = .ok (.invokevirtual 48, 3) := by decide +kernel
theorem dX5_play_33 : decode cX5_play 33 = .ok (.aload_n 0, 1) := by decide +kernel
theorem dX5_play_34 : decode cX5_play 34 = .ok (.invokevirtual 51, 3) := by decide +kernel
theorem dX5_play_37 : decode cX5_play 37 = .ok (.ifCond .ne 11, 3) := by decide +kernel
theorem dX5_play_40 : decode cX5_play 40 = .ok (.aload_n 0, 1) := by decide +kernel
theorem dX5_play_41 : decode cX5_play 41 = .ok (.iload_n 2, 1) := by decide +kernel
theorem dX5_play_42 : decode cX5_play 42 = .ok (.putfield 55, 3) := by decide +kernel
theorem dX5_play_45 : decode cX5_play 45 = .ok (.goto 22, 3) := by decide +kernel
theorem dX5_play_48 : decode cX5_play 48 = .ok (.iload_n 1, 1) := by decide +kernel
theorem dX5_play_49 : decode cX5_play 49 = .ok (.ifCond .ne 18, 3) := by decide +kernel
theorem dX5_play_52 : decode cX5_play 52 = .ok (.iload_n 2, 1) := by decide +kernel
theorem dX5_play_53 : decode cX5_play 53 = .ok (.aload_n 0, 1) := by decide +kernel
theorem dX5_play_54 : decode cX5_play 54 = .ok (.getfield 31, 3) := by decide +kernel
theorem dX5_play_57 : decode cX5_play 57 = .ok (.getfield 59, 3) := by decide +kernel
theorem dX5_play_60 : decode cX5_play 60 = .ok (.getfield 65, 3) := by decide +kernel
theorem dX5_play_63 : decode cX5_play 63 = .ok (.if_icmp .lt 4, 3) := by decide +kernel
theorem dX5_play_66 : decode cX5_play 66 = .ok (.return_, 1) := by decide +kernel
theorem dX5_play_67 : decode cX5_play 67 = .ok (.iload_n 1, 1) := by decide +kernel
theorem dX5_play_68 : decode cX5_play 68 = .ok (.ifCond .eq 8, 3) := by decide +kernel
theorem dX5_play_71 : decode cX5_play 71 = .ok (.aload_n 0, 1) := by decide +kernel
theorem dX5_play_72 : decode cX5_play 72 = .ok (.iload_n 2, 1) := by decide +kernel
theorem dX5_play_73 : decode cX5_play 73 = .ok (.invokevirtual 70, 3) := by decide +kernel
theorem dX5_play_76 : decode cX5_play 76 = .ok (.iinc 2 1, 3) := by decide +kernel
theorem dX5_play_79 : decode cX5_play 79 = .ok (.goto (-73), 3) := by decide +kernel
theorem dX5_play_82 : decode cX5_play 82 = .ok (.return_, 1) := by decide +kernel
theorem dX5_reset_0 : decode cX5_reset 0 = .ok (.aload_n 0, 1) := by decide +kernel
theorem dX5_reset_1 : decode cX5_reset 1 = .ok (.getfield 19, 3) := by decide +kernel
theorem dX5_reset_4 : decode cX5_reset 4 = .ok (.iconst 0, 1) := by decide +kernel
theorem dX5_reset_5 : decode cX5_reset 5 = .ok (.invokestatic 73, 3) := by decide +kernel
theorem dX5_reset_8 : decode cX5_reset 8 = .ok (.aload_n 0, 1) := by decide +kernel
theorem dX5_reset_9 : decode cX5_reset 9 = .ok (.getfield 22, 3) := by decide +kernel
theorem dX5_reset_12 : decode cX5_reset 12 = .ok (.iconst (-1), 1) := by decide +kernel
theorem dX5_reset_13 : decode cX5_reset 13 = .ok (.invokestatic 73, 3) := by decide +kernel
theorem dX5_reset_16 : decode cX5_reset 16 = .ok (.aload_n 0, 1) := by decide +kernel
theorem dX5_reset_17 : decode cX5_reset 17 = .ok (.iconst 0, 1) := by decide +kernel
theorem dX5_reset_18 : decode cX5_reset 18 = .ok (.putfield 79, 3) := by decide +kernel
theorem dX5_reset_21 : decode cX5_reset 21 = .ok (.aload_n 0, 1) := by decide +kernel
theorem dX5_reset_22 : decode cX5_reset 22 = .ok (.iconst (-1), 1) := by decide +kernel
theorem dX5_reset_23 : decode cX5_reset 23 = .ok (.putfield 55, 3) := by decide +kernel
theorem dX5_reset_26 : decode cX5_reset 26 = .ok (.iconst 0, 1) := by decide +kernel
theorem dX5_reset_27 : decode cX5_reset 27 = .ok (.istore_n 1, 1) := by decide +kernel
theorem dX5_reset_28 : decode cX5_reset 28 = .ok (.iload_n 1, 1) := by decide +kernel
theorem dX5_reset_29 : decode cX5_reset 29 = .ok (.aload_n 0, 1) := by decide +kernel
theorem dX5_reset_30 : decode cX5_reset 30 = .ok (.getfield 31, 3) := by decide +kernel
theorem dX5_reset_33 : decode cX5_reset 33 = .ok (.getfield 82, 3) := by decide +kernel
theorem dX5_reset_36 : decode cX5_reset 36 = .ok (.if_icmp .ge 21, 3) := by decide +kernel
theorem dX5_reset_39 : decode cX5_reset 39 = .ok (.aload_n 0, 1) := by decide +kernel
theorem dX5_reset_40 : decode cX5_reset 40 = .ok (.getfield 31, 3) := by decide +kernel
theorem dX5_reset_43 : decode cX5_reset 43 = .ok (.getfield 85, 3) := by decide +kernel
theorem dX5_reset_46 : decode cX5_reset 46 = .ok (.iload_n 1, 1) := by decide +kernel
theorem dX5_reset_47 : decode cX5_reset 47 = .ok (.aaload, 1) := by decide +kernel
theorem dX5_reset_48 : decode cX5_reset 48 = .ok (.invokevirtual 89, 3) := by decide +kernel
theorem dX5_reset_51 : decode cX5_reset 51 = .ok (.iinc 1 1, 3) := by decide +kernel
theorem dX5_reset_54 : decode cX5_reset 54 = .ok (.goto (-26), 3) := by decide +kernel
theorem dX5_reset_57 : decode cX5_reset 57 = .ok (.return_, 1) := by decide +kernel
theorem dX5_power_0 : decode cX5_power 0 = .ok (.iconst 0, 1) := by decide +kernel
theorem dX5_power_1 : decode cX5_power 1 = .ok (.istore_n 2, 1) := by decide +kernel
theorem dX5_power_2 : decode cX5_power 2 = .ok (.iload_n 2, 1) := by decide +kernel
theorem dX5_power_3 : decode cX5_power 3 = .ok (.aload_n 0, 1) := by decide +kernel
theorem dX5_power_4 : decode cX5_power 4 = .ok (.getfield 31, 3) := by decide +kernel
theorem dX5_power_7 : decode cX5_power 7 = .ok (.getfield 82, 3) := by decide +kernel
theorem dX5_power_10 : decode cX5_power 10 = .ok (.if_icmp .ge 78, 3) := by decide +kernel
theorem dX5_power_13 : decode cX5_power 13 = .ok (.aload_n 0, 1) := by decide +kernel
theorem dX5_power_14 : decode cX5_power 14 = .ok (.getfield 31, 3) := by decide +kernel
theorem dX5_power_17 : decode cX5_power 17 = .ok (.getfield 85, 3) := by decide +kernel
theorem dX5_power_20 : decode cX5_power 20 = .ok (.iload_n 2, 1) := by decide +kernel
theorem dX5_power_21 : decode cX5_power 21 = .ok (.aaload, 1) := by decide +kernel
theorem dX5_power_22 : decode cX5_power 22 = .ok (.astore_n 3, 1) := by decide +kernel
theorem dX5_power_23 : decode cX5_power 23 = .ok (.aload_n 0, 1) := by decide +kernel
theorem dX5_power_24 : decode cX5_power 24 = .ok (.getfield 31, 3) := by decide +kernel
theorem dX5_power_27 : decode cX5_power 27 = .ok (.getfield 59, 3) := by decide +kernel
theorem dX5_power_30 : decode cX5_power 30 = .ok (.iload_n 2, 1) := by decide +kernel
theorem dX5_power_31 : decode cX5_power 31 = .ok (.iload_n 1, 1) := by decide +kernel
theorem dX5_power_32 : decode cX5_power 32 = .ok (.invokevirtual 92, 3) := by decide +kernel
theorem dX5_power_35 : decode cX5_power 35 = .ok (.ifCond .eq 11, 3) := by decide +kernel
theorem dX5_power_38 : decode cX5_power 38 = .ok (.aload_n 3, 1) := by decide +kernel
theorem dX5_power_39 : decode cX5_power 39 = .ok (.iload_n 1, 1) := by decide +kernel
theorem dX5_power_40 : decode cX5_power 40 = .ok (.invokevirtual 96, 3) := by decide +kernel
theorem dX5_power_43 : decode cX5_power 43 = .ok (.goto 39, 3) := by decide +kernel
theorem dX5_power_46 : decode cX5_power 46 = .ok (.aload_n 3, 1) := by decide +kernel
theorem dX5_power_47 : decode cX5_power 47 = .ok (.getfield 99, 3) := by decide +kernel
theorem dX5_power_50 : decode cX5_power 50 = .ok (.ifCond .ne 32, 3) := by decide +kernel
theorem dX5_power_53 : decode cX5_power 53 = .ok (.iload_n 1, 1) := by decide +kernel
theorem dX5_power_54 : decode cX5_power 54 = .ok (.aload_n 3, 1) := by decide +kernel
theorem dX5_power_55 : decode cX5_power 55 = .ok (.getfield 102, 3) := by decide +kernel
theorem dX5_power_58 : decode cX5_power 58 = .ok (.if_icmp .lt 24, 3) := by decide +kernel
theorem dX5_power_61 : decode cX5_power 61 = .ok (.iload_n 1, 1) := by decide +kernel
theorem dX5_power_62 : decode cX5_power 62 = .ok (.aload_n 0, 1) := by decide +kernel
theorem dX5_power_63 : decode cX5_power 63 = .ok (.getfield 31, 3) := by decide +kernel
theorem dX5_power_66 : decode cX5_power 66 = .ok (.getfield 105, 3) := by decide +kernel
theorem dX5_power_69 : decode cX5_power 69 = .ok (.aload_n 3, 1) := by decide +kernel
theorem dX5_power_70 : decode cX5_power 70 = .ok (.getfield 108, 3) := by decide +kernel
theorem dX5_power_73 : decode cX5_power 73 = .ok (.iaload, 1) := by decide +kernel
theorem dX5_power_74 : decode cX5_power 74 = .ok (.if_icmp .lt 8, 3) := by decide +kernel
theorem dX5_power_77 : decode cX5_power 77 = .ok (.aload_n 3, 1) := by decide +kernel
theorem dX5_power_78 : decode cX5_power 78 = .ok (.iload_n 1, 1) := by decide +kernel
theorem dX5_power_79 : decode cX5_power 79 = .ok (.invokevirtual 111, 3) := by decide +kernel
theorem dX5_power_82 : decode cX5_power 82 = .ok (.iinc 2 1, 3) := by decide +kernel
theorem dX5_power_85 : decode cX5_power 85 = .ok (.goto (-83), 3) := by decide +kernel
theorem dX5_power_88 : decode cX5_power 88 = .ok (.return_, 1) := by decide +kernel
theorem dX5_ask_0 : decode cX5_ask 0 = .ok (.iconst 0, 1) := by decide +kernel
theorem dX5_ask_1 : decode cX5_ask 1 = .ok (.istore_n 2, 1) := by decide +kernel
theorem dX5_ask_2 : decode cX5_ask 2 = .ok (.iload_n 2, 1) := by decide +kernel
theorem dX5_ask_3 : decode cX5_ask 3 = .ok (.aload_n 0, 1) := by decide +kernel
theorem dX5_ask_4 : decode cX5_ask 4 = .ok (.getfield 31, 3) := by decide +kernel
theorem dX5_ask_7 : decode cX5_ask 7 = .ok (.getfield 82, 3) := by decide +kernel
theorem dX5_ask_10 : decode cX5_ask 10 = .ok (.if_icmp .ge 42, 3) := by decide +kernel
theorem dX5_ask_13 : decode cX5_ask 13 = .ok (.aload_n 0, 1) := by decide +kernel
theorem dX5_ask_14 : decode cX5_ask 14 = .ok (.getfield 31, 3) := by decide +kernel
theorem dX5_ask_17 : decode cX5_ask 17 = .ok (.getfield 85, 3) := by decide +kernel
theorem dX5_ask_20 : decode cX5_ask 20 = .ok (.iload_n 2, 1) := by decide +kernel
theorem dX5_ask_21 : decode cX5_ask 21 = .ok (.aaload, 1) := by decide +kernel
theorem dX5_ask_22 : decode cX5_ask 22 = .ok (.astore_n 3, 1) := by decide +kernel
theorem dX5_ask_23 : decode cX5_ask 23 = .ok (.aload_n 3, 1) := by decide +kernel
theorem dX5_ask_24 : decode cX5_ask 24 = .ok (.getfield 99, 3) := by decide +kernel
theorem dX5_ask_27 : decode cX5_ask 27 = .ok (.iconst 1, 1) := by decide +kernel
theorem dX5_ask_28 : decode cX5_ask 28 = .ok (.if_icmp .ne 18, 3) := by decide +kernel
theorem dX5_ask_31 : decode cX5_ask 31 = .ok (.iload_n 1, 1) := by decide +kernel
theorem dX5_ask_32 : decode cX5_ask 32 = .ok (.aload_n 3, 1) := by decide +kernel
theorem dX5_ask_33 : decode cX5_ask 33 = .ok (.getfield 114, 3) := by decide +kernel
theorem dX5_ask_36 : decode cX5_ask 36 = .ok (.if_icmp .lt 10, 3) := by decide +kernel
theorem dX5_ask_39 : decode cX5_ask 39 = .ok (.aload_n 0, 1) := by decide +kernel
theorem dX5_ask_40 : decode cX5_ask 40 = .ok (.iload_n 2, 1) := by decide +kernel
theorem dX5_ask_41 : decode cX5_ask 41 = .ok (.aload_n 3, 1) := by decide +kernel
theorem dX5_ask_42 : decode cX5_ask 42 = .ok (.iload_n 1, 1) := by decide +kernel
theorem dX5_ask_43 : decode cX5_ask 43 = .ok (.invokevirtual 117, 3) := by decide +kernel
theorem dX5_ask_46 : decode cX5_ask 46 = .ok (.iinc 2 1, 3) := by decide +kernel
theorem dX5_ask_49 : decode cX5_ask 49 = .ok (.goto (-47), 3) := by decide +kernel
theorem dX5_ask_52 : decode cX5_ask 52 = .ok (.return_, 1) := by decide +kernel
theorem dX5_question_0 : decode cX5_question 0 = .ok (.iconst (-1), 1) := by decide +kernel
theorem dX5_question_1 : decode cX5_question 1 = .ok (.istore 4, 2) := by decide +kernel
theorem dX5_question_3 : decode cX5_question 3 = .ok (.iconst 0, 1) := by decide +kernel
theorem dX5_question_4 : decode cX5_question 4 = .ok (.istore 5, 2) := by decide +kernel
theorem dX5_question_6 : decode cX5_question 6 = .ok (.aload_n 0, 1) := by decide +kernel
theorem dX5_question_7 : decode cX5_question 7 = .ok (.getfield 31, 3) := by decide +kernel
theorem dX5_question_10 : decode cX5_question 10 = .ok (.getfield 59, 3) := by decide +kernel
theorem dX5_question_13 : decode cX5_question 13 = .ok (.iload_n 1, 1) := by decide +kernel
theorem dX5_question_14 : decode cX5_question 14 = .ok (.iload_n 3, 1) := by decide +kernel
theorem dX5_question_15 : decode cX5_question 15 = .ok (.invokevirtual 121, 3) := by decide +kernel
theorem dX5_question_18 : decode cX5_question 18 = .ok (.ifCond .ne 112, 3) := by decide +kernel
theorem dX5_question_21 : decode cX5_question 21 = .ok (.aload_n 0, 1) := by decide +kernel
theorem dX5_question_22 : decode cX5_question 22 = .ok (.aload_n 2, 1) := by decide +kernel
theorem dX5_question_23 : decode cX5_question 23 = .ok (.aload_n 2, 1) := by decide +kernel
theorem dX5_question_24 : decode cX5_question 24 = .ok (.getfield 124, 3) := by decide +kernel
theorem dX5_question_27 : decode cX5_question 27 = .ok (.aload_n 2, 1) := by decide +kernel
theorem dX5_question_28 : decode cX5_question 28 = .ok (.getfield 127, 3) := by decide +kernel
theorem dX5_question_31 : decode cX5_question 31 = .ok (.aload_n 2, 1) := by decide +kernel
theorem dX5_question_32 : decode cX5_question 32 = .ok (.getfield 130, 3) := by decide +kernel
theorem dX5_question_35 : decode cX5_question 35 = .ok (.iload_n 3, 1) := by decide +kernel
theorem dX5_question_36 : decode cX5_question 36 = .ok (.invokevirtual 133, 3) := by decide +kernel
theorem dX5_question_39 : decode cX5_question 39 = .ok (.iconst 0, 1) := by decide +kernel
theorem dX5_question_40 : decode cX5_question 40 = .ok (.istore 6, 2) := by decide +kernel
theorem dX5_question_42 : decode cX5_question 42 = .ok (.iload 6, 2) := by decide +kernel
theorem dX5_question_44 : decode cX5_question 44 = .ok (.iconst 2, 1) := by decide +kernel
theorem dX5_question_45 : decode cX5_question 45 = .ok (.if_icmp .ge 85, 3) := by decide +kernel
theorem dX5_question_48 : decode cX5_question 48 = .ok (.iload 4, 2) := by decide +kernel
theorem dX5_question_50 : decode cX5_question 50 = .ok (.iconst (-1), 1) := by decide +kernel
theorem dX5_question_51 : decode cX5_question 51 = .ok (.if_icmp .ne 79, 3) := by decide +kernel
theorem dX5_question_54 : decode cX5_question 54 = .ok (.aload_n 0, 1) := by decide +kernel
theorem dX5_question_55 : decode cX5_question 55 = .ok (.getfield 31, 3) := by decide +kernel
theorem dX5_question_58 : decode cX5_question 58 = .ok (.getfield 59, 3) := by decide +kernel
theorem dX5_question_61 : decode cX5_question 61 = .ok (.iload 6, 2) := by decide +kernel
theorem dX5_question_63 : decode cX5_question 63 = .ok (.iload_n 3, 1) := by decide +kernel
theorem dX5_question_64 : decode cX5_question 64 = .ok (.invokevirtual 137, 3) := by decide +kernel
theorem dX5_question_67 : decode cX5_question 67 = .ok (.ifCond .ne 57, 3) := by decide +kernel
theorem dX5_question_70 : decode cX5_question 70 = .ok (.aload_n 0, 1) := by decide +kernel
theorem dX5_question_71 : decode cX5_question 71 = .ok (.getfield 31, 3) := by decide +kernel
theorem dX5_question_74 : decode cX5_question 74 = .ok (.getfield 140, 3) := by decide +kernel
theorem dX5_question_77 : decode cX5_question 77 = .ok (.iload 6, 2) := by decide +kernel
theorem dX5_question_79 : decode cX5_question 79 = .ok (.aaload, 1) := by decide +kernel
theorem dX5_question_80 : decode cX5_question 80 = .ok (.aload_n 0, 1) := by decide +kernel
theorem dX5_question_81 : decode cX5_question 81 = .ok (.getfield 28, 3) := by decide +kernel
theorem dX5_question_84 : decode cX5_question 84 = .ok (.aload_n 0, 1) := by decide +kernel
theorem dX5_question_85 : decode cX5_question 85 = .ok (.getfield 31, 3) := by decide +kernel
theorem dX5_question_88 : decode cX5_question 88 = .ok (.getfield 144, 3) := by decide +kernel
theorem dX5_question_91 : decode cX5_question 91 = .ok (.invokevirtual 147, 3) := by decide +kernel
theorem dX5_question_94 : decode cX5_question 94 = .ok (.istore 4, 2) := by decide +kernel
theorem dX5_question_96 : decode cX5_question 96 = .ok (.iload 4, 2) := by decide +kernel
theorem dX5_question_98 : decode cX5_question 98 = .ok (.ifCond .ge 7, 3) := by decide +kernel
theorem dX5_question_101 : decode cX5_question 101 = .ok (.iconst 0, 1) := by decide +kernel
theorem dX5_question_102 : decode cX5_question 102 = .ok (.goto 20, 3) := by decide +kernel
theorem dX5_question_105 : decode cX5_question 105 = .ok (.aload_n 0, 1) := by decide +kernel
theorem dX5_question_106 : decode cX5_question 106 = .ok (.getfield 31, 3) := by decide +kernel
theorem dX5_question_109 : decode cX5_question 109 = .ok (.getfield 140, 3) := by decide +kernel
theorem dX5_question_112 : decode cX5_question 112 = .ok (.iload 6, 2) := by decide +kernel
theorem dX5_question_114 : decode cX5_question 114 = .ok (.aaload, 1) := by decide +kernel
theorem dX5_question_115 : decode cX5_question 115 = .ok (.aload_n 0, 1) := by decide +kernel
theorem dX5_question_116 : decode cX5_question 116 = .ok (.getfield 28, 3) := by decide +kernel
theorem dX5_question_119 : decode cX5_question 119 = .ok (.invokevirtual 153, 3) := by decide +kernel
theorem dX5_question_122 : decode cX5_question 122 = .ok (.istore 5, 2) := by decide +kernel
theorem dX5_question_124 : decode cX5_question 124 = .ok (.iinc 6 1, 3) := by decide +kernel
theorem dX5_question_127 : decode cX5_question 127 = .ok (.goto (-85), 3) := by decide +kernel
theorem dX5_question_130 : decode cX5_question 130 = .ok (.iload 4, 2) := by decide +kernel
theorem dX5_question_132 : decode cX5_question 132 = .ok (.ifCond .ge 23, 3) := by decide +kernel
theorem dX5_question_135 : decode cX5_question 135 = .ok (.aload_n 2, 1) := by decide +kernel
theorem dX5_question_136 : decode cX5_question 136 = .ok (.iload 4, 2) := by decide +kernel
theorem dX5_question_138 : decode cX5_question 138 = .ok (.bipush (-2), 2) := by decide +kernel
theorem dX5_question_140 : decode cX5_question 140 = .ok (.if_icmp .ne 7, 3) := by decide +kernel
theorem dX5_question_143 : decode cX5_question 143 = .ok (.iconst 2, 1) := by decide +kernel
theorem dX5_question_144 : decode cX5_question 144 = .ok (.goto 4, 3) := by decide +kernel
theorem dX5_question_147 : decode cX5_question 147 = .ok (.iconst 1, 1) := by decide +kernel
theorem dX5_question_148 : decode cX5_question 148 = .ok (.iload_n 3, 1) := by decide +kernel
theorem dX5_question_149 : decode cX5_question 149 = .ok (.invokevirtual 157, 3) := by decide +kernel
theorem dX5_question_152 : decode cX5_question 152 = .ok (.goto 36, 3) := by decide +kernel
theorem dX5_question_155 : decode cX5_question 155 = .ok (.aload_n 0, 1) := by decide +kernel
theorem dX5_question_156 : decode cX5_question 156 = .ok (.getfield 31, 3) := by decide +kernel
theorem dX5_question_159 : decode cX5_question 159 = .ok (.iload_n 1, 1) := by decide +kernel
theorem dX5_question_160 : decode cX5_question 160 = .ok (.iload 5, 2) := by decide +kernel
theorem dX5_question_162 : decode cX5_question 162 = .ok (.invokevirtual 161, 3) := by decide +kernel
theorem dX5_question_165 : decode cX5_question 165 = .ok (.ifCond .eq 13, 3) := by decide +kernel
theorem dX5_question_168 : decode cX5_question 168 = .ok (.aload_n 2, 1) := by decide +kernel
theorem dX5_question_169 : decode cX5_question 169 = .ok (.iload_n 3, 1) := by decide +kernel
theorem dX5_question_170 : decode cX5_question 170 = .ok (.iconst 1, 1) := by decide +kernel
theorem dX5_question_171 : decode cX5_question 171 = .ok (.iadd, 1) := by decide +kernel
theorem dX5_question_172 : decode cX5_question 172 = .ok (.putfield 114, 3) := by decide +kernel
theorem dX5_question_175 : decode cX5_question 175 = .ok (.goto 13, 3) := by decide +kernel
theorem dX5_question_178 : decode cX5_question 178 = .ok (.aload_n 2, 1) := by decide +kernel
theorem dX5_question_179 : decode cX5_question 179 = .ok (.iload 4, 2) := by decide +kernel
theorem dX5_question_181 : decode cX5_question 181 = .ok (.iconst 1, 1) := by decide +kernel
theorem dX5_question_182 : decode cX5_question 182 = .ok (.iload_n 3, 1) := by decide +kernel
theorem dX5_question_183 : decode cX5_question 183 = .ok (.iconst 1, 1) := by decide +kernel
theorem dX5_question_184 : decode cX5_question 184 = .ok (.iadd, 1) := by decide +kernel
theorem dX5_question_185 : decode cX5_question 185 = .ok (.invokevirtual 164, 3) := by decide +kernel
theorem dX5_question_188 : decode cX5_question 188 = .ok (.return_, 1) := by decide +kernel
theorem dX5_setVars_0 : decode cX5_setVars 0 = .ok (.aload_n 0, 1) := by decide +kernel
theorem dX5_setVars_1 : decode cX5_setVars 1 = .ok (.getfield 28, 3) := by decide +kernel
theorem dX5_setVars_4 : decode cX5_setVars 4 = .ok (.iconst 0, 1) := by decide +kernel
theorem dX5_setVars_5 : decode cX5_setVars 5 = .ok (.aload_n 1, 1) := by decide +kernel
theorem dX5_setVars_6 : decode cX5_setVars 6 = .ok (.getfield 108, 3) := by decide +kernel
theorem dX5_setVars_9 : decode cX5_setVars 9 = .ok (.iastore, 1) := by decide +kernel
theorem dX5_setVars_10 : decode cX5_setVars 10 = .ok (.aload_n 0, 1) := by decide +kernel
theorem dX5_setVars_11 : decode cX5_setVars 11 = .ok (.getfield 28, 3) := by decide +kernel
theorem dX5_setVars_14 : decode cX5_setVars 14 = .ok (.iconst 1, 1) := by decide +kernel
theorem dX5_setVars_15 : decode cX5_setVars 15 = .ok (.aload_n 1, 1) := by decide +kernel
theorem dX5_setVars_16 : decode cX5_setVars 16 = .ok (.getfield 168, 3) := by decide +kernel
theorem dX5_setVars_19 : decode cX5_setVars 19 = .ok (.iastore, 1) := by decide +kernel
theorem dX5_setVars_20 : decode cX5_setVars 20 = .ok (.aload_n 0, 1) := by decide +kernel
theorem dX5_setVars_21 : decode cX5_setVars 21 = .ok (.getfield 28, 3) := by decide +kernel
theorem dX5_setVars_24 : decode cX5_setVars 24 = .ok (.iconst 2, 1) := by decide +kernel
theorem dX5_setVars_25 : decode cX5_setVars 25 = .ok (.aload_n 1, 1) := by decide +kernel
theorem dX5_setVars_26 : decode cX5_setVars 26 = .ok (.getfield 171, 3) := by decide +kernel
theorem dX5_setVars_29 : decode cX5_setVars 29 = .ok (.iastore, 1) := by decide +kernel
theorem dX5_setVars_30 : decode cX5_setVars 30 = .ok (.aload_n 0, 1) := by decide +kernel
theorem dX5_setVars_31 : decode cX5_setVars 31 = .ok (.getfield 28, 3) := by decide +kernel
theorem dX5_setVars_34 : decode cX5_setVars 34 = .ok (.iconst 3, 1) := by decide +kernel
theorem dX5_setVars_35 : decode cX5_setVars 35 = .ok (.iload_n 2, 1) := by decide +kernel
theorem dX5_setVars_36 : decode cX5_setVars 36 = .ok (.iastore, 1) := by decide +kernel
theorem dX5_setVars_37 : decode cX5_setVars 37 = .ok (.aload_n 0, 1) := by decide +kernel
theorem dX5_setVars_38 : decode cX5_setVars 38 = .ok (.getfield 28, 3) := by decide +kernel
theorem dX5_setVars_41 : decode cX5_setVars 41 = .ok (.iconst 4, 1) := by decide +kernel
theorem dX5_setVars_42 : decode cX5_setVars 42 = .ok (.iload_n 3, 1) := by decide +kernel
theorem dX5_setVars_43 : decode cX5_setVars 43 = .ok (.iastore, 1) := by decide +kernel
theorem dX5_setVars_44 : decode cX5_setVars 44 = .ok (.aload_n 0, 1) := by decide +kernel
theorem dX5_setVars_45 : decode cX5_setVars 45 = .ok (.getfield 28, 3) := by decide +kernel
theorem dX5_setVars_48 : decode cX5_setVars 48 = .ok (.iconst 5, 1) := by decide +kernel
theorem dX5_setVars_49 : decode cX5_setVars 49 = .ok (.iload 4, 2) := by decide +kernel
theorem dX5_setVars_51 : decode cX5_setVars 51 = .ok (.iastore, 1) := by decide +kernel
theorem dX5_setVars_52 : decode cX5_setVars 52 = .ok (.aload_n 0, 1) := by decide +kernel
theorem dX5_setVars_53 : decode cX5_setVars 53 = .ok (.getfield 28, 3) := by decide +kernel
theorem dX5_setVars_56 : decode cX5_setVars 56 = .ok (.bipush 6, 2) := by decide +kernel
theorem dX5_setVars_58 : decode cX5_setVars 58 = .ok (.iload 5, 2) := by decide +kernel
theorem dX5_setVars_60 : decode cX5_setVars 60 = .ok (.iastore, 1) := by decide +kernel
theorem dX5_setVars_61 : decode cX5_setVars 61 = .ok (.return_, 1) := by decide +kernel
theorem dX5_send_0 : decode cX5_send 0 = .ok (.aload_n 0, 1) := by decide +kernel
theorem dX5_send_1 : decode cX5_send 1 = .ok (.iload_n 1, 1) := by decide +kernel
theorem dX5_send_2 : decode cX5_send 2 = .ok (.invokevirtual 174, 3) := by decide +kernel
theorem dX5_send_5 : decode cX5_send 5 = .ok (.istore_n 2, 1) := by decide +kernel
theorem dX5_send_6 : decode cX5_send 6 = .ok (.iconst 0, 1) := by decide +kernel
theorem dX5_send_7 : decode cX5_send 7 = .ok (.istore_n 3, 1) := by decide +kernel
theorem dX5_send_8 : decode cX5_send 8 = .ok (.iconst 0, 1) := by decide +kernel
theorem dX5_send_9 : decode cX5_send 9 = .ok (.istore 4, 2) := by decide +kernel
theorem dX5_send_11 : decode cX5_send 11 = .ok (.iload 4, 2) := by decide +kernel
theorem dX5_send_13 : decode cX5_send 13 = .ok (.iload_n 2, 1) := by decide +kernel
theorem dX5_send_14 : decode cX5_send 14 = .ok (.if_icmp .ge 73, 3) := by decide +kernel
theorem dX5_send_17 : decode cX5_send 17 = .ok (.iload_n 3, 1) := by decide +kernel
theorem dX5_send_18 : decode cX5_send 18 = .ok (.aload_n 0, 1) := by decide +kernel
theorem dX5_send_19 : decode cX5_send 19 = .ok (.getfield 31, 3) := by decide +kernel
theorem dX5_send_22 : decode cX5_send 22 = .ok (.getfield 178, 3) := by decide +kernel
theorem dX5_send_25 : decode cX5_send 25 = .ok (.if_icmp .ge 62, 3) := by decide +kernel
theorem dX5_send_28 : decode cX5_send 28 = .ok (.aload_n 0, 1) := by decide +kernel
theorem dX5_send_29 : decode cX5_send 29 = .ok (.getfield 31, 3) := by decide +kernel
theorem dX5_send_32 : decode cX5_send 32 = .ok (.getfield 85, 3) := by decide +kernel
theorem dX5_send_35 : decode cX5_send 35 = .ok (.aload_n 0, 1) := by decide +kernel
theorem dX5_send_36 : decode cX5_send 36 = .ok (.getfield 25, 3) := by decide +kernel
theorem dX5_send_39 : decode cX5_send 39 = .ok (.iload 4, 2) := by decide +kernel
theorem dX5_send_41 : decode cX5_send 41 = .ok (.iaload, 1) := by decide +kernel
theorem dX5_send_42 : decode cX5_send 42 = .ok (.aaload, 1) := by decide +kernel
theorem dX5_send_43 : decode cX5_send 43 = .ok (.invokestatic 181, 3) := by decide +kernel
theorem dX5_send_46 : decode cX5_send 46 = .ok (.istore 5, 2) := by decide +kernel
theorem dX5_send_48 : decode cX5_send 48 = .ok (.aload_n 0, 1) := by decide +kernel
theorem dX5_send_49 : decode cX5_send 49 = .ok (.getfield 22, 3) := by decide +kernel
theorem dX5_send_52 : decode cX5_send 52 = .ok (.iload 5, 2) := by decide +kernel
theorem dX5_send_54 : decode cX5_send 54 = .ok (.iaload, 1) := by decide +kernel
theorem dX5_send_55 : decode cX5_send 55 = .ok (.iload_n 1, 1) := by decide +kernel
theorem dX5_send_56 : decode cX5_send 56 = .ok (.if_icmp .eq 25, 3) := by decide +kernel
theorem dX5_send_59 : decode cX5_send 59 = .ok (.aload_n 0, 1) := by decide +kernel
theorem dX5_send_60 : decode cX5_send 60 = .ok (.getfield 22, 3) := by decide +kernel
theorem dX5_send_63 : decode cX5_send 63 = .ok (.iload 5, 2) := by decide +kernel
theorem dX5_send_65 : decode cX5_send 65 = .ok (.iload_n 1, 1) := by decide +kernel
theorem dX5_send_66 : decode cX5_send 66 = .ok (.iastore, 1) := by decide +kernel
theorem dX5_send_67 : decode cX5_send 67 = .ok (.aload_n 0, 1) := by decide +kernel
theorem dX5_send_68 : decode cX5_send 68 = .ok (.getfield 19, 3) := by decide +kernel
theorem dX5_send_71 : decode cX5_send 71 = .ok (.iload 5, 2) := by decide +kernel
theorem dX5_send_73 : decode cX5_send 73 = .ok (.dup2, 1) := by decide +kernel
theorem dX5_send_74 : decode cX5_send 74 = .ok (.iaload, 1) := by decide +kernel
theorem dX5_send_75 : decode cX5_send 75 = .ok (.iconst 1, 1) := by decide +kernel
theorem dX5_send_76 : decode cX5_send 76 = .ok (.iadd, 1) := by decide +kernel
theorem dX5_send_77 : decode cX5_send 77 = .ok (.iastore, 1) := by decide +kernel
theorem dX5_send_78 : decode cX5_send 78 = .ok (.iinc 3 1, 3) := by decide +kernel
theorem dX5_send_81 : decode cX5_send 81 = .ok (.iinc 4 1, 3) := by decide +kernel
theorem dX5_send_84 : decode cX5_send 84 = .ok (.goto (-73), 3) := by decide +kernel
theorem dX5_send_87 : decode cX5_send 87 = .ok (.aload_n 0, 1) := by decide +kernel
theorem dX5_send_88 : decode cX5_send 88 = .ok (.getfield 15, 3) := by decide +kernel
theorem dX5_send_91 : decode cX5_send 91 = .ok (.iload_n 1, 1) := by decide +kernel
theorem dX5_send_92 : decode cX5_send 92 = .ok (.iload_n 3, 1) := by decide +kernel
theorem dX5_send_93 : decode cX5_send 93 = .ok (.iastore, 1) := by decide +kernel
theorem dX5_send_94 : decode cX5_send 94 = .ok (.aload_n 0, 1) := by decide +kernel
theorem dX5_send_95 : decode cX5_send 95 = .ok (.dup, 1) := by decide +kernel
theorem dX5_send_96 : decode cX5_send 96 = .ok (.getfield 79, 3) := by decide +kernel
theorem dX5_send_99 : decode cX5_send 99 = .ok (.iload_n 3, 1) := by decide +kernel
theorem dX5_send_100 : decode cX5_send 100 = .ok (.iadd, 1) := by decide +kernel
theorem dX5_send_101 : decode cX5_send 101 = .ok (.putfield 79, 3) := by decide +kernel
theorem dX5_send_104 : decode cX5_send 104 = .ok (.iconst 0, 1) := by decide +kernel
theorem dX5_send_105 : decode cX5_send 105 = .ok (.istore 4, 2) := by decide +kernel
theorem dX5_send_107 : decode cX5_send 107 = .ok (.iload 4, 2) := by decide +kernel
theorem dX5_send_109 : decode cX5_send 109 = .ok (.iload_n 2, 1) := by decide +kernel
theorem dX5_send_110 : decode cX5_send 110 = .ok (.if_icmp .ge 21, 3) := by decide +kernel
theorem dX5_send_113 : decode cX5_send 113 = .ok (.aload_n 0, 1) := by decide +kernel
theorem dX5_send_114 : decode cX5_send 114 = .ok (.aload_n 0, 1) := by decide +kernel
theorem dX5_send_115 : decode cX5_send 115 = .ok (.getfield 25, 3) := by decide +kernel
theorem dX5_send_118 : decode cX5_send 118 = .ok (.iload 4, 2) := by decide +kernel
theorem dX5_send_120 : decode cX5_send 120 = .ok (.iaload, 1) := by decide +kernel
theorem dX5_send_121 : decode cX5_send 121 = .ok (.iload_n 1, 1) := by decide +kernel
theorem dX5_send_122 : decode cX5_send 122 = .ok (.invokevirtual 185, 3) := by decide +kernel
theorem dX5_send_125 : decode cX5_send 125 = .ok (.iinc 4 1, 3) := by decide +kernel
theorem dX5_send_128 : decode cX5_send 128 = .ok (.goto (-21), 3) := by decide +kernel
theorem dX5_send_131 : decode cX5_send 131 = .ok (.return_, 1) := by decide +kernel
theorem dX5_lineUp_0 : decode cX5_lineUp 0 = .ok (.iconst 0, 1) := by decide +kernel
theorem dX5_lineUp_1 : decode cX5_lineUp 1 = .ok (.istore_n 2, 1) := by decide +kernel
theorem dX5_lineUp_2 : decode cX5_lineUp 2 = .ok (.iconst 0, 1) := by decide +kernel
theorem dX5_lineUp_3 : decode cX5_lineUp 3 = .ok (.istore_n 3, 1) := by decide +kernel
theorem dX5_lineUp_4 : decode cX5_lineUp 4 = .ok (.iload_n 3, 1) := by decide +kernel
theorem dX5_lineUp_5 : decode cX5_lineUp 5 = .ok (.aload_n 0, 1) := by decide +kernel
theorem dX5_lineUp_6 : decode cX5_lineUp 6 = .ok (.getfield 31, 3) := by decide +kernel
theorem dX5_lineUp_9 : decode cX5_lineUp 9 = .ok (.getfield 82, 3) := by decide +kernel
theorem dX5_lineUp_12 : decode cX5_lineUp 12 = .ok (.if_icmp .ge 107, 3) := by decide +kernel
theorem dX5_lineUp_15 : decode cX5_lineUp 15 = .ok (.aload_n 0, 1) := by decide +kernel
theorem dX5_lineUp_16 : decode cX5_lineUp 16 = .ok (.getfield 31, 3) := by decide +kernel
theorem dX5_lineUp_19 : decode cX5_lineUp 19 = .ok (.getfield 85, 3) := by decide +kernel
theorem dX5_lineUp_22 : decode cX5_lineUp 22 = .ok (.iload_n 3, 1) := by decide +kernel
theorem dX5_lineUp_23 : decode cX5_lineUp 23 = .ok (.aaload, 1) := by decide +kernel
theorem dX5_lineUp_24 : decode cX5_lineUp 24 = .ok (.astore 4, 2) := by decide +kernel
theorem dX5_lineUp_26 : decode cX5_lineUp 26 = .ok (.aload 4, 2) := by decide +kernel
theorem dX5_lineUp_28 : decode cX5_lineUp 28 = .ok (.getfield 99, 3) := by decide +kernel
theorem dX5_lineUp_31 : decode cX5_lineUp 31 = .ok (.iconst 2, 1) := by decide +kernel
theorem dX5_lineUp_32 : decode cX5_lineUp 32 = .ok (.if_icmp .ne 81, 3) := by decide +kernel
theorem dX5_lineUp_35 : decode cX5_lineUp 35 = .ok (.aload 4, 2) := by decide +kernel
theorem dX5_lineUp_37 : decode cX5_lineUp 37 = .ok (.getfield 188, 3) := by decide +kernel
theorem dX5_lineUp_40 : decode cX5_lineUp 40 = .ok (.iload_n 1, 1) := by decide +kernel
theorem dX5_lineUp_41 : decode cX5_lineUp 41 = .ok (.if_icmp .gt 72, 3) := by decide +kernel
theorem dX5_lineUp_44 : decode cX5_lineUp 44 = .ok (.iload_n 2, 1) := by decide +kernel
theorem dX5_lineUp_45 : decode cX5_lineUp 45 = .ok (.istore 5, 2) := by decide +kernel
theorem dX5_lineUp_47 : decode cX5_lineUp 47 = .ok (.iload 5, 2) := by decide +kernel
theorem dX5_lineUp_49 : decode cX5_lineUp 49 = .ok (.ifCond .le 53, 3) := by decide +kernel
theorem dX5_lineUp_52 : decode cX5_lineUp 52 = .ok (.aload_n 0, 1) := by decide +kernel
theorem dX5_lineUp_53 : decode cX5_lineUp 53 = .ok (.getfield 31, 3) := by decide +kernel
theorem dX5_lineUp_56 : decode cX5_lineUp 56 = .ok (.getfield 85, 3) := by decide +kernel
theorem dX5_lineUp_59 : decode cX5_lineUp 59 = .ok (.aload_n 0, 1) := by decide +kernel
theorem dX5_lineUp_60 : decode cX5_lineUp 60 = .ok (.getfield 25, 3) := by decide +kernel
theorem dX5_lineUp_63 : decode cX5_lineUp 63 = .ok (.iload 5, 2) := by decide +kernel
theorem dX5_lineUp_65 : decode cX5_lineUp 65 = .ok (.iconst 1, 1) := by decide +kernel
theorem dX5_lineUp_66 : decode cX5_lineUp 66 = .ok (.isub, 1) := by decide +kernel
theorem dX5_lineUp_67 : decode cX5_lineUp 67 = .ok (.iaload, 1) := by decide +kernel
theorem dX5_lineUp_68 : decode cX5_lineUp 68 = .ok (.aaload, 1) := by decide +kernel
theorem dX5_lineUp_69 : decode cX5_lineUp 69 = .ok (.getfield 188, 3) := by decide +kernel
theorem dX5_lineUp_72 : decode cX5_lineUp 72 = .ok (.aload 4, 2) := by decide +kernel
theorem dX5_lineUp_74 : decode cX5_lineUp 74 = .ok (.getfield 188, 3) := by decide +kernel
theorem dX5_lineUp_77 : decode cX5_lineUp 77 = .ok (.if_icmp .le 25, 3) := by decide +kernel
theorem dX5_lineUp_80 : decode cX5_lineUp 80 = .ok (.aload_n 0, 1) := by decide +kernel
theorem dX5_lineUp_81 : decode cX5_lineUp 81 = .ok (.getfield 25, 3) := by decide +kernel
theorem dX5_lineUp_84 : decode cX5_lineUp 84 = .ok (.iload 5, 2) := by decide +kernel
theorem dX5_lineUp_86 : decode cX5_lineUp 86 = .ok (.aload_n 0, 1) := by decide +kernel
theorem dX5_lineUp_87 : decode cX5_lineUp 87 = .ok (.getfield 25, 3) := by decide +kernel
theorem dX5_lineUp_90 : decode cX5_lineUp 90 = .ok (.iload 5, 2) := by decide +kernel
theorem dX5_lineUp_92 : decode cX5_lineUp 92 = .ok (.iconst 1, 1) := by decide +kernel
theorem dX5_lineUp_93 : decode cX5_lineUp 93 = .ok (.isub, 1) := by decide +kernel
theorem dX5_lineUp_94 : decode cX5_lineUp 94 = .ok (.iaload, 1) := by decide +kernel
theorem dX5_lineUp_95 : decode cX5_lineUp 95 = .ok (.iastore, 1) := by decide +kernel
theorem dX5_lineUp_96 : decode cX5_lineUp 96 = .ok (.iinc 5 (-1), 3) := by decide +kernel
theorem dX5_lineUp_99 : decode cX5_lineUp 99 = .ok (.goto (-52), 3) := by decide +kernel
theorem dX5_lineUp_102 : decode cX5_lineUp 102 = .ok (.aload_n 0, 1) := by decide +kernel
theorem dX5_lineUp_103 : decode cX5_lineUp 103 = .ok (.getfield 25, 3) := by decide +kernel
theorem dX5_lineUp_106 : decode cX5_lineUp 106 = .ok (.iload 5, 2) := by decide +kernel
theorem dX5_lineUp_108 : decode cX5_lineUp 108 = .ok (.iload_n 3, 1) := by decide +kernel
theorem dX5_lineUp_109 : decode cX5_lineUp 109 = .ok (.iastore, 1) := by decide +kernel
theorem dX5_lineUp_110 : decode cX5_lineUp 110 = .ok (.iinc 2 1, 3) := by decide +kernel
theorem dX5_lineUp_113 : decode cX5_lineUp 113 = .ok (.iinc 3 1, 3) := by decide +kernel
theorem dX5_lineUp_116 : decode cX5_lineUp 116 = .ok (.goto (-112), 3) := by decide +kernel
theorem dX5_lineUp_119 : decode cX5_lineUp 119 = .ok (.iload_n 2, 1) := by decide +kernel
theorem dX5_lineUp_120 : decode cX5_lineUp 120 = .ok (.ireturn, 1) := by decide +kernel
theorem dX5_wantedBlock_0 : decode cX5_wantedBlock 0 = .ok (.aload_n 0, 1) := by decide +kernel
theorem dX5_wantedBlock_1 : decode cX5_wantedBlock 1 = .ok (.getfield 191, 3) := by decide +kernel
theorem dX5_wantedBlock_4 : decode cX5_wantedBlock 4 = .ok (.bipush 12, 2) := by decide +kernel
theorem dX5_wantedBlock_6 : decode cX5_wantedBlock 6 = .ok (.imul, 1) := by decide +kernel
theorem dX5_wantedBlock_7 : decode cX5_wantedBlock 7 = .ok (.aload_n 0, 1) := by decide +kernel
theorem dX5_wantedBlock_8 : decode cX5_wantedBlock 8 = .ok (.getfield 194, 3) := by decide +kernel
theorem dX5_wantedBlock_11 : decode cX5_wantedBlock 11 = .ok (.iadd, 1) := by decide +kernel
theorem dX5_wantedBlock_12 : decode cX5_wantedBlock 12 = .ok (.ireturn, 1) := by decide +kernel
theorem dX5_receive_0 : decode cX5_receive 0 = .ok (.aload_n 0, 1) := by decide +kernel
theorem dX5_receive_1 : decode cX5_receive 1 = .ok (.getfield 31, 3) := by decide +kernel
theorem dX5_receive_4 : decode cX5_receive 4 = .ok (.getfield 85, 3) := by decide +kernel
theorem dX5_receive_7 : decode cX5_receive 7 = .ok (.iload_n 1, 1) := by decide +kernel
theorem dX5_receive_8 : decode cX5_receive 8 = .ok (.aaload, 1) := by decide +kernel
theorem dX5_receive_9 : decode cX5_receive 9 = .ok (.astore_n 3, 1) := by decide +kernel
theorem dX5_receive_10 : decode cX5_receive 10 = .ok (.aload_n 3, 1) := by decide +kernel
theorem dX5_receive_11 : decode cX5_receive 11 = .ok (.invokestatic 181, 3) := by decide +kernel
theorem dX5_receive_14 : decode cX5_receive 14 = .ok (.istore 4, 2) := by decide +kernel
theorem dX5_receive_16 : decode cX5_receive 16 = .ok (.aload_n 0, 1) := by decide +kernel
theorem dX5_receive_17 : decode cX5_receive 17 = .ok (.getfield 22, 3) := by decide +kernel
theorem dX5_receive_20 : decode cX5_receive 20 = .ok (.iload 4, 2) := by decide +kernel
theorem dX5_receive_22 : decode cX5_receive 22 = .ok (.iaload, 1) := by decide +kernel
theorem dX5_receive_23 : decode cX5_receive 23 = .ok (.iload_n 2, 1) := by decide +kernel
theorem dX5_receive_24 : decode cX5_receive 24 = .ok (.if_icmp .ne 18, 3) := by decide +kernel
theorem dX5_receive_27 : decode cX5_receive 27 = .ok (.aload_n 0, 1) := by decide +kernel
theorem dX5_receive_28 : decode cX5_receive 28 = .ok (.getfield 31, 3) := by decide +kernel
theorem dX5_receive_31 : decode cX5_receive 31 = .ok (.getfield 59, 3) := by decide +kernel
theorem dX5_receive_34 : decode cX5_receive 34 = .ok (.iload_n 1, 1) := by decide +kernel
theorem dX5_receive_35 : decode cX5_receive 35 = .ok (.iload_n 2, 1) := by decide +kernel
theorem dX5_receive_36 : decode cX5_receive 36 = .ok (.invokevirtual 121, 3) := by decide +kernel
theorem dX5_receive_39 : decode cX5_receive 39 = .ok (.ifCond .eq 10, 3) := by decide +kernel
theorem dX5_receive_42 : decode cX5_receive 42 = .ok (.aload_n 3, 1) := by decide +kernel
theorem dX5_receive_43 : decode cX5_receive 43 = .ok (.invokevirtual 197, 3) := by decide +kernel
theorem dX5_receive_46 : decode cX5_receive 46 = .ok (.goto 68, 3) := by decide +kernel
theorem dX5_receive_49 : decode cX5_receive 49 = .ok (.aload_n 0, 1) := by decide +kernel
theorem dX5_receive_50 : decode cX5_receive 50 = .ok (.getfield 31, 3) := by decide +kernel
theorem dX5_receive_53 : decode cX5_receive 53 = .ok (.getfield 59, 3) := by decide +kernel
theorem dX5_receive_56 : decode cX5_receive 56 = .ok (.iload 4, 2) := by decide +kernel
theorem dX5_receive_58 : decode cX5_receive 58 = .ok (.iload_n 2, 1) := by decide +kernel
theorem dX5_receive_59 : decode cX5_receive 59 = .ok (.invokevirtual 200, 3) := by decide +kernel
theorem dX5_receive_62 : decode cX5_receive 62 = .ok (.ifCond .eq 10, 3) := by decide +kernel
theorem dX5_receive_65 : decode cX5_receive 65 = .ok (.aload_n 3, 1) := by decide +kernel
theorem dX5_receive_66 : decode cX5_receive 66 = .ok (.invokevirtual 203, 3) := by decide +kernel
theorem dX5_receive_69 : decode cX5_receive 69 = .ok (.goto 45, 3) := by decide +kernel
theorem dX5_receive_72 : decode cX5_receive 72 = .ok (.aload_n 3, 1) := by decide +kernel
theorem dX5_receive_73 : decode cX5_receive 73 = .ok (.iconst 0, 1) := by decide +kernel
theorem dX5_receive_74 : decode cX5_receive 74 = .ok (.putfield 206, 3) := by decide +kernel
theorem dX5_receive_77 : decode cX5_receive 77 = .ok (.aload_n 3, 1) := by decide +kernel
theorem dX5_receive_78 : decode cX5_receive 78 = .ok (.dup, 1) := by decide +kernel
theorem dX5_receive_79 : decode cX5_receive 79 = .ok (.getfield 194, 3) := by decide +kernel
theorem dX5_receive_82 : decode cX5_receive 82 = .ok (.iconst 1, 1) := by decide +kernel
theorem dX5_receive_83 : decode cX5_receive 83 = .ok (.iadd, 1) := by decide +kernel
theorem dX5_receive_84 : decode cX5_receive 84 = .ok (.putfield 194, 3) := by decide +kernel
theorem dX5_receive_87 : decode cX5_receive 87 = .ok (.aload_n 3, 1) := by decide +kernel
theorem dX5_receive_88 : decode cX5_receive 88 = .ok (.getfield 194, 3) := by decide +kernel
theorem dX5_receive_91 : decode cX5_receive 91 = .ok (.aload_n 0, 1) := by decide +kernel
theorem dX5_receive_92 : decode cX5_receive 92 = .ok (.getfield 31, 3) := by decide +kernel
theorem dX5_receive_95 : decode cX5_receive 95 = .ok (.getfield 209, 3) := by decide +kernel
theorem dX5_receive_98 : decode cX5_receive 98 = .ok (.aload_n 3, 1) := by decide +kernel
theorem dX5_receive_99 : decode cX5_receive 99 = .ok (.getfield 191, 3) := by decide +kernel
theorem dX5_receive_102 : decode cX5_receive 102 = .ok (.iaload, 1) := by decide +kernel
theorem dX5_receive_103 : decode cX5_receive 103 = .ok (.if_icmp .lt 11, 3) := by decide +kernel
theorem dX5_receive_106 : decode cX5_receive 106 = .ok (.aload_n 0, 1) := by decide +kernel
theorem dX5_receive_107 : decode cX5_receive 107 = .ok (.aload_n 3, 1) := by decide +kernel
theorem dX5_receive_108 : decode cX5_receive 108 = .ok (.iload_n 2, 1) := by decide +kernel
theorem dX5_receive_109 : decode cX5_receive 109 = .ok (.iconst 1, 1) := by decide +kernel
theorem dX5_receive_110 : decode cX5_receive 110 = .ok (.iadd, 1) := by decide +kernel
theorem dX5_receive_111 : decode cX5_receive 111 = .ok (.invokevirtual 212, 3) := by decide +kernel
theorem dX5_receive_114 : decode cX5_receive 114 = .ok (.return_, 1) := by decide +kernel
theorem dX5_goOn_0 : decode cX5_goOn 0 = .ok (.aload_n 0, 1) := by decide +kernel
theorem dX5_goOn_1 : decode cX5_goOn 1 = .ok (.getfield 31, 3) := by decide +kernel
theorem dX5_goOn_4 : decode cX5_goOn 4 = .ok (.getfield 216, 3) := by decide +kernel
theorem dX5_goOn_7 : decode cX5_goOn 7 = .ok (.aload_n 1, 1) := by decide +kernel
theorem dX5_goOn_8 : decode cX5_goOn 8 = .ok (.getfield 191, 3) := by decide +kernel
theorem dX5_goOn_11 : decode cX5_goOn 11 = .ok (.iaload, 1) := by decide +kernel
theorem dX5_goOn_12 : decode cX5_goOn 12 = .ok (.istore_n 3, 1) := by decide +kernel
theorem dX5_goOn_13 : decode cX5_goOn 13 = .ok (.aload_n 1, 1) := by decide +kernel
theorem dX5_goOn_14 : decode cX5_goOn 14 = .ok (.getfield 219, 3) := by decide +kernel
theorem dX5_goOn_17 : decode cX5_goOn 17 = .ok (.iconst 1, 1) := by decide +kernel
theorem dX5_goOn_18 : decode cX5_goOn 18 = .ok (.iadd, 1) := by decide +kernel
theorem dX5_goOn_19 : decode cX5_goOn 19 = .ok (.istore 4, 2) := by decide +kernel
theorem dX5_goOn_21 : decode cX5_goOn 21 = .ok (.iload_n 3, 1) := by decide +kernel
theorem dX5_goOn_22 : decode cX5_goOn 22 = .ok (.iconst (-1), 1) := by decide +kernel
theorem dX5_goOn_23 : decode cX5_goOn 23 = .ok (.if_icmp .ne 11, 3) := by decide +kernel
theorem dX5_goOn_26 : decode cX5_goOn 26 = .ok (.aload_n 1, 1) := by decide +kernel
theorem dX5_goOn_27 : decode cX5_goOn 27 = .ok (.iload_n 2, 1) := by decide +kernel
theorem dX5_goOn_28 : decode cX5_goOn 28 = .ok (.invokevirtual 222, 3) := by decide +kernel
theorem dX5_goOn_31 : decode cX5_goOn 31 = .ok (.goto 36, 3) := by decide +kernel
theorem dX5_goOn_34 : decode cX5_goOn 34 = .ok (.iload 4, 2) := by decide +kernel
theorem dX5_goOn_36 : decode cX5_goOn 36 = .ok (.iconst 4, 1) := by decide +kernel
theorem dX5_goOn_37 : decode cX5_goOn 37 = .ok (.if_icmp .ge 14, 3) := by decide +kernel
theorem dX5_goOn_40 : decode cX5_goOn 40 = .ok (.iload_n 3, 1) := by decide +kernel
theorem dX5_goOn_41 : decode cX5_goOn 41 = .ok (.aload_n 0, 1) := by decide +kernel
theorem dX5_goOn_42 : decode cX5_goOn 42 = .ok (.getfield 31, 3) := by decide +kernel
theorem dX5_goOn_45 : decode cX5_goOn 45 = .ok (.getfield 144, 3) := by decide +kernel
theorem dX5_goOn_48 : decode cX5_goOn 48 = .ok (.if_icmp .lt 11, 3) := by decide +kernel
theorem dX5_goOn_51 : decode cX5_goOn 51 = .ok (.aload_n 1, 1) := by decide +kernel
theorem dX5_goOn_52 : decode cX5_goOn 52 = .ok (.iconst 5, 1) := by decide +kernel
theorem dX5_goOn_53 : decode cX5_goOn 53 = .ok (.invokevirtual 223, 3) := by decide +kernel
theorem dX5_goOn_56 : decode cX5_goOn 56 = .ok (.goto 11, 3) := by decide +kernel
theorem dX5_goOn_59 : decode cX5_goOn 59 = .ok (.aload_n 1, 1) := by decide +kernel
theorem dX5_goOn_60 : decode cX5_goOn 60 = .ok (.iload_n 3, 1) := by decide +kernel
theorem dX5_goOn_61 : decode cX5_goOn 61 = .ok (.iload 4, 2) := by decide +kernel
theorem dX5_goOn_63 : decode cX5_goOn 63 = .ok (.iload_n 2, 1) := by decide +kernel
theorem dX5_goOn_64 : decode cX5_goOn 64 = .ok (.invokevirtual 164, 3) := by decide +kernel
theorem dX5_goOn_67 : decode cX5_goOn 67 = .ok (.return_, 1) := by decide +kernel
theorem dX5_install_0 : decode cX5_install 0 = .ok (.iconst 0, 1) := by decide +kernel
theorem dX5_install_1 : decode cX5_install 1 = .ok (.istore_n 2, 1) := by decide +kernel
theorem dX5_install_2 : decode cX5_install 2 = .ok (.iload_n 2, 1) := by decide +kernel
theorem dX5_install_3 : decode cX5_install 3 = .ok (.aload_n 0, 1) := by decide +kernel
theorem dX5_install_4 : decode cX5_install 4 = .ok (.getfield 31, 3) := by decide +kernel
theorem dX5_install_7 : decode cX5_install 7 = .ok (.getfield 82, 3) := by decide +kernel
theorem dX5_install_10 : decode cX5_install 10 = .ok (.if_icmp .ge 51, 3) := by decide +kernel
theorem dX5_install_13 : decode cX5_install 13 = .ok (.aload_n 0, 1) := by decide +kernel
theorem dX5_install_14 : decode cX5_install 14 = .ok (.getfield 31, 3) := by decide +kernel
theorem dX5_install_17 : decode cX5_install 17 = .ok (.getfield 85, 3) := by decide +kernel
theorem dX5_install_20 : decode cX5_install 20 = .ok (.iload_n 2, 1) := by decide +kernel
theorem dX5_install_21 : decode cX5_install 21 = .ok (.aaload, 1) := by decide +kernel
theorem dX5_install_22 : decode cX5_install 22 = .ok (.astore_n 3, 1) := by decide +kernel
theorem dX5_install_23 : decode cX5_install 23 = .ok (.aload_n 3, 1) := by decide +kernel
theorem dX5_install_24 : decode cX5_install 24 = .ok (.getfield 99, 3) := by decide +kernel
theorem dX5_install_27 : decode cX5_install 27 = .ok (.iconst 3, 1) := by decide +kernel
theorem dX5_install_28 : decode cX5_install 28 = .ok (.if_icmp .ne 27, 3) := by decide +kernel
theorem dX5_install_31 : decode cX5_install 31 = .ok (.aload_n 3, 1) := by decide +kernel
theorem dX5_install_32 : decode cX5_install 32 = .ok (.getfield 188, 3) := by decide +kernel
theorem dX5_install_35 : decode cX5_install 35 = .ok (.iload_n 1, 1) := by decide +kernel
theorem dX5_install_36 : decode cX5_install 36 = .ok (.if_icmp .gt 19, 3) := by decide +kernel
theorem dX5_install_39 : decode cX5_install 39 = .ok (.aload_n 3, 1) := by decide +kernel
theorem dX5_install_40 : decode cX5_install 40 = .ok (.aload_n 0, 1) := by decide +kernel
theorem dX5_install_41 : decode cX5_install 41 = .ok (.getfield 31, 3) := by decide +kernel
theorem dX5_install_44 : decode cX5_install 44 = .ok (.getfield 209, 3) := by decide +kernel
theorem dX5_install_47 : decode cX5_install 47 = .ok (.aload_n 3, 1) := by decide +kernel
theorem dX5_install_48 : decode cX5_install 48 = .ok (.getfield 191, 3) := by decide +kernel
theorem dX5_install_51 : decode cX5_install 51 = .ok (.iaload, 1) := by decide +kernel
theorem dX5_install_52 : decode cX5_install 52 = .ok (.invokevirtual 226, 3) := by decide +kernel
theorem dX5_install_55 : decode cX5_install 55 = .ok (.iinc 2 1, 3) := by decide +kernel
theorem dX5_install_58 : decode cX5_install 58 = .ok (.goto (-56), 3) := by decide +kernel
theorem dX5_install_61 : decode cX5_install 61 = .ok (.return_, 1) := by decide +kernel
theorem dX5_isSettled_0 : decode cX5_isSettled 0 = .ok (.iconst 0, 1) := by decide +kernel
theorem dX5_isSettled_1 : decode cX5_isSettled 1 = .ok (.istore_n 1, 1) := by decide +kernel
theorem dX5_isSettled_2 : decode cX5_isSettled 2 = .ok (.iload_n 1, 1) := by decide +kernel
theorem dX5_isSettled_3 : decode cX5_isSettled 3 = .ok (.aload_n 0, 1) := by decide +kernel
theorem dX5_isSettled_4 : decode cX5_isSettled 4 = .ok (.getfield 31, 3) := by decide +kernel
theorem dX5_isSettled_7 : decode cX5_isSettled 7 = .ok (.getfield 82, 3) := by decide +kernel
theorem dX5_isSettled_10 : decode cX5_isSettled 10 = .ok (.if_icmp .ge 26, 3) := by decide +kernel
theorem dX5_isSettled_13 : decode cX5_isSettled 13 = .ok (.aload_n 0, 1) := by decide +kernel
theorem dX5_isSettled_14 : decode cX5_isSettled 14 = .ok (.getfield 31, 3) := by decide +kernel
theorem dX5_isSettled_17 : decode cX5_isSettled 17 = .ok (.getfield 85, 3) := by decide +kernel
theorem dX5_isSettled_20 : decode cX5_isSettled 20 = .ok (.iload_n 1, 1) := by decide +kernel
theorem dX5_isSettled_21 : decode cX5_isSettled 21 = .ok (.aaload, 1) := by decide +kernel
theorem dX5_isSettled_22 : decode cX5_isSettled 22 = .ok (.invokevirtual 229, 3) := by decide +kernel
theorem dX5_isSettled_25 : decode cX5_isSettled 25 = .ok (.ifCond .ne 5, 3) := by decide +kernel
theorem dX5_isSettled_28 : decode cX5_isSettled 28 = .ok (.iconst 0, 1) := by decide +kernel
theorem dX5_isSettled_29 : decode cX5_isSettled 29 = .ok (.ireturn, 1) := by decide +kernel
theorem dX5_isSettled_30 : decode cX5_isSettled 30 = .ok (.iinc 1 1, 3) := by decide +kernel
theorem dX5_isSettled_33 : decode cX5_isSettled 33 = .ok (.goto (-31), 3) := by decide +kernel
theorem dX5_isSettled_36 : decode cX5_isSettled 36 = .ok (.iconst 1, 1) := by decide +kernel
theorem dX5_isSettled_37 : decode cX5_isSettled 37 = .ok (.ireturn, 1) := by decide +kernel
theorem dX5_keep_0 : decode cX5_keep 0 = .ok (.iconst 0, 1) := by decide +kernel
theorem dX5_keep_1 : decode cX5_keep 1 = .ok (.istore_n 2, 1) := by decide +kernel
theorem dX5_keep_2 : decode cX5_keep 2 = .ok (.iload_n 2, 1) := by decide +kernel
theorem dX5_keep_3 : decode cX5_keep 3 = .ok (.aload_n 0, 1) := by decide +kernel
theorem dX5_keep_4 : decode cX5_keep 4 = .ok (.getfield 31, 3) := by decide +kernel
theorem dX5_keep_7 : decode cX5_keep 7 = .ok (.getfield 82, 3) := by decide +kernel
theorem dX5_keep_10 : decode cX5_keep 10 = .ok (.if_icmp .ge 33, 3) := by decide +kernel
theorem dX5_keep_13 : decode cX5_keep 13 = .ok (.aload_n 0, 1) := by decide +kernel
theorem dX5_keep_14 : decode cX5_keep 14 = .ok (.getfield 9, 3) := by decide +kernel
theorem dX5_keep_17 : decode cX5_keep 17 = .ok (.iload_n 2, 1) := by decide +kernel
theorem dX5_keep_18 : decode cX5_keep 18 = .ok (.sipush 300, 3) := by decide +kernel
theorem dX5_keep_21 : decode cX5_keep 21 = .ok (.imul, 1) := by decide +kernel
theorem dX5_keep_22 : decode cX5_keep 22 = .ok (.iload_n 1, 1) := by decide +kernel
theorem dX5_keep_23 : decode cX5_keep 23 = .ok (.iadd, 1) := by decide +kernel
theorem dX5_keep_24 : decode cX5_keep 24 = .ok (.aload_n 0, 1) := by decide +kernel
theorem dX5_keep_25 : decode cX5_keep 25 = .ok (.getfield 31, 3) := by decide +kernel
theorem dX5_keep_28 : decode cX5_keep 28 = .ok (.getfield 85, 3) := by decide +kernel
theorem dX5_keep_31 : decode cX5_keep 31 = .ok (.iload_n 2, 1) := by decide +kernel
theorem dX5_keep_32 : decode cX5_keep 32 = .ok (.aaload, 1) := by decide +kernel
theorem dX5_keep_33 : decode cX5_keep 33 = .ok (.invokevirtual 230, 3) := by decide +kernel
theorem dX5_keep_36 : decode cX5_keep 36 = .ok (.lastore, 1) := by decide +kernel
theorem dX5_keep_37 : decode cX5_keep 37 = .ok (.iinc 2 1, 3) := by decide +kernel
theorem dX5_keep_40 : decode cX5_keep 40 = .ok (.goto (-38), 3) := by decide +kernel
theorem dX5_keep_43 : decode cX5_keep 43 = .ok (.return_, 1) := by decide +kernel
theorem dX5_recorded_0 : decode cX5_recorded 0 = .ok (.getstatic 234, 3) := by decide +kernel
theorem dX5_recorded_3 : decode cX5_recorded 3 = .ok (.iload_n 3, 1) := by decide +kernel
theorem dX5_recorded_4 : decode cX5_recorded 4 = .ok (.iconst 1, 1) := by decide +kernel
theorem dX5_recorded_5 : decode cX5_recorded 5 = .ok (.iadd, 1) := by decide +kernel
theorem dX5_recorded_6 : decode cX5_recorded 6 = .ok (.iaload, 1) := by decide +kernel
theorem dX5_recorded_7 : decode cX5_recorded 7 = .ok (.getstatic 234, 3) := by decide +kernel
theorem dX5_recorded_10 : decode cX5_recorded 10 = .ok (.iload_n 3, 1) := by decide +kernel
theorem dX5_recorded_11 : decode cX5_recorded 11 = .ok (.iaload, 1) := by decide +kernel
theorem dX5_recorded_12 : decode cX5_recorded 12 = .ok (.isub, 1) := by decide +kernel
theorem dX5_recorded_13 : decode cX5_recorded 13 = .ok (.istore 4, 2) := by decide +kernel
theorem dX5_recorded_15 : decode cX5_recorded 15 = .ok (.aload_n 0, 1) := by decide +kernel
theorem dX5_recorded_16 : decode cX5_recorded 16 = .ok (.getfield 9, 3) := by decide +kernel
theorem dX5_recorded_19 : decode cX5_recorded 19 = .ok (.iload_n 1, 1) := by decide +kernel
theorem dX5_recorded_20 : decode cX5_recorded 20 = .ok (.sipush 300, 3) := by decide +kernel
theorem dX5_recorded_23 : decode cX5_recorded 23 = .ok (.imul, 1) := by decide +kernel
theorem dX5_recorded_24 : decode cX5_recorded 24 = .ok (.iload_n 2, 1) := by decide +kernel
theorem dX5_recorded_25 : decode cX5_recorded 25 = .ok (.iadd, 1) := by decide +kernel
theorem dX5_recorded_26 : decode cX5_recorded 26 = .ok (.laload, 1) := by decide +kernel
theorem dX5_recorded_27 : decode cX5_recorded 27 = .ok (.getstatic 234, 3) := by decide +kernel
theorem dX5_recorded_30 : decode cX5_recorded 30 = .ok (.iload_n 3, 1) := by decide +kernel
theorem dX5_recorded_31 : decode cX5_recorded 31 = .ok (.iaload, 1) := by decide +kernel
theorem dX5_recorded_32 : decode cX5_recorded 32 = .ok (.lushr, 1) := by decide +kernel
theorem dX5_recorded_33 : decode cX5_recorded 33 = .ok (.l2i, 1) := by decide +kernel
theorem dX5_recorded_34 : decode cX5_recorded 34 = .ok (.iconst 1, 1) := by decide +kernel
theorem dX5_recorded_35 : decode cX5_recorded 35 = .ok (.iload 4, 2) := by decide +kernel
theorem dX5_recorded_37 : decode cX5_recorded 37 = .ok (.ishl, 1) := by decide +kernel
theorem dX5_recorded_38 : decode cX5_recorded 38 = .ok (.iconst 1, 1) := by decide +kernel
theorem dX5_recorded_39 : decode cX5_recorded 39 = .ok (.isub, 1) := by decide +kernel
theorem dX5_recorded_40 : decode cX5_recorded 40 = .ok (.iand, 1) := by decide +kernel
theorem dX5_recorded_41 : decode cX5_recorded 41 = .ok (.istore 5, 2) := by decide +kernel
theorem dX5_recorded_43 : decode cX5_recorded 43 = .ok (.iload 5, 2) := by decide +kernel
theorem dX5_recorded_45 : decode cX5_recorded 45 = .ok (.iconst 1, 1) := by decide +kernel
theorem dX5_recorded_46 : decode cX5_recorded 46 = .ok (.isub, 1) := by decide +kernel
theorem dX5_recorded_47 : decode cX5_recorded 47 = .ok (.ireturn, 1) := by decide +kernel
theorem dX5_answerAtEnd_0 : decode cX5_answerAtEnd 0 = .ok (.aload_n 0, 1) := by decide +kernel
theorem dX5_answerAtEnd_1 : decode cX5_answerAtEnd 1 = .ok (.aload_n 0, 1) := by decide +kernel
theorem dX5_answerAtEnd_2 : decode cX5_answerAtEnd 2 = .ok (.getfield 31, 3) := by decide +kernel
theorem dX5_answerAtEnd_5 : decode cX5_answerAtEnd 5 = .ok (.getfield 85, 3) := by decide +kernel
theorem dX5_answerAtEnd_8 : decode cX5_answerAtEnd 8 = .ok (.iload_n 2, 1) := by decide +kernel
theorem dX5_answerAtEnd_9 : decode cX5_answerAtEnd 9 = .ok (.aaload, 1) := by decide +kernel
theorem dX5_answerAtEnd_10 : decode cX5_answerAtEnd 10 = .ok (.aload_n 0, 1) := by decide +kernel
theorem dX5_answerAtEnd_11 : decode cX5_answerAtEnd 11 = .ok (.iload_n 2, 1) := by decide +kernel
theorem dX5_answerAtEnd_12 : decode cX5_answerAtEnd 12 = .ok (.iload_n 3, 1) := by decide +kernel
theorem dX5_answerAtEnd_13 : decode cX5_answerAtEnd 13 = .ok (.iconst 5, 1) := by decide +kernel
theorem dX5_answerAtEnd_14 : decode cX5_answerAtEnd 14 = .ok (.invokevirtual 237, 3) := by decide +kernel
theorem dX5_answerAtEnd_17 : decode cX5_answerAtEnd 17 = .ok (.aload_n 0, 1) := by decide +kernel
theorem dX5_answerAtEnd_18 : decode cX5_answerAtEnd 18 = .ok (.iload_n 2, 1) := by decide +kernel
theorem dX5_answerAtEnd_19 : decode cX5_answerAtEnd 19 = .ok (.iload_n 3, 1) := by decide +kernel
theorem dX5_answerAtEnd_20 : decode cX5_answerAtEnd 20 = .ok (.bipush 6, 2) := by decide +kernel
theorem dX5_answerAtEnd_22 : decode cX5_answerAtEnd 22 = .ok (.invokevirtual 237, 3) := by decide +kernel
theorem dX5_answerAtEnd_25 : decode cX5_answerAtEnd 25 = .ok (.aload_n 0, 1) := by decide +kernel
theorem dX5_answerAtEnd_26 : decode cX5_answerAtEnd 26 = .ok (.iload_n 2, 1) := by decide +kernel
theorem dX5_answerAtEnd_27 : decode cX5_answerAtEnd 27 = .ok (.iload_n 3, 1) := by decide +kernel
theorem dX5_answerAtEnd_28 : decode cX5_answerAtEnd 28 = .ok (.bipush 8, 2) := by decide +kernel
theorem dX5_answerAtEnd_30 : decode cX5_answerAtEnd 30 = .ok (.invokevirtual 237, 3) := by decide +kernel
theorem dX5_answerAtEnd_33 : decode cX5_answerAtEnd 33 = .ok (.iload_n 3, 1) := by decide +kernel
theorem dX5_answerAtEnd_34 : decode cX5_answerAtEnd 34 = .ok (.invokevirtual 133, 3) := by decide +kernel
theorem dX5_answerAtEnd_37 : decode cX5_answerAtEnd 37 = .ok (.aload_n 0, 1) := by decide +kernel
theorem dX5_answerAtEnd_38 : decode cX5_answerAtEnd 38 = .ok (.getfield 31, 3) := by decide +kernel
theorem dX5_answerAtEnd_41 : decode cX5_answerAtEnd 41 = .ok (.getfield 140, 3) := by decide +kernel
theorem dX5_answerAtEnd_44 : decode cX5_answerAtEnd 44 = .ok (.iload_n 1, 1) := by decide +kernel
theorem dX5_answerAtEnd_45 : decode cX5_answerAtEnd 45 = .ok (.aaload, 1) := by decide +kernel
theorem dX5_answerAtEnd_46 : decode cX5_answerAtEnd 46 = .ok (.aload_n 0, 1) := by decide +kernel
theorem dX5_answerAtEnd_47 : decode cX5_answerAtEnd 47 = .ok (.getfield 28, 3) := by decide +kernel
theorem dX5_answerAtEnd_50 : decode cX5_answerAtEnd 50 = .ok (.aload_n 0, 1) := by decide +kernel
theorem dX5_answerAtEnd_51 : decode cX5_answerAtEnd 51 = .ok (.getfield 31, 3) := by decide +kernel
theorem dX5_answerAtEnd_54 : decode cX5_answerAtEnd 54 = .ok (.getfield 144, 3) := by decide +kernel
theorem dX5_answerAtEnd_57 : decode cX5_answerAtEnd 57 = .ok (.invokevirtual 147, 3) := by decide +kernel
theorem dX5_answerAtEnd_60 : decode cX5_answerAtEnd 60 = .ok (.ireturn, 1) := by decide +kernel
theorem dX5_change_0 : decode cX5_change 0 = .ok (.iconst 0, 1) := by decide +kernel
theorem dX5_change_1 : decode cX5_change 1 = .ok (.istore_n 3, 1) := by decide +kernel
theorem dX5_change_2 : decode cX5_change 2 = .ok (.iconst 0, 1) := by decide +kernel
theorem dX5_change_3 : decode cX5_change 3 = .ok (.istore 4, 2) := by decide +kernel
theorem dX5_change_5 : decode cX5_change 5 = .ok (.iconst 0, 1) := by decide +kernel
theorem dX5_change_6 : decode cX5_change 6 = .ok (.istore 5, 2) := by decide +kernel
theorem dX5_change_8 : decode cX5_change 8 = .ok (.iload 5, 2) := by decide +kernel
theorem dX5_change_10 : decode cX5_change 10 = .ok (.sipush 300, 3) := by decide +kernel
theorem dX5_change_13 : decode cX5_change 13 = .ok (.if_icmp .ge 46, 3) := by decide +kernel
theorem dX5_change_16 : decode cX5_change 16 = .ok (.aload_n 0, 1) := by decide +kernel
theorem dX5_change_17 : decode cX5_change 17 = .ok (.iload_n 1, 1) := by decide +kernel
theorem dX5_change_18 : decode cX5_change 18 = .ok (.iload 5, 2) := by decide +kernel
theorem dX5_change_20 : decode cX5_change 20 = .ok (.iconst 0, 1) := by decide +kernel
theorem dX5_change_21 : decode cX5_change 21 = .ok (.invokevirtual 237, 3) := by decide +kernel
theorem dX5_change_24 : decode cX5_change 24 = .ok (.istore 6, 2) := by decide +kernel
theorem dX5_change_26 : decode cX5_change 26 = .ok (.iload 6, 2) := by decide +kernel
theorem dX5_change_28 : decode cX5_change 28 = .ok (.iload_n 3, 1) := by decide +kernel
theorem dX5_change_29 : decode cX5_change 29 = .ok (.if_icmp .eq 24, 3) := by decide +kernel
theorem dX5_change_32 : decode cX5_change 32 = .ok (.iload 4, 2) := by decide +kernel
theorem dX5_change_34 : decode cX5_change 34 = .ok (.iload_n 2, 1) := by decide +kernel
theorem dX5_change_35 : decode cX5_change 35 = .ok (.if_icmp .ne 12, 3) := by decide +kernel
theorem dX5_change_38 : decode cX5_change 38 = .ok (.bipush 10, 2) := by decide +kernel
theorem dX5_change_40 : decode cX5_change 40 = .ok (.iload 5, 2) := by decide +kernel
theorem dX5_change_42 : decode cX5_change 42 = .ok (.imul, 1) := by decide +kernel
theorem dX5_change_43 : decode cX5_change 43 = .ok (.iload 6, 2) := by decide +kernel
theorem dX5_change_45 : decode cX5_change 45 = .ok (.iadd, 1) := by decide +kernel
theorem dX5_change_46 : decode cX5_change 46 = .ok (.ireturn, 1) := by decide +kernel
theorem dX5_change_47 : decode cX5_change 47 = .ok (.iinc 4 1, 3) := by decide +kernel
theorem dX5_change_50 : decode cX5_change 50 = .ok (.iload 6, 2) := by decide +kernel
theorem dX5_change_52 : decode cX5_change 52 = .ok (.istore_n 3, 1) := by decide +kernel
theorem dX5_change_53 : decode cX5_change 53 = .ok (.iinc 5 1, 3) := by decide +kernel
theorem dX5_change_56 : decode cX5_change 56 = .ok (.goto (-48), 3) := by decide +kernel
theorem dX5_change_59 : decode cX5_change 59 = .ok (.iconst (-1), 1) := by decide +kernel
theorem dX5_change_60 : decode cX5_change 60 = .ok (.ireturn, 1) := by decide +kernel
theorem dX5_settledFrom_0 : decode cX5_settledFrom 0 = .ok (.aload_n 0, 1) := by decide +kernel
theorem dX5_settledFrom_1 : decode cX5_settledFrom 1 = .ok (.getfield 31, 3) := by decide +kernel
theorem dX5_settledFrom_4 : decode cX5_settledFrom 4 = .ok (.getfield 82, 3) := by decide +kernel
theorem dX5_settledFrom_7 : decode cX5_settledFrom 7 = .ok (.ifCond .ne 9, 3) := by decide +kernel
theorem dX5_settledFrom_10 : decode cX5_settledFrom 10 = .ok (.sipush 300, 3) := by decide +kernel
theorem dX5_settledFrom_13 : decode cX5_settledFrom 13 = .ok (.goto 9, 3) := by decide +kernel
theorem dX5_settledFrom_16 : decode cX5_settledFrom 16 = .ok (.aload_n 0, 1) := by decide +kernel
theorem dX5_settledFrom_17 : decode cX5_settledFrom 17 = .ok (.getfield 55, 3) := by decide +kernel
theorem dX5_settledFrom_20 : decode cX5_settledFrom 20 = .ok (.iconst 1, 1) := by decide +kernel
theorem dX5_settledFrom_21 : decode cX5_settledFrom 21 = .ok (.iadd, 1) := by decide +kernel
theorem dX5_settledFrom_22 : decode cX5_settledFrom 22 = .ok (.ireturn, 1) := by decide +kernel
theorem dX5_upBits_0 : decode cX5_upBits 0 = .ok (.iconst 0, 1) := by decide +kernel
theorem dX5_upBits_1 : decode cX5_upBits 1 = .ok (.istore_n 1, 1) := by decide +kernel
theorem dX5_upBits_2 : decode cX5_upBits 2 = .ok (.iconst 0, 1) := by decide +kernel
theorem dX5_upBits_3 : decode cX5_upBits 3 = .ok (.istore_n 2, 1) := by decide +kernel
theorem dX5_upBits_4 : decode cX5_upBits 4 = .ok (.iload_n 2, 1) := by decide +kernel
theorem dX5_upBits_5 : decode cX5_upBits 5 = .ok (.aload_n 0, 1) := by decide +kernel
theorem dX5_upBits_6 : decode cX5_upBits 6 = .ok (.getfield 31, 3) := by decide +kernel
theorem dX5_upBits_9 : decode cX5_upBits 9 = .ok (.getfield 82, 3) := by decide +kernel
theorem dX5_upBits_12 : decode cX5_upBits 12 = .ok (.if_icmp .ge 31, 3) := by decide +kernel
theorem dX5_upBits_15 : decode cX5_upBits 15 = .ok (.aload_n 0, 1) := by decide +kernel
theorem dX5_upBits_16 : decode cX5_upBits 16 = .ok (.getfield 31, 3) := by decide +kernel
theorem dX5_upBits_19 : decode cX5_upBits 19 = .ok (.getfield 85, 3) := by decide +kernel
theorem dX5_upBits_22 : decode cX5_upBits 22 = .ok (.iload_n 2, 1) := by decide +kernel
theorem dX5_upBits_23 : decode cX5_upBits 23 = .ok (.aaload, 1) := by decide +kernel
theorem dX5_upBits_24 : decode cX5_upBits 24 = .ok (.getfield 99, 3) := by decide +kernel
theorem dX5_upBits_27 : decode cX5_upBits 27 = .ok (.iconst 4, 1) := by decide +kernel
theorem dX5_upBits_28 : decode cX5_upBits 28 = .ok (.if_icmp .ne 9, 3) := by decide +kernel
theorem dX5_upBits_31 : decode cX5_upBits 31 = .ok (.iload_n 1, 1) := by decide +kernel
theorem dX5_upBits_32 : decode cX5_upBits 32 = .ok (.iconst 1, 1) := by decide +kernel
theorem dX5_upBits_33 : decode cX5_upBits 33 = .ok (.iload_n 2, 1) := by decide +kernel
theorem dX5_upBits_34 : decode cX5_upBits 34 = .ok (.ishl, 1) := by decide +kernel
theorem dX5_upBits_35 : decode cX5_upBits 35 = .ok (.ior, 1) := by decide +kernel
theorem dX5_upBits_36 : decode cX5_upBits 36 = .ok (.istore_n 1, 1) := by decide +kernel
theorem dX5_upBits_37 : decode cX5_upBits 37 = .ok (.iinc 2 1, 3) := by decide +kernel
theorem dX5_upBits_40 : decode cX5_upBits 40 = .ok (.goto (-36), 3) := by decide +kernel
theorem dX5_upBits_43 : decode cX5_upBits 43 = .ok (.iload_n 1, 1) := by decide +kernel
theorem dX5_upBits_44 : decode cX5_upBits 44 = .ok (.ireturn, 1) := by decide +kernel
theorem dX5_cost_0 : decode cX5_cost 0 = .ok (.aload_n 0, 1) := by decide +kernel
theorem dX5_cost_1 : decode cX5_cost 1 = .ok (.getfield 31, 3) := by decide +kernel
theorem dX5_cost_4 : decode cX5_cost 4 = .ok (.getfield 82, 3) := by decide +kernel
theorem dX5_cost_7 : decode cX5_cost 7 = .ok (.aload_n 0, 1) := by decide +kernel
theorem dX5_cost_8 : decode cX5_cost 8 = .ok (.invokevirtual 241, 3) := by decide +kernel
theorem dX5_cost_11 : decode cX5_cost 11 = .ok (.invokestatic 245, 3) := by decide +kernel
theorem dX5_cost_14 : decode cX5_cost 14 = .ok (.isub, 1) := by decide +kernel
theorem dX5_cost_15 : decode cX5_cost 15 = .ok (.istore_n 1, 1) := by decide +kernel
theorem dX5_cost_16 : decode cX5_cost 16 = .ok (.iload_n 1, 1) := by decide +kernel
theorem dX5_cost_17 : decode cX5_cost 17 = .ok (.sipush 301, 3) := by decide +kernel
theorem dX5_cost_20 : decode cX5_cost 20 = .ok (.imul, 1) := by decide +kernel
theorem dX5_cost_21 : decode cX5_cost 21 = .ok (.aload_n 0, 1) := by decide +kernel
theorem dX5_cost_22 : decode cX5_cost 22 = .ok (.invokevirtual 250, 3) := by decide +kernel
theorem dX5_cost_25 : decode cX5_cost 25 = .ok (.iadd, 1) := by decide +kernel
theorem dX5_cost_26 : decode cX5_cost 26 = .ok (.sipush 2401, 3) := by decide +kernel
theorem dX5_cost_29 : decode cX5_cost 29 = .ok (.imul, 1) := by decide +kernel
theorem dX5_cost_30 : decode cX5_cost 30 = .ok (.aload_n 0, 1) := by decide +kernel
theorem dX5_cost_31 : decode cX5_cost 31 = .ok (.getfield 79, 3) := by decide +kernel
theorem dX5_cost_34 : decode cX5_cost 34 = .ok (.iadd, 1) := by decide +kernel
theorem dX5_cost_35 : decode cX5_cost 35 = .ok (.ireturn, 1) := by decide +kernel
theorem dX6_init_0 : decode cX6_init 0 = .ok (.aload_n 0, 1) := by decide +kernel
theorem dX6_init_1 : decode cX6_init 1 = .ok (.invokespecial 3, 3) := by decide +kernel
theorem dX6_init_4 : decode cX6_init 4 = .ok (.aload_n 0, 1) := by decide +kernel
theorem dX6_init_5 : decode cX6_init 5 = .ok (.aload_n 1, 1) := by decide +kernel
theorem dX6_init_6 : decode cX6_init 6 = .ok (.putfield 9, 3) := by decide +kernel
theorem dX6_init_9 : decode cX6_init 9 = .ok (.return_, 1) := by decide +kernel
theorem dX6_restart_0 : decode cX6_restart 0 = .ok (.aload_n 0, 1) := by decide +kernel
theorem dX6_restart_1 : decode cX6_restart 1 = .ok (.iconst 0, 1) := by decide +kernel
theorem dX6_restart_2 : decode cX6_restart 2 = .ok (.putfield 15, 3) := by decide +kernel
theorem dX6_restart_5 : decode cX6_restart 5 = .ok (.return_, 1) := by decide +kernel
theorem dX6_advance_0 : decode cX6_advance 0 = .ok (.aload_n 0, 1) := by decide +kernel
theorem dX6_advance_1 : decode cX6_advance 1 = .ok (.getfield 15, 3) := by decide +kernel
theorem dX6_advance_4 : decode cX6_advance 4 = .ok (.aload_n 0, 1) := by decide +kernel
theorem dX6_advance_5 : decode cX6_advance 5 = .ok (.getfield 9, 3) := by decide +kernel
theorem dX6_advance_8 : decode cX6_advance 8 = .ok (.getfield 19, 3) := by decide +kernel
theorem dX6_advance_11 : decode cX6_advance 11 = .ok (.if_icmp .ge 34, 3) := by decide +kernel
theorem dX6_advance_14 : decode cX6_advance 14 = .ok (.aload_n 0, 1) := by decide +kernel
theorem dX6_advance_15 : decode cX6_advance 15 = .ok (.getfield 9, 3) := by decide +kernel
theorem dX6_advance_18 : decode cX6_advance 18 = .ok (.getfield 24, 3) := by decide +kernel
theorem dX6_advance_21 : decode cX6_advance 21 = .ok (.aload_n 0, 1) := by decide +kernel
theorem dX6_advance_22 : decode cX6_advance 22 = .ok (.getfield 15, 3) := by decide +kernel
theorem dX6_advance_25 : decode cX6_advance 25 = .ok (.iaload, 1) := by decide +kernel
theorem dX6_advance_26 : decode cX6_advance 26 = .ok (.invokestatic 28, 3) := by decide +kernel
theorem dX6_advance_29 : decode cX6_advance 29 = .ok (.ifCond .eq 16, 3) := by decide +kernel
theorem dX6_advance_32 : decode cX6_advance 32 = .ok (.aload_n 0, 1) := by decide +kernel
theorem dX6_advance_33 : decode cX6_advance 33 = .ok (.dup, 1) := by decide +kernel
theorem dX6_advance_34 : decode cX6_advance 34 = .ok (.getfield 15, 3) := by decide +kernel
theorem dX6_advance_37 : decode cX6_advance 37 = .ok (.iconst 1, 1) := by decide +kernel
theorem dX6_advance_38 : decode cX6_advance 38 = .ok (.iadd, 1) := by decide +kernel
theorem dX6_advance_39 : decode cX6_advance 39 = .ok (.putfield 15, 3) := by decide +kernel
theorem dX6_advance_42 : decode cX6_advance 42 = .ok (.goto (-42), 3) := by decide +kernel
theorem dX6_advance_45 : decode cX6_advance 45 = .ok (.aload_n 0, 1) := by decide +kernel
theorem dX6_advance_46 : decode cX6_advance 46 = .ok (.aload_n 0, 1) := by decide +kernel
theorem dX6_advance_47 : decode cX6_advance 47 = .ok (.getfield 15, 3) := by decide +kernel
theorem dX6_advance_50 : decode cX6_advance 50 = .ok (.putfield 32, 3) := by decide +kernel
theorem dX6_advance_53 : decode cX6_advance 53 = .ok (.aload_n 0, 1) := by decide +kernel
theorem dX6_advance_54 : decode cX6_advance 54 = .ok (.iconst 0, 1) := by decide +kernel
theorem dX6_advance_55 : decode cX6_advance 55 = .ok (.putfield 35, 3) := by decide +kernel
theorem dX6_advance_58 : decode cX6_advance 58 = .ok (.aload_n 0, 1) := by decide +kernel
theorem dX6_advance_59 : decode cX6_advance 59 = .ok (.getfield 15, 3) := by decide +kernel
theorem dX6_advance_62 : decode cX6_advance 62 = .ok (.aload_n 0, 1) := by decide +kernel
theorem dX6_advance_63 : decode cX6_advance 63 = .ok (.getfield 9, 3) := by decide +kernel
theorem dX6_advance_66 : decode cX6_advance 66 = .ok (.getfield 19, 3) := by decide +kernel
theorem dX6_advance_69 : decode cX6_advance 69 = .ok (.if_icmp .lt 11, 3) := by decide +kernel
theorem dX6_advance_72 : decode cX6_advance 72 = .ok (.aload_n 0, 1) := by decide +kernel
theorem dX6_advance_73 : decode cX6_advance 73 = .ok (.iconst 0, 1) := by decide +kernel
theorem dX6_advance_74 : decode cX6_advance 74 = .ok (.putfield 38, 3) := by decide +kernel
theorem dX6_advance_77 : decode cX6_advance 77 = .ok (.goto 57, 3) := by decide +kernel
theorem dX6_advance_80 : decode cX6_advance 80 = .ok (.aload_n 0, 1) := by decide +kernel
theorem dX6_advance_81 : decode cX6_advance 81 = .ok (.getfield 9, 3) := by decide +kernel
theorem dX6_advance_84 : decode cX6_advance 84 = .ok (.getfield 24, 3) := by decide +kernel
theorem dX6_advance_87 : decode cX6_advance 87 = .ok (.aload_n 0, 1) := by decide +kernel
theorem dX6_advance_88 : decode cX6_advance 88 = .ok (.getfield 15, 3) := by decide +kernel
theorem dX6_advance_91 : decode cX6_advance 91 = .ok (.iaload, 1) := by decide +kernel
theorem dX6_advance_92 : decode cX6_advance 92 = .ok (.invokestatic 41, 3) := by decide +kernel
theorem dX6_advance_95 : decode cX6_advance 95 = .ok (.ifCond .eq 10, 3) := by decide +kernel
theorem dX6_advance_98 : decode cX6_advance 98 = .ok (.aload_n 0, 1) := by decide +kernel
theorem dX6_advance_99 : decode cX6_advance 99 = .ok (.invokevirtual 44, 3) := by decide +kernel
theorem dX6_advance_102 : decode cX6_advance 102 = .ok (.goto 32, 3) := by decide +kernel
theorem dX6_advance_105 : decode cX6_advance 105 = .ok (.aload_n 0, 1) := by decide +kernel
theorem dX6_advance_106 : decode cX6_advance 106 = .ok (.getfield 9, 3) := by decide +kernel
theorem dX6_advance_109 : decode cX6_advance 109 = .ok (.getfield 24, 3) := by decide +kernel
theorem dX6_advance_112 : decode cX6_advance 112 = .ok (.aload_n 0, 1) := by decide +kernel
theorem dX6_advance_113 : decode cX6_advance 113 = .ok (.getfield 15, 3) := by decide +kernel
theorem dX6_advance_116 : decode cX6_advance 116 = .ok (.iaload, 1) := by decide +kernel
theorem dX6_advance_117 : decode cX6_advance 117 = .ok (.invokestatic 47, 3) := by decide +kernel
theorem dX6_advance_120 : decode cX6_advance 120 = .ok (.ifCond .eq 10, 3) := by decide +kernel
theorem dX6_advance_123 : decode cX6_advance 123 = .ok (.aload_n 0, 1) := by decide +kernel
theorem dX6_advance_124 : decode cX6_advance 124 = .ok (.invokevirtual 50, 3) := by decide +kernel
theorem dX6_advance_127 : decode cX6_advance 127 = .ok (.goto 7, 3) := by decide +kernel
theorem dX6_advance_130 : decode cX6_advance 130 = .ok (.aload_n 0, 1) := by decide +kernel
theorem dX6_advance_131 : decode cX6_advance 131 = .ok (.invokevirtual 53, 3) := by decide +kernel
theorem dX6_advance_134 : decode cX6_advance 134 = .ok (.return_, 1) := by decide +kernel
theorem dX6_scanWord_0 : decode cX6_scanWord 0 = .ok (.lconst 0, 1) := by decide +kernel
theorem dX6_scanWord_1 : decode cX6_scanWord 1 = .ok (.lstore_n 1, 1) := by decide +kernel
theorem dX6_scanWord_2 : decode cX6_scanWord 2 = .ok (.aload_n 0, 1) := by decide +kernel
theorem dX6_scanWord_3 : decode cX6_scanWord 3 = .ok (.getfield 15, 3) := by decide +kernel
theorem dX6_scanWord_6 : decode cX6_scanWord 6 = .ok (.aload_n 0, 1) := by decide +kernel
theorem dX6_scanWord_7 : decode cX6_scanWord 7 = .ok (.getfield 9, 3) := by decide +kernel
theorem dX6_scanWord_10 : decode cX6_scanWord 10 = .ok (.getfield 19, 3) := by decide +kernel
theorem dX6_scanWord_13 : decode cX6_scanWord 13 = .ok (.if_icmp .ge 53, 3) := by decide +kernel
theorem dX6_scanWord_16 : decode cX6_scanWord 16 = .ok (.aload_n 0, 1) := by decide +kernel
theorem dX6_scanWord_17 : decode cX6_scanWord 17 = .ok (.getfield 9, 3) := by decide +kernel
theorem dX6_scanWord_20 : decode cX6_scanWord 20 = .ok (.getfield 24, 3) := by decide +kernel
theorem dX6_scanWord_23 : decode cX6_scanWord 23 = .ok (.aload_n 0, 1) := by decide +kernel
theorem dX6_scanWord_24 : decode cX6_scanWord 24 = .ok (.getfield 15, 3) := by decide +kernel
theorem dX6_scanWord_27 : decode cX6_scanWord 27 = .ok (.iaload, 1) := by decide +kernel
theorem dX6_scanWord_28 : decode cX6_scanWord 28 = .ok (.invokestatic 41, 3) := by decide +kernel
theorem dX6_scanWord_31 : decode cX6_scanWord 31 = .ok (.ifCond .eq 35, 3) := by decide +kernel
theorem dX6_scanWord_34 : decode cX6_scanWord 34 = .ok (.lload_n 1, 1) := by decide +kernel
theorem dX6_scanWord_35 : decode cX6_scanWord 35 = .ok (.bipush 8, 2) := by decide +kernel
theorem dX6_scanWord_37 : decode cX6_scanWord 37 = .ok (.lshl, 1) := by decide +kernel
theorem dX6_scanWord_38 : decode cX6_scanWord 38 = .ok (.aload_n 0, 1) := by decide +kernel
theorem dX6_scanWord_39 : decode cX6_scanWord 39 = .ok (.getfield 9, 3) := by decide +kernel
theorem dX6_scanWord_42 : decode cX6_scanWord 42 = .ok (.getfield 24, 3) := by decide +kernel
theorem dX6_scanWord_45 : decode cX6_scanWord 45 = .ok (.aload_n 0, 1) := by decide +kernel
theorem dX6_scanWord_46 : decode cX6_scanWord 46 = .ok (.getfield 15, 3) := by decide +kernel
theorem dX6_scanWord_49 : decode cX6_scanWord 49 = .ok (.iaload, 1) := by decide +kernel
theorem dX6_scanWord_50 : decode cX6_scanWord 50 = .ok (.i2l, 1) := by decide +kernel
theorem dX6_scanWord_51 : decode cX6_scanWord 51 = .ok (.lor, 1) := by decide +kernel
theorem dX6_scanWord_52 : decode cX6_scanWord 52 = .ok (.lstore_n 1, 1) := by decide +kernel
theorem dX6_scanWord_53 : decode cX6_scanWord 53 = .ok (.aload_n 0, 1) := by decide +kernel
theorem dX6_scanWord_54 : decode cX6_scanWord 54 = .ok (.dup, 1) := by decide +kernel
theorem dX6_scanWord_55 : decode cX6_scanWord 55 = .ok (.getfield 15, 3) := by decide +kernel
theorem dX6_scanWord_58 : decode cX6_scanWord 58 = .ok (.iconst 1, 1) := by decide +kernel
theorem dX6_scanWord_59 : decode cX6_scanWord 59 = .ok (.iadd, 1) := by decide +kernel
theorem dX6_scanWord_60 : decode cX6_scanWord 60 = .ok (.putfield 15, 3) := by decide +kernel
theorem dX6_scanWord_63 : decode cX6_scanWord 63 = .ok (.goto (-61), 3) := by decide +kernel
theorem dX6_scanWord_66 : decode cX6_scanWord 66 = .ok (.aload_n 0, 1) := by decide +kernel
theorem dX6_scanWord_67 : decode cX6_scanWord 67 = .ok (.iconst 1, 1) := by decide +kernel
theorem dX6_scanWord_68 : decode cX6_scanWord 68 = .ok (.putfield 38, 3) := by decide +kernel
theorem dX6_scanWord_71 : decode cX6_scanWord 71 = .ok (.iconst 0, 1) := by decide +kernel
theorem dX6_scanWord_72 : decode cX6_scanWord 72 = .ok (.istore_n 3, 1) := by decide +kernel
theorem dX6_scanWord_73 : decode cX6_scanWord 73 = .ok (.iload_n 3, 1) := by decide +kernel
theorem dX6_scanWord_74 : decode cX6_scanWord 74 = .ok (.getstatic 56, 3) := by decide +kernel
theorem dX6_scanWord_77 : decode cX6_scanWord 77 = .ok (.arraylength, 1) := by decide +kernel
theorem dX6_scanWord_78 : decode cX6_scanWord 78 = .ok (.if_icmp .ge 37, 3) := by decide +kernel
theorem dX6_scanWord_81 : decode cX6_scanWord 81 = .ok (.getstatic 56, 3) := by decide +kernel
theorem dX6_scanWord_84 : decode cX6_scanWord 84 = .ok (.iload_n 3, 1) := by decide +kernel
theorem dX6_scanWord_85 : decode cX6_scanWord 85 = .ok (.laload, 1) := by decide +kernel
theorem dX6_scanWord_86 : decode cX6_scanWord 86 = .ok (.lload_n 1, 1) := by decide +kernel
theorem dX6_scanWord_87 : decode cX6_scanWord 87 = .ok (.lcmp, 1) := by decide +kernel
theorem dX6_scanWord_88 : decode cX6_scanWord 88 = .ok (.ifCond .ne 21, 3) := by decide +kernel
theorem dX6_scanWord_91 : decode cX6_scanWord 91 = .ok (.aload_n 0, 1) := by decide +kernel
theorem dX6_scanWord_92 : decode cX6_scanWord 92 = .ok (.getstatic 60, 3) := by decide +kernel
theorem dX6_scanWord_95 : decode cX6_scanWord 95 = .ok (.iload_n 3, 1) := by decide +kernel
theorem dX6_scanWord_96 : decode cX6_scanWord 96 = .ok (.iaload, 1) := by decide +kernel
theorem dX6_scanWord_97 : decode cX6_scanWord 97 = .ok (.putfield 38, 3) := by decide +kernel
theorem dX6_scanWord_100 : decode cX6_scanWord 100 = .ok (.aload_n 0, 1) := by decide +kernel
theorem dX6_scanWord_101 : decode cX6_scanWord 101 = .ok (.getstatic 63, 3) := by decide +kernel
theorem dX6_scanWord_104 : decode cX6_scanWord 104 = .ok (.iload_n 3, 1) := by decide +kernel
theorem dX6_scanWord_105 : decode cX6_scanWord 105 = .ok (.iaload, 1) := by decide +kernel
theorem dX6_scanWord_106 : decode cX6_scanWord 106 = .ok (.putfield 35, 3) := by decide +kernel
theorem dX6_scanWord_109 : decode cX6_scanWord 109 = .ok (.iinc 3 1, 3) := by decide +kernel
theorem dX6_scanWord_112 : decode cX6_scanWord 112 = .ok (.goto (-39), 3) := by decide +kernel
theorem dX6_scanWord_115 : decode cX6_scanWord 115 = .ok (.return_, 1) := by decide +kernel
theorem dX6_scanInt_0 : decode cX6_scanInt 0 = .ok (.aload_n 0, 1) := by decide +kernel
theorem dX6_scanInt_1 : decode cX6_scanInt 1 = .ok (.getfield 15, 3) := by decide +kernel
theorem dX6_scanInt_4 : decode cX6_scanInt 4 = .ok (.aload_n 0, 1) := by decide +kernel
theorem dX6_scanInt_5 : decode cX6_scanInt 5 = .ok (.getfield 9, 3) := by decide +kernel
theorem dX6_scanInt_8 : decode cX6_scanInt 8 = .ok (.getfield 19, 3) := by decide +kernel
theorem dX6_scanInt_11 : decode cX6_scanInt 11 = .ok (.if_icmp .ge 61, 3) := by decide +kernel
theorem dX6_scanInt_14 : decode cX6_scanInt 14 = .ok (.aload_n 0, 1) := by decide +kernel
theorem dX6_scanInt_15 : decode cX6_scanInt 15 = .ok (.getfield 9, 3) := by decide +kernel
theorem dX6_scanInt_18 : decode cX6_scanInt 18 = .ok (.getfield 24, 3) := by decide +kernel
theorem dX6_scanInt_21 : decode cX6_scanInt 21 = .ok (.aload_n 0, 1) := by decide +kernel
theorem dX6_scanInt_22 : decode cX6_scanInt 22 = .ok (.getfield 15, 3) := by decide +kernel
theorem dX6_scanInt_25 : decode cX6_scanInt 25 = .ok (.iaload, 1) := by decide +kernel
theorem dX6_scanInt_26 : decode cX6_scanInt 26 = .ok (.invokestatic 47, 3) := by decide +kernel
theorem dX6_scanInt_29 : decode cX6_scanInt 29 = .ok (.ifCond .eq 43, 3) := by decide +kernel
theorem dX6_scanInt_32 : decode cX6_scanInt 32 = .ok (.aload_n 0, 1) := by decide +kernel
theorem dX6_scanInt_33 : decode cX6_scanInt 33 = .ok (.aload_n 0, 1) := by decide +kernel
theorem dX6_scanInt_34 : decode cX6_scanInt 34 = .ok (.getfield 35, 3) := by decide +kernel
theorem dX6_scanInt_37 : decode cX6_scanInt 37 = .ok (.bipush 10, 2) := by decide +kernel
theorem dX6_scanInt_39 : decode cX6_scanInt 39 = .ok (.imul, 1) := by decide +kernel
theorem dX6_scanInt_40 : decode cX6_scanInt 40 = .ok (.aload_n 0, 1) := by decide +kernel
theorem dX6_scanInt_41 : decode cX6_scanInt 41 = .ok (.getfield 9, 3) := by decide +kernel
theorem dX6_scanInt_44 : decode cX6_scanInt 44 = .ok (.getfield 24, 3) := by decide +kernel
theorem dX6_scanInt_47 : decode cX6_scanInt 47 = .ok (.aload_n 0, 1) := by decide +kernel
theorem dX6_scanInt_48 : decode cX6_scanInt 48 = .ok (.getfield 15, 3) := by decide +kernel
theorem dX6_scanInt_51 : decode cX6_scanInt 51 = .ok (.iaload, 1) := by decide +kernel
theorem dX6_scanInt_52 : decode cX6_scanInt 52 = .ok (.iadd, 1) := by decide +kernel
theorem dX6_scanInt_53 : decode cX6_scanInt 53 = .ok (.bipush 48, 2) := by decide +kernel
theorem dX6_scanInt_55 : decode cX6_scanInt 55 = .ok (.isub, 1) := by decide +kernel
theorem dX6_scanInt_56 : decode cX6_scanInt 56 = .ok (.putfield 35, 3) := by decide +kernel
theorem dX6_scanInt_59 : decode cX6_scanInt 59 = .ok (.aload_n 0, 1) := by decide +kernel
theorem dX6_scanInt_60 : decode cX6_scanInt 60 = .ok (.dup, 1) := by decide +kernel
theorem dX6_scanInt_61 : decode cX6_scanInt 61 = .ok (.getfield 15, 3) := by decide +kernel
theorem dX6_scanInt_64 : decode cX6_scanInt 64 = .ok (.iconst 1, 1) := by decide +kernel
theorem dX6_scanInt_65 : decode cX6_scanInt 65 = .ok (.iadd, 1) := by decide +kernel
theorem dX6_scanInt_66 : decode cX6_scanInt 66 = .ok (.putfield 15, 3) := by decide +kernel
theorem dX6_scanInt_69 : decode cX6_scanInt 69 = .ok (.goto (-69), 3) := by decide +kernel
theorem dX6_scanInt_72 : decode cX6_scanInt 72 = .ok (.aload_n 0, 1) := by decide +kernel
theorem dX6_scanInt_73 : decode cX6_scanInt 73 = .ok (.aload_n 0, 1) := by decide +kernel
theorem dX6_scanInt_74 : decode cX6_scanInt 74 = .ok (.getfield 15, 3) := by decide +kernel
theorem dX6_scanInt_77 : decode cX6_scanInt 77 = .ok (.aload_n 0, 1) := by decide +kernel
theorem dX6_scanInt_78 : decode cX6_scanInt 78 = .ok (.getfield 32, 3) := by decide +kernel
theorem dX6_scanInt_81 : decode cX6_scanInt 81 = .ok (.isub, 1) := by decide +kernel
theorem dX6_scanInt_82 : decode cX6_scanInt 82 = .ok (.iconst 4, 1) := by decide +kernel
theorem dX6_scanInt_83 : decode cX6_scanInt 83 = .ok (.if_icmp .gt 7, 3) := by decide +kernel
theorem dX6_scanInt_86 : decode cX6_scanInt 86 = .ok (.iconst 2, 1) := by decide +kernel
theorem dX6_scanInt_87 : decode cX6_scanInt 87 = .ok (.goto 4, 3) := by decide +kernel
theorem dX6_scanInt_90 : decode cX6_scanInt 90 = .ok (.iconst 1, 1) := by decide +kernel
theorem dX6_scanInt_91 : decode cX6_scanInt 91 = .ok (.putfield 38, 3) := by decide +kernel
theorem dX6_scanInt_94 : decode cX6_scanInt 94 = .ok (.return_, 1) := by decide +kernel
theorem dX6_scanSign_0 : decode cX6_scanSign 0 = .ok (.aload_n 0, 1) := by decide +kernel
theorem dX6_scanSign_1 : decode cX6_scanSign 1 = .ok (.getfield 9, 3) := by decide +kernel
theorem dX6_scanSign_4 : decode cX6_scanSign 4 = .ok (.getfield 24, 3) := by decide +kernel
theorem dX6_scanSign_7 : decode cX6_scanSign 7 = .ok (.aload_n 0, 1) := by decide +kernel
theorem dX6_scanSign_8 : decode cX6_scanSign 8 = .ok (.getfield 15, 3) := by decide +kernel
theorem dX6_scanSign_11 : decode cX6_scanSign 11 = .ok (.iaload, 1) := by decide +kernel
theorem dX6_scanSign_12 : decode cX6_scanSign 12 = .ok (.istore_n 1, 1) := by decide +kernel
theorem dX6_scanSign_13 : decode cX6_scanSign 13 = .ok (.aload_n 0, 1) := by decide +kernel
theorem dX6_scanSign_14 : decode cX6_scanSign 14 = .ok (.dup, 1) := by decide +kernel
theorem dX6_scanSign_15 : decode cX6_scanSign 15 = .ok (.getfield 15, 3) := by decide +kernel
theorem dX6_scanSign_18 : decode cX6_scanSign 18 = .ok (.iconst 1, 1) := by decide +kernel
theorem dX6_scanSign_19 : decode cX6_scanSign 19 = .ok (.iadd, 1) := by decide +kernel
theorem dX6_scanSign_20 : decode cX6_scanSign 20 = .ok (.putfield 15, 3) := by decide +kernel
theorem dX6_scanSign_23 : decode cX6_scanSign 23 = .ok (.iload_n 1, 1) := by decide +kernel
theorem dX6_scanSign_24 : decode cX6_scanSign 24 = .ok (.tableswitch 156 40 59 #[105, 114, 145, 123, 156, 134, 156, 156, 156, 156, 156, 156, 156, 156, 156, 156, 156, 156, 156, 96], 96) := by decide +kernel
theorem dX6_scanSign_120 : decode cX6_scanSign 120 = .ok (.aload_n 0, 1) := by decide +kernel
theorem dX6_scanSign_121 : decode cX6_scanSign 121 = .ok (.bipush 12, 2) := by decide +kernel
theorem dX6_scanSign_123 : decode cX6_scanSign 123 = .ok (.putfield 38, 3) := by decide +kernel
theorem dX6_scanSign_126 : decode cX6_scanSign 126 = .ok (.goto 59, 3) := by decide +kernel
theorem dX6_scanSign_129 : decode cX6_scanSign 129 = .ok (.aload_n 0, 1) := by decide +kernel
theorem dX6_scanSign_130 : decode cX6_scanSign 130 = .ok (.bipush 10, 2) := by decide +kernel
theorem dX6_scanSign_132 : decode cX6_scanSign 132 = .ok (.putfield 38, 3) := by decide +kernel
theorem dX6_scanSign_135 : decode cX6_scanSign 135 = .ok (.goto 50, 3) := by decide +kernel
theorem dX6_scanSign_138 : decode cX6_scanSign 138 = .ok (.aload_n 0, 1) := by decide +kernel
theorem dX6_scanSign_139 : decode cX6_scanSign 139 = .ok (.bipush 11, 2) := by decide +kernel
theorem dX6_scanSign_141 : decode cX6_scanSign 141 = .ok (.putfield 38, 3) := by decide +kernel
theorem dX6_scanSign_144 : decode cX6_scanSign 144 = .ok (.goto 41, 3) := by decide +kernel
theorem dX6_scanSign_147 : decode cX6_scanSign 147 = .ok (.aload_n 0, 1) := by decide +kernel
theorem dX6_scanSign_148 : decode cX6_scanSign 148 = .ok (.bipush 9, 2) := by decide +kernel
theorem dX6_scanSign_150 : decode cX6_scanSign 150 = .ok (.bipush 7, 2) := by decide +kernel
theorem dX6_scanSign_152 : decode cX6_scanSign 152 = .ok (.invokevirtual 66, 3) := by decide +kernel
theorem dX6_scanSign_155 : decode cX6_scanSign 155 = .ok (.goto 30, 3) := by decide +kernel
theorem dX6_scanSign_158 : decode cX6_scanSign 158 = .ok (.aload_n 0, 1) := by decide +kernel
theorem dX6_scanSign_159 : decode cX6_scanSign 159 = .ok (.bipush 9, 2) := by decide +kernel
theorem dX6_scanSign_161 : decode cX6_scanSign 161 = .ok (.bipush 8, 2) := by decide +kernel
theorem dX6_scanSign_163 : decode cX6_scanSign 163 = .ok (.invokevirtual 66, 3) := by decide +kernel
theorem dX6_scanSign_166 : decode cX6_scanSign 166 = .ok (.goto 19, 3) := by decide +kernel
theorem dX6_scanSign_169 : decode cX6_scanSign 169 = .ok (.aload_n 0, 1) := by decide +kernel
theorem dX6_scanSign_170 : decode cX6_scanSign 170 = .ok (.bipush 9, 2) := by decide +kernel
theorem dX6_scanSign_172 : decode cX6_scanSign 172 = .ok (.bipush 9, 2) := by decide +kernel
theorem dX6_scanSign_174 : decode cX6_scanSign 174 = .ok (.invokevirtual 66, 3) := by decide +kernel
theorem dX6_scanSign_177 : decode cX6_scanSign 177 = .ok (.goto 8, 3) := by decide +kernel
theorem dX6_scanSign_180 : decode cX6_scanSign 180 = .ok (.aload_n 0, 1) := by decide +kernel
theorem dX6_scanSign_181 : decode cX6_scanSign 181 = .ok (.iload_n 1, 1) := by decide +kernel
theorem dX6_scanSign_182 : decode cX6_scanSign 182 = .ok (.invokevirtual 70, 3) := by decide +kernel
theorem dX6_scanSign_185 : decode cX6_scanSign 185 = .ok (.return_, 1) := by decide +kernel
theorem dX6_scanRelation_0 : decode cX6_scanRelation 0 = .ok (.aload_n 0, 1) := by decide +kernel
theorem dX6_scanRelation_1 : decode cX6_scanRelation 1 = .ok (.getfield 15, 3) := by decide +kernel
theorem dX6_scanRelation_4 : decode cX6_scanRelation 4 = .ok (.aload_n 0, 1) := by decide +kernel
theorem dX6_scanRelation_5 : decode cX6_scanRelation 5 = .ok (.getfield 9, 3) := by decide +kernel
theorem dX6_scanRelation_8 : decode cX6_scanRelation 8 = .ok (.getfield 19, 3) := by decide +kernel
theorem dX6_scanRelation_11 : decode cX6_scanRelation 11 = .ok (.if_icmp .ge 24, 3) := by decide +kernel
theorem dX6_scanRelation_14 : decode cX6_scanRelation 14 = .ok (.aload_n 0, 1) := by decide +kernel
theorem dX6_scanRelation_15 : decode cX6_scanRelation 15 = .ok (.getfield 9, 3) := by decide +kernel
theorem dX6_scanRelation_18 : decode cX6_scanRelation 18 = .ok (.getfield 24, 3) := by decide +kernel
theorem dX6_scanRelation_21 : decode cX6_scanRelation 21 = .ok (.aload_n 0, 1) := by decide +kernel
theorem dX6_scanRelation_22 : decode cX6_scanRelation 22 = .ok (.getfield 15, 3) := by decide +kernel
theorem dX6_scanRelation_25 : decode cX6_scanRelation 25 = .ok (.iaload, 1) := by decide +kernel
theorem dX6_scanRelation_26 : decode cX6_scanRelation 26 = .ok (.bipush 61, 2) := by decide +kernel
theorem dX6_scanRelation_28 : decode cX6_scanRelation 28 = .ok (.if_icmp .ne 7, 3) := by decide +kernel
theorem dX6_scanRelation_31 : decode cX6_scanRelation 31 = .ok (.iconst 1, 1) := by decide +kernel
theorem dX6_scanRelation_32 : decode cX6_scanRelation 32 = .ok (.goto 4, 3) := by decide +kernel
theorem dX6_scanRelation_35 : decode cX6_scanRelation 35 = .ok (.iconst 0, 1) := by decide +kernel
theorem dX6_scanRelation_36 : decode cX6_scanRelation 36 = .ok (.istore_n 2, 1) := by decide +kernel
theorem dX6_scanRelation_37 : decode cX6_scanRelation 37 = .ok (.iload_n 1, 1) := by decide +kernel
theorem dX6_scanRelation_38 : decode cX6_scanRelation 38 = .ok (.bipush 60, 2) := by decide +kernel
theorem dX6_scanRelation_40 : decode cX6_scanRelation 40 = .ok (.if_icmp .ne 22, 3) := by decide +kernel
theorem dX6_scanRelation_43 : decode cX6_scanRelation 43 = .ok (.aload_n 0, 1) := by decide +kernel
theorem dX6_scanRelation_44 : decode cX6_scanRelation 44 = .ok (.bipush 8, 2) := by decide +kernel
theorem dX6_scanRelation_46 : decode cX6_scanRelation 46 = .ok (.iload_n 2, 1) := by decide +kernel
theorem dX6_scanRelation_47 : decode cX6_scanRelation 47 = .ok (.ifCond .eq 8, 3) := by decide +kernel
theorem dX6_scanRelation_50 : decode cX6_scanRelation 50 = .ok (.bipush 6, 2) := by decide +kernel
theorem dX6_scanRelation_52 : decode cX6_scanRelation 52 = .ok (.goto 4, 3) := by decide +kernel
theorem dX6_scanRelation_55 : decode cX6_scanRelation 55 = .ok (.iconst 5, 1) := by decide +kernel
theorem dX6_scanRelation_56 : decode cX6_scanRelation 56 = .ok (.invokevirtual 66, 3) := by decide +kernel
theorem dX6_scanRelation_59 : decode cX6_scanRelation 59 = .ok (.goto 45, 3) := by decide +kernel
theorem dX6_scanRelation_62 : decode cX6_scanRelation 62 = .ok (.iload_n 2, 1) := by decide +kernel
theorem dX6_scanRelation_63 : decode cX6_scanRelation 63 = .ok (.ifCond .eq 35, 3) := by decide +kernel
theorem dX6_scanRelation_66 : decode cX6_scanRelation 66 = .ok (.iload_n 1, 1) := by decide +kernel
theorem dX6_scanRelation_67 : decode cX6_scanRelation 67 = .ok (.bipush 61, 2) := by decide +kernel
theorem dX6_scanRelation_69 : decode cX6_scanRelation 69 = .ok (.if_icmp .eq 9, 3) := by decide +kernel
theorem dX6_scanRelation_72 : decode cX6_scanRelation 72 = .ok (.iload_n 1, 1) := by decide +kernel
theorem dX6_scanRelation_73 : decode cX6_scanRelation 73 = .ok (.bipush 33, 2) := by decide +kernel
theorem dX6_scanRelation_75 : decode cX6_scanRelation 75 = .ok (.if_icmp .ne 23, 3) := by decide +kernel
theorem dX6_scanRelation_78 : decode cX6_scanRelation 78 = .ok (.aload_n 0, 1) := by decide +kernel
theorem dX6_scanRelation_79 : decode cX6_scanRelation 79 = .ok (.bipush 8, 2) := by decide +kernel
theorem dX6_scanRelation_81 : decode cX6_scanRelation 81 = .ok (.iload_n 1, 1) := by decide +kernel
theorem dX6_scanRelation_82 : decode cX6_scanRelation 82 = .ok (.bipush 61, 2) := by decide +kernel
theorem dX6_scanRelation_84 : decode cX6_scanRelation 84 = .ok (.if_icmp .ne 7, 3) := by decide +kernel
theorem dX6_scanRelation_87 : decode cX6_scanRelation 87 = .ok (.iconst 3, 1) := by decide +kernel
theorem dX6_scanRelation_88 : decode cX6_scanRelation 88 = .ok (.goto 4, 3) := by decide +kernel
theorem dX6_scanRelation_91 : decode cX6_scanRelation 91 = .ok (.iconst 4, 1) := by decide +kernel
theorem dX6_scanRelation_92 : decode cX6_scanRelation 92 = .ok (.invokevirtual 66, 3) := by decide +kernel
theorem dX6_scanRelation_95 : decode cX6_scanRelation 95 = .ok (.goto 9, 3) := by decide +kernel
theorem dX6_scanRelation_98 : decode cX6_scanRelation 98 = .ok (.aload_n 0, 1) := by decide +kernel
theorem dX6_scanRelation_99 : decode cX6_scanRelation 99 = .ok (.iconst 1, 1) := by decide +kernel
theorem dX6_scanRelation_100 : decode cX6_scanRelation 100 = .ok (.putfield 38, 3) := by decide +kernel
theorem dX6_scanRelation_103 : decode cX6_scanRelation 103 = .ok (.return_, 1) := by decide +kernel
theorem dX6_scanRelation_104 : decode cX6_scanRelation 104 = .ok (.iload_n 2, 1) := by decide +kernel
theorem dX6_scanRelation_105 : decode cX6_scanRelation 105 = .ok (.ifCond .eq 13, 3) := by decide +kernel
theorem dX6_scanRelation_108 : decode cX6_scanRelation 108 = .ok (.aload_n 0, 1) := by decide +kernel
theorem dX6_scanRelation_109 : decode cX6_scanRelation 109 = .ok (.dup, 1) := by decide +kernel
theorem dX6_scanRelation_110 : decode cX6_scanRelation 110 = .ok (.getfield 15, 3) := by decide +kernel
theorem dX6_scanRelation_113 : decode cX6_scanRelation 113 = .ok (.iconst 1, 1) := by decide +kernel
theorem dX6_scanRelation_114 : decode cX6_scanRelation 114 = .ok (.iadd, 1) := by decide +kernel
theorem dX6_scanRelation_115 : decode cX6_scanRelation 115 = .ok (.putfield 15, 3) := by decide +kernel
theorem dX6_scanRelation_118 : decode cX6_scanRelation 118 = .ok (.return_, 1) := by decide +kernel
theorem dX6_set_0 : decode cX6_set 0 = .ok (.aload_n 0, 1) := by decide +kernel
theorem dX6_set_1 : decode cX6_set 1 = .ok (.iload_n 1, 1) := by decide +kernel
theorem dX6_set_2 : decode cX6_set 2 = .ok (.putfield 38, 3) := by decide +kernel
theorem dX6_set_5 : decode cX6_set 5 = .ok (.aload_n 0, 1) := by decide +kernel
theorem dX6_set_6 : decode cX6_set 6 = .ok (.iload_n 2, 1) := by decide +kernel
theorem dX6_set_7 : decode cX6_set 7 = .ok (.putfield 35, 3) := by decide +kernel
theorem dX6_set_10 : decode cX6_set 10 = .ok (.return_, 1) := by decide +kernel
theorem dX6_isBlank_0 : decode cX6_isBlank 0 = .ok (.iload_n 0, 1) := by decide +kernel
theorem dX6_isBlank_1 : decode cX6_isBlank 1 = .ok (.bipush 32, 2) := by decide +kernel
theorem dX6_isBlank_3 : decode cX6_isBlank 3 = .ok (.if_icmp .eq 21, 3) := by decide +kernel
theorem dX6_isBlank_6 : decode cX6_isBlank 6 = .ok (.iload_n 0, 1) := by decide +kernel
theorem dX6_isBlank_7 : decode cX6_isBlank 7 = .ok (.bipush 9, 2) := by decide +kernel
theorem dX6_isBlank_9 : decode cX6_isBlank 9 = .ok (.if_icmp .eq 15, 3) := by decide +kernel
theorem dX6_isBlank_12 : decode cX6_isBlank 12 = .ok (.iload_n 0, 1) := by decide +kernel
theorem dX6_isBlank_13 : decode cX6_isBlank 13 = .ok (.bipush 10, 2) := by decide +kernel
theorem dX6_isBlank_15 : decode cX6_isBlank 15 = .ok (.if_icmp .eq 9, 3) := by decide +kernel
theorem dX6_isBlank_18 : decode cX6_isBlank 18 = .ok (.iload_n 0, 1) := by decide +kernel
theorem dX6_isBlank_19 : decode cX6_isBlank 19 = .ok (.bipush 13, 2) := by decide +kernel
theorem dX6_isBlank_21 : decode cX6_isBlank 21 = .ok (.if_icmp .ne 7, 3) := by decide +kernel
theorem dX6_isBlank_24 : decode cX6_isBlank 24 = .ok (.iconst 1, 1) := by decide +kernel
theorem dX6_isBlank_25 : decode cX6_isBlank 25 = .ok (.goto 4, 3) := by decide +kernel
theorem dX6_isBlank_28 : decode cX6_isBlank 28 = .ok (.iconst 0, 1) := by decide +kernel
theorem dX6_isBlank_29 : decode cX6_isBlank 29 = .ok (.ireturn, 1) := by decide +kernel
theorem dX6_isLetter_0 : decode cX6_isLetter 0 = .ok (.iload_n 0, 1) := by decide +kernel
theorem dX6_isLetter_1 : decode cX6_isLetter 1 = .ok (.bipush 97, 2) := by decide +kernel
theorem dX6_isLetter_3 : decode cX6_isLetter 3 = .ok (.if_icmp .lt 13, 3) := by decide +kernel
theorem dX6_isLetter_6 : decode cX6_isLetter 6 = .ok (.iload_n 0, 1) := by decide +kernel
theorem dX6_isLetter_7 : decode cX6_isLetter 7 = .ok (.bipush 122, 2) := by decide +kernel
theorem dX6_isLetter_9 : decode cX6_isLetter 9 = .ok (.if_icmp .gt 7, 3) := by decide +kernel
theorem dX6_isLetter_12 : decode cX6_isLetter 12 = .ok (.iconst 1, 1) := by decide +kernel
theorem dX6_isLetter_13 : decode cX6_isLetter 13 = .ok (.goto 4, 3) := by decide +kernel
theorem dX6_isLetter_16 : decode cX6_isLetter 16 = .ok (.iconst 0, 1) := by decide +kernel
theorem dX6_isLetter_17 : decode cX6_isLetter 17 = .ok (.ireturn, 1) := by decide +kernel
theorem dX6_isDigit_0 : decode cX6_isDigit 0 = .ok (.iload_n 0, 1) := by decide +kernel
theorem dX6_isDigit_1 : decode cX6_isDigit 1 = .ok (.bipush 48, 2) := by decide +kernel
theorem dX6_isDigit_3 : decode cX6_isDigit 3 = .ok (.if_icmp .lt 13, 3) := by decide +kernel
theorem dX6_isDigit_6 : decode cX6_isDigit 6 = .ok (.iload_n 0, 1) := by decide +kernel
theorem dX6_isDigit_7 : decode cX6_isDigit 7 = .ok (.bipush 57, 2) := by decide +kernel
theorem dX6_isDigit_9 : decode cX6_isDigit 9 = .ok (.if_icmp .gt 7, 3) := by decide +kernel
theorem dX6_isDigit_12 : decode cX6_isDigit 12 = .ok (.iconst 1, 1) := by decide +kernel
theorem dX6_isDigit_13 : decode cX6_isDigit 13 = .ok (.goto 4, 3) := by decide +kernel
theorem dX6_isDigit_16 : decode cX6_isDigit 16 = .ok (.iconst 0, 1) := by decide +kernel
theorem dX6_isDigit_17 : decode cX6_isDigit 17 = .ok (.ireturn, 1) := by decide +kernel
theorem dX7_init_0 : decode cX7_init 0 = .ok (.aload_n 0, 1) := by decide +kernel
theorem dX7_init_1 : decode cX7_init 1 = .ok (.invokespecial 3, 3) := by decide +kernel
theorem dX7_init_4 : decode cX7_init 4 = .ok (.aload_n 0, 1) := by decide +kernel
theorem dX7_init_5 : decode cX7_init 5 = .ok (.sipush 2000, 3) := by decide +kernel
theorem dX7_init_8 : decode cX7_init 8 = .ok (.newarray .int, 2) := by decide +kernel
theorem dX7_init_10 : decode cX7_init 10 = .ok (.putfield 9, 3) := by decide +kernel
theorem dX7_init_13 : decode cX7_init 13 = .ok (.return_, 1) := by decide +kernel
theorem dX7_append_0 : decode cX7_append 0 = .ok (.bipush 24, 2) := by decide +kernel
theorem dX7_append_2 : decode cX7_append 2 = .ok (.istore_n 2, 1) := by decide +kernel
theorem dX7_append_3 : decode cX7_append 3 = .ok (.iload_n 2, 1) := by decide +kernel
theorem dX7_append_4 : decode cX7_append 4 = .ok (.ifCond .lt 45, 3) := by decide +kernel
theorem dX7_append_7 : decode cX7_append 7 = .ok (.aload_n 0, 1) := by decide +kernel
theorem dX7_append_8 : decode cX7_append 8 = .ok (.getfield 15, 3) := by decide +kernel
theorem dX7_append_11 : decode cX7_append 11 = .ok (.sipush 2000, 3) := by decide +kernel
theorem dX7_append_14 : decode cX7_append 14 = .ok (.if_icmp .ge 35, 3) := by decide +kernel
theorem dX7_append_17 : decode cX7_append 17 = .ok (.aload_n 0, 1) := by decide +kernel
theorem dX7_append_18 : decode cX7_append 18 = .ok (.getfield 9, 3) := by decide +kernel
theorem dX7_append_21 : decode cX7_append 21 = .ok (.aload_n 0, 1) := by decide +kernel
theorem dX7_append_22 : decode cX7_append 22 = .ok (.getfield 15, 3) := by decide +kernel
theorem dX7_append_25 : decode cX7_append 25 = .ok (.iload_n 1, 1) := by decide +kernel
theorem dX7_append_26 : decode cX7_append 26 = .ok (.iload_n 2, 1) := by decide +kernel
theorem dX7_append_27 : decode cX7_append 27 = .ok (.iushr, 1) := by decide +kernel
theorem dX7_append_28 : decode cX7_append 28 = .ok (.sipush 255, 3) := by decide +kernel
theorem dX7_append_31 : decode cX7_append 31 = .ok (.iand, 1) := by decide +kernel
theorem dX7_append_32 : decode cX7_append 32 = .ok (.iastore, 1) := by decide +kernel
theorem dX7_append_33 : decode cX7_append 33 = .ok (.aload_n 0, 1) := by decide +kernel
theorem dX7_append_34 : decode cX7_append 34 = .ok (.dup, 1) := by decide +kernel
theorem dX7_append_35 : decode cX7_append 35 = .ok (.getfield 15, 3) := by decide +kernel
theorem dX7_append_38 : decode cX7_append 38 = .ok (.iconst 1, 1) := by decide +kernel
theorem dX7_append_39 : decode cX7_append 39 = .ok (.iadd, 1) := by decide +kernel
theorem dX7_append_40 : decode cX7_append 40 = .ok (.putfield 15, 3) := by decide +kernel
theorem dX7_append_43 : decode cX7_append 43 = .ok (.iinc 2 (-8), 3) := by decide +kernel
theorem dX7_append_46 : decode cX7_append 46 = .ok (.goto (-43), 3) := by decide +kernel
theorem dX7_append_49 : decode cX7_append 49 = .ok (.return_, 1) := by decide +kernel
theorem dX8_init_0 : decode cX8_init 0 = .ok (.aload_n 0, 1) := by decide +kernel
theorem dX8_init_1 : decode cX8_init 1 = .ok (.invokespecial 1, 3) := by decide +kernel
theorem dX8_init_4 : decode cX8_init 4 = .ok (.new 7, 3) := by decide +kernel
theorem dX8_init_7 : decode cX8_init 7 = .ok (.dup, 1) := by decide +kernel
theorem dX8_init_8 : decode cX8_init 8 = .ok (.invokespecial 9, 3) := by decide +kernel
theorem dX8_init_11 : decode cX8_init 11 = .ok (.astore_n 1, 1) := by decide +kernel
theorem dX8_init_12 : decode cX8_init 12 = .ok (.new 10, 3) := by decide +kernel
theorem dX8_init_15 : decode cX8_init 15 = .ok (.dup, 1) := by decide +kernel
theorem dX8_init_16 : decode cX8_init 16 = .ok (.invokespecial 12, 3) := by decide +kernel
theorem dX8_init_19 : decode cX8_init 19 = .ok (.astore_n 2, 1) := by decide +kernel
theorem dX8_init_20 : decode cX8_init 20 = .ok (.aload_n 0, 1) := by decide +kernel
theorem dX8_init_21 : decode cX8_init 21 = .ok (.aload_n 1, 1) := by decide +kernel
theorem dX8_init_22 : decode cX8_init 22 = .ok (.putfield 13, 3) := by decide +kernel
theorem dX8_init_25 : decode cX8_init 25 = .ok (.aload_n 0, 1) := by decide +kernel
theorem dX8_init_26 : decode cX8_init 26 = .ok (.new 19, 3) := by decide +kernel
theorem dX8_init_29 : decode cX8_init 29 = .ok (.dup, 1) := by decide +kernel
theorem dX8_init_30 : decode cX8_init 30 = .ok (.aload_n 1, 1) := by decide +kernel
theorem dX8_init_31 : decode cX8_init 31 = .ok (.invokespecial 21, 3) := by decide +kernel
theorem dX8_init_34 : decode cX8_init 34 = .ok (.putfield 24, 3) := by decide +kernel
theorem dX8_init_37 : decode cX8_init 37 = .ok (.aload_n 0, 1) := by decide +kernel
theorem dX8_init_38 : decode cX8_init 38 = .ok (.aload_n 2, 1) := by decide +kernel
theorem dX8_init_39 : decode cX8_init 39 = .ok (.putfield 28, 3) := by decide +kernel
theorem dX8_init_42 : decode cX8_init 42 = .ok (.aload_n 0, 1) := by decide +kernel
theorem dX8_init_43 : decode cX8_init 43 = .ok (.new 32, 3) := by decide +kernel
theorem dX8_init_46 : decode cX8_init 46 = .ok (.dup, 1) := by decide +kernel
theorem dX8_init_47 : decode cX8_init 47 = .ok (.aload_n 2, 1) := by decide +kernel
theorem dX8_init_48 : decode cX8_init 48 = .ok (.invokespecial 34, 3) := by decide +kernel
theorem dX8_init_51 : decode cX8_init 51 = .ok (.putfield 37, 3) := by decide +kernel
theorem dX8_init_54 : decode cX8_init 54 = .ok (.aload_n 0, 1) := by decide +kernel
theorem dX8_init_55 : decode cX8_init 55 = .ok (.iconst 1, 1) := by decide +kernel
theorem dX8_init_56 : decode cX8_init 56 = .ok (.putfield 41, 3) := by decide +kernel
theorem dX8_init_59 : decode cX8_init 59 = .ok (.return_, 1) := by decide +kernel
theorem dX8_feed_0 : decode cX8_feed 0 = .ok (.aload_n 0, 1) := by decide +kernel
theorem dX8_feed_1 : decode cX8_feed 1 = .ok (.getfield 13, 3) := by decide +kernel
theorem dX8_feed_4 : decode cX8_feed 4 = .ok (.getfield 45, 3) := by decide +kernel
theorem dX8_feed_7 : decode cX8_feed 7 = .ok (.bipush 20, 2) := by decide +kernel
theorem dX8_feed_9 : decode cX8_feed 9 = .ok (.iadd, 1) := by decide +kernel
theorem dX8_feed_10 : decode cX8_feed 10 = .ok (.sipush 2000, 3) := by decide +kernel
theorem dX8_feed_13 : decode cX8_feed 13 = .ok (.if_icmp .le 5, 3) := by decide +kernel
theorem dX8_feed_16 : decode cX8_feed 16 = .ok (.iconst (-1), 1) := by decide +kernel
theorem dX8_feed_17 : decode cX8_feed 17 = .ok (.ireturn, 1) := by decide +kernel
theorem dX8_feed_18 : decode cX8_feed 18 = .ok (.aload_n 0, 1) := by decide +kernel
theorem dX8_feed_19 : decode cX8_feed 19 = .ok (.getfield 13, 3) := by decide +kernel
theorem dX8_feed_22 : decode cX8_feed 22 = .ok (.iload_n 1, 1) := by decide +kernel
theorem dX8_feed_23 : decode cX8_feed 23 = .ok (.invokevirtual 49, 3) := by decide +kernel
theorem dX8_feed_26 : decode cX8_feed 26 = .ok (.aload_n 0, 1) := by decide +kernel
theorem dX8_feed_27 : decode cX8_feed 27 = .ok (.getfield 13, 3) := by decide +kernel
theorem dX8_feed_30 : decode cX8_feed 30 = .ok (.iload_n 2, 1) := by decide +kernel
theorem dX8_feed_31 : decode cX8_feed 31 = .ok (.invokevirtual 49, 3) := by decide +kernel
theorem dX8_feed_34 : decode cX8_feed 34 = .ok (.aload_n 0, 1) := by decide +kernel
theorem dX8_feed_35 : decode cX8_feed 35 = .ok (.getfield 13, 3) := by decide +kernel
theorem dX8_feed_38 : decode cX8_feed 38 = .ok (.iload_n 3, 1) := by decide +kernel
theorem dX8_feed_39 : decode cX8_feed 39 = .ok (.invokevirtual 49, 3) := by decide +kernel
theorem dX8_feed_42 : decode cX8_feed 42 = .ok (.aload_n 0, 1) := by decide +kernel
theorem dX8_feed_43 : decode cX8_feed 43 = .ok (.getfield 13, 3) := by decide +kernel
theorem dX8_feed_46 : decode cX8_feed 46 = .ok (.iload 4, 2) := by decide +kernel
theorem dX8_feed_48 : decode cX8_feed 48 = .ok (.invokevirtual 49, 3) := by decide +kernel
theorem dX8_feed_51 : decode cX8_feed 51 = .ok (.aload_n 0, 1) := by decide +kernel
theorem dX8_feed_52 : decode cX8_feed 52 = .ok (.getfield 13, 3) := by decide +kernel
theorem dX8_feed_55 : decode cX8_feed 55 = .ok (.iload 5, 2) := by decide +kernel
theorem dX8_feed_57 : decode cX8_feed 57 = .ok (.invokevirtual 49, 3) := by decide +kernel
theorem dX8_feed_60 : decode cX8_feed 60 = .ok (.aload_n 0, 1) := by decide +kernel
theorem dX8_feed_61 : decode cX8_feed 61 = .ok (.getfield 13, 3) := by decide +kernel
theorem dX8_feed_64 : decode cX8_feed 64 = .ok (.getfield 45, 3) := by decide +kernel
theorem dX8_feed_67 : decode cX8_feed 67 = .ok (.ireturn, 1) := by decide +kernel
theorem dX8_back_0 : decode cX8_back 0 = .ok (.iload_n 1, 1) := by decide +kernel
theorem dX8_back_1 : decode cX8_back 1 = .ok (.ifCond .lt 14, 3) := by decide +kernel
theorem dX8_back_4 : decode cX8_back 4 = .ok (.iload_n 1, 1) := by decide +kernel
theorem dX8_back_5 : decode cX8_back 5 = .ok (.aload_n 0, 1) := by decide +kernel
theorem dX8_back_6 : decode cX8_back 6 = .ok (.getfield 13, 3) := by decide +kernel
theorem dX8_back_9 : decode cX8_back 9 = .ok (.getfield 45, 3) := by decide +kernel
theorem dX8_back_12 : decode cX8_back 12 = .ok (.if_icmp .le 5, 3) := by decide +kernel
theorem dX8_back_15 : decode cX8_back 15 = .ok (.iconst (-1), 1) := by decide +kernel
theorem dX8_back_16 : decode cX8_back 16 = .ok (.ireturn, 1) := by decide +kernel
theorem dX8_back_17 : decode cX8_back 17 = .ok (.aload_n 0, 1) := by decide +kernel
theorem dX8_back_18 : decode cX8_back 18 = .ok (.getfield 13, 3) := by decide +kernel
theorem dX8_back_21 : decode cX8_back 21 = .ok (.dup, 1) := by decide +kernel
theorem dX8_back_22 : decode cX8_back 22 = .ok (.getfield 45, 3) := by decide +kernel
theorem dX8_back_25 : decode cX8_back 25 = .ok (.iload_n 1, 1) := by decide +kernel
theorem dX8_back_26 : decode cX8_back 26 = .ok (.isub, 1) := by decide +kernel
theorem dX8_back_27 : decode cX8_back 27 = .ok (.putfield 45, 3) := by decide +kernel
theorem dX8_back_30 : decode cX8_back 30 = .ok (.aload_n 0, 1) := by decide +kernel
theorem dX8_back_31 : decode cX8_back 31 = .ok (.getfield 13, 3) := by decide +kernel
theorem dX8_back_34 : decode cX8_back 34 = .ok (.getfield 45, 3) := by decide +kernel
theorem dX8_back_37 : decode cX8_back 37 = .ok (.ireturn, 1) := by decide +kernel
theorem dX8_read_0 : decode cX8_read 0 = .ok (.iload_n 1, 1) := by decide +kernel
theorem dX8_read_1 : decode cX8_read 1 = .ok (.iconst 2, 1) := by decide +kernel
theorem dX8_read_2 : decode cX8_read 2 = .ok (.invokestatic 53, 3) := by decide +kernel
theorem dX8_read_5 : decode cX8_read 5 = .ok (.ifCond .ne 5, 3) := by decide +kernel
theorem dX8_read_8 : decode cX8_read 8 = .ok (.iconst (-1), 1) := by decide +kernel
theorem dX8_read_9 : decode cX8_read 9 = .ok (.ireturn, 1) := by decide +kernel
theorem dX8_read_10 : decode cX8_read 10 = .ok (.aload_n 0, 1) := by decide +kernel
theorem dX8_read_11 : decode cX8_read 11 = .ok (.getfield 24, 3) := by decide +kernel
theorem dX8_read_14 : decode cX8_read 14 = .ok (.invokevirtual 57, 3) := by decide +kernel
theorem dX8_read_17 : decode cX8_read 17 = .ok (.istore_n 2, 1) := by decide +kernel
theorem dX8_read_18 : decode cX8_read 18 = .ok (.aload_n 0, 1) := by decide +kernel
theorem dX8_read_19 : decode cX8_read 19 = .ok (.getfield 13, 3) := by decide +kernel
theorem dX8_read_22 : decode cX8_read 22 = .ok (.iconst 0, 1) := by decide +kernel
theorem dX8_read_23 : decode cX8_read 23 = .ok (.putfield 45, 3) := by decide +kernel
theorem dX8_read_26 : decode cX8_read 26 = .ok (.iload_n 2, 1) := by decide +kernel
theorem dX8_read_27 : decode cX8_read 27 = .ok (.ifCond .ne 33, 3) := by decide +kernel
theorem dX8_read_30 : decode cX8_read 30 = .ok (.aload_n 0, 1) := by decide +kernel
theorem dX8_read_31 : decode cX8_read 31 = .ok (.getfield 28, 3) := by decide +kernel
theorem dX8_read_34 : decode cX8_read 34 = .ok (.getfield 61, 3) := by decide +kernel
theorem dX8_read_37 : decode cX8_read 37 = .ok (.iload_n 1, 1) := by decide +kernel
theorem dX8_read_38 : decode cX8_read 38 = .ok (.aload_n 0, 1) := by decide +kernel
theorem dX8_read_39 : decode cX8_read 39 = .ok (.getfield 24, 3) := by decide +kernel
theorem dX8_read_42 : decode cX8_read 42 = .ok (.aload_n 0, 1) := by decide +kernel
theorem dX8_read_43 : decode cX8_read 43 = .ok (.getfield 28, 3) := by decide +kernel
theorem dX8_read_46 : decode cX8_read 46 = .ok (.getfield 61, 3) := by decide +kernel
theorem dX8_read_49 : decode cX8_read 49 = .ok (.iload_n 1, 1) := by decide +kernel
theorem dX8_read_50 : decode cX8_read 50 = .ok (.aaload, 1) := by decide +kernel
theorem dX8_read_51 : decode cX8_read 51 = .ok (.invokevirtual 65, 3) := by decide +kernel
theorem dX8_read_54 : decode cX8_read 54 = .ok (.aastore, 1) := by decide +kernel
theorem dX8_read_55 : decode cX8_read 55 = .ok (.aload_n 0, 1) := by decide +kernel
theorem dX8_read_56 : decode cX8_read 56 = .ok (.iconst 1, 1) := by decide +kernel
theorem dX8_read_57 : decode cX8_read 57 = .ok (.putfield 41, 3) := by decide +kernel
theorem dX8_read_60 : decode cX8_read 60 = .ok (.iload_n 2, 1) := by decide +kernel
theorem dX8_read_61 : decode cX8_read 61 = .ok (.ireturn, 1) := by decide +kernel
theorem dX8_place_0 : decode cX8_place 0 = .ok (.aload_n 0, 1) := by decide +kernel
theorem dX8_place_1 : decode cX8_place 1 = .ok (.getfield 24, 3) := by decide +kernel
theorem dX8_place_4 : decode cX8_place 4 = .ok (.getfield 69, 3) := by decide +kernel
theorem dX8_place_7 : decode cX8_place 7 = .ok (.ireturn, 1) := by decide +kernel
theorem dX8_machine_0 : decode cX8_machine 0 = .ok (.aload_n 0, 1) := by decide +kernel
theorem dX8_machine_1 : decode cX8_machine 1 = .ok (.getfield 28, 3) := by decide +kernel
theorem dX8_machine_4 : decode cX8_machine 4 = .ok (.getfield 72, 3) := by decide +kernel
theorem dX8_machine_7 : decode cX8_machine 7 = .ok (.bipush 8, 2) := by decide +kernel
theorem dX8_machine_9 : decode cX8_machine 9 = .ok (.if_icmp .ge 29, 3) := by decide +kernel
theorem dX8_machine_12 : decode cX8_machine 12 = .ok (.iload_n 1, 1) := by decide +kernel
theorem dX8_machine_13 : decode cX8_machine 13 = .ok (.iconst 4, 1) := by decide +kernel
theorem dX8_machine_14 : decode cX8_machine 14 = .ok (.invokestatic 53, 3) := by decide +kernel
theorem dX8_machine_17 : decode cX8_machine 17 = .ok (.ifCond .eq 21, 3) := by decide +kernel
theorem dX8_machine_20 : decode cX8_machine 20 = .ok (.iload_n 2, 1) := by decide +kernel
theorem dX8_machine_21 : decode cX8_machine 21 = .ok (.bipush 8, 2) := by decide +kernel
theorem dX8_machine_23 : decode cX8_machine 23 = .ok (.invokestatic 53, 3) := by decide +kernel
theorem dX8_machine_26 : decode cX8_machine 26 = .ok (.ifCond .eq 12, 3) := by decide +kernel
theorem dX8_machine_29 : decode cX8_machine 29 = .ok (.iload_n 3, 1) := by decide +kernel
theorem dX8_machine_30 : decode cX8_machine 30 = .ok (.bipush 100, 2) := by decide +kernel
theorem dX8_machine_32 : decode cX8_machine 32 = .ok (.invokestatic 53, 3) := by decide +kernel
theorem dX8_machine_35 : decode cX8_machine 35 = .ok (.ifCond .ne 5, 3) := by decide +kernel
theorem dX8_machine_38 : decode cX8_machine 38 = .ok (.iconst (-1), 1) := by decide +kernel
theorem dX8_machine_39 : decode cX8_machine 39 = .ok (.ireturn, 1) := by decide +kernel
theorem dX8_machine_40 : decode cX8_machine 40 = .ok (.aload_n 0, 1) := by decide +kernel
theorem dX8_machine_41 : decode cX8_machine 41 = .ok (.iconst 1, 1) := by decide +kernel
theorem dX8_machine_42 : decode cX8_machine 42 = .ok (.putfield 41, 3) := by decide +kernel
theorem dX8_machine_45 : decode cX8_machine 45 = .ok (.aload_n 0, 1) := by decide +kernel
theorem dX8_machine_46 : decode cX8_machine 46 = .ok (.getfield 28, 3) := by decide +kernel
theorem dX8_machine_49 : decode cX8_machine 49 = .ok (.iload_n 1, 1) := by decide +kernel
theorem dX8_machine_50 : decode cX8_machine 50 = .ok (.iload_n 2, 1) := by decide +kernel
theorem dX8_machine_51 : decode cX8_machine 51 = .ok (.iload_n 3, 1) := by decide +kernel
theorem dX8_machine_52 : decode cX8_machine 52 = .ok (.invokevirtual 75, 3) := by decide +kernel
theorem dX8_machine_55 : decode cX8_machine 55 = .ok (.ireturn, 1) := by decide +kernel
theorem dX8_file_0 : decode cX8_file 0 = .ok (.aload_n 0, 1) := by decide +kernel
theorem dX8_file_1 : decode cX8_file 1 = .ok (.getfield 28, 3) := by decide +kernel
theorem dX8_file_4 : decode cX8_file 4 = .ok (.getfield 79, 3) := by decide +kernel
theorem dX8_file_7 : decode cX8_file 7 = .ok (.bipush 6, 2) := by decide +kernel
theorem dX8_file_9 : decode cX8_file 9 = .ok (.if_icmp .ge 25, 3) := by decide +kernel
theorem dX8_file_12 : decode cX8_file 12 = .ok (.iload_n 1, 1) := by decide +kernel
theorem dX8_file_13 : decode cX8_file 13 = .ok (.iconst 1, 1) := by decide +kernel
theorem dX8_file_14 : decode cX8_file 14 = .ok (.if_icmp .lt 20, 3) := by decide +kernel
theorem dX8_file_17 : decode cX8_file 17 = .ok (.iload_n 1, 1) := by decide +kernel
theorem dX8_file_18 : decode cX8_file 18 = .ok (.bipush 12, 2) := by decide +kernel
theorem dX8_file_20 : decode cX8_file 20 = .ok (.if_icmp .gt 14, 3) := by decide +kernel
theorem dX8_file_23 : decode cX8_file 23 = .ok (.iload_n 2, 1) := by decide +kernel
theorem dX8_file_24 : decode cX8_file 24 = .ok (.iconst (-1), 1) := by decide +kernel
theorem dX8_file_25 : decode cX8_file 25 = .ok (.if_icmp .lt 9, 3) := by decide +kernel
theorem dX8_file_28 : decode cX8_file 28 = .ok (.iload_n 2, 1) := by decide +kernel
theorem dX8_file_29 : decode cX8_file 29 = .ok (.bipush 6, 2) := by decide +kernel
theorem dX8_file_31 : decode cX8_file 31 = .ok (.if_icmp .lt 5, 3) := by decide +kernel
theorem dX8_file_34 : decode cX8_file 34 = .ok (.iconst (-1), 1) := by decide +kernel
theorem dX8_file_35 : decode cX8_file 35 = .ok (.ireturn, 1) := by decide +kernel
theorem dX8_file_36 : decode cX8_file 36 = .ok (.aload_n 0, 1) := by decide +kernel
theorem dX8_file_37 : decode cX8_file 37 = .ok (.iconst 1, 1) := by decide +kernel
theorem dX8_file_38 : decode cX8_file 38 = .ok (.putfield 41, 3) := by decide +kernel
theorem dX8_file_41 : decode cX8_file 41 = .ok (.aload_n 0, 1) := by decide +kernel
theorem dX8_file_42 : decode cX8_file 42 = .ok (.getfield 28, 3) := by decide +kernel
theorem dX8_file_45 : decode cX8_file 45 = .ok (.iload_n 1, 1) := by decide +kernel
theorem dX8_file_46 : decode cX8_file 46 = .ok (.iload_n 2, 1) := by decide +kernel
theorem dX8_file_47 : decode cX8_file 47 = .ok (.invokevirtual 82, 3) := by decide +kernel
theorem dX8_file_50 : decode cX8_file 50 = .ok (.ireturn, 1) := by decide +kernel
theorem dX8_width_0 : decode cX8_width 0 = .ok (.iload_n 1, 1) := by decide +kernel
theorem dX8_width_1 : decode cX8_width 1 = .ok (.iconst 1, 1) := by decide +kernel
theorem dX8_width_2 : decode cX8_width 2 = .ok (.if_icmp .lt 9, 3) := by decide +kernel
theorem dX8_width_5 : decode cX8_width 5 = .ok (.iload_n 1, 1) := by decide +kernel
theorem dX8_width_6 : decode cX8_width 6 = .ok (.bipush 8, 2) := by decide +kernel
theorem dX8_width_8 : decode cX8_width 8 = .ok (.if_icmp .le 5, 3) := by decide +kernel
theorem dX8_width_11 : decode cX8_width 11 = .ok (.iconst 0, 1) := by decide +kernel
theorem dX8_width_12 : decode cX8_width 12 = .ok (.ireturn, 1) := by decide +kernel
theorem dX8_width_13 : decode cX8_width 13 = .ok (.aload_n 0, 1) := by decide +kernel
theorem dX8_width_14 : decode cX8_width 14 = .ok (.getfield 28, 3) := by decide +kernel
theorem dX8_width_17 : decode cX8_width 17 = .ok (.iload_n 1, 1) := by decide +kernel
theorem dX8_width_18 : decode cX8_width 18 = .ok (.putfield 86, 3) := by decide +kernel
theorem dX8_width_21 : decode cX8_width 21 = .ok (.aload_n 0, 1) := by decide +kernel
theorem dX8_width_22 : decode cX8_width 22 = .ok (.iconst 1, 1) := by decide +kernel
theorem dX8_width_23 : decode cX8_width 23 = .ok (.putfield 41, 3) := by decide +kernel
theorem dX8_width_26 : decode cX8_width 26 = .ok (.iconst 1, 1) := by decide +kernel
theorem dX8_width_27 : decode cX8_width 27 = .ok (.ireturn, 1) := by decide +kernel
theorem dX8_wake_0 : decode cX8_wake 0 = .ok (.iload_n 1, 1) := by decide +kernel
theorem dX8_wake_1 : decode cX8_wake 1 = .ok (.iconst 4, 1) := by decide +kernel
theorem dX8_wake_2 : decode cX8_wake 2 = .ok (.invokestatic 53, 3) := by decide +kernel
theorem dX8_wake_5 : decode cX8_wake 5 = .ok (.ifCond .eq 13, 3) := by decide +kernel
theorem dX8_wake_8 : decode cX8_wake 8 = .ok (.iload_n 2, 1) := by decide +kernel
theorem dX8_wake_9 : decode cX8_wake 9 = .ok (.sipush 300, 3) := by decide +kernel
theorem dX8_wake_12 : decode cX8_wake 12 = .ok (.invokestatic 53, 3) := by decide +kernel
theorem dX8_wake_15 : decode cX8_wake 15 = .ok (.ifCond .ne 5, 3) := by decide +kernel
theorem dX8_wake_18 : decode cX8_wake 18 = .ok (.iconst 0, 1) := by decide +kernel
theorem dX8_wake_19 : decode cX8_wake 19 = .ok (.ireturn, 1) := by decide +kernel
theorem dX8_wake_20 : decode cX8_wake 20 = .ok (.aload_n 0, 1) := by decide +kernel
theorem dX8_wake_21 : decode cX8_wake 21 = .ok (.getfield 28, 3) := by decide +kernel
theorem dX8_wake_24 : decode cX8_wake 24 = .ok (.getfield 89, 3) := by decide +kernel
theorem dX8_wake_27 : decode cX8_wake 27 = .ok (.iload_n 1, 1) := by decide +kernel
theorem dX8_wake_28 : decode cX8_wake 28 = .ok (.iload_n 2, 1) := by decide +kernel
theorem dX8_wake_29 : decode cX8_wake 29 = .ok (.iastore, 1) := by decide +kernel
theorem dX8_wake_30 : decode cX8_wake 30 = .ok (.aload_n 0, 1) := by decide +kernel
theorem dX8_wake_31 : decode cX8_wake 31 = .ok (.iconst 1, 1) := by decide +kernel
theorem dX8_wake_32 : decode cX8_wake 32 = .ok (.putfield 41, 3) := by decide +kernel
theorem dX8_wake_35 : decode cX8_wake 35 = .ok (.iconst 1, 1) := by decide +kernel
theorem dX8_wake_36 : decode cX8_wake 36 = .ok (.ireturn, 1) := by decide +kernel
theorem dX8_lose_0 : decode cX8_lose 0 = .ok (.aload_n 0, 1) := by decide +kernel
theorem dX8_lose_1 : decode cX8_lose 1 = .ok (.getfield 28, 3) := by decide +kernel
theorem dX8_lose_4 : decode cX8_lose 4 = .ok (.getfield 93, 3) := by decide +kernel
theorem dX8_lose_7 : decode cX8_lose 7 = .ok (.invokevirtual 97, 3) := by decide +kernel
theorem dX8_lose_10 : decode cX8_lose 10 = .ok (.ifCond .ne 27, 3) := by decide +kernel
theorem dX8_lose_13 : decode cX8_lose 13 = .ok (.iload_n 1, 1) := by decide +kernel
theorem dX8_lose_14 : decode cX8_lose 14 = .ok (.aload_n 0, 1) := by decide +kernel
theorem dX8_lose_15 : decode cX8_lose 15 = .ok (.getfield 28, 3) := by decide +kernel
theorem dX8_lose_18 : decode cX8_lose 18 = .ok (.getfield 72, 3) := by decide +kernel
theorem dX8_lose_21 : decode cX8_lose 21 = .ok (.invokestatic 53, 3) := by decide +kernel
theorem dX8_lose_24 : decode cX8_lose 24 = .ok (.ifCond .eq 13, 3) := by decide +kernel
theorem dX8_lose_27 : decode cX8_lose 27 = .ok (.iload_n 2, 1) := by decide +kernel
theorem dX8_lose_28 : decode cX8_lose 28 = .ok (.sipush 300, 3) := by decide +kernel
theorem dX8_lose_31 : decode cX8_lose 31 = .ok (.invokestatic 53, 3) := by decide +kernel
theorem dX8_lose_34 : decode cX8_lose 34 = .ok (.ifCond .ne 5, 3) := by decide +kernel
theorem dX8_lose_37 : decode cX8_lose 37 = .ok (.iconst (-1), 1) := by decide +kernel
theorem dX8_lose_38 : decode cX8_lose 38 = .ok (.ireturn, 1) := by decide +kernel
theorem dX8_lose_39 : decode cX8_lose 39 = .ok (.aload_n 0, 1) := by decide +kernel
theorem dX8_lose_40 : decode cX8_lose 40 = .ok (.iconst 1, 1) := by decide +kernel
theorem dX8_lose_41 : decode cX8_lose 41 = .ok (.putfield 41, 3) := by decide +kernel
theorem dX8_lose_44 : decode cX8_lose 44 = .ok (.aload_n 0, 1) := by decide +kernel
theorem dX8_lose_45 : decode cX8_lose 45 = .ok (.getfield 28, 3) := by decide +kernel
theorem dX8_lose_48 : decode cX8_lose 48 = .ok (.getfield 93, 3) := by decide +kernel
theorem dX8_lose_51 : decode cX8_lose 51 = .ok (.iload_n 1, 1) := by decide +kernel
theorem dX8_lose_52 : decode cX8_lose 52 = .ok (.iload_n 2, 1) := by decide +kernel
theorem dX8_lose_53 : decode cX8_lose 53 = .ok (.invokevirtual 103, 3) := by decide +kernel
theorem dX8_lose_56 : decode cX8_lose 56 = .ok (.ireturn, 1) := by decide +kernel
theorem dX8_spoil_0 : decode cX8_spoil 0 = .ok (.aload_n 0, 1) := by decide +kernel
theorem dX8_spoil_1 : decode cX8_spoil 1 = .ok (.getfield 28, 3) := by decide +kernel
theorem dX8_spoil_4 : decode cX8_spoil 4 = .ok (.getfield 93, 3) := by decide +kernel
theorem dX8_spoil_7 : decode cX8_spoil 7 = .ok (.invokevirtual 97, 3) := by decide +kernel
theorem dX8_spoil_10 : decode cX8_spoil 10 = .ok (.ifCond .ne 25, 3) := by decide +kernel
theorem dX8_spoil_13 : decode cX8_spoil 13 = .ok (.aload_n 0, 1) := by decide +kernel
theorem dX8_spoil_14 : decode cX8_spoil 14 = .ok (.getfield 28, 3) := by decide +kernel
theorem dX8_spoil_17 : decode cX8_spoil 17 = .ok (.iload_n 1, 1) := by decide +kernel
theorem dX8_spoil_18 : decode cX8_spoil 18 = .ok (.iload_n 2, 1) := by decide +kernel
theorem dX8_spoil_19 : decode cX8_spoil 19 = .ok (.invokevirtual 106, 3) := by decide +kernel
theorem dX8_spoil_22 : decode cX8_spoil 22 = .ok (.ifCond .eq 13, 3) := by decide +kernel
theorem dX8_spoil_25 : decode cX8_spoil 25 = .ok (.iload_n 3, 1) := by decide +kernel
theorem dX8_spoil_26 : decode cX8_spoil 26 = .ok (.sipush 300, 3) := by decide +kernel
theorem dX8_spoil_29 : decode cX8_spoil 29 = .ok (.invokestatic 53, 3) := by decide +kernel
theorem dX8_spoil_32 : decode cX8_spoil 32 = .ok (.ifCond .ne 5, 3) := by decide +kernel
theorem dX8_spoil_35 : decode cX8_spoil 35 = .ok (.iconst (-1), 1) := by decide +kernel
theorem dX8_spoil_36 : decode cX8_spoil 36 = .ok (.ireturn, 1) := by decide +kernel
theorem dX8_spoil_37 : decode cX8_spoil 37 = .ok (.aload_n 0, 1) := by decide +kernel
theorem dX8_spoil_38 : decode cX8_spoil 38 = .ok (.iconst 1, 1) := by decide +kernel
theorem dX8_spoil_39 : decode cX8_spoil 39 = .ok (.putfield 41, 3) := by decide +kernel
theorem dX8_spoil_42 : decode cX8_spoil 42 = .ok (.aload_n 0, 1) := by decide +kernel
theorem dX8_spoil_43 : decode cX8_spoil 43 = .ok (.getfield 28, 3) := by decide +kernel
theorem dX8_spoil_46 : decode cX8_spoil 46 = .ok (.getfield 93, 3) := by decide +kernel
theorem dX8_spoil_49 : decode cX8_spoil 49 = .ok (.iload_n 1, 1) := by decide +kernel
theorem dX8_spoil_50 : decode cX8_spoil 50 = .ok (.bipush 12, 2) := by decide +kernel
theorem dX8_spoil_52 : decode cX8_spoil 52 = .ok (.imul, 1) := by decide +kernel
theorem dX8_spoil_53 : decode cX8_spoil 53 = .ok (.iload_n 2, 1) := by decide +kernel
theorem dX8_spoil_54 : decode cX8_spoil 54 = .ok (.iadd, 1) := by decide +kernel
theorem dX8_spoil_55 : decode cX8_spoil 55 = .ok (.iload_n 3, 1) := by decide +kernel
theorem dX8_spoil_56 : decode cX8_spoil 56 = .ok (.invokevirtual 109, 3) := by decide +kernel
theorem dX8_spoil_59 : decode cX8_spoil 59 = .ok (.ireturn, 1) := by decide +kernel
theorem dX8_down_0 : decode cX8_down 0 = .ok (.aload_n 0, 1) := by decide +kernel
theorem dX8_down_1 : decode cX8_down 1 = .ok (.getfield 28, 3) := by decide +kernel
theorem dX8_down_4 : decode cX8_down 4 = .ok (.getfield 93, 3) := by decide +kernel
theorem dX8_down_7 : decode cX8_down 7 = .ok (.invokevirtual 97, 3) := by decide +kernel
theorem dX8_down_10 : decode cX8_down 10 = .ok (.ifCond .ne 26, 3) := by decide +kernel
theorem dX8_down_13 : decode cX8_down 13 = .ok (.iload_n 1, 1) := by decide +kernel
theorem dX8_down_14 : decode cX8_down 14 = .ok (.iconst 2, 1) := by decide +kernel
theorem dX8_down_15 : decode cX8_down 15 = .ok (.invokestatic 53, 3) := by decide +kernel
theorem dX8_down_18 : decode cX8_down 18 = .ok (.ifCond .eq 18, 3) := by decide +kernel
theorem dX8_down_21 : decode cX8_down 21 = .ok (.iload_n 2, 1) := by decide +kernel
theorem dX8_down_22 : decode cX8_down 22 = .ok (.iload_n 3, 1) := by decide +kernel
theorem dX8_down_23 : decode cX8_down 23 = .ok (.invokestatic 53, 3) := by decide +kernel
theorem dX8_down_26 : decode cX8_down 26 = .ok (.ifCond .eq 10, 3) := by decide +kernel
theorem dX8_down_29 : decode cX8_down 29 = .ok (.iload_n 3, 1) := by decide +kernel
theorem dX8_down_30 : decode cX8_down 30 = .ok (.sipush 300, 3) := by decide +kernel
theorem dX8_down_33 : decode cX8_down 33 = .ok (.if_icmp .le 5, 3) := by decide +kernel
theorem dX8_down_36 : decode cX8_down 36 = .ok (.iconst (-1), 1) := by decide +kernel
theorem dX8_down_37 : decode cX8_down 37 = .ok (.ireturn, 1) := by decide +kernel
theorem dX8_down_38 : decode cX8_down 38 = .ok (.aload_n 0, 1) := by decide +kernel
theorem dX8_down_39 : decode cX8_down 39 = .ok (.iconst 1, 1) := by decide +kernel
theorem dX8_down_40 : decode cX8_down 40 = .ok (.putfield 41, 3) := by decide +kernel
theorem dX8_down_43 : decode cX8_down 43 = .ok (.aload_n 0, 1) := by decide +kernel
theorem dX8_down_44 : decode cX8_down 44 = .ok (.getfield 28, 3) := by decide +kernel
theorem dX8_down_47 : decode cX8_down 47 = .ok (.getfield 93, 3) := by decide +kernel
theorem dX8_down_50 : decode cX8_down 50 = .ok (.iload_n 1, 1) := by decide +kernel
theorem dX8_down_51 : decode cX8_down 51 = .ok (.iload_n 2, 1) := by decide +kernel
theorem dX8_down_52 : decode cX8_down 52 = .ok (.iload_n 3, 1) := by decide +kernel
theorem dX8_down_53 : decode cX8_down 53 = .ok (.invokevirtual 112, 3) := by decide +kernel
theorem dX8_down_56 : decode cX8_down 56 = .ok (.ireturn, 1) := by decide +kernel
theorem dX8_cut_0 : decode cX8_cut 0 = .ok (.aload_n 0, 1) := by decide +kernel
theorem dX8_cut_1 : decode cX8_cut 1 = .ok (.getfield 28, 3) := by decide +kernel
theorem dX8_cut_4 : decode cX8_cut 4 = .ok (.getfield 93, 3) := by decide +kernel
theorem dX8_cut_7 : decode cX8_cut 7 = .ok (.invokevirtual 97, 3) := by decide +kernel
theorem dX8_cut_10 : decode cX8_cut 10 = .ok (.ifCond .ne 27, 3) := by decide +kernel
theorem dX8_cut_13 : decode cX8_cut 13 = .ok (.iload_n 1, 1) := by decide +kernel
theorem dX8_cut_14 : decode cX8_cut 14 = .ok (.aload_n 0, 1) := by decide +kernel
theorem dX8_cut_15 : decode cX8_cut 15 = .ok (.getfield 28, 3) := by decide +kernel
theorem dX8_cut_18 : decode cX8_cut 18 = .ok (.getfield 72, 3) := by decide +kernel
theorem dX8_cut_21 : decode cX8_cut 21 = .ok (.invokestatic 53, 3) := by decide +kernel
theorem dX8_cut_24 : decode cX8_cut 24 = .ok (.ifCond .eq 13, 3) := by decide +kernel
theorem dX8_cut_27 : decode cX8_cut 27 = .ok (.iload_n 2, 1) := by decide +kernel
theorem dX8_cut_28 : decode cX8_cut 28 = .ok (.sipush 300, 3) := by decide +kernel
theorem dX8_cut_31 : decode cX8_cut 31 = .ok (.invokestatic 53, 3) := by decide +kernel
theorem dX8_cut_34 : decode cX8_cut 34 = .ok (.ifCond .ne 5, 3) := by decide +kernel
theorem dX8_cut_37 : decode cX8_cut 37 = .ok (.iconst (-1), 1) := by decide +kernel
theorem dX8_cut_38 : decode cX8_cut 38 = .ok (.ireturn, 1) := by decide +kernel
theorem dX8_cut_39 : decode cX8_cut 39 = .ok (.aload_n 0, 1) := by decide +kernel
theorem dX8_cut_40 : decode cX8_cut 40 = .ok (.iconst 1, 1) := by decide +kernel
theorem dX8_cut_41 : decode cX8_cut 41 = .ok (.putfield 41, 3) := by decide +kernel
theorem dX8_cut_44 : decode cX8_cut 44 = .ok (.aload_n 0, 1) := by decide +kernel
theorem dX8_cut_45 : decode cX8_cut 45 = .ok (.getfield 28, 3) := by decide +kernel
theorem dX8_cut_48 : decode cX8_cut 48 = .ok (.getfield 93, 3) := by decide +kernel
theorem dX8_cut_51 : decode cX8_cut 51 = .ok (.iload_n 1, 1) := by decide +kernel
theorem dX8_cut_52 : decode cX8_cut 52 = .ok (.iload_n 2, 1) := by decide +kernel
theorem dX8_cut_53 : decode cX8_cut 53 = .ok (.invokevirtual 115, 3) := by decide +kernel
theorem dX8_cut_56 : decode cX8_cut 56 = .ok (.ireturn, 1) := by decide +kernel
theorem dX8_answer_0 : decode cX8_answer 0 = .ok (.iload_n 1, 1) := by decide +kernel
theorem dX8_answer_1 : decode cX8_answer 1 = .ok (.iconst 2, 1) := by decide +kernel
theorem dX8_answer_2 : decode cX8_answer 2 = .ok (.invokestatic 53, 3) := by decide +kernel
theorem dX8_answer_5 : decode cX8_answer 5 = .ok (.ifCond .eq 27, 3) := by decide +kernel
theorem dX8_answer_8 : decode cX8_answer 8 = .ok (.iload_n 2, 1) := by decide +kernel
theorem dX8_answer_9 : decode cX8_answer 9 = .ok (.aload_n 0, 1) := by decide +kernel
theorem dX8_answer_10 : decode cX8_answer 10 = .ok (.getfield 28, 3) := by decide +kernel
theorem dX8_answer_13 : decode cX8_answer 13 = .ok (.getfield 72, 3) := by decide +kernel
theorem dX8_answer_16 : decode cX8_answer 16 = .ok (.invokestatic 53, 3) := by decide +kernel
theorem dX8_answer_19 : decode cX8_answer 19 = .ok (.ifCond .eq 13, 3) := by decide +kernel
theorem dX8_answer_22 : decode cX8_answer 22 = .ok (.iload_n 3, 1) := by decide +kernel
theorem dX8_answer_23 : decode cX8_answer 23 = .ok (.sipush 300, 3) := by decide +kernel
theorem dX8_answer_26 : decode cX8_answer 26 = .ok (.invokestatic 53, 3) := by decide +kernel
theorem dX8_answer_29 : decode cX8_answer 29 = .ok (.ifCond .ne 5, 3) := by decide +kernel
theorem dX8_answer_32 : decode cX8_answer 32 = .ok (.iconst (-1), 1) := by decide +kernel
theorem dX8_answer_33 : decode cX8_answer 33 = .ok (.ireturn, 1) := by decide +kernel
theorem dX8_answer_34 : decode cX8_answer 34 = .ok (.aload_n 0, 1) := by decide +kernel
theorem dX8_answer_35 : decode cX8_answer 35 = .ok (.invokevirtual 118, 3) := by decide +kernel
theorem dX8_answer_38 : decode cX8_answer 38 = .ok (.aload_n 0, 1) := by decide +kernel
theorem dX8_answer_39 : decode cX8_answer 39 = .ok (.getfield 37, 3) := by decide +kernel
theorem dX8_answer_42 : decode cX8_answer 42 = .ok (.iload_n 1, 1) := by decide +kernel
theorem dX8_answer_43 : decode cX8_answer 43 = .ok (.iload_n 2, 1) := by decide +kernel
theorem dX8_answer_44 : decode cX8_answer 44 = .ok (.iload_n 3, 1) := by decide +kernel
theorem dX8_answer_45 : decode cX8_answer 45 = .ok (.invokevirtual 121, 3) := by decide +kernel
theorem dX8_answer_48 : decode cX8_answer 48 = .ok (.ireturn, 1) := by decide +kernel
theorem dX8_state_0 : decode cX8_state 0 = .ok (.iload_n 1, 1) := by decide +kernel
theorem dX8_state_1 : decode cX8_state 1 = .ok (.aload_n 0, 1) := by decide +kernel
theorem dX8_state_2 : decode cX8_state 2 = .ok (.getfield 28, 3) := by decide +kernel
theorem dX8_state_5 : decode cX8_state 5 = .ok (.getfield 72, 3) := by decide +kernel
theorem dX8_state_8 : decode cX8_state 8 = .ok (.invokestatic 53, 3) := by decide +kernel
theorem dX8_state_11 : decode cX8_state 11 = .ok (.ifCond .eq 22, 3) := by decide +kernel
theorem dX8_state_14 : decode cX8_state 14 = .ok (.iload_n 2, 1) := by decide +kernel
theorem dX8_state_15 : decode cX8_state 15 = .ok (.sipush 300, 3) := by decide +kernel
theorem dX8_state_18 : decode cX8_state 18 = .ok (.invokestatic 53, 3) := by decide +kernel
theorem dX8_state_21 : decode cX8_state 21 = .ok (.ifCond .eq 12, 3) := by decide +kernel
theorem dX8_state_24 : decode cX8_state 24 = .ok (.iload_n 3, 1) := by decide +kernel
theorem dX8_state_25 : decode cX8_state 25 = .ok (.bipush 10, 2) := by decide +kernel
theorem dX8_state_27 : decode cX8_state 27 = .ok (.invokestatic 53, 3) := by decide +kernel
theorem dX8_state_30 : decode cX8_state 30 = .ok (.ifCond .ne 6, 3) := by decide +kernel
theorem dX8_state_33 : decode cX8_state 33 = .ok (.ldc 124, 2) := by decide +kernel
theorem dX8_state_35 : decode cX8_state 35 = .ok (.ireturn, 1) := by decide +kernel
theorem dX8_state_36 : decode cX8_state 36 = .ok (.aload_n 0, 1) := by decide +kernel
theorem dX8_state_37 : decode cX8_state 37 = .ok (.invokevirtual 118, 3) := by decide +kernel
theorem dX8_state_40 : decode cX8_state 40 = .ok (.aload_n 0, 1) := by decide +kernel
theorem dX8_state_41 : decode cX8_state 41 = .ok (.getfield 37, 3) := by decide +kernel
theorem dX8_state_44 : decode cX8_state 44 = .ok (.iload_n 1, 1) := by decide +kernel
theorem dX8_state_45 : decode cX8_state 45 = .ok (.iload_n 2, 1) := by decide +kernel
theorem dX8_state_46 : decode cX8_state 46 = .ok (.iload_n 3, 1) := by decide +kernel
theorem dX8_state_47 : decode cX8_state 47 = .ok (.invokevirtual 125, 3) := by decide +kernel
theorem dX8_state_50 : decode cX8_state 50 = .ok (.ireturn, 1) := by decide +kernel
theorem dX8_sends_0 : decode cX8_sends 0 = .ok (.iload_n 1, 1) := by decide +kernel
theorem dX8_sends_1 : decode cX8_sends 1 = .ok (.sipush 300, 3) := by decide +kernel
theorem dX8_sends_4 : decode cX8_sends 4 = .ok (.invokestatic 53, 3) := by decide +kernel
theorem dX8_sends_7 : decode cX8_sends 7 = .ok (.ifCond .ne 5, 3) := by decide +kernel
theorem dX8_sends_10 : decode cX8_sends 10 = .ok (.iconst (-1), 1) := by decide +kernel
theorem dX8_sends_11 : decode cX8_sends 11 = .ok (.ireturn, 1) := by decide +kernel
theorem dX8_sends_12 : decode cX8_sends 12 = .ok (.aload_n 0, 1) := by decide +kernel
theorem dX8_sends_13 : decode cX8_sends 13 = .ok (.invokevirtual 118, 3) := by decide +kernel
theorem dX8_sends_16 : decode cX8_sends 16 = .ok (.aload_n 0, 1) := by decide +kernel
theorem dX8_sends_17 : decode cX8_sends 17 = .ok (.getfield 37, 3) := by decide +kernel
theorem dX8_sends_20 : decode cX8_sends 20 = .ok (.getfield 128, 3) := by decide +kernel
theorem dX8_sends_23 : decode cX8_sends 23 = .ok (.iload_n 1, 1) := by decide +kernel
theorem dX8_sends_24 : decode cX8_sends 24 = .ok (.iaload, 1) := by decide +kernel
theorem dX8_sends_25 : decode cX8_sends 25 = .ok (.ireturn, 1) := by decide +kernel
theorem dX8_sent_0 : decode cX8_sent 0 = .ok (.aload_n 0, 1) := by decide +kernel
theorem dX8_sent_1 : decode cX8_sent 1 = .ok (.getfield 28, 3) := by decide +kernel
theorem dX8_sent_4 : decode cX8_sent 4 = .ok (.iload_n 1, 1) := by decide +kernel
theorem dX8_sent_5 : decode cX8_sent 5 = .ok (.iload_n 2, 1) := by decide +kernel
theorem dX8_sent_6 : decode cX8_sent 6 = .ok (.invokevirtual 106, 3) := by decide +kernel
theorem dX8_sent_9 : decode cX8_sent 9 = .ok (.ifCond .ne 5, 3) := by decide +kernel
theorem dX8_sent_12 : decode cX8_sent 12 = .ok (.iconst (-1), 1) := by decide +kernel
theorem dX8_sent_13 : decode cX8_sent 13 = .ok (.ireturn, 1) := by decide +kernel
theorem dX8_sent_14 : decode cX8_sent 14 = .ok (.aload_n 0, 1) := by decide +kernel
theorem dX8_sent_15 : decode cX8_sent 15 = .ok (.invokevirtual 118, 3) := by decide +kernel
theorem dX8_sent_18 : decode cX8_sent 18 = .ok (.aload_n 0, 1) := by decide +kernel
theorem dX8_sent_19 : decode cX8_sent 19 = .ok (.getfield 37, 3) := by decide +kernel
theorem dX8_sent_22 : decode cX8_sent 22 = .ok (.getfield 131, 3) := by decide +kernel
theorem dX8_sent_25 : decode cX8_sent 25 = .ok (.iload_n 1, 1) := by decide +kernel
theorem dX8_sent_26 : decode cX8_sent 26 = .ok (.bipush 12, 2) := by decide +kernel
theorem dX8_sent_28 : decode cX8_sent 28 = .ok (.imul, 1) := by decide +kernel
theorem dX8_sent_29 : decode cX8_sent 29 = .ok (.iload_n 2, 1) := by decide +kernel
theorem dX8_sent_30 : decode cX8_sent 30 = .ok (.iadd, 1) := by decide +kernel
theorem dX8_sent_31 : decode cX8_sent 31 = .ok (.iaload, 1) := by decide +kernel
theorem dX8_sent_32 : decode cX8_sent 32 = .ok (.ireturn, 1) := by decide +kernel
theorem dX8_ends_0 : decode cX8_ends 0 = .ok (.aload_n 0, 1) := by decide +kernel
theorem dX8_ends_1 : decode cX8_ends 1 = .ok (.invokevirtual 118, 3) := by decide +kernel
theorem dX8_ends_4 : decode cX8_ends 4 = .ok (.aload_n 0, 1) := by decide +kernel
theorem dX8_ends_5 : decode cX8_ends 5 = .ok (.getfield 37, 3) := by decide +kernel
theorem dX8_ends_8 : decode cX8_ends 8 = .ok (.invokevirtual 134, 3) := by decide +kernel
theorem dX8_ends_11 : decode cX8_ends 11 = .ok (.invokestatic 137, 3) := by decide +kernel
theorem dX8_ends_14 : decode cX8_ends 14 = .ok (.ireturn, 1) := by decide +kernel
theorem dX8_up_0 : decode cX8_up 0 = .ok (.aload_n 0, 1) := by decide +kernel
theorem dX8_up_1 : decode cX8_up 1 = .ok (.invokevirtual 118, 3) := by decide +kernel
theorem dX8_up_4 : decode cX8_up 4 = .ok (.aload_n 0, 1) := by decide +kernel
theorem dX8_up_5 : decode cX8_up 5 = .ok (.getfield 37, 3) := by decide +kernel
theorem dX8_up_8 : decode cX8_up 8 = .ok (.invokevirtual 141, 3) := by decide +kernel
theorem dX8_up_11 : decode cX8_up 11 = .ok (.ireturn, 1) := by decide +kernel
theorem dX8_log_0 : decode cX8_log 0 = .ok (.iload_n 1, 1) := by decide +kernel
theorem dX8_log_1 : decode cX8_log 1 = .ok (.aload_n 0, 1) := by decide +kernel
theorem dX8_log_2 : decode cX8_log 2 = .ok (.getfield 28, 3) := by decide +kernel
theorem dX8_log_5 : decode cX8_log 5 = .ok (.getfield 72, 3) := by decide +kernel
theorem dX8_log_8 : decode cX8_log 8 = .ok (.invokestatic 53, 3) := by decide +kernel
theorem dX8_log_11 : decode cX8_log 11 = .ok (.ifCond .eq 7, 3) := by decide +kernel
theorem dX8_log_14 : decode cX8_log 14 = .ok (.iload_n 2, 1) := by decide +kernel
theorem dX8_log_15 : decode cX8_log 15 = .ok (.ifCond .ge 5, 3) := by decide +kernel
theorem dX8_log_18 : decode cX8_log 18 = .ok (.iconst (-1), 1) := by decide +kernel
theorem dX8_log_19 : decode cX8_log 19 = .ok (.ireturn, 1) := by decide +kernel
theorem dX8_log_20 : decode cX8_log 20 = .ok (.aload_n 0, 1) := by decide +kernel
theorem dX8_log_21 : decode cX8_log 21 = .ok (.invokevirtual 118, 3) := by decide +kernel
theorem dX8_log_24 : decode cX8_log 24 = .ok (.aload_n 0, 1) := by decide +kernel
theorem dX8_log_25 : decode cX8_log 25 = .ok (.getfield 37, 3) := by decide +kernel
theorem dX8_log_28 : decode cX8_log 28 = .ok (.iload_n 1, 1) := by decide +kernel
theorem dX8_log_29 : decode cX8_log 29 = .ok (.iload_n 2, 1) := by decide +kernel
theorem dX8_log_30 : decode cX8_log 30 = .ok (.invokevirtual 144, 3) := by decide +kernel
theorem dX8_log_33 : decode cX8_log 33 = .ok (.ireturn, 1) := by decide +kernel
theorem dX8_plan_0 : decode cX8_plan 0 = .ok (.iload_n 1, 1) := by decide +kernel
theorem dX8_plan_1 : decode cX8_plan 1 = .ok (.iconst 1, 1) := by decide +kernel
theorem dX8_plan_2 : decode cX8_plan 2 = .ok (.if_icmp .lt 9, 3) := by decide +kernel
theorem dX8_plan_5 : decode cX8_plan 5 = .ok (.iload_n 1, 1) := by decide +kernel
theorem dX8_plan_6 : decode cX8_plan 6 = .ok (.bipush 20, 2) := by decide +kernel
theorem dX8_plan_8 : decode cX8_plan 8 = .ok (.if_icmp .le 6, 3) := by decide +kernel
theorem dX8_plan_11 : decode cX8_plan 11 = .ok (.bipush (-2), 2) := by decide +kernel
theorem dX8_plan_13 : decode cX8_plan 13 = .ok (.ireturn, 1) := by decide +kernel
theorem dX8_plan_14 : decode cX8_plan 14 = .ok (.sipush 256, 3) := by decide +kernel
theorem dX8_plan_17 : decode cX8_plan 17 = .ok (.istore_n 2, 1) := by decide +kernel
theorem dX8_plan_18 : decode cX8_plan 18 = .ok (.iconst 0, 1) := by decide +kernel
theorem dX8_plan_19 : decode cX8_plan 19 = .ok (.istore_n 3, 1) := by decide +kernel
theorem dX8_plan_20 : decode cX8_plan 20 = .ok (.ldc 147, 2) := by decide +kernel
theorem dX8_plan_22 : decode cX8_plan 22 = .ok (.istore 4, 2) := by decide +kernel
theorem dX8_plan_24 : decode cX8_plan 24 = .ok (.sipush 300, 3) := by decide +kernel
theorem dX8_plan_27 : decode cX8_plan 27 = .ok (.istore 5, 2) := by decide +kernel
theorem dX8_plan_29 : decode cX8_plan 29 = .ok (.iconst 0, 1) := by decide +kernel
theorem dX8_plan_30 : decode cX8_plan 30 = .ok (.istore 6, 2) := by decide +kernel
theorem dX8_plan_32 : decode cX8_plan 32 = .ok (.iload 6, 2) := by decide +kernel
theorem dX8_plan_34 : decode cX8_plan 34 = .ok (.iload_n 2, 1) := by decide +kernel
theorem dX8_plan_35 : decode cX8_plan 35 = .ok (.if_icmp .ge 62, 3) := by decide +kernel
theorem dX8_plan_38 : decode cX8_plan 38 = .ok (.aload_n 0, 1) := by decide +kernel
theorem dX8_plan_39 : decode cX8_plan 39 = .ok (.getfield 28, 3) := by decide +kernel
theorem dX8_plan_42 : decode cX8_plan 42 = .ok (.iload 6, 2) := by decide +kernel
theorem dX8_plan_44 : decode cX8_plan 44 = .ok (.iload_n 1, 1) := by decide +kernel
theorem dX8_plan_45 : decode cX8_plan 45 = .ok (.invokevirtual 148, 3) := by decide +kernel
theorem dX8_plan_48 : decode cX8_plan 48 = .ok (.ifCond .eq 43, 3) := by decide +kernel
theorem dX8_plan_51 : decode cX8_plan 51 = .ok (.aload_n 0, 1) := by decide +kernel
theorem dX8_plan_52 : decode cX8_plan 52 = .ok (.getfield 37, 3) := by decide +kernel
theorem dX8_plan_55 : decode cX8_plan 55 = .ok (.iconst 0, 1) := by decide +kernel
theorem dX8_plan_56 : decode cX8_plan 56 = .ok (.invokevirtual 151, 3) := by decide +kernel
theorem dX8_plan_59 : decode cX8_plan 59 = .ok (.aload_n 0, 1) := by decide +kernel
theorem dX8_plan_60 : decode cX8_plan 60 = .ok (.getfield 37, 3) := by decide +kernel
theorem dX8_plan_63 : decode cX8_plan 63 = .ok (.invokevirtual 155, 3) := by decide +kernel
theorem dX8_plan_66 : decode cX8_plan 66 = .ok (.istore 7, 2) := by decide +kernel
theorem dX8_plan_68 : decode cX8_plan 68 = .ok (.iload 7, 2) := by decide +kernel
theorem dX8_plan_70 : decode cX8_plan 70 = .ok (.iload 4, 2) := by decide +kernel
theorem dX8_plan_72 : decode cX8_plan 72 = .ok (.if_icmp .ge 19, 3) := by decide +kernel
theorem dX8_plan_75 : decode cX8_plan 75 = .ok (.iload 6, 2) := by decide +kernel
theorem dX8_plan_77 : decode cX8_plan 77 = .ok (.istore_n 3, 1) := by decide +kernel
theorem dX8_plan_78 : decode cX8_plan 78 = .ok (.iload 7, 2) := by decide +kernel
theorem dX8_plan_80 : decode cX8_plan 80 = .ok (.istore 4, 2) := by decide +kernel
theorem dX8_plan_82 : decode cX8_plan 82 = .ok (.aload_n 0, 1) := by decide +kernel
theorem dX8_plan_83 : decode cX8_plan 83 = .ok (.getfield 37, 3) := by decide +kernel
theorem dX8_plan_86 : decode cX8_plan 86 = .ok (.invokevirtual 134, 3) := by decide +kernel
theorem dX8_plan_89 : decode cX8_plan 89 = .ok (.istore 5, 2) := by decide +kernel
theorem dX8_plan_91 : decode cX8_plan 91 = .ok (.iinc 6 1, 3) := by decide +kernel
theorem dX8_plan_94 : decode cX8_plan 94 = .ok (.goto (-62), 3) := by decide +kernel
theorem dX8_plan_97 : decode cX8_plan 97 = .ok (.aload_n 0, 1) := by decide +kernel
theorem dX8_plan_98 : decode cX8_plan 98 = .ok (.getfield 28, 3) := by decide +kernel
theorem dX8_plan_101 : decode cX8_plan 101 = .ok (.iload_n 3, 1) := by decide +kernel
theorem dX8_plan_102 : decode cX8_plan 102 = .ok (.iload_n 1, 1) := by decide +kernel
theorem dX8_plan_103 : decode cX8_plan 103 = .ok (.invokevirtual 148, 3) := by decide +kernel
theorem dX8_plan_106 : decode cX8_plan 106 = .ok (.pop, 1) := by decide +kernel
theorem dX8_plan_107 : decode cX8_plan 107 = .ok (.aload_n 0, 1) := by decide +kernel
theorem dX8_plan_108 : decode cX8_plan 108 = .ok (.iconst 1, 1) := by decide +kernel
theorem dX8_plan_109 : decode cX8_plan 109 = .ok (.putfield 41, 3) := by decide +kernel
theorem dX8_plan_112 : decode cX8_plan 112 = .ok (.iload 5, 2) := by decide +kernel
theorem dX8_plan_114 : decode cX8_plan 114 = .ok (.invokestatic 137, 3) := by decide +kernel
theorem dX8_plan_117 : decode cX8_plan 117 = .ok (.ireturn, 1) := by decide +kernel
theorem dX8_wakes_0 : decode cX8_wakes 0 = .ok (.iload_n 1, 1) := by decide +kernel
theorem dX8_wakes_1 : decode cX8_wakes 1 = .ok (.iconst 4, 1) := by decide +kernel
theorem dX8_wakes_2 : decode cX8_wakes 2 = .ok (.invokestatic 53, 3) := by decide +kernel
theorem dX8_wakes_5 : decode cX8_wakes 5 = .ok (.ifCond .eq 15, 3) := by decide +kernel
theorem dX8_wakes_8 : decode cX8_wakes 8 = .ok (.aload_n 0, 1) := by decide +kernel
theorem dX8_wakes_9 : decode cX8_wakes 9 = .ok (.getfield 28, 3) := by decide +kernel
theorem dX8_wakes_12 : decode cX8_wakes 12 = .ok (.getfield 89, 3) := by decide +kernel
theorem dX8_wakes_15 : decode cX8_wakes 15 = .ok (.iload_n 1, 1) := by decide +kernel
theorem dX8_wakes_16 : decode cX8_wakes 16 = .ok (.iaload, 1) := by decide +kernel
theorem dX8_wakes_17 : decode cX8_wakes 17 = .ok (.goto 4, 3) := by decide +kernel
theorem dX8_wakes_20 : decode cX8_wakes 20 = .ok (.iconst (-1), 1) := by decide +kernel
theorem dX8_wakes_21 : decode cX8_wakes 21 = .ok (.ireturn, 1) := by decide +kernel
theorem dX8_count_0 : decode cX8_count 0 = .ok (.iload_n 1, 1) := by decide +kernel
theorem dX8_count_1 : decode cX8_count 1 = .ok (.tableswitch 128 0 7 #[47, 55, 63, 76, 89, 100, 108, 120], 47) := by decide +kernel
theorem dX8_count_48 : decode cX8_count 48 = .ok (.aload_n 0, 1) := by decide +kernel
theorem dX8_count_49 : decode cX8_count 49 = .ok (.getfield 28, 3) := by decide +kernel
theorem dX8_count_52 : decode cX8_count 52 = .ok (.getfield 72, 3) := by decide +kernel
theorem dX8_count_55 : decode cX8_count 55 = .ok (.ireturn, 1) := by decide +kernel
theorem dX8_count_56 : decode cX8_count 56 = .ok (.aload_n 0, 1) := by decide +kernel
theorem dX8_count_57 : decode cX8_count 57 = .ok (.getfield 28, 3) := by decide +kernel
theorem dX8_count_60 : decode cX8_count 60 = .ok (.getfield 79, 3) := by decide +kernel
theorem dX8_count_63 : decode cX8_count 63 = .ok (.ireturn, 1) := by decide +kernel
theorem dX8_count_64 : decode cX8_count 64 = .ok (.aload_n 0, 1) := by decide +kernel
theorem dX8_count_65 : decode cX8_count 65 = .ok (.getfield 28, 3) := by decide +kernel
theorem dX8_count_68 : decode cX8_count 68 = .ok (.getfield 61, 3) := by decide +kernel
theorem dX8_count_71 : decode cX8_count 71 = .ok (.iconst 0, 1) := by decide +kernel
theorem dX8_count_72 : decode cX8_count 72 = .ok (.aaload, 1) := by decide +kernel
theorem dX8_count_73 : decode cX8_count 73 = .ok (.getfield 158, 3) := by decide +kernel
theorem dX8_count_76 : decode cX8_count 76 = .ok (.ireturn, 1) := by decide +kernel
theorem dX8_count_77 : decode cX8_count 77 = .ok (.aload_n 0, 1) := by decide +kernel
theorem dX8_count_78 : decode cX8_count 78 = .ok (.getfield 28, 3) := by decide +kernel
theorem dX8_count_81 : decode cX8_count 81 = .ok (.getfield 61, 3) := by decide +kernel
theorem dX8_count_84 : decode cX8_count 84 = .ok (.iconst 1, 1) := by decide +kernel
theorem dX8_count_85 : decode cX8_count 85 = .ok (.aaload, 1) := by decide +kernel
theorem dX8_count_86 : decode cX8_count 86 = .ok (.getfield 158, 3) := by decide +kernel
theorem dX8_count_89 : decode cX8_count 89 = .ok (.ireturn, 1) := by decide +kernel
theorem dX8_count_90 : decode cX8_count 90 = .ok (.aload_n 0, 1) := by decide +kernel
theorem dX8_count_91 : decode cX8_count 91 = .ok (.getfield 28, 3) := by decide +kernel
theorem dX8_count_94 : decode cX8_count 94 = .ok (.getfield 93, 3) := by decide +kernel
theorem dX8_count_97 : decode cX8_count 97 = .ok (.getfield 163, 3) := by decide +kernel
theorem dX8_count_100 : decode cX8_count 100 = .ok (.ireturn, 1) := by decide +kernel
theorem dX8_count_101 : decode cX8_count 101 = .ok (.aload_n 0, 1) := by decide +kernel
theorem dX8_count_102 : decode cX8_count 102 = .ok (.getfield 28, 3) := by decide +kernel
theorem dX8_count_105 : decode cX8_count 105 = .ok (.getfield 86, 3) := by decide +kernel
theorem dX8_count_108 : decode cX8_count 108 = .ok (.ireturn, 1) := by decide +kernel
theorem dX8_count_109 : decode cX8_count 109 = .ok (.aload_n 0, 1) := by decide +kernel
theorem dX8_count_110 : decode cX8_count 110 = .ok (.invokevirtual 118, 3) := by decide +kernel
theorem dX8_count_113 : decode cX8_count 113 = .ok (.aload_n 0, 1) := by decide +kernel
theorem dX8_count_114 : decode cX8_count 114 = .ok (.getfield 37, 3) := by decide +kernel
theorem dX8_count_117 : decode cX8_count 117 = .ok (.getfield 166, 3) := by decide +kernel
theorem dX8_count_120 : decode cX8_count 120 = .ok (.ireturn, 1) := by decide +kernel
theorem dX8_count_121 : decode cX8_count 121 = .ok (.aload_n 0, 1) := by decide +kernel
theorem dX8_count_122 : decode cX8_count 122 = .ok (.getfield 13, 3) := by decide +kernel
theorem dX8_count_125 : decode cX8_count 125 = .ok (.getfield 45, 3) := by decide +kernel
theorem dX8_count_128 : decode cX8_count 128 = .ok (.ireturn, 1) := by decide +kernel
theorem dX8_count_129 : decode cX8_count 129 = .ok (.iconst (-1), 1) := by decide +kernel
theorem dX8_count_130 : decode cX8_count 130 = .ok (.ireturn, 1) := by decide +kernel
theorem dX8_freshen_0 : decode cX8_freshen 0 = .ok (.aload_n 0, 1) := by decide +kernel
theorem dX8_freshen_1 : decode cX8_freshen 1 = .ok (.getfield 41, 3) := by decide +kernel
theorem dX8_freshen_4 : decode cX8_freshen 4 = .ok (.ifCond .eq 16, 3) := by decide +kernel
theorem dX8_freshen_7 : decode cX8_freshen 7 = .ok (.aload_n 0, 1) := by decide +kernel
theorem dX8_freshen_8 : decode cX8_freshen 8 = .ok (.getfield 37, 3) := by decide +kernel
theorem dX8_freshen_11 : decode cX8_freshen 11 = .ok (.iconst 1, 1) := by decide +kernel
theorem dX8_freshen_12 : decode cX8_freshen 12 = .ok (.invokevirtual 151, 3) := by decide +kernel
theorem dX8_freshen_15 : decode cX8_freshen 15 = .ok (.aload_n 0, 1) := by decide +kernel
theorem dX8_freshen_16 : decode cX8_freshen 16 = .ok (.iconst 0, 1) := by decide +kernel
theorem dX8_freshen_17 : decode cX8_freshen 17 = .ok (.putfield 41, 3) := by decide +kernel
theorem dX8_freshen_20 : decode cX8_freshen 20 = .ok (.return_, 1) := by decide +kernel
theorem dX8_endOrNone_0 : decode cX8_endOrNone 0 = .ok (.iload_n 0, 1) := by decide +kernel
theorem dX8_endOrNone_1 : decode cX8_endOrNone 1 = .ok (.sipush 300, 3) := by decide +kernel
theorem dX8_endOrNone_4 : decode cX8_endOrNone 4 = .ok (.if_icmp .ge 7, 3) := by decide +kernel
theorem dX8_endOrNone_7 : decode cX8_endOrNone 7 = .ok (.iload_n 0, 1) := by decide +kernel
theorem dX8_endOrNone_8 : decode cX8_endOrNone 8 = .ok (.goto 4, 3) := by decide +kernel
theorem dX8_endOrNone_11 : decode cX8_endOrNone 11 = .ok (.iconst (-1), 1) := by decide +kernel
theorem dX8_endOrNone_12 : decode cX8_endOrNone 12 = .ok (.ireturn, 1) := by decide +kernel
theorem dX8_isBelow_0 : decode cX8_isBelow 0 = .ok (.iload_n 0, 1) := by decide +kernel
theorem dX8_isBelow_1 : decode cX8_isBelow 1 = .ok (.ifCond .lt 12, 3) := by decide +kernel
theorem dX8_isBelow_4 : decode cX8_isBelow 4 = .ok (.iload_n 0, 1) := by decide +kernel
theorem dX8_isBelow_5 : decode cX8_isBelow 5 = .ok (.iload_n 1, 1) := by decide +kernel
theorem dX8_isBelow_6 : decode cX8_isBelow 6 = .ok (.if_icmp .ge 7, 3) := by decide +kernel
theorem dX8_isBelow_9 : decode cX8_isBelow 9 = .ok (.iconst 1, 1) := by decide +kernel
theorem dX8_isBelow_10 : decode cX8_isBelow 10 = .ok (.goto 4, 3) := by decide +kernel
theorem dX8_isBelow_13 : decode cX8_isBelow 13 = .ok (.iconst 0, 1) := by decide +kernel
theorem dX8_isBelow_14 : decode cX8_isBelow 14 = .ok (.ireturn, 1) := by decide +kernel
theorem dJ6_bitCount_0f7a4_0 : decode cJ6_bitCount_0f7a4 0 = .ok (.iload_n 0, 1) := by decide +kernel
theorem dJ6_bitCount_0f7a4_1 : decode cJ6_bitCount_0f7a4 1 = .ok (.iload_n 0, 1) := by decide +kernel
theorem dJ6_bitCount_0f7a4_2 : decode cJ6_bitCount_0f7a4 2 = .ok (.iconst 1, 1) := by decide +kernel
theorem dJ6_bitCount_0f7a4_3 : decode cJ6_bitCount_0f7a4 3 = .ok (.iushr, 1) := by decide +kernel
theorem dJ6_bitCount_0f7a4_4 : decode cJ6_bitCount_0f7a4 4 = .ok (.ldc_w 265, 3) := by decide +kernel
theorem dJ6_bitCount_0f7a4_7 : decode cJ6_bitCount_0f7a4 7 = .ok (.iand, 1) := by decide +kernel
theorem dJ6_bitCount_0f7a4_8 : decode cJ6_bitCount_0f7a4 8 = .ok (.isub, 1) := by decide +kernel
theorem dJ6_bitCount_0f7a4_9 : decode cJ6_bitCount_0f7a4 9 = .ok (.istore_n 0, 1) := by decide +kernel
theorem dJ6_bitCount_0f7a4_10 : decode cJ6_bitCount_0f7a4 10 = .ok (.iload_n 0, 1) := by decide +kernel
theorem dJ6_bitCount_0f7a4_11 : decode cJ6_bitCount_0f7a4 11 = .ok (.ldc_w 266, 3) := by decide +kernel
theorem dJ6_bitCount_0f7a4_14 : decode cJ6_bitCount_0f7a4 14 = .ok (.iand, 1) := by decide +kernel
theorem dJ6_bitCount_0f7a4_15 : decode cJ6_bitCount_0f7a4 15 = .ok (.iload_n 0, 1) := by decide +kernel
theorem dJ6_bitCount_0f7a4_16 : decode cJ6_bitCount_0f7a4 16 = .ok (.iconst 2, 1) := by decide +kernel
theorem dJ6_bitCount_0f7a4_17 : decode cJ6_bitCount_0f7a4 17 = .ok (.iushr, 1) := by decide +kernel
theorem dJ6_bitCount_0f7a4_18 : decode cJ6_bitCount_0f7a4 18 = .ok (.ldc_w 266, 3) := by decide +kernel
theorem dJ6_bitCount_0f7a4_21 : decode cJ6_bitCount_0f7a4 21 = .ok (.iand, 1) := by decide +kernel
theorem dJ6_bitCount_0f7a4_22 : decode cJ6_bitCount_0f7a4 22 = .ok (.iadd, 1) := by decide +kernel
theorem dJ6_bitCount_0f7a4_23 : decode cJ6_bitCount_0f7a4 23 = .ok (.istore_n 0, 1) := by decide +kernel
theorem dJ6_bitCount_0f7a4_24 : decode cJ6_bitCount_0f7a4 24 = .ok (.iload_n 0, 1) := by decide +kernel
theorem dJ6_bitCount_0f7a4_25 : decode cJ6_bitCount_0f7a4 25 = .ok (.iload_n 0, 1) := by decide +kernel
theorem dJ6_bitCount_0f7a4_26 : decode cJ6_bitCount_0f7a4 26 = .ok (.iconst 4, 1) := by decide +kernel
theorem dJ6_bitCount_0f7a4_27 : decode cJ6_bitCount_0f7a4 27 = .ok (.iushr, 1) := by decide +kernel
theorem dJ6_bitCount_0f7a4_28 : decode cJ6_bitCount_0f7a4 28 = .ok (.iadd, 1) := by decide +kernel
theorem dJ6_bitCount_0f7a4_29 : decode cJ6_bitCount_0f7a4 29 = .ok (.ldc_w 267, 3) := by decide +kernel
theorem dJ6_bitCount_0f7a4_32 : decode cJ6_bitCount_0f7a4 32 = .ok (.iand, 1) := by decide +kernel
theorem dJ6_bitCount_0f7a4_33 : decode cJ6_bitCount_0f7a4 33 = .ok (.istore_n 0, 1) := by decide +kernel
theorem dJ6_bitCount_0f7a4_34 : decode cJ6_bitCount_0f7a4 34 = .ok (.iload_n 0, 1) := by decide +kernel
theorem dJ6_bitCount_0f7a4_35 : decode cJ6_bitCount_0f7a4 35 = .ok (.iload_n 0, 1) := by decide +kernel
theorem dJ6_bitCount_0f7a4_36 : decode cJ6_bitCount_0f7a4 36 = .ok (.bipush 8, 2) := by decide +kernel
theorem dJ6_bitCount_0f7a4_38 : decode cJ6_bitCount_0f7a4 38 = .ok (.iushr, 1) := by decide +kernel
theorem dJ6_bitCount_0f7a4_39 : decode cJ6_bitCount_0f7a4 39 = .ok (.iadd, 1) := by decide +kernel
theorem dJ6_bitCount_0f7a4_40 : decode cJ6_bitCount_0f7a4 40 = .ok (.istore_n 0, 1) := by decide +kernel
theorem dJ6_bitCount_0f7a4_41 : decode cJ6_bitCount_0f7a4 41 = .ok (.iload_n 0, 1) := by decide +kernel
theorem dJ6_bitCount_0f7a4_42 : decode cJ6_bitCount_0f7a4 42 = .ok (.iload_n 0, 1) := by decide +kernel
theorem dJ6_bitCount_0f7a4_43 : decode cJ6_bitCount_0f7a4 43 = .ok (.bipush 16, 2) := by decide +kernel
theorem dJ6_bitCount_0f7a4_45 : decode cJ6_bitCount_0f7a4 45 = .ok (.iushr, 1) := by decide +kernel
theorem dJ6_bitCount_0f7a4_46 : decode cJ6_bitCount_0f7a4 46 = .ok (.iadd, 1) := by decide +kernel
theorem dJ6_bitCount_0f7a4_47 : decode cJ6_bitCount_0f7a4 47 = .ok (.istore_n 0, 1) := by decide +kernel
theorem dJ6_bitCount_0f7a4_48 : decode cJ6_bitCount_0f7a4 48 = .ok (.iload_n 0, 1) := by decide +kernel
theorem dJ6_bitCount_0f7a4_49 : decode cJ6_bitCount_0f7a4 49 = .ok (.bipush 63, 2) := by decide +kernel
theorem dJ6_bitCount_0f7a4_51 : decode cJ6_bitCount_0f7a4 51 = .ok (.iand, 1) := by decide +kernel
theorem dJ6_bitCount_0f7a4_52 : decode cJ6_bitCount_0f7a4 52 = .ok (.ireturn, 1) := by decide +kernel
theorem dJ9_max_7cf53_0 : decode cJ9_max_7cf53 0 = .ok (.iload_n 0, 1) := by decide +kernel
theorem dJ9_max_7cf53_1 : decode cJ9_max_7cf53 1 = .ok (.iload_n 1, 1) := by decide +kernel
theorem dJ9_max_7cf53_2 : decode cJ9_max_7cf53 2 = .ok (.if_icmp .lt 7, 3) := by decide +kernel
theorem dJ9_max_7cf53_5 : decode cJ9_max_7cf53 5 = .ok (.iload_n 0, 1) := by decide +kernel
theorem dJ9_max_7cf53_6 : decode cJ9_max_7cf53 6 = .ok (.goto 4, 3) := by decide +kernel
theorem dJ9_max_7cf53_9 : decode cJ9_max_7cf53 9 = .ok (.iload_n 1, 1) := by decide +kernel
theorem dJ9_max_7cf53_10 : decode cJ9_max_7cf53 10 = .ok (.ireturn, 1) := by decide +kernel
theorem dJ7_fill_53178_0 : decode cJ7_fill_53178 0 = .ok (.iconst 0, 1) := by decide +kernel
theorem dJ7_fill_53178_1 : decode cJ7_fill_53178 1 = .ok (.istore_n 2, 1) := by decide +kernel
theorem dJ7_fill_53178_2 : decode cJ7_fill_53178 2 = .ok (.aload_n 0, 1) := by decide +kernel
theorem dJ7_fill_53178_3 : decode cJ7_fill_53178 3 = .ok (.arraylength, 1) := by decide +kernel
theorem dJ7_fill_53178_4 : decode cJ7_fill_53178 4 = .ok (.istore_n 3, 1) := by decide +kernel
theorem dJ7_fill_53178_5 : decode cJ7_fill_53178 5 = .ok (.iload_n 2, 1) := by decide +kernel
theorem dJ7_fill_53178_6 : decode cJ7_fill_53178 6 = .ok (.iload_n 3, 1) := by decide +kernel
theorem dJ7_fill_53178_7 : decode cJ7_fill_53178 7 = .ok (.if_icmp .ge 13, 3) := by decide +kernel
theorem dJ7_fill_53178_10 : decode cJ7_fill_53178 10 = .ok (.aload_n 0, 1) := by decide +kernel
theorem dJ7_fill_53178_11 : decode cJ7_fill_53178 11 = .ok (.iload_n 2, 1) := by decide +kernel
theorem dJ7_fill_53178_12 : decode cJ7_fill_53178 12 = .ok (.iload_n 1, 1) := by decide +kernel
theorem dJ7_fill_53178_13 : decode cJ7_fill_53178 13 = .ok (.iastore, 1) := by decide +kernel
theorem dJ7_fill_53178_14 : decode cJ7_fill_53178 14 = .ok (.iinc 2 1, 3) := by decide +kernel
theorem dJ7_fill_53178_17 : decode cJ7_fill_53178 17 = .ok (.goto (-12), 3) := by decide +kernel
theorem dJ7_fill_53178_20 : decode cJ7_fill_53178 20 = .ok (.return_, 1) := by decide +kernel
