theorem dX0_init_0 : decode cX0_init 0 = .ok (.aload_n 0, 1) := by decide +kernel
theorem dX0_init_1 : decode cX0_init 1 = .ok (.invokespecial 3, 3) := by decide +kernel
theorem dX0_init_4 : decode cX0_init 4 = .ok (.aload_n 0, 1) := by decide +kernel
theorem dX0_init_5 : decode cX0_init 5 = .ok (.bipush 58, 2) := by decide +kernel
theorem dX0_init_7 : decode cX0_init 7 = .ok (.newarray .int, 2) := by decide +kernel
theorem dX0_init_9 : decode cX0_init 9 = .ok (.putfield 9, 3) := by decide +kernel
theorem dX0_init_12 : decode cX0_init 12 = .ok (.aload_n 0, 1) := by decide +kernel
theorem dX0_init_13 : decode cX0_init 13 = .ok (.bipush 6, 2) := by decide +kernel
theorem dX0_init_15 : decode cX0_init 15 = .ok (.newarray .int, 2) := by decide +kernel
theorem dX0_init_17 : decode cX0_init 17 = .ok (.putfield 15, 3) := by decide +kernel
theorem dX0_init_20 : decode cX0_init 20 = .ok (.aload_n 0, 1) := by decide +kernel
theorem dX0_init_21 : decode cX0_init 21 = .ok (.iconst 0, 1) := by decide +kernel
theorem dX0_init_22 : decode cX0_init 22 = .ok (.putfield 18, 3) := by decide +kernel
theorem dX0_init_25 : decode cX0_init 25 = .ok (.return_, 1) := by decide +kernel
theorem dX0_copyFrom_0 : decode cX0_copyFrom 0 = .ok (.aload_n 1, 1) := by decide +kernel
theorem dX0_copyFrom_1 : decode cX0_copyFrom 1 = .ok (.getfield 9, 3) := by decide +kernel
theorem dX0_copyFrom_4 : decode cX0_copyFrom 4 = .ok (.iconst 0, 1) := by decide +kernel
theorem dX0_copyFrom_5 : decode cX0_copyFrom 5 = .ok (.aload_n 0, 1) := by decide +kernel
theorem dX0_copyFrom_6 : decode cX0_copyFrom 6 = .ok (.getfield 9, 3) := by decide +kernel
theorem dX0_copyFrom_9 : decode cX0_copyFrom 9 = .ok (.iconst 0, 1) := by decide +kernel
theorem dX0_copyFrom_10 : decode cX0_copyFrom 10 = .ok (.bipush 58, 2) := by decide +kernel
theorem dX0_copyFrom_12 : decode cX0_copyFrom 12 = .ok (.invokestatic 22, 3) := by decide +kernel
theorem dX0_copyFrom_15 : decode cX0_copyFrom 15 = .ok (.aload_n 1, 1) := by decide +kernel
theorem dX0_copyFrom_16 : decode cX0_copyFrom 16 = .ok (.getfield 15, 3) := by decide +kernel
theorem dX0_copyFrom_19 : decode cX0_copyFrom 19 = .ok (.iconst 0, 1) := by decide +kernel
theorem dX0_copyFrom_20 : decode cX0_copyFrom 20 = .ok (.aload_n 0, 1) := by decide +kernel
theorem dX0_copyFrom_21 : decode cX0_copyFrom 21 = .ok (.getfield 15, 3) := by decide +kernel
theorem dX0_copyFrom_24 : decode cX0_copyFrom 24 = .ok (.iconst 0, 1) := by decide +kernel
theorem dX0_copyFrom_25 : decode cX0_copyFrom 25 = .ok (.bipush 6, 2) := by decide +kernel
theorem dX0_copyFrom_27 : decode cX0_copyFrom 27 = .ok (.invokestatic 22, 3) := by decide +kernel
theorem dX0_copyFrom_30 : decode cX0_copyFrom 30 = .ok (.aload_n 0, 1) := by decide +kernel
theorem dX0_copyFrom_31 : decode cX0_copyFrom 31 = .ok (.aload_n 1, 1) := by decide +kernel
theorem dX0_copyFrom_32 : decode cX0_copyFrom 32 = .ok (.getfield 18, 3) := by decide +kernel
theorem dX0_copyFrom_35 : decode cX0_copyFrom 35 = .ok (.putfield 18, 3) := by decide +kernel
theorem dX0_copyFrom_38 : decode cX0_copyFrom 38 = .ok (.return_, 1) := by decide +kernel
theorem dX0_hasPlace_0 : decode cX0_hasPlace 0 = .ok (.iload_n 1, 1) := by decide +kernel
theorem dX0_hasPlace_1 : decode cX0_hasPlace 1 = .ok (.ifCond .lt 15, 3) := by decide +kernel
theorem dX0_hasPlace_4 : decode cX0_hasPlace 4 = .ok (.iload_n 1, 1) := by decide +kernel
theorem dX0_hasPlace_5 : decode cX0_hasPlace 5 = .ok (.aload_n 0, 1) := by decide +kernel
theorem dX0_hasPlace_6 : decode cX0_hasPlace 6 = .ok (.getfield 18, 3) := by decide +kernel
theorem dX0_hasPlace_9 : decode cX0_hasPlace 9 = .ok (.if_icmp .ge 7, 3) := by decide +kernel
theorem dX0_hasPlace_12 : decode cX0_hasPlace 12 = .ok (.iconst 1, 1) := by decide +kernel
theorem dX0_hasPlace_13 : decode cX0_hasPlace 13 = .ok (.goto 4, 3) := by decide +kernel
theorem dX0_hasPlace_16 : decode cX0_hasPlace 16 = .ok (.iconst 0, 1) := by decide +kernel
theorem dX0_hasPlace_17 : decode cX0_hasPlace 17 = .ok (.ireturn, 1) := by decide +kernel
theorem dX0_append_0 : decode cX0_append 0 = .ok (.aload_n 0, 1) := by decide +kernel
theorem dX0_append_1 : decode cX0_append 1 = .ok (.getfield 18, 3) := by decide +kernel
theorem dX0_append_4 : decode cX0_append 4 = .ok (.bipush 6, 2) := by decide +kernel
theorem dX0_append_6 : decode cX0_append 6 = .ok (.if_icmp .ge 23, 3) := by decide +kernel
theorem dX0_append_9 : decode cX0_append 9 = .ok (.aload_n 0, 1) := by decide +kernel
theorem dX0_append_10 : decode cX0_append 10 = .ok (.getfield 15, 3) := by decide +kernel
theorem dX0_append_13 : decode cX0_append 13 = .ok (.aload_n 0, 1) := by decide +kernel
theorem dX0_append_14 : decode cX0_append 14 = .ok (.getfield 18, 3) := by decide +kernel
theorem dX0_append_17 : decode cX0_append 17 = .ok (.iload_n 1, 1) := by decide +kernel
theorem dX0_append_18 : decode cX0_append 18 = .ok (.iastore, 1) := by decide +kernel
theorem dX0_append_19 : decode cX0_append 19 = .ok (.aload_n 0, 1) := by decide +kernel
theorem dX0_append_20 : decode cX0_append 20 = .ok (.dup, 1) := by decide +kernel
theorem dX0_append_21 : decode cX0_append 21 = .ok (.getfield 18, 3) := by decide +kernel
theorem dX0_append_24 : decode cX0_append 24 = .ok (.iconst 1, 1) := by decide +kernel
theorem dX0_append_25 : decode cX0_append 25 = .ok (.iadd, 1) := by decide +kernel
theorem dX0_append_26 : decode cX0_append 26 = .ok (.putfield 18, 3) := by decide +kernel
theorem dX0_append_29 : decode cX0_append 29 = .ok (.return_, 1) := by decide +kernel
theorem dX0_countWeights_0 : decode cX0_countWeights 0 = .ok (.iconst 0, 1) := by decide +kernel
theorem dX0_countWeights_1 : decode cX0_countWeights 1 = .ok (.istore_n 1, 1) := by decide +kernel
theorem dX0_countWeights_2 : decode cX0_countWeights 2 = .ok (.iconst 0, 1) := by decide +kernel
theorem dX0_countWeights_3 : decode cX0_countWeights 3 = .ok (.istore_n 2, 1) := by decide +kernel
theorem dX0_countWeights_4 : decode cX0_countWeights 4 = .ok (.iload_n 2, 1) := by decide +kernel
theorem dX0_countWeights_5 : decode cX0_countWeights 5 = .ok (.bipush 58, 2) := by decide +kernel
theorem dX0_countWeights_7 : decode cX0_countWeights 7 = .ok (.if_icmp .ge 21, 3) := by decide +kernel
theorem dX0_countWeights_10 : decode cX0_countWeights 10 = .ok (.aload_n 0, 1) := by decide +kernel
theorem dX0_countWeights_11 : decode cX0_countWeights 11 = .ok (.getfield 9, 3) := by decide +kernel
theorem dX0_countWeights_14 : decode cX0_countWeights 14 = .ok (.iload_n 2, 1) := by decide +kernel
theorem dX0_countWeights_15 : decode cX0_countWeights 15 = .ok (.iaload, 1) := by decide +kernel
theorem dX0_countWeights_16 : decode cX0_countWeights 16 = .ok (.ifCond .eq 6, 3) := by decide +kernel
theorem dX0_countWeights_19 : decode cX0_countWeights 19 = .ok (.iinc 1 1, 3) := by decide +kernel
theorem dX0_countWeights_22 : decode cX0_countWeights 22 = .ok (.iinc 2 1, 3) := by decide +kernel
theorem dX0_countWeights_25 : decode cX0_countWeights 25 = .ok (.goto (-21), 3) := by decide +kernel
theorem dX0_countWeights_28 : decode cX0_countWeights 28 = .ok (.iload_n 1, 1) := by decide +kernel
theorem dX0_countWeights_29 : decode cX0_countWeights 29 = .ok (.ireturn, 1) := by decide +kernel
theorem dX0_stepWeight_0 : decode cX0_stepWeight 0 = .ok (.aload_n 0, 1) := by decide +kernel
theorem dX0_stepWeight_1 : decode cX0_stepWeight 1 = .ok (.getfield 9, 3) := by decide +kernel
theorem dX0_stepWeight_4 : decode cX0_stepWeight 4 = .ok (.iload_n 1, 1) := by decide +kernel
theorem dX0_stepWeight_5 : decode cX0_stepWeight 5 = .ok (.bipush 6, 2) := by decide +kernel
theorem dX0_stepWeight_7 : decode cX0_stepWeight 7 = .ok (.imul, 1) := by decide +kernel
theorem dX0_stepWeight_8 : decode cX0_stepWeight 8 = .ok (.iload_n 2, 1) := by decide +kernel
theorem dX0_stepWeight_9 : decode cX0_stepWeight 9 = .ok (.iadd, 1) := by decide +kernel
theorem dX0_stepWeight_10 : decode cX0_stepWeight 10 = .ok (.iaload, 1) := by decide +kernel
theorem dX0_stepWeight_11 : decode cX0_stepWeight 11 = .ok (.ireturn, 1) := by decide +kernel
theorem dX0_letterWeight_0 : decode cX0_letterWeight 0 = .ok (.aload_n 0, 1) := by decide +kernel
theorem dX0_letterWeight_1 : decode cX0_letterWeight 1 = .ok (.getfield 9, 3) := by decide +kernel
theorem dX0_letterWeight_4 : decode cX0_letterWeight 4 = .ok (.bipush 42, 2) := by decide +kernel
theorem dX0_letterWeight_6 : decode cX0_letterWeight 6 = .ok (.iload_n 1, 1) := by decide +kernel
theorem dX0_letterWeight_7 : decode cX0_letterWeight 7 = .ok (.iconst 4, 1) := by decide +kernel
theorem dX0_letterWeight_8 : decode cX0_letterWeight 8 = .ok (.imul, 1) := by decide +kernel
theorem dX0_letterWeight_9 : decode cX0_letterWeight 9 = .ok (.iadd, 1) := by decide +kernel
theorem dX0_letterWeight_10 : decode cX0_letterWeight 10 = .ok (.iload_n 2, 1) := by decide +kernel
theorem dX0_letterWeight_11 : decode cX0_letterWeight 11 = .ok (.iadd, 1) := by decide +kernel
theorem dX0_letterWeight_12 : decode cX0_letterWeight 12 = .ok (.iaload, 1) := by decide +kernel
theorem dX0_letterWeight_13 : decode cX0_letterWeight 13 = .ok (.ireturn, 1) := by decide +kernel
theorem dX0_moveWeight_0 : decode cX0_moveWeight 0 = .ok (.iload_n 2, 1) := by decide +kernel
theorem dX0_moveWeight_1 : decode cX0_moveWeight 1 = .ok (.iconst 4, 1) := by decide +kernel
theorem dX0_moveWeight_2 : decode cX0_moveWeight 2 = .ok (.if_icmp .lt 10, 3) := by decide +kernel
theorem dX0_moveWeight_5 : decode cX0_moveWeight 5 = .ok (.aload_n 0, 1) := by decide +kernel
theorem dX0_moveWeight_6 : decode cX0_moveWeight 6 = .ok (.iload_n 1, 1) := by decide +kernel
theorem dX0_moveWeight_7 : decode cX0_moveWeight 7 = .ok (.iload_n 2, 1) := by decide +kernel
theorem dX0_moveWeight_8 : decode cX0_moveWeight 8 = .ok (.invokevirtual 28, 3) := by decide +kernel
theorem dX0_moveWeight_11 : decode cX0_moveWeight 11 = .ok (.ireturn, 1) := by decide +kernel
theorem dX0_moveWeight_12 : decode cX0_moveWeight 12 = .ok (.iload_n 3, 1) := by decide +kernel
theorem dX0_moveWeight_13 : decode cX0_moveWeight 13 = .ok (.aload_n 0, 1) := by decide +kernel
theorem dX0_moveWeight_14 : decode cX0_moveWeight 14 = .ok (.getfield 18, 3) := by decide +kernel
theorem dX0_moveWeight_17 : decode cX0_moveWeight 17 = .ok (.if_icmp .ge 24, 3) := by decide +kernel
theorem dX0_moveWeight_20 : decode cX0_moveWeight 20 = .ok (.aload_n 0, 1) := by decide +kernel
theorem dX0_moveWeight_21 : decode cX0_moveWeight 21 = .ok (.iload_n 1, 1) := by decide +kernel
theorem dX0_moveWeight_22 : decode cX0_moveWeight 22 = .ok (.iload_n 2, 1) := by decide +kernel
theorem dX0_moveWeight_23 : decode cX0_moveWeight 23 = .ok (.invokevirtual 28, 3) := by decide +kernel
theorem dX0_moveWeight_26 : decode cX0_moveWeight 26 = .ok (.aload_n 0, 1) := by decide +kernel
theorem dX0_moveWeight_27 : decode cX0_moveWeight 27 = .ok (.iload_n 2, 1) := by decide +kernel
theorem dX0_moveWeight_28 : decode cX0_moveWeight 28 = .ok (.aload_n 0, 1) := by decide +kernel
theorem dX0_moveWeight_29 : decode cX0_moveWeight 29 = .ok (.getfield 15, 3) := by decide +kernel
theorem dX0_moveWeight_32 : decode cX0_moveWeight 32 = .ok (.iload_n 3, 1) := by decide +kernel
theorem dX0_moveWeight_33 : decode cX0_moveWeight 33 = .ok (.iaload, 1) := by decide +kernel
theorem dX0_moveWeight_34 : decode cX0_moveWeight 34 = .ok (.invokevirtual 32, 3) := by decide +kernel
theorem dX0_moveWeight_37 : decode cX0_moveWeight 37 = .ok (.imul, 1) := by decide +kernel
theorem dX0_moveWeight_38 : decode cX0_moveWeight 38 = .ok (.goto 4, 3) := by decide +kernel
theorem dX0_moveWeight_41 : decode cX0_moveWeight 41 = .ok (.iconst 0, 1) := by decide +kernel
theorem dX0_moveWeight_42 : decode cX0_moveWeight 42 = .ok (.ireturn, 1) := by decide +kernel
theorem dX1_init_0 : decode cX1_init 0 = .ok (.aload_n 0, 1) := by decide +kernel
theorem dX1_init_1 : decode cX1_init 1 = .ok (.invokespecial 3, 3) := by decide +kernel
theorem dX1_init_4 : decode cX1_init 4 = .ok (.aload_n 0, 1) := by decide +kernel
theorem dX1_init_5 : decode cX1_init 5 = .ok (.bipush 80, 2) := by decide +kernel
theorem dX1_init_7 : decode cX1_init 7 = .ok (.newarray .char, 2) := by decide +kernel
theorem dX1_init_9 : decode cX1_init 9 = .ok (.putfield 9, 3) := by decide +kernel
theorem dX1_init_12 : decode cX1_init 12 = .ok (.aload_n 0, 1) := by decide +kernel
theorem dX1_init_13 : decode cX1_init 13 = .ok (.iconst 0, 1) := by decide +kernel
theorem dX1_init_14 : decode cX1_init 14 = .ok (.putfield 15, 3) := by decide +kernel
theorem dX1_init_17 : decode cX1_init 17 = .ok (.aload_n 0, 1) := by decide +kernel
theorem dX1_init_18 : decode cX1_init 18 = .ok (.iconst 0, 1) := by decide +kernel
theorem dX1_init_19 : decode cX1_init 19 = .ok (.putfield 19, 3) := by decide +kernel
theorem dX1_init_22 : decode cX1_init 22 = .ok (.aload_n 0, 1) := by decide +kernel
theorem dX1_init_23 : decode cX1_init 23 = .ok (.iconst 0, 1) := by decide +kernel
theorem dX1_init_24 : decode cX1_init 24 = .ok (.putfield 22, 3) := by decide +kernel
theorem dX1_init_27 : decode cX1_init 27 = .ok (.return_, 1) := by decide +kernel
theorem dX2_init_0 : decode cX2_init 0 = .ok (.aload_n 0, 1) := by decide +kernel
theorem dX2_init_1 : decode cX2_init 1 = .ok (.invokespecial 3, 3) := by decide +kernel
theorem dX2_init_4 : decode cX2_init 4 = .ok (.aload_n 0, 1) := by decide +kernel
theorem dX2_init_5 : decode cX2_init 5 = .ok (.bipush 7, 2) := by decide +kernel
theorem dX2_init_7 : decode cX2_init 7 = .ok (.bipush 7, 2) := by decide +kernel
theorem dX2_init_9 : decode cX2_init 9 = .ok (.multianewarray 9 2, 4) := by decide +kernel
theorem dX2_init_13 : decode cX2_init 13 = .ok (.putfield 11, 3) := by decide +kernel
theorem dX2_init_16 : decode cX2_init 16 = .ok (.aload_n 0, 1) := by decide +kernel
theorem dX2_init_17 : decode cX2_init 17 = .ok (.bipush 7, 2) := by decide +kernel
theorem dX2_init_19 : decode cX2_init 19 = .ok (.iconst 4, 1) := by decide +kernel
theorem dX2_init_20 : decode cX2_init 20 = .ok (.multianewarray 9 2, 4) := by decide +kernel
theorem dX2_init_24 : decode cX2_init 24 = .ok (.putfield 16, 3) := by decide +kernel
theorem dX2_init_27 : decode cX2_init 27 = .ok (.aload_n 0, 1) := by decide +kernel
theorem dX2_init_28 : decode cX2_init 28 = .ok (.bipush 7, 2) := by decide +kernel
theorem dX2_init_30 : decode cX2_init 30 = .ok (.bipush 7, 2) := by decide +kernel
theorem dX2_init_32 : decode cX2_init 32 = .ok (.multianewarray 9 2, 4) := by decide +kernel
theorem dX2_init_36 : decode cX2_init 36 = .ok (.putfield 19, 3) := by decide +kernel
theorem dX2_init_39 : decode cX2_init 39 = .ok (.aload_n 0, 1) := by decide +kernel
theorem dX2_init_40 : decode cX2_init 40 = .ok (.bipush 7, 2) := by decide +kernel
theorem dX2_init_42 : decode cX2_init 42 = .ok (.bipush 7, 2) := by decide +kernel
theorem dX2_init_44 : decode cX2_init 44 = .ok (.multianewarray 9 2, 4) := by decide +kernel
theorem dX2_init_48 : decode cX2_init 48 = .ok (.putfield 22, 3) := by decide +kernel
theorem dX2_init_51 : decode cX2_init 51 = .ok (.aload_n 0, 1) := by decide +kernel
theorem dX2_init_52 : decode cX2_init 52 = .ok (.bipush 7, 2) := by decide +kernel
theorem dX2_init_54 : decode cX2_init 54 = .ok (.bipush 7, 2) := by decide +kernel
theorem dX2_init_56 : decode cX2_init 56 = .ok (.multianewarray 25 2, 4) := by decide +kernel
theorem dX2_init_60 : decode cX2_init 60 = .ok (.putfield 27, 3) := by decide +kernel
theorem dX2_init_63 : decode cX2_init 63 = .ok (.aload_n 0, 1) := by decide +kernel
theorem dX2_init_64 : decode cX2_init 64 = .ok (.getfield 11, 3) := by decide +kernel
theorem dX2_init_67 : decode cX2_init 67 = .ok (.iconst 0, 1) := by decide +kernel
theorem dX2_init_68 : decode cX2_init 68 = .ok (.aaload, 1) := by decide +kernel
theorem dX2_init_69 : decode cX2_init 69 = .ok (.bipush 6, 2) := by decide +kernel
theorem dX2_init_71 : decode cX2_init 71 = .ok (.lconst 1, 1) := by decide +kernel
theorem dX2_init_72 : decode cX2_init 72 = .ok (.lastore, 1) := by decide +kernel
theorem dX2_init_73 : decode cX2_init 73 = .ok (.return_, 1) := by decide +kernel
theorem dX2_measure_0 : decode cX2_measure 0 = .ok (.aload_n 0, 1) := by decide +kernel
theorem dX2_measure_1 : decode cX2_measure 1 = .ok (.aload_n 1, 1) := by decide +kernel
theorem dX2_measure_2 : decode cX2_measure 2 = .ok (.invokevirtual 30, 3) := by decide +kernel
theorem dX2_measure_5 : decode cX2_measure 5 = .ok (.aload_n 0, 1) := by decide +kernel
theorem dX2_measure_6 : decode cX2_measure 6 = .ok (.aload_n 1, 1) := by decide +kernel
theorem dX2_measure_7 : decode cX2_measure 7 = .ok (.invokevirtual 34, 3) := by decide +kernel
theorem dX2_measure_10 : decode cX2_measure 10 = .ok (.return_, 1) := by decide +kernel
theorem dX2_whole_0 : decode cX2_whole 0 = .ok (.aload_n 0, 1) := by decide +kernel
theorem dX2_whole_1 : decode cX2_whole 1 = .ok (.getfield 19, 3) := by decide +kernel
theorem dX2_whole_4 : decode cX2_whole 4 = .ok (.iconst 0, 1) := by decide +kernel
theorem dX2_whole_5 : decode cX2_whole 5 = .ok (.aaload, 1) := by decide +kernel
theorem dX2_whole_6 : decode cX2_whole 6 = .ok (.bipush 6, 2) := by decide +kernel
theorem dX2_whole_8 : decode cX2_whole 8 = .ok (.laload, 1) := by decide +kernel
theorem dX2_whole_9 : decode cX2_whole 9 = .ok (.lreturn, 1) := by decide +kernel
theorem dX2_number_0 : decode cX2_number 0 = .ok (.aload_n 0, 1) := by decide +kernel
theorem dX2_number_1 : decode cX2_number 1 = .ok (.getfield 27, 3) := by decide +kernel
theorem dX2_number_4 : decode cX2_number 4 = .ok (.iconst 0, 1) := by decide +kernel
theorem dX2_number_5 : decode cX2_number 5 = .ok (.aaload, 1) := by decide +kernel
theorem dX2_number_6 : decode cX2_number 6 = .ok (.bipush 6, 2) := by decide +kernel
theorem dX2_number_8 : decode cX2_number 8 = .ok (.iaload, 1) := by decide +kernel
theorem dX2_number_9 : decode cX2_number 9 = .ok (.ireturn, 1) := by decide +kernel
theorem dX2_greatest_0 : decode cX2_greatest 0 = .ok (.aload_n 0, 1) := by decide +kernel
theorem dX2_greatest_1 : decode cX2_greatest 1 = .ok (.getfield 22, 3) := by decide +kernel
theorem dX2_greatest_4 : decode cX2_greatest 4 = .ok (.iconst 0, 1) := by decide +kernel
theorem dX2_greatest_5 : decode cX2_greatest 5 = .ok (.aaload, 1) := by decide +kernel
theorem dX2_greatest_6 : decode cX2_greatest 6 = .ok (.bipush 6, 2) := by decide +kernel
theorem dX2_greatest_8 : decode cX2_greatest 8 = .ok (.laload, 1) := by decide +kernel
theorem dX2_greatest_9 : decode cX2_greatest 9 = .ok (.lreturn, 1) := by decide +kernel
theorem dX2_through_0 : decode cX2_through 0 = .ok (.aload_n 0, 1) := by decide +kernel
theorem dX2_through_1 : decode cX2_through 1 = .ok (.getfield 11, 3) := by decide +kernel
theorem dX2_through_4 : decode cX2_through 4 = .ok (.iload_n 1, 1) := by decide +kernel
theorem dX2_through_5 : decode cX2_through 5 = .ok (.iconst 1, 1) := by decide +kernel
theorem dX2_through_6 : decode cX2_through 6 = .ok (.iadd, 1) := by decide +kernel
theorem dX2_through_7 : decode cX2_through 7 = .ok (.aaload, 1) := by decide +kernel
theorem dX2_through_8 : decode cX2_through 8 = .ok (.iload_n 2, 1) := by decide +kernel
theorem dX2_through_9 : decode cX2_through 9 = .ok (.laload, 1) := by decide +kernel
theorem dX2_through_10 : decode cX2_through 10 = .ok (.aload_n 0, 1) := by decide +kernel
theorem dX2_through_11 : decode cX2_through 11 = .ok (.getfield 19, 3) := by decide +kernel
theorem dX2_through_14 : decode cX2_through 14 = .ok (.iload_n 1, 1) := by decide +kernel
theorem dX2_through_15 : decode cX2_through 15 = .ok (.iconst 1, 1) := by decide +kernel
theorem dX2_through_16 : decode cX2_through 16 = .ok (.iadd, 1) := by decide +kernel
theorem dX2_through_17 : decode cX2_through 17 = .ok (.aaload, 1) := by decide +kernel
theorem dX2_through_18 : decode cX2_through 18 = .ok (.iload_n 2, 1) := by decide +kernel
theorem dX2_through_19 : decode cX2_through 19 = .ok (.laload, 1) := by decide +kernel
theorem dX2_through_20 : decode cX2_through 20 = .ok (.lmul, 1) := by decide +kernel
theorem dX2_through_21 : decode cX2_through 21 = .ok (.lreturn, 1) := by decide +kernel
theorem dX2_ofStep_0 : decode cX2_ofStep 0 = .ok (.lconst 0, 1) := by decide +kernel
theorem dX2_ofStep_1 : decode cX2_ofStep 1 = .ok (.lstore 4, 2) := by decide +kernel
theorem dX2_ofStep_3 : decode cX2_ofStep 3 = .ok (.iconst 0, 1) := by decide +kernel
theorem dX2_ofStep_4 : decode cX2_ofStep 4 = .ok (.istore 6, 2) := by decide +kernel
theorem dX2_ofStep_6 : decode cX2_ofStep 6 = .ok (.iload 6, 2) := by decide +kernel
theorem dX2_ofStep_8 : decode cX2_ofStep 8 = .ok (.aload_n 1, 1) := by decide +kernel
theorem dX2_ofStep_9 : decode cX2_ofStep 9 = .ok (.getfield 37, 3) := by decide +kernel
theorem dX2_ofStep_12 : decode cX2_ofStep 12 = .ok (.if_icmp .ge 59, 3) := by decide +kernel
theorem dX2_ofStep_15 : decode cX2_ofStep 15 = .ok (.iload_n 3, 1) := by decide +kernel
theorem dX2_ofStep_16 : decode cX2_ofStep 16 = .ok (.iconst 4, 1) := by decide +kernel
theorem dX2_ofStep_17 : decode cX2_ofStep 17 = .ok (.if_icmp .ge 10, 3) := by decide +kernel
theorem dX2_ofStep_20 : decode cX2_ofStep 20 = .ok (.iload 6, 2) := by decide +kernel
theorem dX2_ofStep_22 : decode cX2_ofStep 22 = .ok (.iconst 1, 1) := by decide +kernel
theorem dX2_ofStep_23 : decode cX2_ofStep 23 = .ok (.iadd, 1) := by decide +kernel
theorem dX2_ofStep_24 : decode cX2_ofStep 24 = .ok (.goto 5, 3) := by decide +kernel
theorem dX2_ofStep_27 : decode cX2_ofStep 27 = .ok (.iload 6, 2) := by decide +kernel
theorem dX2_ofStep_29 : decode cX2_ofStep 29 = .ok (.istore 7, 2) := by decide +kernel
theorem dX2_ofStep_31 : decode cX2_ofStep 31 = .ok (.lload 4, 2) := by decide +kernel
theorem dX2_ofStep_33 : decode cX2_ofStep 33 = .ok (.aload_n 0, 1) := by decide +kernel
theorem dX2_ofStep_34 : decode cX2_ofStep 34 = .ok (.getfield 11, 3) := by decide +kernel
theorem dX2_ofStep_37 : decode cX2_ofStep 37 = .ok (.iload 6, 2) := by decide +kernel
theorem dX2_ofStep_39 : decode cX2_ofStep 39 = .ok (.aaload, 1) := by decide +kernel
theorem dX2_ofStep_40 : decode cX2_ofStep 40 = .ok (.iload_n 2, 1) := by decide +kernel
theorem dX2_ofStep_41 : decode cX2_ofStep 41 = .ok (.laload, 1) := by decide +kernel
theorem dX2_ofStep_42 : decode cX2_ofStep 42 = .ok (.aload_n 1, 1) := by decide +kernel
theorem dX2_ofStep_43 : decode cX2_ofStep 43 = .ok (.iload_n 2, 1) := by decide +kernel
theorem dX2_ofStep_44 : decode cX2_ofStep 44 = .ok (.iload_n 3, 1) := by decide +kernel
theorem dX2_ofStep_45 : decode cX2_ofStep 45 = .ok (.iload 6, 2) := by decide +kernel
theorem dX2_ofStep_47 : decode cX2_ofStep 47 = .ok (.invokevirtual 43, 3) := by decide +kernel
theorem dX2_ofStep_50 : decode cX2_ofStep 50 = .ok (.i2l, 1) := by decide +kernel
theorem dX2_ofStep_51 : decode cX2_ofStep 51 = .ok (.lmul, 1) := by decide +kernel
theorem dX2_ofStep_52 : decode cX2_ofStep 52 = .ok (.aload_n 0, 1) := by decide +kernel
theorem dX2_ofStep_53 : decode cX2_ofStep 53 = .ok (.getfield 19, 3) := by decide +kernel
theorem dX2_ofStep_56 : decode cX2_ofStep 56 = .ok (.iload 7, 2) := by decide +kernel
theorem dX2_ofStep_58 : decode cX2_ofStep 58 = .ok (.aaload, 1) := by decide +kernel
theorem dX2_ofStep_59 : decode cX2_ofStep 59 = .ok (.iload_n 3, 1) := by decide +kernel
theorem dX2_ofStep_60 : decode cX2_ofStep 60 = .ok (.laload, 1) := by decide +kernel
theorem dX2_ofStep_61 : decode cX2_ofStep 61 = .ok (.lmul, 1) := by decide +kernel
theorem dX2_ofStep_62 : decode cX2_ofStep 62 = .ok (.ladd, 1) := by decide +kernel
theorem dX2_ofStep_63 : decode cX2_ofStep 63 = .ok (.lstore 4, 2) := by decide +kernel
theorem dX2_ofStep_65 : decode cX2_ofStep 65 = .ok (.iinc 6 1, 3) := by decide +kernel
theorem dX2_ofStep_68 : decode cX2_ofStep 68 = .ok (.goto (-62), 3) := by decide +kernel
theorem dX2_ofStep_71 : decode cX2_ofStep 71 = .ok (.lload 4, 2) := by decide +kernel
theorem dX2_ofStep_73 : decode cX2_ofStep 73 = .ok (.lreturn, 1) := by decide +kernel
theorem dX2_ofLetter_0 : decode cX2_ofLetter 0 = .ok (.lconst 0, 1) := by decide +kernel
theorem dX2_ofLetter_1 : decode cX2_ofLetter 1 = .ok (.lstore 4, 2) := by decide +kernel
theorem dX2_ofLetter_3 : decode cX2_ofLetter 3 = .ok (.iconst 0, 1) := by decide +kernel
theorem dX2_ofLetter_4 : decode cX2_ofLetter 4 = .ok (.istore 6, 2) := by decide +kernel
theorem dX2_ofLetter_6 : decode cX2_ofLetter 6 = .ok (.iload 6, 2) := by decide +kernel
theorem dX2_ofLetter_8 : decode cX2_ofLetter 8 = .ok (.aload_n 1, 1) := by decide +kernel
theorem dX2_ofLetter_9 : decode cX2_ofLetter 9 = .ok (.getfield 37, 3) := by decide +kernel
theorem dX2_ofLetter_12 : decode cX2_ofLetter 12 = .ok (.if_icmp .ge 32, 3) := by decide +kernel
theorem dX2_ofLetter_15 : decode cX2_ofLetter 15 = .ok (.aload_n 1, 1) := by decide +kernel
theorem dX2_ofLetter_16 : decode cX2_ofLetter 16 = .ok (.getfield 47, 3) := by decide +kernel
theorem dX2_ofLetter_19 : decode cX2_ofLetter 19 = .ok (.iload 6, 2) := by decide +kernel
theorem dX2_ofLetter_21 : decode cX2_ofLetter 21 = .ok (.iaload, 1) := by decide +kernel
theorem dX2_ofLetter_22 : decode cX2_ofLetter 22 = .ok (.iload_n 3, 1) := by decide +kernel
theorem dX2_ofLetter_23 : decode cX2_ofLetter 23 = .ok (.if_icmp .ne 15, 3) := by decide +kernel
theorem dX2_ofLetter_26 : decode cX2_ofLetter 26 = .ok (.lload 4, 2) := by decide +kernel
theorem dX2_ofLetter_28 : decode cX2_ofLetter 28 = .ok (.aload_n 0, 1) := by decide +kernel
theorem dX2_ofLetter_29 : decode cX2_ofLetter 29 = .ok (.iload 6, 2) := by decide +kernel
theorem dX2_ofLetter_31 : decode cX2_ofLetter 31 = .ok (.iload_n 2, 1) := by decide +kernel
theorem dX2_ofLetter_32 : decode cX2_ofLetter 32 = .ok (.invokevirtual 51, 3) := by decide +kernel
theorem dX2_ofLetter_35 : decode cX2_ofLetter 35 = .ok (.ladd, 1) := by decide +kernel
theorem dX2_ofLetter_36 : decode cX2_ofLetter 36 = .ok (.lstore 4, 2) := by decide +kernel
theorem dX2_ofLetter_38 : decode cX2_ofLetter 38 = .ok (.iinc 6 1, 3) := by decide +kernel
theorem dX2_ofLetter_41 : decode cX2_ofLetter 41 = .ok (.goto (-35), 3) := by decide +kernel
theorem dX2_ofLetter_44 : decode cX2_ofLetter 44 = .ok (.lload 4, 2) := by decide +kernel
theorem dX2_ofLetter_46 : decode cX2_ofLetter 46 = .ok (.lreturn, 1) := by decide +kernel
theorem dX2_sumBeginnings_0 : decode cX2_sumBeginnings 0 = .ok (.iconst 0, 1) := by decide +kernel
theorem dX2_sumBeginnings_1 : decode cX2_sumBeginnings 1 = .ok (.istore_n 2, 1) := by decide +kernel
theorem dX2_sumBeginnings_2 : decode cX2_sumBeginnings 2 = .ok (.iload_n 2, 1) := by decide +kernel
theorem dX2_sumBeginnings_3 : decode cX2_sumBeginnings 3 = .ok (.aload_n 1, 1) := by decide +kernel
theorem dX2_sumBeginnings_4 : decode cX2_sumBeginnings 4 = .ok (.getfield 37, 3) := by decide +kernel
theorem dX2_sumBeginnings_7 : decode cX2_sumBeginnings 7 = .ok (.if_icmp .gt 105, 3) := by decide +kernel
theorem dX2_sumBeginnings_10 : decode cX2_sumBeginnings 10 = .ok (.iconst 4, 1) := by decide +kernel
theorem dX2_sumBeginnings_11 : decode cX2_sumBeginnings 11 = .ok (.istore_n 3, 1) := by decide +kernel
theorem dX2_sumBeginnings_12 : decode cX2_sumBeginnings 12 = .ok (.iload_n 3, 1) := by decide +kernel
theorem dX2_sumBeginnings_13 : decode cX2_sumBeginnings 13 = .ok (.bipush 6, 2) := by decide +kernel
theorem dX2_sumBeginnings_15 : decode cX2_sumBeginnings 15 = .ok (.if_icmp .ge 24, 3) := by decide +kernel
theorem dX2_sumBeginnings_18 : decode cX2_sumBeginnings 18 = .ok (.aload_n 0, 1) := by decide +kernel
theorem dX2_sumBeginnings_19 : decode cX2_sumBeginnings 19 = .ok (.getfield 11, 3) := by decide +kernel
theorem dX2_sumBeginnings_22 : decode cX2_sumBeginnings 22 = .ok (.iload_n 2, 1) := by decide +kernel
theorem dX2_sumBeginnings_23 : decode cX2_sumBeginnings 23 = .ok (.aaload, 1) := by decide +kernel
theorem dX2_sumBeginnings_24 : decode cX2_sumBeginnings 24 = .ok (.iload_n 3, 1) := by decide +kernel
theorem dX2_sumBeginnings_25 : decode cX2_sumBeginnings 25 = .ok (.aload_n 0, 1) := by decide +kernel
theorem dX2_sumBeginnings_26 : decode cX2_sumBeginnings 26 = .ok (.aload_n 1, 1) := by decide +kernel
theorem dX2_sumBeginnings_27 : decode cX2_sumBeginnings 27 = .ok (.iload_n 2, 1) := by decide +kernel
theorem dX2_sumBeginnings_28 : decode cX2_sumBeginnings 28 = .ok (.iload_n 3, 1) := by decide +kernel
theorem dX2_sumBeginnings_29 : decode cX2_sumBeginnings 29 = .ok (.invokevirtual 59, 3) := by decide +kernel
theorem dX2_sumBeginnings_32 : decode cX2_sumBeginnings 32 = .ok (.lastore, 1) := by decide +kernel
theorem dX2_sumBeginnings_33 : decode cX2_sumBeginnings 33 = .ok (.iinc 3 1, 3) := by decide +kernel
theorem dX2_sumBeginnings_36 : decode cX2_sumBeginnings 36 = .ok (.goto (-24), 3) := by decide +kernel
theorem dX2_sumBeginnings_39 : decode cX2_sumBeginnings 39 = .ok (.iconst 0, 1) := by decide +kernel
theorem dX2_sumBeginnings_40 : decode cX2_sumBeginnings 40 = .ok (.istore_n 3, 1) := by decide +kernel
theorem dX2_sumBeginnings_41 : decode cX2_sumBeginnings 41 = .ok (.iload_n 3, 1) := by decide +kernel
theorem dX2_sumBeginnings_42 : decode cX2_sumBeginnings 42 = .ok (.iconst 4, 1) := by decide +kernel
theorem dX2_sumBeginnings_43 : decode cX2_sumBeginnings 43 = .ok (.if_icmp .ge 63, 3) := by decide +kernel
theorem dX2_sumBeginnings_46 : decode cX2_sumBeginnings 46 = .ok (.aload_n 0, 1) := by decide +kernel
theorem dX2_sumBeginnings_47 : decode cX2_sumBeginnings 47 = .ok (.getfield 16, 3) := by decide +kernel
theorem dX2_sumBeginnings_50 : decode cX2_sumBeginnings 50 = .ok (.iload_n 2, 1) := by decide +kernel
theorem dX2_sumBeginnings_51 : decode cX2_sumBeginnings 51 = .ok (.aaload, 1) := by decide +kernel
theorem dX2_sumBeginnings_52 : decode cX2_sumBeginnings 52 = .ok (.iload_n 3, 1) := by decide +kernel
theorem dX2_sumBeginnings_53 : decode cX2_sumBeginnings 53 = .ok (.aload_n 0, 1) := by decide +kernel
theorem dX2_sumBeginnings_54 : decode cX2_sumBeginnings 54 = .ok (.aload_n 1, 1) := by decide +kernel
theorem dX2_sumBeginnings_55 : decode cX2_sumBeginnings 55 = .ok (.iload_n 2, 1) := by decide +kernel
theorem dX2_sumBeginnings_56 : decode cX2_sumBeginnings 56 = .ok (.iload_n 3, 1) := by decide +kernel
theorem dX2_sumBeginnings_57 : decode cX2_sumBeginnings 57 = .ok (.invokevirtual 59, 3) := by decide +kernel
theorem dX2_sumBeginnings_60 : decode cX2_sumBeginnings 60 = .ok (.lastore, 1) := by decide +kernel
theorem dX2_sumBeginnings_61 : decode cX2_sumBeginnings 61 = .ok (.iload_n 2, 1) := by decide +kernel
theorem dX2_sumBeginnings_62 : decode cX2_sumBeginnings 62 = .ok (.aload_n 1, 1) := by decide +kernel
theorem dX2_sumBeginnings_63 : decode cX2_sumBeginnings 63 = .ok (.getfield 37, 3) := by decide +kernel
theorem dX2_sumBeginnings_66 : decode cX2_sumBeginnings 66 = .ok (.if_icmp .ge 34, 3) := by decide +kernel
theorem dX2_sumBeginnings_69 : decode cX2_sumBeginnings 69 = .ok (.aload_n 0, 1) := by decide +kernel
theorem dX2_sumBeginnings_70 : decode cX2_sumBeginnings 70 = .ok (.getfield 11, 3) := by decide +kernel
theorem dX2_sumBeginnings_73 : decode cX2_sumBeginnings 73 = .ok (.iload_n 2, 1) := by decide +kernel
theorem dX2_sumBeginnings_74 : decode cX2_sumBeginnings 74 = .ok (.iconst 1, 1) := by decide +kernel
theorem dX2_sumBeginnings_75 : decode cX2_sumBeginnings 75 = .ok (.iadd, 1) := by decide +kernel
theorem dX2_sumBeginnings_76 : decode cX2_sumBeginnings 76 = .ok (.aaload, 1) := by decide +kernel
theorem dX2_sumBeginnings_77 : decode cX2_sumBeginnings 77 = .ok (.iload_n 3, 1) := by decide +kernel
theorem dX2_sumBeginnings_78 : decode cX2_sumBeginnings 78 = .ok (.aload_n 0, 1) := by decide +kernel
theorem dX2_sumBeginnings_79 : decode cX2_sumBeginnings 79 = .ok (.getfield 16, 3) := by decide +kernel
theorem dX2_sumBeginnings_82 : decode cX2_sumBeginnings 82 = .ok (.iload_n 2, 1) := by decide +kernel
theorem dX2_sumBeginnings_83 : decode cX2_sumBeginnings 83 = .ok (.aaload, 1) := by decide +kernel
theorem dX2_sumBeginnings_84 : decode cX2_sumBeginnings 84 = .ok (.iload_n 3, 1) := by decide +kernel
theorem dX2_sumBeginnings_85 : decode cX2_sumBeginnings 85 = .ok (.laload, 1) := by decide +kernel
theorem dX2_sumBeginnings_86 : decode cX2_sumBeginnings 86 = .ok (.aload_n 1, 1) := by decide +kernel
theorem dX2_sumBeginnings_87 : decode cX2_sumBeginnings 87 = .ok (.iload_n 3, 1) := by decide +kernel
theorem dX2_sumBeginnings_88 : decode cX2_sumBeginnings 88 = .ok (.aload_n 1, 1) := by decide +kernel
theorem dX2_sumBeginnings_89 : decode cX2_sumBeginnings 89 = .ok (.getfield 47, 3) := by decide +kernel
theorem dX2_sumBeginnings_92 : decode cX2_sumBeginnings 92 = .ok (.iload_n 2, 1) := by decide +kernel
theorem dX2_sumBeginnings_93 : decode cX2_sumBeginnings 93 = .ok (.iaload, 1) := by decide +kernel
theorem dX2_sumBeginnings_94 : decode cX2_sumBeginnings 94 = .ok (.invokevirtual 55, 3) := by decide +kernel
theorem dX2_sumBeginnings_97 : decode cX2_sumBeginnings 97 = .ok (.i2l, 1) := by decide +kernel
theorem dX2_sumBeginnings_98 : decode cX2_sumBeginnings 98 = .ok (.lmul, 1) := by decide +kernel
theorem dX2_sumBeginnings_99 : decode cX2_sumBeginnings 99 = .ok (.lastore, 1) := by decide +kernel
theorem dX2_sumBeginnings_100 : decode cX2_sumBeginnings 100 = .ok (.iinc 3 1, 3) := by decide +kernel
theorem dX2_sumBeginnings_103 : decode cX2_sumBeginnings 103 = .ok (.goto (-62), 3) := by decide +kernel
theorem dX2_sumBeginnings_106 : decode cX2_sumBeginnings 106 = .ok (.iinc 2 1, 3) := by decide +kernel
theorem dX2_sumBeginnings_109 : decode cX2_sumBeginnings 109 = .ok (.goto (-107), 3) := by decide +kernel
theorem dX2_sumBeginnings_112 : decode cX2_sumBeginnings 112 = .ok (.return_, 1) := by decide +kernel
theorem dX2_arrive_0 : decode cX2_arrive 0 = .ok (.lconst 0, 1) := by decide +kernel
theorem dX2_arrive_1 : decode cX2_arrive 1 = .ok (.lstore 4, 2) := by decide +kernel
theorem dX2_arrive_3 : decode cX2_arrive 3 = .ok (.iconst 0, 1) := by decide +kernel
theorem dX2_arrive_4 : decode cX2_arrive 4 = .ok (.istore 6, 2) := by decide +kernel
theorem dX2_arrive_6 : decode cX2_arrive 6 = .ok (.iload 6, 2) := by decide +kernel
theorem dX2_arrive_8 : decode cX2_arrive 8 = .ok (.bipush 6, 2) := by decide +kernel
theorem dX2_arrive_10 : decode cX2_arrive 10 = .ok (.if_icmp .gt 32, 3) := by decide +kernel
theorem dX2_arrive_13 : decode cX2_arrive 13 = .ok (.lload 4, 2) := by decide +kernel
theorem dX2_arrive_15 : decode cX2_arrive 15 = .ok (.aload_n 0, 1) := by decide +kernel
theorem dX2_arrive_16 : decode cX2_arrive 16 = .ok (.getfield 11, 3) := by decide +kernel
theorem dX2_arrive_19 : decode cX2_arrive 19 = .ok (.iload_n 2, 1) := by decide +kernel
theorem dX2_arrive_20 : decode cX2_arrive 20 = .ok (.aaload, 1) := by decide +kernel
theorem dX2_arrive_21 : decode cX2_arrive 21 = .ok (.iload 6, 2) := by decide +kernel
theorem dX2_arrive_23 : decode cX2_arrive 23 = .ok (.laload, 1) := by decide +kernel
theorem dX2_arrive_24 : decode cX2_arrive 24 = .ok (.aload_n 1, 1) := by decide +kernel
theorem dX2_arrive_25 : decode cX2_arrive 25 = .ok (.iload 6, 2) := by decide +kernel
theorem dX2_arrive_27 : decode cX2_arrive 27 = .ok (.iload_n 3, 1) := by decide +kernel
theorem dX2_arrive_28 : decode cX2_arrive 28 = .ok (.invokevirtual 63, 3) := by decide +kernel
theorem dX2_arrive_31 : decode cX2_arrive 31 = .ok (.i2l, 1) := by decide +kernel
theorem dX2_arrive_32 : decode cX2_arrive 32 = .ok (.lmul, 1) := by decide +kernel
theorem dX2_arrive_33 : decode cX2_arrive 33 = .ok (.ladd, 1) := by decide +kernel
theorem dX2_arrive_34 : decode cX2_arrive 34 = .ok (.lstore 4, 2) := by decide +kernel
theorem dX2_arrive_36 : decode cX2_arrive 36 = .ok (.iinc 6 1, 3) := by decide +kernel
theorem dX2_arrive_39 : decode cX2_arrive 39 = .ok (.goto (-33), 3) := by decide +kernel
theorem dX2_arrive_42 : decode cX2_arrive 42 = .ok (.lload 4, 2) := by decide +kernel
theorem dX2_arrive_44 : decode cX2_arrive 44 = .ok (.lreturn, 1) := by decide +kernel
theorem dX2_sumRests_0 : decode cX2_sumRests 0 = .ok (.iconst 0, 1) := by decide +kernel
theorem dX2_sumRests_1 : decode cX2_sumRests 1 = .ok (.istore_n 2, 1) := by decide +kernel
theorem dX2_sumRests_2 : decode cX2_sumRests 2 = .ok (.iload_n 2, 1) := by decide +kernel
theorem dX2_sumRests_3 : decode cX2_sumRests 3 = .ok (.bipush 6, 2) := by decide +kernel
theorem dX2_sumRests_5 : decode cX2_sumRests 5 = .ok (.if_icmp .gt 93, 3) := by decide +kernel
theorem dX2_sumRests_8 : decode cX2_sumRests 8 = .ok (.iload_n 2, 1) := by decide +kernel
theorem dX2_sumRests_9 : decode cX2_sumRests 9 = .ok (.iconst 4, 1) := by decide +kernel
theorem dX2_sumRests_10 : decode cX2_sumRests 10 = .ok (.if_icmp .lt 16, 3) := by decide +kernel
theorem dX2_sumRests_13 : decode cX2_sumRests 13 = .ok (.iload_n 2, 1) := by decide +kernel
theorem dX2_sumRests_14 : decode cX2_sumRests 14 = .ok (.bipush 6, 2) := by decide +kernel
theorem dX2_sumRests_16 : decode cX2_sumRests 16 = .ok (.if_icmp .ne 14, 3) := by decide +kernel
theorem dX2_sumRests_19 : decode cX2_sumRests 19 = .ok (.aload_n 1, 1) := by decide +kernel
theorem dX2_sumRests_20 : decode cX2_sumRests 20 = .ok (.getfield 37, 3) := by decide +kernel
theorem dX2_sumRests_23 : decode cX2_sumRests 23 = .ok (.ifCond .ne 7, 3) := by decide +kernel
theorem dX2_sumRests_26 : decode cX2_sumRests 26 = .ok (.iconst 1, 1) := by decide +kernel
theorem dX2_sumRests_27 : decode cX2_sumRests 27 = .ok (.goto 4, 3) := by decide +kernel
theorem dX2_sumRests_30 : decode cX2_sumRests 30 = .ok (.iconst 0, 1) := by decide +kernel
theorem dX2_sumRests_31 : decode cX2_sumRests 31 = .ok (.istore_n 3, 1) := by decide +kernel
theorem dX2_sumRests_32 : decode cX2_sumRests 32 = .ok (.aload_n 0, 1) := by decide +kernel
theorem dX2_sumRests_33 : decode cX2_sumRests 33 = .ok (.getfield 19, 3) := by decide +kernel
theorem dX2_sumRests_36 : decode cX2_sumRests 36 = .ok (.aload_n 1, 1) := by decide +kernel
theorem dX2_sumRests_37 : decode cX2_sumRests 37 = .ok (.getfield 37, 3) := by decide +kernel
theorem dX2_sumRests_40 : decode cX2_sumRests 40 = .ok (.aaload, 1) := by decide +kernel
theorem dX2_sumRests_41 : decode cX2_sumRests 41 = .ok (.iload_n 2, 1) := by decide +kernel
theorem dX2_sumRests_42 : decode cX2_sumRests 42 = .ok (.iload_n 3, 1) := by decide +kernel
theorem dX2_sumRests_43 : decode cX2_sumRests 43 = .ok (.ifCond .eq 7, 3) := by decide +kernel
theorem dX2_sumRests_46 : decode cX2_sumRests 46 = .ok (.lconst 1, 1) := by decide +kernel
theorem dX2_sumRests_47 : decode cX2_sumRests 47 = .ok (.goto 4, 3) := by decide +kernel
theorem dX2_sumRests_50 : decode cX2_sumRests 50 = .ok (.lconst 0, 1) := by decide +kernel
theorem dX2_sumRests_51 : decode cX2_sumRests 51 = .ok (.lastore, 1) := by decide +kernel
theorem dX2_sumRests_52 : decode cX2_sumRests 52 = .ok (.aload_n 0, 1) := by decide +kernel
theorem dX2_sumRests_53 : decode cX2_sumRests 53 = .ok (.getfield 22, 3) := by decide +kernel
theorem dX2_sumRests_56 : decode cX2_sumRests 56 = .ok (.aload_n 1, 1) := by decide +kernel
theorem dX2_sumRests_57 : decode cX2_sumRests 57 = .ok (.getfield 37, 3) := by decide +kernel
theorem dX2_sumRests_60 : decode cX2_sumRests 60 = .ok (.aaload, 1) := by decide +kernel
theorem dX2_sumRests_61 : decode cX2_sumRests 61 = .ok (.iload_n 2, 1) := by decide +kernel
theorem dX2_sumRests_62 : decode cX2_sumRests 62 = .ok (.iload_n 3, 1) := by decide +kernel
theorem dX2_sumRests_63 : decode cX2_sumRests 63 = .ok (.ifCond .eq 7, 3) := by decide +kernel
theorem dX2_sumRests_66 : decode cX2_sumRests 66 = .ok (.lconst 1, 1) := by decide +kernel
theorem dX2_sumRests_67 : decode cX2_sumRests 67 = .ok (.goto 4, 3) := by decide +kernel
theorem dX2_sumRests_70 : decode cX2_sumRests 70 = .ok (.lconst 0, 1) := by decide +kernel
theorem dX2_sumRests_71 : decode cX2_sumRests 71 = .ok (.lastore, 1) := by decide +kernel
theorem dX2_sumRests_72 : decode cX2_sumRests 72 = .ok (.aload_n 0, 1) := by decide +kernel
theorem dX2_sumRests_73 : decode cX2_sumRests 73 = .ok (.getfield 27, 3) := by decide +kernel
theorem dX2_sumRests_76 : decode cX2_sumRests 76 = .ok (.aload_n 1, 1) := by decide +kernel
theorem dX2_sumRests_77 : decode cX2_sumRests 77 = .ok (.getfield 37, 3) := by decide +kernel
theorem dX2_sumRests_80 : decode cX2_sumRests 80 = .ok (.aaload, 1) := by decide +kernel
theorem dX2_sumRests_81 : decode cX2_sumRests 81 = .ok (.iload_n 2, 1) := by decide +kernel
theorem dX2_sumRests_82 : decode cX2_sumRests 82 = .ok (.iload_n 3, 1) := by decide +kernel
theorem dX2_sumRests_83 : decode cX2_sumRests 83 = .ok (.ifCond .eq 7, 3) := by decide +kernel
theorem dX2_sumRests_86 : decode cX2_sumRests 86 = .ok (.iconst 1, 1) := by decide +kernel
theorem dX2_sumRests_87 : decode cX2_sumRests 87 = .ok (.goto 4, 3) := by decide +kernel
theorem dX2_sumRests_90 : decode cX2_sumRests 90 = .ok (.iconst 0, 1) := by decide +kernel
theorem dX2_sumRests_91 : decode cX2_sumRests 91 = .ok (.iastore, 1) := by decide +kernel
theorem dX2_sumRests_92 : decode cX2_sumRests 92 = .ok (.iinc 2 1, 3) := by decide +kernel
theorem dX2_sumRests_95 : decode cX2_sumRests 95 = .ok (.goto (-93), 3) := by decide +kernel
theorem dX2_sumRests_98 : decode cX2_sumRests 98 = .ok (.aload_n 1, 1) := by decide +kernel
theorem dX2_sumRests_99 : decode cX2_sumRests 99 = .ok (.getfield 37, 3) := by decide +kernel
theorem dX2_sumRests_102 : decode cX2_sumRests 102 = .ok (.iconst 1, 1) := by decide +kernel
theorem dX2_sumRests_103 : decode cX2_sumRests 103 = .ok (.isub, 1) := by decide +kernel
theorem dX2_sumRests_104 : decode cX2_sumRests 104 = .ok (.istore_n 2, 1) := by decide +kernel
theorem dX2_sumRests_105 : decode cX2_sumRests 105 = .ok (.iload_n 2, 1) := by decide +kernel
theorem dX2_sumRests_106 : decode cX2_sumRests 106 = .ok (.ifCond .lt 36, 3) := by decide +kernel
theorem dX2_sumRests_109 : decode cX2_sumRests 109 = .ok (.iconst 5, 1) := by decide +kernel
theorem dX2_sumRests_110 : decode cX2_sumRests 110 = .ok (.istore_n 3, 1) := by decide +kernel
theorem dX2_sumRests_111 : decode cX2_sumRests 111 = .ok (.iload_n 3, 1) := by decide +kernel
theorem dX2_sumRests_112 : decode cX2_sumRests 112 = .ok (.ifCond .lt 16, 3) := by decide +kernel
theorem dX2_sumRests_115 : decode cX2_sumRests 115 = .ok (.aload_n 0, 1) := by decide +kernel
theorem dX2_sumRests_116 : decode cX2_sumRests 116 = .ok (.aload_n 1, 1) := by decide +kernel
theorem dX2_sumRests_117 : decode cX2_sumRests 117 = .ok (.iload_n 2, 1) := by decide +kernel
theorem dX2_sumRests_118 : decode cX2_sumRests 118 = .ok (.iload_n 3, 1) := by decide +kernel
theorem dX2_sumRests_119 : decode cX2_sumRests 119 = .ok (.invokevirtual 66, 3) := by decide +kernel
theorem dX2_sumRests_122 : decode cX2_sumRests 122 = .ok (.iinc 3 (-1), 3) := by decide +kernel
theorem dX2_sumRests_125 : decode cX2_sumRests 125 = .ok (.goto (-14), 3) := by decide +kernel
theorem dX2_sumRests_128 : decode cX2_sumRests 128 = .ok (.aload_n 0, 1) := by decide +kernel
theorem dX2_sumRests_129 : decode cX2_sumRests 129 = .ok (.aload_n 1, 1) := by decide +kernel
theorem dX2_sumRests_130 : decode cX2_sumRests 130 = .ok (.iload_n 2, 1) := by decide +kernel
theorem dX2_sumRests_131 : decode cX2_sumRests 131 = .ok (.bipush 6, 2) := by decide +kernel
theorem dX2_sumRests_133 : decode cX2_sumRests 133 = .ok (.invokevirtual 66, 3) := by decide +kernel
theorem dX2_sumRests_136 : decode cX2_sumRests 136 = .ok (.iinc 2 (-1), 3) := by decide +kernel
theorem dX2_sumRests_139 : decode cX2_sumRests 139 = .ok (.goto (-34), 3) := by decide +kernel
theorem dX2_sumRests_142 : decode cX2_sumRests 142 = .ok (.return_, 1) := by decide +kernel
theorem dX2_sumRestsBehind_0 : decode cX2_sumRestsBehind 0 = .ok (.lconst 0, 1) := by decide +kernel
theorem dX2_sumRestsBehind_1 : decode cX2_sumRestsBehind 1 = .ok (.lstore 4, 2) := by decide +kernel
theorem dX2_sumRestsBehind_3 : decode cX2_sumRestsBehind 3 = .ok (.lconst 0, 1) := by decide +kernel
theorem dX2_sumRestsBehind_4 : decode cX2_sumRestsBehind 4 = .ok (.lstore 6, 2) := by decide +kernel
theorem dX2_sumRestsBehind_6 : decode cX2_sumRestsBehind 6 = .ok (.iconst 0, 1) := by decide +kernel
theorem dX2_sumRestsBehind_7 : decode cX2_sumRestsBehind 7 = .ok (.istore 8, 2) := by decide +kernel
theorem dX2_sumRestsBehind_9 : decode cX2_sumRestsBehind 9 = .ok (.iconst 0, 1) := by decide +kernel
theorem dX2_sumRestsBehind_10 : decode cX2_sumRestsBehind 10 = .ok (.istore 9, 2) := by decide +kernel
theorem dX2_sumRestsBehind_12 : decode cX2_sumRestsBehind 12 = .ok (.iload 9, 2) := by decide +kernel
theorem dX2_sumRestsBehind_14 : decode cX2_sumRestsBehind 14 = .ok (.bipush 6, 2) := by decide +kernel
theorem dX2_sumRestsBehind_16 : decode cX2_sumRestsBehind 16 = .ok (.if_icmp .ge 94, 3) := by decide +kernel
theorem dX2_sumRestsBehind_19 : decode cX2_sumRestsBehind 19 = .ok (.aload_n 1, 1) := by decide +kernel
theorem dX2_sumRestsBehind_20 : decode cX2_sumRestsBehind 20 = .ok (.iload_n 3, 1) := by decide +kernel
theorem dX2_sumRestsBehind_21 : decode cX2_sumRestsBehind 21 = .ok (.iload 9, 2) := by decide +kernel
theorem dX2_sumRestsBehind_23 : decode cX2_sumRestsBehind 23 = .ok (.iload_n 2, 1) := by decide +kernel
theorem dX2_sumRestsBehind_24 : decode cX2_sumRestsBehind 24 = .ok (.invokevirtual 43, 3) := by decide +kernel
theorem dX2_sumRestsBehind_27 : decode cX2_sumRestsBehind 27 = .ok (.istore 10, 2) := by decide +kernel
theorem dX2_sumRestsBehind_29 : decode cX2_sumRestsBehind 29 = .ok (.iload 10, 2) := by decide +kernel
theorem dX2_sumRestsBehind_31 : decode cX2_sumRestsBehind 31 = .ok (.ifCond .le 73, 3) := by decide +kernel
theorem dX2_sumRestsBehind_34 : decode cX2_sumRestsBehind 34 = .ok (.iload 9, 2) := by decide +kernel
theorem dX2_sumRestsBehind_36 : decode cX2_sumRestsBehind 36 = .ok (.iconst 4, 1) := by decide +kernel
theorem dX2_sumRestsBehind_37 : decode cX2_sumRestsBehind 37 = .ok (.if_icmp .ge 9, 3) := by decide +kernel
theorem dX2_sumRestsBehind_40 : decode cX2_sumRestsBehind 40 = .ok (.iload_n 2, 1) := by decide +kernel
theorem dX2_sumRestsBehind_41 : decode cX2_sumRestsBehind 41 = .ok (.iconst 1, 1) := by decide +kernel
theorem dX2_sumRestsBehind_42 : decode cX2_sumRestsBehind 42 = .ok (.iadd, 1) := by decide +kernel
theorem dX2_sumRestsBehind_43 : decode cX2_sumRestsBehind 43 = .ok (.goto 4, 3) := by decide +kernel
theorem dX2_sumRestsBehind_46 : decode cX2_sumRestsBehind 46 = .ok (.iload_n 2, 1) := by decide +kernel
theorem dX2_sumRestsBehind_47 : decode cX2_sumRestsBehind 47 = .ok (.istore 11, 2) := by decide +kernel
theorem dX2_sumRestsBehind_49 : decode cX2_sumRestsBehind 49 = .ok (.lload 4, 2) := by decide +kernel
theorem dX2_sumRestsBehind_51 : decode cX2_sumRestsBehind 51 = .ok (.iload 10, 2) := by decide +kernel
theorem dX2_sumRestsBehind_53 : decode cX2_sumRestsBehind 53 = .ok (.i2l, 1) := by decide +kernel
theorem dX2_sumRestsBehind_54 : decode cX2_sumRestsBehind 54 = .ok (.aload_n 0, 1) := by decide +kernel
theorem dX2_sumRestsBehind_55 : decode cX2_sumRestsBehind 55 = .ok (.getfield 19, 3) := by decide +kernel
theorem dX2_sumRestsBehind_58 : decode cX2_sumRestsBehind 58 = .ok (.iload 11, 2) := by decide +kernel
theorem dX2_sumRestsBehind_60 : decode cX2_sumRestsBehind 60 = .ok (.aaload, 1) := by decide +kernel
theorem dX2_sumRestsBehind_61 : decode cX2_sumRestsBehind 61 = .ok (.iload 9, 2) := by decide +kernel
theorem dX2_sumRestsBehind_63 : decode cX2_sumRestsBehind 63 = .ok (.laload, 1) := by decide +kernel
theorem dX2_sumRestsBehind_64 : decode cX2_sumRestsBehind 64 = .ok (.lmul, 1) := by decide +kernel
theorem dX2_sumRestsBehind_65 : decode cX2_sumRestsBehind 65 = .ok (.ladd, 1) := by decide +kernel
theorem dX2_sumRestsBehind_66 : decode cX2_sumRestsBehind 66 = .ok (.lstore 4, 2) := by decide +kernel
theorem dX2_sumRestsBehind_68 : decode cX2_sumRestsBehind 68 = .ok (.lload 6, 2) := by decide +kernel
theorem dX2_sumRestsBehind_70 : decode cX2_sumRestsBehind 70 = .ok (.iload 10, 2) := by decide +kernel
theorem dX2_sumRestsBehind_72 : decode cX2_sumRestsBehind 72 = .ok (.i2l, 1) := by decide +kernel
theorem dX2_sumRestsBehind_73 : decode cX2_sumRestsBehind 73 = .ok (.aload_n 0, 1) := by decide +kernel
theorem dX2_sumRestsBehind_74 : decode cX2_sumRestsBehind 74 = .ok (.getfield 22, 3) := by decide +kernel
theorem dX2_sumRestsBehind_77 : decode cX2_sumRestsBehind 77 = .ok (.iload 11, 2) := by decide +kernel
theorem dX2_sumRestsBehind_79 : decode cX2_sumRestsBehind 79 = .ok (.aaload, 1) := by decide +kernel
theorem dX2_sumRestsBehind_80 : decode cX2_sumRestsBehind 80 = .ok (.iload 9, 2) := by decide +kernel
theorem dX2_sumRestsBehind_82 : decode cX2_sumRestsBehind 82 = .ok (.laload, 1) := by decide +kernel
theorem dX2_sumRestsBehind_83 : decode cX2_sumRestsBehind 83 = .ok (.lmul, 1) := by decide +kernel
theorem dX2_sumRestsBehind_84 : decode cX2_sumRestsBehind 84 = .ok (.invokestatic 70, 3) := by decide +kernel
theorem dX2_sumRestsBehind_87 : decode cX2_sumRestsBehind 87 = .ok (.lstore 6, 2) := by decide +kernel
theorem dX2_sumRestsBehind_89 : decode cX2_sumRestsBehind 89 = .ok (.iload 8, 2) := by decide +kernel
theorem dX2_sumRestsBehind_91 : decode cX2_sumRestsBehind 91 = .ok (.aload_n 0, 1) := by decide +kernel
theorem dX2_sumRestsBehind_92 : decode cX2_sumRestsBehind 92 = .ok (.getfield 27, 3) := by decide +kernel
theorem dX2_sumRestsBehind_95 : decode cX2_sumRestsBehind 95 = .ok (.iload 11, 2) := by decide +kernel
theorem dX2_sumRestsBehind_97 : decode cX2_sumRestsBehind 97 = .ok (.aaload, 1) := by decide +kernel
theorem dX2_sumRestsBehind_98 : decode cX2_sumRestsBehind 98 = .ok (.iload 9, 2) := by decide +kernel
theorem dX2_sumRestsBehind_100 : decode cX2_sumRestsBehind 100 = .ok (.iaload, 1) := by decide +kernel
theorem dX2_sumRestsBehind_101 : decode cX2_sumRestsBehind 101 = .ok (.iadd, 1) := by decide +kernel
theorem dX2_sumRestsBehind_102 : decode cX2_sumRestsBehind 102 = .ok (.istore 8, 2) := by decide +kernel
theorem dX2_sumRestsBehind_104 : decode cX2_sumRestsBehind 104 = .ok (.iinc 9 1, 3) := by decide +kernel
theorem dX2_sumRestsBehind_107 : decode cX2_sumRestsBehind 107 = .ok (.goto (-95), 3) := by decide +kernel
theorem dX2_sumRestsBehind_110 : decode cX2_sumRestsBehind 110 = .ok (.aload_n 0, 1) := by decide +kernel
theorem dX2_sumRestsBehind_111 : decode cX2_sumRestsBehind 111 = .ok (.getfield 19, 3) := by decide +kernel
theorem dX2_sumRestsBehind_114 : decode cX2_sumRestsBehind 114 = .ok (.iload_n 2, 1) := by decide +kernel
theorem dX2_sumRestsBehind_115 : decode cX2_sumRestsBehind 115 = .ok (.aaload, 1) := by decide +kernel
theorem dX2_sumRestsBehind_116 : decode cX2_sumRestsBehind 116 = .ok (.iload_n 3, 1) := by decide +kernel
theorem dX2_sumRestsBehind_117 : decode cX2_sumRestsBehind 117 = .ok (.lload 4, 2) := by decide +kernel
theorem dX2_sumRestsBehind_119 : decode cX2_sumRestsBehind 119 = .ok (.lastore, 1) := by decide +kernel
theorem dX2_sumRestsBehind_120 : decode cX2_sumRestsBehind 120 = .ok (.aload_n 0, 1) := by decide +kernel
theorem dX2_sumRestsBehind_121 : decode cX2_sumRestsBehind 121 = .ok (.getfield 22, 3) := by decide +kernel
theorem dX2_sumRestsBehind_124 : decode cX2_sumRestsBehind 124 = .ok (.iload_n 2, 1) := by decide +kernel
theorem dX2_sumRestsBehind_125 : decode cX2_sumRestsBehind 125 = .ok (.aaload, 1) := by decide +kernel
theorem dX2_sumRestsBehind_126 : decode cX2_sumRestsBehind 126 = .ok (.iload_n 3, 1) := by decide +kernel
theorem dX2_sumRestsBehind_127 : decode cX2_sumRestsBehind 127 = .ok (.lload 6, 2) := by decide +kernel
theorem dX2_sumRestsBehind_129 : decode cX2_sumRestsBehind 129 = .ok (.lastore, 1) := by decide +kernel
theorem dX2_sumRestsBehind_130 : decode cX2_sumRestsBehind 130 = .ok (.aload_n 0, 1) := by decide +kernel
theorem dX2_sumRestsBehind_131 : decode cX2_sumRestsBehind 131 = .ok (.getfield 27, 3) := by decide +kernel
theorem dX2_sumRestsBehind_134 : decode cX2_sumRestsBehind 134 = .ok (.iload_n 2, 1) := by decide +kernel
theorem dX2_sumRestsBehind_135 : decode cX2_sumRestsBehind 135 = .ok (.aaload, 1) := by decide +kernel
theorem dX2_sumRestsBehind_136 : decode cX2_sumRestsBehind 136 = .ok (.iload_n 3, 1) := by decide +kernel
theorem dX2_sumRestsBehind_137 : decode cX2_sumRestsBehind 137 = .ok (.iload 8, 2) := by decide +kernel
theorem dX2_sumRestsBehind_139 : decode cX2_sumRestsBehind 139 = .ok (.iastore, 1) := by decide +kernel
theorem dX2_sumRestsBehind_140 : decode cX2_sumRestsBehind 140 = .ok (.return_, 1) := by decide +kernel
theorem dX3_init_0 : decode cX3_init 0 = .ok (.aload_n 0, 1) := by decide +kernel
theorem dX3_init_1 : decode cX3_init 1 = .ok (.invokespecial 3, 3) := by decide +kernel
theorem dX3_init_4 : decode cX3_init 4 = .ok (.aload_n 0, 1) := by decide +kernel
theorem dX3_init_5 : decode cX3_init 5 = .ok (.bipush 58, 2) := by decide +kernel
theorem dX3_init_7 : decode cX3_init 7 = .ok (.newarray .long, 2) := by decide +kernel
theorem dX3_init_9 : decode cX3_init 9 = .ok (.putfield 9, 3) := by decide +kernel
theorem dX3_init_12 : decode cX3_init 12 = .ok (.return_, 1) := by decide +kernel
theorem dX3_improve_0 : decode cX3_improve 0 = .ok (.iconst 0, 1) := by decide +kernel
theorem dX3_improve_1 : decode cX3_improve 1 = .ok (.istore_n 3, 1) := by decide +kernel
theorem dX3_improve_2 : decode cX3_improve 2 = .ok (.iload_n 3, 1) := by decide +kernel
theorem dX3_improve_3 : decode cX3_improve 3 = .ok (.bipush 6, 2) := by decide +kernel
theorem dX3_improve_5 : decode cX3_improve 5 = .ok (.if_icmp .gt 45, 3) := by decide +kernel
theorem dX3_improve_8 : decode cX3_improve 8 = .ok (.iconst 0, 1) := by decide +kernel
theorem dX3_improve_9 : decode cX3_improve 9 = .ok (.istore 4, 2) := by decide +kernel
theorem dX3_improve_11 : decode cX3_improve 11 = .ok (.iload 4, 2) := by decide +kernel
theorem dX3_improve_13 : decode cX3_improve 13 = .ok (.bipush 6, 2) := by decide +kernel
theorem dX3_improve_15 : decode cX3_improve 15 = .ok (.if_icmp .ge 29, 3) := by decide +kernel
theorem dX3_improve_18 : decode cX3_improve 18 = .ok (.aload_n 0, 1) := by decide +kernel
theorem dX3_improve_19 : decode cX3_improve 19 = .ok (.getfield 9, 3) := by decide +kernel
theorem dX3_improve_22 : decode cX3_improve 22 = .ok (.iload_n 3, 1) := by decide +kernel
theorem dX3_improve_23 : decode cX3_improve 23 = .ok (.bipush 6, 2) := by decide +kernel
theorem dX3_improve_25 : decode cX3_improve 25 = .ok (.imul, 1) := by decide +kernel
theorem dX3_improve_26 : decode cX3_improve 26 = .ok (.iload 4, 2) := by decide +kernel
theorem dX3_improve_28 : decode cX3_improve 28 = .ok (.iadd, 1) := by decide +kernel
theorem dX3_improve_29 : decode cX3_improve 29 = .ok (.aload_n 2, 1) := by decide +kernel
theorem dX3_improve_30 : decode cX3_improve 30 = .ok (.aload_n 1, 1) := by decide +kernel
theorem dX3_improve_31 : decode cX3_improve 31 = .ok (.iload_n 3, 1) := by decide +kernel
theorem dX3_improve_32 : decode cX3_improve 32 = .ok (.iload 4, 2) := by decide +kernel
theorem dX3_improve_34 : decode cX3_improve 34 = .ok (.invokevirtual 15, 3) := by decide +kernel
theorem dX3_improve_37 : decode cX3_improve 37 = .ok (.lastore, 1) := by decide +kernel
theorem dX3_improve_38 : decode cX3_improve 38 = .ok (.iinc 4 1, 3) := by decide +kernel
theorem dX3_improve_41 : decode cX3_improve 41 = .ok (.goto (-30), 3) := by decide +kernel
theorem dX3_improve_44 : decode cX3_improve 44 = .ok (.iinc 3 1, 3) := by decide +kernel
theorem dX3_improve_47 : decode cX3_improve 47 = .ok (.goto (-45), 3) := by decide +kernel
theorem dX3_improve_50 : decode cX3_improve 50 = .ok (.iconst 0, 1) := by decide +kernel
theorem dX3_improve_51 : decode cX3_improve 51 = .ok (.istore_n 3, 1) := by decide +kernel
theorem dX3_improve_52 : decode cX3_improve 52 = .ok (.iload_n 3, 1) := by decide +kernel
theorem dX3_improve_53 : decode cX3_improve 53 = .ok (.iconst 4, 1) := by decide +kernel
theorem dX3_improve_54 : decode cX3_improve 54 = .ok (.if_icmp .ge 46, 3) := by decide +kernel
theorem dX3_improve_57 : decode cX3_improve 57 = .ok (.iconst 0, 1) := by decide +kernel
theorem dX3_improve_58 : decode cX3_improve 58 = .ok (.istore 4, 2) := by decide +kernel
theorem dX3_improve_60 : decode cX3_improve 60 = .ok (.iload 4, 2) := by decide +kernel
theorem dX3_improve_62 : decode cX3_improve 62 = .ok (.iconst 4, 1) := by decide +kernel
theorem dX3_improve_63 : decode cX3_improve 63 = .ok (.if_icmp .ge 31, 3) := by decide +kernel
theorem dX3_improve_66 : decode cX3_improve 66 = .ok (.aload_n 0, 1) := by decide +kernel
theorem dX3_improve_67 : decode cX3_improve 67 = .ok (.getfield 9, 3) := by decide +kernel
theorem dX3_improve_70 : decode cX3_improve 70 = .ok (.bipush 42, 2) := by decide +kernel
theorem dX3_improve_72 : decode cX3_improve 72 = .ok (.iload_n 3, 1) := by decide +kernel
theorem dX3_improve_73 : decode cX3_improve 73 = .ok (.iconst 4, 1) := by decide +kernel
theorem dX3_improve_74 : decode cX3_improve 74 = .ok (.imul, 1) := by decide +kernel
theorem dX3_improve_75 : decode cX3_improve 75 = .ok (.iadd, 1) := by decide +kernel
theorem dX3_improve_76 : decode cX3_improve 76 = .ok (.iload 4, 2) := by decide +kernel
theorem dX3_improve_78 : decode cX3_improve 78 = .ok (.iadd, 1) := by decide +kernel
theorem dX3_improve_79 : decode cX3_improve 79 = .ok (.aload_n 2, 1) := by decide +kernel
theorem dX3_improve_80 : decode cX3_improve 80 = .ok (.aload_n 1, 1) := by decide +kernel
theorem dX3_improve_81 : decode cX3_improve 81 = .ok (.iload_n 3, 1) := by decide +kernel
theorem dX3_improve_82 : decode cX3_improve 82 = .ok (.iload 4, 2) := by decide +kernel
theorem dX3_improve_84 : decode cX3_improve 84 = .ok (.invokevirtual 21, 3) := by decide +kernel
theorem dX3_improve_87 : decode cX3_improve 87 = .ok (.lastore, 1) := by decide +kernel
theorem dX3_improve_88 : decode cX3_improve 88 = .ok (.iinc 4 1, 3) := by decide +kernel
theorem dX3_improve_91 : decode cX3_improve 91 = .ok (.goto (-31), 3) := by decide +kernel
theorem dX3_improve_94 : decode cX3_improve 94 = .ok (.iinc 3 1, 3) := by decide +kernel
theorem dX3_improve_97 : decode cX3_improve 97 = .ok (.goto (-45), 3) := by decide +kernel
theorem dX3_improve_100 : decode cX3_improve 100 = .ok (.iconst 0, 1) := by decide +kernel
theorem dX3_improve_101 : decode cX3_improve 101 = .ok (.istore_n 3, 1) := by decide +kernel
theorem dX3_improve_102 : decode cX3_improve 102 = .ok (.iconst 0, 1) := by decide +kernel
theorem dX3_improve_103 : decode cX3_improve 103 = .ok (.istore 4, 2) := by decide +kernel
theorem dX3_improve_105 : decode cX3_improve 105 = .ok (.iload 4, 2) := by decide +kernel
theorem dX3_improve_107 : decode cX3_improve 107 = .ok (.bipush 6, 2) := by decide +kernel
theorem dX3_improve_109 : decode cX3_improve 109 = .ok (.if_icmp .gt 24, 3) := by decide +kernel
theorem dX3_improve_112 : decode cX3_improve 112 = .ok (.iload_n 3, 1) := by decide +kernel
theorem dX3_improve_113 : decode cX3_improve 113 = .ok (.aload_n 0, 1) := by decide +kernel
theorem dX3_improve_114 : decode cX3_improve 114 = .ok (.aload_n 1, 1) := by decide +kernel
theorem dX3_improve_115 : decode cX3_improve 115 = .ok (.iload 4, 2) := by decide +kernel
theorem dX3_improve_117 : decode cX3_improve 117 = .ok (.bipush 6, 2) := by decide +kernel
theorem dX3_improve_119 : decode cX3_improve 119 = .ok (.imul, 1) := by decide +kernel
theorem dX3_improve_120 : decode cX3_improve 120 = .ok (.bipush 6, 2) := by decide +kernel
theorem dX3_improve_122 : decode cX3_improve 122 = .ok (.invokevirtual 24, 3) := by decide +kernel
theorem dX3_improve_125 : decode cX3_improve 125 = .ok (.iadd, 1) := by decide +kernel
theorem dX3_improve_126 : decode cX3_improve 126 = .ok (.istore_n 3, 1) := by decide +kernel
theorem dX3_improve_127 : decode cX3_improve 127 = .ok (.iinc 4 1, 3) := by decide +kernel
theorem dX3_improve_130 : decode cX3_improve 130 = .ok (.goto (-25), 3) := by decide +kernel
theorem dX3_improve_133 : decode cX3_improve 133 = .ok (.iconst 0, 1) := by decide +kernel
theorem dX3_improve_134 : decode cX3_improve 134 = .ok (.istore 4, 2) := by decide +kernel
theorem dX3_improve_136 : decode cX3_improve 136 = .ok (.iload 4, 2) := by decide +kernel
theorem dX3_improve_138 : decode cX3_improve 138 = .ok (.iconst 4, 1) := by decide +kernel
theorem dX3_improve_139 : decode cX3_improve 139 = .ok (.if_icmp .ge 25, 3) := by decide +kernel
theorem dX3_improve_142 : decode cX3_improve 142 = .ok (.iload_n 3, 1) := by decide +kernel
theorem dX3_improve_143 : decode cX3_improve 143 = .ok (.aload_n 0, 1) := by decide +kernel
theorem dX3_improve_144 : decode cX3_improve 144 = .ok (.aload_n 1, 1) := by decide +kernel
theorem dX3_improve_145 : decode cX3_improve 145 = .ok (.bipush 42, 2) := by decide +kernel
theorem dX3_improve_147 : decode cX3_improve 147 = .ok (.iload 4, 2) := by decide +kernel
theorem dX3_improve_149 : decode cX3_improve 149 = .ok (.iconst 4, 1) := by decide +kernel
theorem dX3_improve_150 : decode cX3_improve 150 = .ok (.imul, 1) := by decide +kernel
theorem dX3_improve_151 : decode cX3_improve 151 = .ok (.iadd, 1) := by decide +kernel
theorem dX3_improve_152 : decode cX3_improve 152 = .ok (.iconst 4, 1) := by decide +kernel
theorem dX3_improve_153 : decode cX3_improve 153 = .ok (.invokevirtual 24, 3) := by decide +kernel
theorem dX3_improve_156 : decode cX3_improve 156 = .ok (.iadd, 1) := by decide +kernel
theorem dX3_improve_157 : decode cX3_improve 157 = .ok (.istore_n 3, 1) := by decide +kernel
theorem dX3_improve_158 : decode cX3_improve 158 = .ok (.iinc 4 1, 3) := by decide +kernel
theorem dX3_improve_161 : decode cX3_improve 161 = .ok (.goto (-25), 3) := by decide +kernel
theorem dX3_improve_164 : decode cX3_improve 164 = .ok (.iload_n 3, 1) := by decide +kernel
theorem dX3_improve_165 : decode cX3_improve 165 = .ok (.ireturn, 1) := by decide +kernel
theorem dX3_improveGroup_0 : decode cX3_improveGroup 0 = .ok (.lconst 0, 1) := by decide +kernel
theorem dX3_improveGroup_1 : decode cX3_improveGroup 1 = .ok (.lstore 4, 2) := by decide +kernel
theorem dX3_improveGroup_3 : decode cX3_improveGroup 3 = .ok (.iload_n 2, 1) := by decide +kernel
theorem dX3_improveGroup_4 : decode cX3_improveGroup 4 = .ok (.istore 6, 2) := by decide +kernel
theorem dX3_improveGroup_6 : decode cX3_improveGroup 6 = .ok (.iload 6, 2) := by decide +kernel
theorem dX3_improveGroup_8 : decode cX3_improveGroup 8 = .ok (.iload_n 2, 1) := by decide +kernel
theorem dX3_improveGroup_9 : decode cX3_improveGroup 9 = .ok (.iload_n 3, 1) := by decide +kernel
theorem dX3_improveGroup_10 : decode cX3_improveGroup 10 = .ok (.iadd, 1) := by decide +kernel
theorem dX3_improveGroup_11 : decode cX3_improveGroup 11 = .ok (.if_icmp .ge 23, 3) := by decide +kernel
theorem dX3_improveGroup_14 : decode cX3_improveGroup 14 = .ok (.lload 4, 2) := by decide +kernel
theorem dX3_improveGroup_16 : decode cX3_improveGroup 16 = .ok (.aload_n 0, 1) := by decide +kernel
theorem dX3_improveGroup_17 : decode cX3_improveGroup 17 = .ok (.getfield 9, 3) := by decide +kernel
theorem dX3_improveGroup_20 : decode cX3_improveGroup 20 = .ok (.iload 6, 2) := by decide +kernel
theorem dX3_improveGroup_22 : decode cX3_improveGroup 22 = .ok (.laload, 1) := by decide +kernel
theorem dX3_improveGroup_23 : decode cX3_improveGroup 23 = .ok (.invokestatic 28, 3) := by decide +kernel
theorem dX3_improveGroup_26 : decode cX3_improveGroup 26 = .ok (.lstore 4, 2) := by decide +kernel
theorem dX3_improveGroup_28 : decode cX3_improveGroup 28 = .ok (.iinc 6 1, 3) := by decide +kernel
theorem dX3_improveGroup_31 : decode cX3_improveGroup 31 = .ok (.goto (-25), 3) := by decide +kernel
theorem dX3_improveGroup_34 : decode cX3_improveGroup 34 = .ok (.lload 4, 2) := by decide +kernel
theorem dX3_improveGroup_36 : decode cX3_improveGroup 36 = .ok (.lconst 0, 1) := by decide +kernel
theorem dX3_improveGroup_37 : decode cX3_improveGroup 37 = .ok (.lcmp, 1) := by decide +kernel
theorem dX3_improveGroup_38 : decode cX3_improveGroup 38 = .ok (.ifCond .ne 5, 3) := by decide +kernel
theorem dX3_improveGroup_41 : decode cX3_improveGroup 41 = .ok (.iconst 0, 1) := by decide +kernel
theorem dX3_improveGroup_42 : decode cX3_improveGroup 42 = .ok (.ireturn, 1) := by decide +kernel
theorem dX3_improveGroup_43 : decode cX3_improveGroup 43 = .ok (.iconst 0, 1) := by decide +kernel
theorem dX3_improveGroup_44 : decode cX3_improveGroup 44 = .ok (.istore 6, 2) := by decide +kernel
theorem dX3_improveGroup_46 : decode cX3_improveGroup 46 = .ok (.iload_n 2, 1) := by decide +kernel
theorem dX3_improveGroup_47 : decode cX3_improveGroup 47 = .ok (.istore 7, 2) := by decide +kernel
theorem dX3_improveGroup_49 : decode cX3_improveGroup 49 = .ok (.iload 7, 2) := by decide +kernel
theorem dX3_improveGroup_51 : decode cX3_improveGroup 51 = .ok (.iload_n 2, 1) := by decide +kernel
theorem dX3_improveGroup_52 : decode cX3_improveGroup 52 = .ok (.iload_n 3, 1) := by decide +kernel
theorem dX3_improveGroup_53 : decode cX3_improveGroup 53 = .ok (.iadd, 1) := by decide +kernel
theorem dX3_improveGroup_54 : decode cX3_improveGroup 54 = .ok (.if_icmp .ge 57, 3) := by decide +kernel
theorem dX3_improveGroup_57 : decode cX3_improveGroup 57 = .ok (.ldc2_w 34, 3) := by decide +kernel
theorem dX3_improveGroup_60 : decode cX3_improveGroup 60 = .ok (.aload_n 0, 1) := by decide +kernel
theorem dX3_improveGroup_61 : decode cX3_improveGroup 61 = .ok (.getfield 9, 3) := by decide +kernel
theorem dX3_improveGroup_64 : decode cX3_improveGroup 64 = .ok (.iload 7, 2) := by decide +kernel
theorem dX3_improveGroup_66 : decode cX3_improveGroup 66 = .ok (.laload, 1) := by decide +kernel
theorem dX3_improveGroup_67 : decode cX3_improveGroup 67 = .ok (.lmul, 1) := by decide +kernel
theorem dX3_improveGroup_68 : decode cX3_improveGroup 68 = .ok (.lload 4, 2) := by decide +kernel
theorem dX3_improveGroup_70 : decode cX3_improveGroup 70 = .ok (.ladd, 1) := by decide +kernel
theorem dX3_improveGroup_71 : decode cX3_improveGroup 71 = .ok (.ldc2_w 36, 3) := by decide +kernel
theorem dX3_improveGroup_74 : decode cX3_improveGroup 74 = .ok (.lload 4, 2) := by decide +kernel
theorem dX3_improveGroup_76 : decode cX3_improveGroup 76 = .ok (.lmul, 1) := by decide +kernel
theorem dX3_improveGroup_77 : decode cX3_improveGroup 77 = .ok (.ldiv, 1) := by decide +kernel
theorem dX3_improveGroup_78 : decode cX3_improveGroup 78 = .ok (.l2i, 1) := by decide +kernel
theorem dX3_improveGroup_79 : decode cX3_improveGroup 79 = .ok (.istore 8, 2) := by decide +kernel
theorem dX3_improveGroup_81 : decode cX3_improveGroup 81 = .ok (.iload 8, 2) := by decide +kernel
theorem dX3_improveGroup_83 : decode cX3_improveGroup 83 = .ok (.aload_n 1, 1) := by decide +kernel
theorem dX3_improveGroup_84 : decode cX3_improveGroup 84 = .ok (.getfield 38, 3) := by decide +kernel
theorem dX3_improveGroup_87 : decode cX3_improveGroup 87 = .ok (.iload 7, 2) := by decide +kernel
theorem dX3_improveGroup_89 : decode cX3_improveGroup 89 = .ok (.iaload, 1) := by decide +kernel
theorem dX3_improveGroup_90 : decode cX3_improveGroup 90 = .ok (.if_icmp .eq 15, 3) := by decide +kernel
theorem dX3_improveGroup_93 : decode cX3_improveGroup 93 = .ok (.aload_n 1, 1) := by decide +kernel
theorem dX3_improveGroup_94 : decode cX3_improveGroup 94 = .ok (.getfield 38, 3) := by decide +kernel
theorem dX3_improveGroup_97 : decode cX3_improveGroup 97 = .ok (.iload 7, 2) := by decide +kernel
theorem dX3_improveGroup_99 : decode cX3_improveGroup 99 = .ok (.iload 8, 2) := by decide +kernel
theorem dX3_improveGroup_101 : decode cX3_improveGroup 101 = .ok (.iastore, 1) := by decide +kernel
theorem dX3_improveGroup_102 : decode cX3_improveGroup 102 = .ok (.iinc 6 1, 3) := by decide +kernel
theorem dX3_improveGroup_105 : decode cX3_improveGroup 105 = .ok (.iinc 7 1, 3) := by decide +kernel
theorem dX3_improveGroup_108 : decode cX3_improveGroup 108 = .ok (.goto (-59), 3) := by decide +kernel
theorem dX3_improveGroup_111 : decode cX3_improveGroup 111 = .ok (.iload 6, 2) := by decide +kernel
theorem dX3_improveGroup_113 : decode cX3_improveGroup 113 = .ok (.ireturn, 1) := by decide +kernel
theorem dX4_init_0 : decode cX4_init 0 = .ok (.aload_n 0, 1) := by decide +kernel
theorem dX4_init_1 : decode cX4_init 1 = .ok (.invokespecial 3, 3) := by decide +kernel
theorem dX4_init_4 : decode cX4_init 4 = .ok (.aload_n 0, 1) := by decide +kernel
theorem dX4_init_5 : decode cX4_init 5 = .ok (.bipush 18, 2) := by decide +kernel
theorem dX4_init_7 : decode cX4_init 7 = .ok (.newarray .int, 2) := by decide +kernel
theorem dX4_init_9 : decode cX4_init 9 = .ok (.putfield 9, 3) := by decide +kernel
theorem dX4_init_12 : decode cX4_init 12 = .ok (.aload_n 0, 1) := by decide +kernel
theorem dX4_init_13 : decode cX4_init 13 = .ok (.iconst 0, 1) := by decide +kernel
theorem dX4_init_14 : decode cX4_init 14 = .ok (.putfield 15, 3) := by decide +kernel
theorem dX4_init_17 : decode cX4_init 17 = .ok (.aload_n 0, 1) := by decide +kernel
theorem dX4_init_18 : decode cX4_init 18 = .ok (.lconst 1, 1) := by decide +kernel
theorem dX4_init_19 : decode cX4_init 19 = .ok (.putfield 19, 3) := by decide +kernel
theorem dX4_init_22 : decode cX4_init 22 = .ok (.aload_n 0, 1) := by decide +kernel
theorem dX4_init_23 : decode cX4_init 23 = .ok (.iconst 0, 1) := by decide +kernel
theorem dX4_init_24 : decode cX4_init 24 = .ok (.putfield 23, 3) := by decide +kernel
theorem dX4_init_27 : decode cX4_init 27 = .ok (.return_, 1) := by decide +kernel
theorem dX4_follow_0 : decode cX4_follow 0 = .ok (.aload_n 0, 1) := by decide +kernel
theorem dX4_follow_1 : decode cX4_follow 1 = .ok (.iconst 0, 1) := by decide +kernel
theorem dX4_follow_2 : decode cX4_follow 2 = .ok (.putfield 15, 3) := by decide +kernel
theorem dX4_follow_5 : decode cX4_follow 5 = .ok (.aload_n 0, 1) := by decide +kernel
theorem dX4_follow_6 : decode cX4_follow 6 = .ok (.lconst 1, 1) := by decide +kernel
theorem dX4_follow_7 : decode cX4_follow 7 = .ok (.putfield 19, 3) := by decide +kernel
theorem dX4_follow_10 : decode cX4_follow 10 = .ok (.iload_n 3, 1) := by decide +kernel
theorem dX4_follow_11 : decode cX4_follow 11 = .ok (.istore 4, 2) := by decide +kernel
theorem dX4_follow_13 : decode cX4_follow 13 = .ok (.bipush 6, 2) := by decide +kernel
theorem dX4_follow_15 : decode cX4_follow 15 = .ok (.istore 5, 2) := by decide +kernel
theorem dX4_follow_17 : decode cX4_follow 17 = .ok (.iconst 0, 1) := by decide +kernel
theorem dX4_follow_18 : decode cX4_follow 18 = .ok (.istore 6, 2) := by decide +kernel
theorem dX4_follow_20 : decode cX4_follow 20 = .ok (.iload 6, 2) := by decide +kernel
theorem dX4_follow_22 : decode cX4_follow 22 = .ok (.aload_n 1, 1) := by decide +kernel
theorem dX4_follow_23 : decode cX4_follow 23 = .ok (.getfield 26, 3) := by decide +kernel
theorem dX4_follow_26 : decode cX4_follow 26 = .ok (.if_icmp .ge 99, 3) := by decide +kernel
theorem dX4_follow_29 : decode cX4_follow 29 = .ok (.aload_n 0, 1) := by decide +kernel
theorem dX4_follow_30 : decode cX4_follow 30 = .ok (.getfield 15, 3) := by decide +kernel
theorem dX4_follow_33 : decode cX4_follow 33 = .ok (.bipush 18, 2) := by decide +kernel
theorem dX4_follow_35 : decode cX4_follow 35 = .ok (.if_icmp .ge 90, 3) := by decide +kernel
theorem dX4_follow_38 : decode cX4_follow 38 = .ok (.aload_n 0, 1) := by decide +kernel
theorem dX4_follow_39 : decode cX4_follow 39 = .ok (.aload_n 1, 1) := by decide +kernel
theorem dX4_follow_40 : decode cX4_follow 40 = .ok (.aload_n 2, 1) := by decide +kernel
theorem dX4_follow_41 : decode cX4_follow 41 = .ok (.iload 6, 2) := by decide +kernel
theorem dX4_follow_43 : decode cX4_follow 43 = .ok (.iload 5, 2) := by decide +kernel
theorem dX4_follow_45 : decode cX4_follow 45 = .ok (.iload 4, 2) := by decide +kernel
theorem dX4_follow_47 : decode cX4_follow 47 = .ok (.invokevirtual 31, 3) := by decide +kernel
theorem dX4_follow_50 : decode cX4_follow 50 = .ok (.istore 7, 2) := by decide +kernel
theorem dX4_follow_52 : decode cX4_follow 52 = .ok (.iload 4, 2) := by decide +kernel
theorem dX4_follow_54 : decode cX4_follow 54 = .ok (.aload_n 0, 1) := by decide +kernel
theorem dX4_follow_55 : decode cX4_follow 55 = .ok (.getfield 23, 3) := by decide +kernel
theorem dX4_follow_58 : decode cX4_follow 58 = .ok (.isub, 1) := by decide +kernel
theorem dX4_follow_59 : decode cX4_follow 59 = .ok (.istore 4, 2) := by decide +kernel
theorem dX4_follow_61 : decode cX4_follow 61 = .ok (.aload_n 0, 1) := by decide +kernel
theorem dX4_follow_62 : decode cX4_follow 62 = .ok (.dup, 1) := by decide +kernel
theorem dX4_follow_63 : decode cX4_follow 63 = .ok (.getfield 19, 3) := by decide +kernel
theorem dX4_follow_66 : decode cX4_follow 66 = .ok (.aload_n 1, 1) := by decide +kernel
theorem dX4_follow_67 : decode cX4_follow 67 = .ok (.iload 5, 2) := by decide +kernel
theorem dX4_follow_69 : decode cX4_follow 69 = .ok (.iload 7, 2) := by decide +kernel
theorem dX4_follow_71 : decode cX4_follow 71 = .ok (.iload 6, 2) := by decide +kernel
theorem dX4_follow_73 : decode cX4_follow 73 = .ok (.invokevirtual 35, 3) := by decide +kernel
theorem dX4_follow_76 : decode cX4_follow 76 = .ok (.i2l, 1) := by decide +kernel
theorem dX4_follow_77 : decode cX4_follow 77 = .ok (.lmul, 1) := by decide +kernel
theorem dX4_follow_78 : decode cX4_follow 78 = .ok (.putfield 19, 3) := by decide +kernel
theorem dX4_follow_81 : decode cX4_follow 81 = .ok (.aload_n 0, 1) := by decide +kernel
theorem dX4_follow_82 : decode cX4_follow 82 = .ok (.getfield 9, 3) := by decide +kernel
theorem dX4_follow_85 : decode cX4_follow 85 = .ok (.aload_n 0, 1) := by decide +kernel
theorem dX4_follow_86 : decode cX4_follow 86 = .ok (.getfield 15, 3) := by decide +kernel
theorem dX4_follow_89 : decode cX4_follow 89 = .ok (.iload 7, 2) := by decide +kernel
theorem dX4_follow_91 : decode cX4_follow 91 = .ok (.iastore, 1) := by decide +kernel
theorem dX4_follow_92 : decode cX4_follow 92 = .ok (.aload_n 0, 1) := by decide +kernel
theorem dX4_follow_93 : decode cX4_follow 93 = .ok (.dup, 1) := by decide +kernel
theorem dX4_follow_94 : decode cX4_follow 94 = .ok (.getfield 15, 3) := by decide +kernel
theorem dX4_follow_97 : decode cX4_follow 97 = .ok (.iconst 1, 1) := by decide +kernel
theorem dX4_follow_98 : decode cX4_follow 98 = .ok (.iadd, 1) := by decide +kernel
theorem dX4_follow_99 : decode cX4_follow 99 = .ok (.putfield 15, 3) := by decide +kernel
theorem dX4_follow_102 : decode cX4_follow 102 = .ok (.iload 6, 2) := by decide +kernel
theorem dX4_follow_104 : decode cX4_follow 104 = .ok (.iload 7, 2) := by decide +kernel
theorem dX4_follow_106 : decode cX4_follow 106 = .ok (.iconst 4, 1) := by decide +kernel
theorem dX4_follow_107 : decode cX4_follow 107 = .ok (.if_icmp .ge 7, 3) := by decide +kernel
theorem dX4_follow_110 : decode cX4_follow 110 = .ok (.iconst 1, 1) := by decide +kernel
theorem dX4_follow_111 : decode cX4_follow 111 = .ok (.goto 4, 3) := by decide +kernel
theorem dX4_follow_114 : decode cX4_follow 114 = .ok (.iconst 0, 1) := by decide +kernel
theorem dX4_follow_115 : decode cX4_follow 115 = .ok (.iadd, 1) := by decide +kernel
theorem dX4_follow_116 : decode cX4_follow 116 = .ok (.istore 6, 2) := by decide +kernel
theorem dX4_follow_118 : decode cX4_follow 118 = .ok (.iload 7, 2) := by decide +kernel
theorem dX4_follow_120 : decode cX4_follow 120 = .ok (.istore 5, 2) := by decide +kernel
theorem dX4_follow_122 : decode cX4_follow 122 = .ok (.goto (-102), 3) := by decide +kernel
theorem dX4_follow_125 : decode cX4_follow 125 = .ok (.return_, 1) := by decide +kernel
theorem dX4_findBest_0 : decode cX4_findBest 0 = .ok (.iconst 0, 1) := by decide +kernel
theorem dX4_findBest_1 : decode cX4_findBest 1 = .ok (.istore_n 3, 1) := by decide +kernel
theorem dX4_findBest_2 : decode cX4_findBest 2 = .ok (.bipush 6, 2) := by decide +kernel
theorem dX4_findBest_4 : decode cX4_findBest 4 = .ok (.istore 4, 2) := by decide +kernel
theorem dX4_findBest_6 : decode cX4_findBest 6 = .ok (.iconst 0, 1) := by decide +kernel
theorem dX4_findBest_7 : decode cX4_findBest 7 = .ok (.istore 5, 2) := by decide +kernel
theorem dX4_findBest_9 : decode cX4_findBest 9 = .ok (.iconst 0, 1) := by decide +kernel
theorem dX4_findBest_10 : decode cX4_findBest 10 = .ok (.istore 6, 2) := by decide +kernel
theorem dX4_findBest_12 : decode cX4_findBest 12 = .ok (.iload 5, 2) := by decide +kernel
theorem dX4_findBest_14 : decode cX4_findBest 14 = .ok (.aload_n 1, 1) := by decide +kernel
theorem dX4_findBest_15 : decode cX4_findBest 15 = .ok (.getfield 26, 3) := by decide +kernel
theorem dX4_findBest_18 : decode cX4_findBest 18 = .ok (.if_icmp .ge 51, 3) := by decide +kernel
theorem dX4_findBest_21 : decode cX4_findBest 21 = .ok (.iload 6, 2) := by decide +kernel
theorem dX4_findBest_23 : decode cX4_findBest 23 = .ok (.bipush 18, 2) := by decide +kernel
theorem dX4_findBest_25 : decode cX4_findBest 25 = .ok (.if_icmp .ge 44, 3) := by decide +kernel
theorem dX4_findBest_28 : decode cX4_findBest 28 = .ok (.aload_n 0, 1) := by decide +kernel
theorem dX4_findBest_29 : decode cX4_findBest 29 = .ok (.aload_n 1, 1) := by decide +kernel
theorem dX4_findBest_30 : decode cX4_findBest 30 = .ok (.aload_n 2, 1) := by decide +kernel
theorem dX4_findBest_31 : decode cX4_findBest 31 = .ok (.iload 5, 2) := by decide +kernel
theorem dX4_findBest_33 : decode cX4_findBest 33 = .ok (.iload 4, 2) := by decide +kernel
theorem dX4_findBest_35 : decode cX4_findBest 35 = .ok (.invokevirtual 39, 3) := by decide +kernel
theorem dX4_findBest_38 : decode cX4_findBest 38 = .ok (.istore 4, 2) := by decide +kernel
theorem dX4_findBest_40 : decode cX4_findBest 40 = .ok (.iload_n 3, 1) := by decide +kernel
theorem dX4_findBest_41 : decode cX4_findBest 41 = .ok (.aload_n 0, 1) := by decide +kernel
theorem dX4_findBest_42 : decode cX4_findBest 42 = .ok (.getfield 23, 3) := by decide +kernel
theorem dX4_findBest_45 : decode cX4_findBest 45 = .ok (.iadd, 1) := by decide +kernel
theorem dX4_findBest_46 : decode cX4_findBest 46 = .ok (.istore_n 3, 1) := by decide +kernel
theorem dX4_findBest_47 : decode cX4_findBest 47 = .ok (.iload 5, 2) := by decide +kernel
theorem dX4_findBest_49 : decode cX4_findBest 49 = .ok (.iload 4, 2) := by decide +kernel
theorem dX4_findBest_51 : decode cX4_findBest 51 = .ok (.iconst 4, 1) := by decide +kernel
theorem dX4_findBest_52 : decode cX4_findBest 52 = .ok (.if_icmp .ge 7, 3) := by decide +kernel
theorem dX4_findBest_55 : decode cX4_findBest 55 = .ok (.iconst 1, 1) := by decide +kernel
theorem dX4_findBest_56 : decode cX4_findBest 56 = .ok (.goto 4, 3) := by decide +kernel
theorem dX4_findBest_59 : decode cX4_findBest 59 = .ok (.iconst 0, 1) := by decide +kernel
theorem dX4_findBest_60 : decode cX4_findBest 60 = .ok (.iadd, 1) := by decide +kernel
theorem dX4_findBest_61 : decode cX4_findBest 61 = .ok (.istore 5, 2) := by decide +kernel
theorem dX4_findBest_63 : decode cX4_findBest 63 = .ok (.iinc 6 1, 3) := by decide +kernel
theorem dX4_findBest_66 : decode cX4_findBest 66 = .ok (.goto (-54), 3) := by decide +kernel
theorem dX4_findBest_69 : decode cX4_findBest 69 = .ok (.iload_n 3, 1) := by decide +kernel
theorem dX4_findBest_70 : decode cX4_findBest 70 = .ok (.ireturn, 1) := by decide +kernel
theorem dX4_tell_0 : decode cX4_tell 0 = .ok (.iload_n 1, 1) := by decide +kernel
theorem dX4_tell_1 : decode cX4_tell 1 = .ok (.iconst (-1), 1) := by decide +kernel
theorem dX4_tell_2 : decode cX4_tell 2 = .ok (.if_icmp .ne 8, 3) := by decide +kernel
theorem dX4_tell_5 : decode cX4_tell 5 = .ok (.aload_n 0, 1) := by decide +kernel
theorem dX4_tell_6 : decode cX4_tell 6 = .ok (.getfield 15, 3) := by decide +kernel
theorem dX4_tell_9 : decode cX4_tell 9 = .ok (.ireturn, 1) := by decide +kernel
theorem dX4_tell_10 : decode cX4_tell 10 = .ok (.iload_n 1, 1) := by decide +kernel
theorem dX4_tell_11 : decode cX4_tell 11 = .ok (.ifCond .lt 20, 3) := by decide +kernel
theorem dX4_tell_14 : decode cX4_tell 14 = .ok (.iload_n 1, 1) := by decide +kernel
theorem dX4_tell_15 : decode cX4_tell 15 = .ok (.aload_n 0, 1) := by decide +kernel
theorem dX4_tell_16 : decode cX4_tell 16 = .ok (.getfield 15, 3) := by decide +kernel
theorem dX4_tell_19 : decode cX4_tell 19 = .ok (.if_icmp .ge 12, 3) := by decide +kernel
theorem dX4_tell_22 : decode cX4_tell 22 = .ok (.aload_n 0, 1) := by decide +kernel
theorem dX4_tell_23 : decode cX4_tell 23 = .ok (.getfield 9, 3) := by decide +kernel
theorem dX4_tell_26 : decode cX4_tell 26 = .ok (.iload_n 1, 1) := by decide +kernel
theorem dX4_tell_27 : decode cX4_tell 27 = .ok (.iaload, 1) := by decide +kernel
theorem dX4_tell_28 : decode cX4_tell 28 = .ok (.goto 5, 3) := by decide +kernel
theorem dX4_tell_31 : decode cX4_tell 31 = .ok (.bipush (-6), 2) := by decide +kernel
theorem dX4_tell_33 : decode cX4_tell 33 = .ok (.ireturn, 1) := by decide +kernel
theorem dX4_chooseByNumber_0 : decode cX4_chooseByNumber 0 = .ok (.aload_n 0, 1) := by decide +kernel
theorem dX4_chooseByNumber_1 : decode cX4_chooseByNumber 1 = .ok (.iconst 0, 1) := by decide +kernel
theorem dX4_chooseByNumber_2 : decode cX4_chooseByNumber 2 = .ok (.putfield 23, 3) := by decide +kernel
theorem dX4_chooseByNumber_5 : decode cX4_chooseByNumber 5 = .ok (.iconst 0, 1) := by decide +kernel
theorem dX4_chooseByNumber_6 : decode cX4_chooseByNumber 6 = .ok (.istore 6, 2) := by decide +kernel
theorem dX4_chooseByNumber_8 : decode cX4_chooseByNumber 8 = .ok (.iload 6, 2) := by decide +kernel
theorem dX4_chooseByNumber_10 : decode cX4_chooseByNumber 10 = .ok (.iconst 5, 1) := by decide +kernel
theorem dX4_chooseByNumber_11 : decode cX4_chooseByNumber 11 = .ok (.if_icmp .ge 47, 3) := by decide +kernel
theorem dX4_chooseByNumber_14 : decode cX4_chooseByNumber 14 = .ok (.aload_n 1, 1) := by decide +kernel
theorem dX4_chooseByNumber_15 : decode cX4_chooseByNumber 15 = .ok (.aload_n 2, 1) := by decide +kernel
theorem dX4_chooseByNumber_16 : decode cX4_chooseByNumber 16 = .ok (.iload_n 3, 1) := by decide +kernel
theorem dX4_chooseByNumber_17 : decode cX4_chooseByNumber 17 = .ok (.iload 4, 2) := by decide +kernel
theorem dX4_chooseByNumber_19 : decode cX4_chooseByNumber 19 = .ok (.iload 6, 2) := by decide +kernel
theorem dX4_chooseByNumber_21 : decode cX4_chooseByNumber 21 = .ok (.invokestatic 43, 3) := by decide +kernel
theorem dX4_chooseByNumber_24 : decode cX4_chooseByNumber 24 = .ok (.istore 7, 2) := by decide +kernel
theorem dX4_chooseByNumber_26 : decode cX4_chooseByNumber 26 = .ok (.iload 5, 2) := by decide +kernel
theorem dX4_chooseByNumber_28 : decode cX4_chooseByNumber 28 = .ok (.aload_n 0, 1) := by decide +kernel
theorem dX4_chooseByNumber_29 : decode cX4_chooseByNumber 29 = .ok (.getfield 23, 3) := by decide +kernel
theorem dX4_chooseByNumber_32 : decode cX4_chooseByNumber 32 = .ok (.iload 7, 2) := by decide +kernel
theorem dX4_chooseByNumber_34 : decode cX4_chooseByNumber 34 = .ok (.iadd, 1) := by decide +kernel
theorem dX4_chooseByNumber_35 : decode cX4_chooseByNumber 35 = .ok (.if_icmp .ge 6, 3) := by decide +kernel
theorem dX4_chooseByNumber_38 : decode cX4_chooseByNumber 38 = .ok (.iload 6, 2) := by decide +kernel
theorem dX4_chooseByNumber_40 : decode cX4_chooseByNumber 40 = .ok (.ireturn, 1) := by decide +kernel
theorem dX4_chooseByNumber_41 : decode cX4_chooseByNumber 41 = .ok (.aload_n 0, 1) := by decide +kernel
theorem dX4_chooseByNumber_42 : decode cX4_chooseByNumber 42 = .ok (.dup, 1) := by decide +kernel
theorem dX4_chooseByNumber_43 : decode cX4_chooseByNumber 43 = .ok (.getfield 23, 3) := by decide +kernel
theorem dX4_chooseByNumber_46 : decode cX4_chooseByNumber 46 = .ok (.iload 7, 2) := by decide +kernel
theorem dX4_chooseByNumber_48 : decode cX4_chooseByNumber 48 = .ok (.iadd, 1) := by decide +kernel
theorem dX4_chooseByNumber_49 : decode cX4_chooseByNumber 49 = .ok (.putfield 23, 3) := by decide +kernel
theorem dX4_chooseByNumber_52 : decode cX4_chooseByNumber 52 = .ok (.iinc 6 1, 3) := by decide +kernel
theorem dX4_chooseByNumber_55 : decode cX4_chooseByNumber 55 = .ok (.goto (-47), 3) := by decide +kernel
theorem dX4_chooseByNumber_58 : decode cX4_chooseByNumber 58 = .ok (.iconst 5, 1) := by decide +kernel
theorem dX4_chooseByNumber_59 : decode cX4_chooseByNumber 59 = .ok (.ireturn, 1) := by decide +kernel
theorem dX4_chooseBest_0 : decode cX4_chooseBest 0 = .ok (.aload_n 0, 1) := by decide +kernel
theorem dX4_chooseBest_1 : decode cX4_chooseBest 1 = .ok (.iconst 0, 1) := by decide +kernel
theorem dX4_chooseBest_2 : decode cX4_chooseBest 2 = .ok (.putfield 23, 3) := by decide +kernel
theorem dX4_chooseBest_5 : decode cX4_chooseBest 5 = .ok (.iconst 0, 1) := by decide +kernel
theorem dX4_chooseBest_6 : decode cX4_chooseBest 6 = .ok (.istore 5, 2) := by decide +kernel
theorem dX4_chooseBest_8 : decode cX4_chooseBest 8 = .ok (.iload 5, 2) := by decide +kernel
theorem dX4_chooseBest_10 : decode cX4_chooseBest 10 = .ok (.iconst 5, 1) := by decide +kernel
theorem dX4_chooseBest_11 : decode cX4_chooseBest 11 = .ok (.if_icmp .ge 93, 3) := by decide +kernel
theorem dX4_chooseBest_14 : decode cX4_chooseBest 14 = .ok (.aload_n 1, 1) := by decide +kernel
theorem dX4_chooseBest_15 : decode cX4_chooseBest 15 = .ok (.aload_n 2, 1) := by decide +kernel
theorem dX4_chooseBest_16 : decode cX4_chooseBest 16 = .ok (.iload_n 3, 1) := by decide +kernel
theorem dX4_chooseBest_17 : decode cX4_chooseBest 17 = .ok (.iload 4, 2) := by decide +kernel
theorem dX4_chooseBest_19 : decode cX4_chooseBest 19 = .ok (.iload 5, 2) := by decide +kernel
theorem dX4_chooseBest_21 : decode cX4_chooseBest 21 = .ok (.invokestatic 43, 3) := by decide +kernel
theorem dX4_chooseBest_24 : decode cX4_chooseBest 24 = .ok (.istore 6, 2) := by decide +kernel
theorem dX4_chooseBest_26 : decode cX4_chooseBest 26 = .ok (.iload 5, 2) := by decide +kernel
theorem dX4_chooseBest_28 : decode cX4_chooseBest 28 = .ok (.iconst 4, 1) := by decide +kernel
theorem dX4_chooseBest_29 : decode cX4_chooseBest 29 = .ok (.if_icmp .ge 9, 3) := by decide +kernel
theorem dX4_chooseBest_32 : decode cX4_chooseBest 32 = .ok (.iload_n 3, 1) := by decide +kernel
theorem dX4_chooseBest_33 : decode cX4_chooseBest 33 = .ok (.iconst 1, 1) := by decide +kernel
theorem dX4_chooseBest_34 : decode cX4_chooseBest 34 = .ok (.iadd, 1) := by decide +kernel
theorem dX4_chooseBest_35 : decode cX4_chooseBest 35 = .ok (.goto 4, 3) := by decide +kernel
theorem dX4_chooseBest_38 : decode cX4_chooseBest 38 = .ok (.iload_n 3, 1) := by decide +kernel
theorem dX4_chooseBest_39 : decode cX4_chooseBest 39 = .ok (.istore 7, 2) := by decide +kernel
theorem dX4_chooseBest_41 : decode cX4_chooseBest 41 = .ok (.aload_n 1, 1) := by decide +kernel
theorem dX4_chooseBest_42 : decode cX4_chooseBest 42 = .ok (.iload 4, 2) := by decide +kernel
theorem dX4_chooseBest_44 : decode cX4_chooseBest 44 = .ok (.iload 5, 2) := by decide +kernel
theorem dX4_chooseBest_46 : decode cX4_chooseBest 46 = .ok (.iload_n 3, 1) := by decide +kernel
theorem dX4_chooseBest_47 : decode cX4_chooseBest 47 = .ok (.invokevirtual 35, 3) := by decide +kernel
theorem dX4_chooseBest_50 : decode cX4_chooseBest 50 = .ok (.i2l, 1) := by decide +kernel
theorem dX4_chooseBest_51 : decode cX4_chooseBest 51 = .ok (.aload_n 2, 1) := by decide +kernel
theorem dX4_chooseBest_52 : decode cX4_chooseBest 52 = .ok (.getfield 46, 3) := by decide +kernel
theorem dX4_chooseBest_55 : decode cX4_chooseBest 55 = .ok (.iload 7, 2) := by decide +kernel
theorem dX4_chooseBest_57 : decode cX4_chooseBest 57 = .ok (.aaload, 1) := by decide +kernel
theorem dX4_chooseBest_58 : decode cX4_chooseBest 58 = .ok (.iload 5, 2) := by decide +kernel
theorem dX4_chooseBest_60 : decode cX4_chooseBest 60 = .ok (.laload, 1) := by decide +kernel
theorem dX4_chooseBest_61 : decode cX4_chooseBest 61 = .ok (.lmul, 1) := by decide +kernel
theorem dX4_chooseBest_62 : decode cX4_chooseBest 62 = .ok (.lstore 8, 2) := by decide +kernel
theorem dX4_chooseBest_64 : decode cX4_chooseBest 64 = .ok (.iload 6, 2) := by decide +kernel
theorem dX4_chooseBest_66 : decode cX4_chooseBest 66 = .ok (.ifCond .le 21, 3) := by decide +kernel
theorem dX4_chooseBest_69 : decode cX4_chooseBest 69 = .ok (.lload 8, 2) := by decide +kernel
theorem dX4_chooseBest_71 : decode cX4_chooseBest 71 = .ok (.aload_n 2, 1) := by decide +kernel
theorem dX4_chooseBest_72 : decode cX4_chooseBest 72 = .ok (.getfield 46, 3) := by decide +kernel
theorem dX4_chooseBest_75 : decode cX4_chooseBest 75 = .ok (.iload_n 3, 1) := by decide +kernel
theorem dX4_chooseBest_76 : decode cX4_chooseBest 76 = .ok (.aaload, 1) := by decide +kernel
theorem dX4_chooseBest_77 : decode cX4_chooseBest 77 = .ok (.iload 4, 2) := by decide +kernel
theorem dX4_chooseBest_79 : decode cX4_chooseBest 79 = .ok (.laload, 1) := by decide +kernel
theorem dX4_chooseBest_80 : decode cX4_chooseBest 80 = .ok (.lcmp, 1) := by decide +kernel
theorem dX4_chooseBest_81 : decode cX4_chooseBest 81 = .ok (.ifCond .ne 6, 3) := by decide +kernel
theorem dX4_chooseBest_84 : decode cX4_chooseBest 84 = .ok (.iload 5, 2) := by decide +kernel
theorem dX4_chooseBest_86 : decode cX4_chooseBest 86 = .ok (.ireturn, 1) := by decide +kernel
theorem dX4_chooseBest_87 : decode cX4_chooseBest 87 = .ok (.aload_n 0, 1) := by decide +kernel
theorem dX4_chooseBest_88 : decode cX4_chooseBest 88 = .ok (.dup, 1) := by decide +kernel
theorem dX4_chooseBest_89 : decode cX4_chooseBest 89 = .ok (.getfield 23, 3) := by decide +kernel
theorem dX4_chooseBest_92 : decode cX4_chooseBest 92 = .ok (.iload 6, 2) := by decide +kernel
theorem dX4_chooseBest_94 : decode cX4_chooseBest 94 = .ok (.iadd, 1) := by decide +kernel
theorem dX4_chooseBest_95 : decode cX4_chooseBest 95 = .ok (.putfield 23, 3) := by decide +kernel
theorem dX4_chooseBest_98 : decode cX4_chooseBest 98 = .ok (.iinc 5 1, 3) := by decide +kernel
theorem dX4_chooseBest_101 : decode cX4_chooseBest 101 = .ok (.goto (-93), 3) := by decide +kernel
theorem dX4_chooseBest_104 : decode cX4_chooseBest 104 = .ok (.iconst 5, 1) := by decide +kernel
theorem dX4_chooseBest_105 : decode cX4_chooseBest 105 = .ok (.ireturn, 1) := by decide +kernel
theorem dX4_restsThrough_0 : decode cX4_restsThrough 0 = .ok (.iload 4, 2) := by decide +kernel
theorem dX4_restsThrough_2 : decode cX4_restsThrough 2 = .ok (.iconst 4, 1) := by decide +kernel
theorem dX4_restsThrough_3 : decode cX4_restsThrough 3 = .ok (.if_icmp .ge 9, 3) := by decide +kernel
theorem dX4_restsThrough_6 : decode cX4_restsThrough 6 = .ok (.iload_n 2, 1) := by decide +kernel
theorem dX4_restsThrough_7 : decode cX4_restsThrough 7 = .ok (.iconst 1, 1) := by decide +kernel
theorem dX4_restsThrough_8 : decode cX4_restsThrough 8 = .ok (.iadd, 1) := by decide +kernel
theorem dX4_restsThrough_9 : decode cX4_restsThrough 9 = .ok (.goto 4, 3) := by decide +kernel
theorem dX4_restsThrough_12 : decode cX4_restsThrough 12 = .ok (.iload_n 2, 1) := by decide +kernel
theorem dX4_restsThrough_13 : decode cX4_restsThrough 13 = .ok (.istore 5, 2) := by decide +kernel
theorem dX4_restsThrough_15 : decode cX4_restsThrough 15 = .ok (.aload_n 0, 1) := by decide +kernel
theorem dX4_restsThrough_16 : decode cX4_restsThrough 16 = .ok (.iload_n 3, 1) := by decide +kernel
theorem dX4_restsThrough_17 : decode cX4_restsThrough 17 = .ok (.iload 4, 2) := by decide +kernel
theorem dX4_restsThrough_19 : decode cX4_restsThrough 19 = .ok (.iload_n 2, 1) := by decide +kernel
theorem dX4_restsThrough_20 : decode cX4_restsThrough 20 = .ok (.invokevirtual 35, 3) := by decide +kernel
theorem dX4_restsThrough_23 : decode cX4_restsThrough 23 = .ok (.ifCond .le 16, 3) := by decide +kernel
theorem dX4_restsThrough_26 : decode cX4_restsThrough 26 = .ok (.aload_n 1, 1) := by decide +kernel
theorem dX4_restsThrough_27 : decode cX4_restsThrough 27 = .ok (.getfield 52, 3) := by decide +kernel
theorem dX4_restsThrough_30 : decode cX4_restsThrough 30 = .ok (.iload 5, 2) := by decide +kernel
theorem dX4_restsThrough_32 : decode cX4_restsThrough 32 = .ok (.aaload, 1) := by decide +kernel
theorem dX4_restsThrough_33 : decode cX4_restsThrough 33 = .ok (.iload 4, 2) := by decide +kernel
theorem dX4_restsThrough_35 : decode cX4_restsThrough 35 = .ok (.iaload, 1) := by decide +kernel
theorem dX4_restsThrough_36 : decode cX4_restsThrough 36 = .ok (.goto 4, 3) := by decide +kernel
theorem dX4_restsThrough_39 : decode cX4_restsThrough 39 = .ok (.iconst 0, 1) := by decide +kernel
theorem dX4_restsThrough_40 : decode cX4_restsThrough 40 = .ok (.ireturn, 1) := by decide +kernel
theorem dX5_init_0 : decode cX5_init 0 = .ok (.aload_n 0, 1) := by decide +kernel
theorem dX5_init_1 : decode cX5_init 1 = .ok (.invokespecial 3, 3) := by decide +kernel
theorem dX5_init_4 : decode cX5_init 4 = .ok (.aload_n 0, 1) := by decide +kernel
theorem dX5_init_5 : decode cX5_init 5 = .ok (.new 9, 3) := by decide +kernel
theorem dX5_init_8 : decode cX5_init 8 = .ok (.dup, 1) := by decide +kernel
theorem dX5_init_9 : decode cX5_init 9 = .ok (.invokespecial 11, 3) := by decide +kernel
theorem dX5_init_12 : decode cX5_init 12 = .ok (.putfield 12, 3) := by decide +kernel
theorem dX5_init_15 : decode cX5_init 15 = .ok (.aload_n 0, 1) := by decide +kernel
theorem dX5_init_16 : decode cX5_init 16 = .ok (.bipush 6, 2) := by decide +kernel
theorem dX5_init_18 : decode cX5_init 18 = .ok (.anewarray 9, 3) := by decide +kernel
theorem dX5_init_21 : decode cX5_init 21 = .ok (.putfield 16, 3) := by decide +kernel
theorem dX5_init_24 : decode cX5_init 24 = .ok (.aload_n 0, 1) := by decide +kernel
theorem dX5_init_25 : decode cX5_init 25 = .ok (.iconst 0, 1) := by decide +kernel
theorem dX5_init_26 : decode cX5_init 26 = .ok (.putfield 20, 3) := by decide +kernel
theorem dX5_init_29 : decode cX5_init 29 = .ok (.aload_n 0, 1) := by decide +kernel
theorem dX5_init_30 : decode cX5_init 30 = .ok (.iconst 2, 1) := by decide +kernel
theorem dX5_init_31 : decode cX5_init 31 = .ok (.anewarray 9, 3) := by decide +kernel
theorem dX5_init_34 : decode cX5_init 34 = .ok (.putfield 24, 3) := by decide +kernel
theorem dX5_init_37 : decode cX5_init 37 = .ok (.aload_n 0, 1) := by decide +kernel
theorem dX5_init_38 : decode cX5_init 38 = .ok (.new 27, 3) := by decide +kernel
theorem dX5_init_41 : decode cX5_init 41 = .ok (.dup, 1) := by decide +kernel
theorem dX5_init_42 : decode cX5_init 42 = .ok (.invokespecial 29, 3) := by decide +kernel
theorem dX5_init_45 : decode cX5_init 45 = .ok (.putfield 30, 3) := by decide +kernel
theorem dX5_init_48 : decode cX5_init 48 = .ok (.aload_n 0, 1) := by decide +kernel
theorem dX5_init_49 : decode cX5_init 49 = .ok (.new 34, 3) := by decide +kernel
theorem dX5_init_52 : decode cX5_init 52 = .ok (.dup, 1) := by decide +kernel
theorem dX5_init_53 : decode cX5_init 53 = .ok (.invokespecial 36, 3) := by decide +kernel
theorem dX5_init_56 : decode cX5_init 56 = .ok (.putfield 37, 3) := by decide +kernel
theorem dX5_init_59 : decode cX5_init 59 = .ok (.aload_n 0, 1) := by decide +kernel
theorem dX5_init_60 : decode cX5_init 60 = .ok (.new 41, 3) := by decide +kernel
theorem dX5_init_63 : decode cX5_init 63 = .ok (.dup, 1) := by decide +kernel
theorem dX5_init_64 : decode cX5_init 64 = .ok (.invokespecial 43, 3) := by decide +kernel
theorem dX5_init_67 : decode cX5_init 67 = .ok (.putfield 44, 3) := by decide +kernel
theorem dX5_init_70 : decode cX5_init 70 = .ok (.aload_n 0, 1) := by decide +kernel
theorem dX5_init_71 : decode cX5_init 71 = .ok (.new 48, 3) := by decide +kernel
theorem dX5_init_74 : decode cX5_init 74 = .ok (.dup, 1) := by decide +kernel
theorem dX5_init_75 : decode cX5_init 75 = .ok (.invokespecial 50, 3) := by decide +kernel
theorem dX5_init_78 : decode cX5_init 78 = .ok (.putfield 51, 3) := by decide +kernel
theorem dX5_init_81 : decode cX5_init 81 = .ok (.aload_n 0, 1) := by decide +kernel
theorem dX5_init_82 : decode cX5_init 82 = .ok (.getfield 12, 3) := by decide +kernel
theorem dX5_init_85 : decode cX5_init 85 = .ok (.getfield 55, 3) := by decide +kernel
theorem dX5_init_88 : decode cX5_init 88 = .ok (.bipush 36, 2) := by decide +kernel
theorem dX5_init_90 : decode cX5_init 90 = .ok (.iconst 1, 1) := by decide +kernel
theorem dX5_init_91 : decode cX5_init 91 = .ok (.iastore, 1) := by decide +kernel
theorem dX5_init_92 : decode cX5_init 92 = .ok (.aload_n 0, 1) := by decide +kernel
theorem dX5_init_93 : decode cX5_init 93 = .ok (.getfield 12, 3) := by decide +kernel
theorem dX5_init_96 : decode cX5_init 96 = .ok (.getfield 55, 3) := by decide +kernel
theorem dX5_init_99 : decode cX5_init 99 = .ok (.iconst 0, 1) := by decide +kernel
theorem dX5_init_100 : decode cX5_init 100 = .ok (.iconst 1, 1) := by decide +kernel
theorem dX5_init_101 : decode cX5_init 101 = .ok (.iastore, 1) := by decide +kernel
theorem dX5_init_102 : decode cX5_init 102 = .ok (.iconst 0, 1) := by decide +kernel
theorem dX5_init_103 : decode cX5_init 103 = .ok (.istore_n 1, 1) := by decide +kernel
theorem dX5_init_104 : decode cX5_init 104 = .ok (.iload_n 1, 1) := by decide +kernel
theorem dX5_init_105 : decode cX5_init 105 = .ok (.iconst 4, 1) := by decide +kernel
theorem dX5_init_106 : decode cX5_init 106 = .ok (.if_icmp .ge 22, 3) := by decide +kernel
theorem dX5_init_109 : decode cX5_init 109 = .ok (.aload_n 0, 1) := by decide +kernel
theorem dX5_init_110 : decode cX5_init 110 = .ok (.getfield 12, 3) := by decide +kernel
theorem dX5_init_113 : decode cX5_init 113 = .ok (.getfield 55, 3) := by decide +kernel
theorem dX5_init_116 : decode cX5_init 116 = .ok (.bipush 42, 2) := by decide +kernel
theorem dX5_init_118 : decode cX5_init 118 = .ok (.iload_n 1, 1) := by decide +kernel
theorem dX5_init_119 : decode cX5_init 119 = .ok (.iadd, 1) := by decide +kernel
theorem dX5_init_120 : decode cX5_init 120 = .ok (.iconst 1, 1) := by decide +kernel
theorem dX5_init_121 : decode cX5_init 121 = .ok (.iastore, 1) := by decide +kernel
theorem dX5_init_122 : decode cX5_init 122 = .ok (.iinc 1 1, 3) := by decide +kernel
theorem dX5_init_125 : decode cX5_init 125 = .ok (.goto (-21), 3) := by decide +kernel
theorem dX5_init_128 : decode cX5_init 128 = .ok (.iconst 0, 1) := by decide +kernel
theorem dX5_init_129 : decode cX5_init 129 = .ok (.istore_n 1, 1) := by decide +kernel
theorem dX5_init_130 : decode cX5_init 130 = .ok (.iload_n 1, 1) := by decide +kernel
theorem dX5_init_131 : decode cX5_init 131 = .ok (.bipush 6, 2) := by decide +kernel
theorem dX5_init_133 : decode cX5_init 133 = .ok (.if_icmp .ge 22, 3) := by decide +kernel
theorem dX5_init_136 : decode cX5_init 136 = .ok (.aload_n 0, 1) := by decide +kernel
theorem dX5_init_137 : decode cX5_init 137 = .ok (.getfield 16, 3) := by decide +kernel
theorem dX5_init_140 : decode cX5_init 140 = .ok (.iload_n 1, 1) := by decide +kernel
theorem dX5_init_141 : decode cX5_init 141 = .ok (.new 9, 3) := by decide +kernel
theorem dX5_init_144 : decode cX5_init 144 = .ok (.dup, 1) := by decide +kernel
theorem dX5_init_145 : decode cX5_init 145 = .ok (.invokespecial 11, 3) := by decide +kernel
theorem dX5_init_148 : decode cX5_init 148 = .ok (.aastore, 1) := by decide +kernel
theorem dX5_init_149 : decode cX5_init 149 = .ok (.iinc 1 1, 3) := by decide +kernel
theorem dX5_init_152 : decode cX5_init 152 = .ok (.goto (-22), 3) := by decide +kernel
theorem dX5_init_155 : decode cX5_init 155 = .ok (.return_, 1) := by decide +kernel
theorem dX5_give_0 : decode cX5_give 0 = .ok (.iload_n 1, 1) := by decide +kernel
theorem dX5_give_1 : decode cX5_give 1 = .ok (.invokestatic 59, 3) := by decide +kernel
theorem dX5_give_4 : decode cX5_give 4 = .ok (.ifCond .eq 14, 3) := by decide +kernel
theorem dX5_give_7 : decode cX5_give 7 = .ok (.iload 4, 2) := by decide +kernel
theorem dX5_give_9 : decode cX5_give 9 = .ok (.ifCond .lt 9, 3) := by decide +kernel
theorem dX5_give_12 : decode cX5_give 12 = .ok (.iload 4, 2) := by decide +kernel
theorem dX5_give_14 : decode cX5_give 14 = .ok (.iconst 3, 1) := by decide +kernel
theorem dX5_give_15 : decode cX5_give 15 = .ok (.if_icmp .le 6, 3) := by decide +kernel
theorem dX5_give_18 : decode cX5_give 18 = .ok (.bipush (-2), 2) := by decide +kernel
theorem dX5_give_20 : decode cX5_give 20 = .ok (.ireturn, 1) := by decide +kernel
theorem dX5_give_21 : decode cX5_give 21 = .ok (.iload_n 1, 1) := by decide +kernel
theorem dX5_give_22 : decode cX5_give 22 = .ok (.iload_n 2, 1) := by decide +kernel
theorem dX5_give_23 : decode cX5_give 23 = .ok (.iload_n 3, 1) := by decide +kernel
theorem dX5_give_24 : decode cX5_give 24 = .ok (.invokestatic 63, 3) := by decide +kernel
theorem dX5_give_27 : decode cX5_give 27 = .ok (.istore 5, 2) := by decide +kernel
theorem dX5_give_29 : decode cX5_give 29 = .ok (.iload 5, 2) := by decide +kernel
theorem dX5_give_31 : decode cX5_give 31 = .ok (.ifCond .ge 5, 3) := by decide +kernel
theorem dX5_give_34 : decode cX5_give 34 = .ok (.iconst (-1), 1) := by decide +kernel
theorem dX5_give_35 : decode cX5_give 35 = .ok (.ireturn, 1) := by decide +kernel
theorem dX5_give_36 : decode cX5_give 36 = .ok (.iload 4, 2) := by decide +kernel
theorem dX5_give_38 : decode cX5_give 38 = .ok (.ifCond .le 19, 3) := by decide +kernel
theorem dX5_give_41 : decode cX5_give 41 = .ok (.iload_n 1, 1) := by decide +kernel
theorem dX5_give_42 : decode cX5_give 42 = .ok (.iconst 1, 1) := by decide +kernel
theorem dX5_give_43 : decode cX5_give 43 = .ok (.if_icmp .ne 14, 3) := by decide +kernel
theorem dX5_give_46 : decode cX5_give 46 = .ok (.iload_n 2, 1) := by decide +kernel
theorem dX5_give_47 : decode cX5_give 47 = .ok (.iload_n 3, 1) := by decide +kernel
theorem dX5_give_48 : decode cX5_give 48 = .ok (.invokestatic 67, 3) := by decide +kernel
theorem dX5_give_51 : decode cX5_give 51 = .ok (.ifCond .eq 6, 3) := by decide +kernel
theorem dX5_give_54 : decode cX5_give 54 = .ok (.bipush (-5), 2) := by decide +kernel
theorem dX5_give_56 : decode cX5_give 56 = .ok (.ireturn, 1) := by decide +kernel
theorem dX5_give_57 : decode cX5_give 57 = .ok (.aload_n 0, 1) := by decide +kernel
theorem dX5_give_58 : decode cX5_give 58 = .ok (.invokevirtual 71, 3) := by decide +kernel
theorem dX5_give_61 : decode cX5_give 61 = .ok (.aload_n 0, 1) := by decide +kernel
theorem dX5_give_62 : decode cX5_give 62 = .ok (.getfield 12, 3) := by decide +kernel
theorem dX5_give_65 : decode cX5_give 65 = .ok (.getfield 55, 3) := by decide +kernel
theorem dX5_give_68 : decode cX5_give 68 = .ok (.iload 5, 2) := by decide +kernel
theorem dX5_give_70 : decode cX5_give 70 = .ok (.iaload, 1) := by decide +kernel
theorem dX5_give_71 : decode cX5_give 71 = .ok (.istore 6, 2) := by decide +kernel
theorem dX5_give_73 : decode cX5_give 73 = .ok (.aload_n 0, 1) := by decide +kernel
theorem dX5_give_74 : decode cX5_give 74 = .ok (.getfield 12, 3) := by decide +kernel
theorem dX5_give_77 : decode cX5_give 77 = .ok (.getfield 55, 3) := by decide +kernel
theorem dX5_give_80 : decode cX5_give 80 = .ok (.iload 5, 2) := by decide +kernel
theorem dX5_give_82 : decode cX5_give 82 = .ok (.iload 4, 2) := by decide +kernel
theorem dX5_give_84 : decode cX5_give 84 = .ok (.iastore, 1) := by decide +kernel
theorem dX5_give_85 : decode cX5_give 85 = .ok (.iload 6, 2) := by decide +kernel
theorem dX5_give_87 : decode cX5_give 87 = .ok (.ireturn, 1) := by decide +kernel
theorem dX5_weight_0 : decode cX5_weight 0 = .ok (.iload_n 1, 1) := by decide +kernel
theorem dX5_weight_1 : decode cX5_weight 1 = .ok (.invokestatic 59, 3) := by decide +kernel
theorem dX5_weight_4 : decode cX5_weight 4 = .ok (.ifCond .ne 6, 3) := by decide +kernel
theorem dX5_weight_7 : decode cX5_weight 7 = .ok (.bipush (-2), 2) := by decide +kernel
theorem dX5_weight_9 : decode cX5_weight 9 = .ok (.ireturn, 1) := by decide +kernel
theorem dX5_weight_10 : decode cX5_weight 10 = .ok (.iload_n 1, 1) := by decide +kernel
theorem dX5_weight_11 : decode cX5_weight 11 = .ok (.iload_n 2, 1) := by decide +kernel
theorem dX5_weight_12 : decode cX5_weight 12 = .ok (.iload_n 3, 1) := by decide +kernel
theorem dX5_weight_13 : decode cX5_weight 13 = .ok (.invokestatic 63, 3) := by decide +kernel
theorem dX5_weight_16 : decode cX5_weight 16 = .ok (.istore 4, 2) := by decide +kernel
theorem dX5_weight_18 : decode cX5_weight 18 = .ok (.iload 4, 2) := by decide +kernel
theorem dX5_weight_20 : decode cX5_weight 20 = .ok (.ifCond .ge 7, 3) := by decide +kernel
theorem dX5_weight_23 : decode cX5_weight 23 = .ok (.iconst (-1), 1) := by decide +kernel
theorem dX5_weight_24 : decode cX5_weight 24 = .ok (.goto 13, 3) := by decide +kernel
theorem dX5_weight_27 : decode cX5_weight 27 = .ok (.aload_n 0, 1) := by decide +kernel
theorem dX5_weight_28 : decode cX5_weight 28 = .ok (.getfield 12, 3) := by decide +kernel
theorem dX5_weight_31 : decode cX5_weight 31 = .ok (.getfield 55, 3) := by decide +kernel
theorem dX5_weight_34 : decode cX5_weight 34 = .ok (.iload 4, 2) := by decide +kernel
theorem dX5_weight_36 : decode cX5_weight 36 = .ok (.iaload, 1) := by decide +kernel
theorem dX5_weight_37 : decode cX5_weight 37 = .ok (.ireturn, 1) := by decide +kernel
theorem dX5_add_0 : decode cX5_add 0 = .ok (.iload_n 1, 1) := by decide +kernel
theorem dX5_add_1 : decode cX5_add 1 = .ok (.ifCond .lt 8, 3) := by decide +kernel
theorem dX5_add_4 : decode cX5_add 4 = .ok (.iload_n 1, 1) := by decide +kernel
theorem dX5_add_5 : decode cX5_add 5 = .ok (.iconst 4, 1) := by decide +kernel
theorem dX5_add_6 : decode cX5_add 6 = .ok (.if_icmp .lt 6, 3) := by decide +kernel
theorem dX5_add_9 : decode cX5_add 9 = .ok (.bipush (-2), 2) := by decide +kernel
theorem dX5_add_11 : decode cX5_add 11 = .ok (.ireturn, 1) := by decide +kernel
theorem dX5_add_12 : decode cX5_add 12 = .ok (.aload_n 0, 1) := by decide +kernel
theorem dX5_add_13 : decode cX5_add 13 = .ok (.getfield 12, 3) := by decide +kernel
theorem dX5_add_16 : decode cX5_add 16 = .ok (.getfield 74, 3) := by decide +kernel
theorem dX5_add_19 : decode cX5_add 19 = .ok (.bipush 6, 2) := by decide +kernel
theorem dX5_add_21 : decode cX5_add 21 = .ok (.if_icmp .lt 6, 3) := by decide +kernel
theorem dX5_add_24 : decode cX5_add 24 = .ok (.bipush (-4), 2) := by decide +kernel
theorem dX5_add_26 : decode cX5_add 26 = .ok (.ireturn, 1) := by decide +kernel
theorem dX5_add_27 : decode cX5_add 27 = .ok (.aload_n 0, 1) := by decide +kernel
theorem dX5_add_28 : decode cX5_add 28 = .ok (.invokevirtual 71, 3) := by decide +kernel
theorem dX5_add_31 : decode cX5_add 31 = .ok (.aload_n 0, 1) := by decide +kernel
theorem dX5_add_32 : decode cX5_add 32 = .ok (.getfield 12, 3) := by decide +kernel
theorem dX5_add_35 : decode cX5_add 35 = .ok (.iload_n 1, 1) := by decide +kernel
theorem dX5_add_36 : decode cX5_add 36 = .ok (.invokevirtual 77, 3) := by decide +kernel
theorem dX5_add_39 : decode cX5_add 39 = .ok (.aload_n 0, 1) := by decide +kernel
theorem dX5_add_40 : decode cX5_add 40 = .ok (.getfield 12, 3) := by decide +kernel
theorem dX5_add_43 : decode cX5_add 43 = .ok (.getfield 74, 3) := by decide +kernel
theorem dX5_add_46 : decode cX5_add 46 = .ok (.ireturn, 1) := by decide +kernel
theorem dX5_cut_0 : decode cX5_cut 0 = .ok (.aload_n 0, 1) := by decide +kernel
theorem dX5_cut_1 : decode cX5_cut 1 = .ok (.getfield 12, 3) := by decide +kernel
theorem dX5_cut_4 : decode cX5_cut 4 = .ok (.getfield 74, 3) := by decide +kernel
theorem dX5_cut_7 : decode cX5_cut 7 = .ok (.ifCond .gt 6, 3) := by decide +kernel
theorem dX5_cut_10 : decode cX5_cut 10 = .ok (.bipush (-5), 2) := by decide +kernel
theorem dX5_cut_12 : decode cX5_cut 12 = .ok (.ireturn, 1) := by decide +kernel
theorem dX5_cut_13 : decode cX5_cut 13 = .ok (.aload_n 0, 1) := by decide +kernel
theorem dX5_cut_14 : decode cX5_cut 14 = .ok (.invokevirtual 71, 3) := by decide +kernel
theorem dX5_cut_17 : decode cX5_cut 17 = .ok (.aload_n 0, 1) := by decide +kernel
theorem dX5_cut_18 : decode cX5_cut 18 = .ok (.getfield 12, 3) := by decide +kernel
theorem dX5_cut_21 : decode cX5_cut 21 = .ok (.dup, 1) := by decide +kernel
theorem dX5_cut_22 : decode cX5_cut 22 = .ok (.getfield 74, 3) := by decide +kernel
theorem dX5_cut_25 : decode cX5_cut 25 = .ok (.iconst 1, 1) := by decide +kernel
theorem dX5_cut_26 : decode cX5_cut 26 = .ok (.isub, 1) := by decide +kernel
theorem dX5_cut_27 : decode cX5_cut 27 = .ok (.putfield 74, 3) := by decide +kernel
theorem dX5_cut_30 : decode cX5_cut 30 = .ok (.aload_n 0, 1) := by decide +kernel
theorem dX5_cut_31 : decode cX5_cut 31 = .ok (.getfield 12, 3) := by decide +kernel
theorem dX5_cut_34 : decode cX5_cut 34 = .ok (.getfield 81, 3) := by decide +kernel
theorem dX5_cut_37 : decode cX5_cut 37 = .ok (.aload_n 0, 1) := by decide +kernel
theorem dX5_cut_38 : decode cX5_cut 38 = .ok (.getfield 12, 3) := by decide +kernel
theorem dX5_cut_41 : decode cX5_cut 41 = .ok (.getfield 74, 3) := by decide +kernel
theorem dX5_cut_44 : decode cX5_cut 44 = .ok (.iaload, 1) := by decide +kernel
theorem dX5_cut_45 : decode cX5_cut 45 = .ok (.ireturn, 1) := by decide +kernel
theorem dX5_letter_0 : decode cX5_letter 0 = .ok (.aload_n 0, 1) := by decide +kernel
theorem dX5_letter_1 : decode cX5_letter 1 = .ok (.getfield 12, 3) := by decide +kernel
theorem dX5_letter_4 : decode cX5_letter 4 = .ok (.iload_n 1, 1) := by decide +kernel
theorem dX5_letter_5 : decode cX5_letter 5 = .ok (.invokevirtual 84, 3) := by decide +kernel
theorem dX5_letter_8 : decode cX5_letter 8 = .ok (.ifCond .eq 15, 3) := by decide +kernel
theorem dX5_letter_11 : decode cX5_letter 11 = .ok (.aload_n 0, 1) := by decide +kernel
theorem dX5_letter_12 : decode cX5_letter 12 = .ok (.getfield 12, 3) := by decide +kernel
theorem dX5_letter_15 : decode cX5_letter 15 = .ok (.getfield 81, 3) := by decide +kernel
theorem dX5_letter_18 : decode cX5_letter 18 = .ok (.iload_n 1, 1) := by decide +kernel
theorem dX5_letter_19 : decode cX5_letter 19 = .ok (.iaload, 1) := by decide +kernel
theorem dX5_letter_20 : decode cX5_letter 20 = .ok (.goto 4, 3) := by decide +kernel
theorem dX5_letter_23 : decode cX5_letter 23 = .ok (.iconst (-1), 1) := by decide +kernel
theorem dX5_letter_24 : decode cX5_letter 24 = .ok (.ireturn, 1) := by decide +kernel
theorem dX5_train_0 : decode cX5_train 0 = .ok (.aload_n 0, 1) := by decide +kernel
theorem dX5_train_1 : decode cX5_train 1 = .ok (.getfield 12, 3) := by decide +kernel
theorem dX5_train_4 : decode cX5_train 4 = .ok (.getfield 74, 3) := by decide +kernel
theorem dX5_train_7 : decode cX5_train 7 = .ok (.ifCond .ne 6, 3) := by decide +kernel
theorem dX5_train_10 : decode cX5_train 10 = .ok (.bipush (-5), 2) := by decide +kernel
theorem dX5_train_12 : decode cX5_train 12 = .ok (.ireturn, 1) := by decide +kernel
theorem dX5_train_13 : decode cX5_train 13 = .ok (.aload_n 0, 1) := by decide +kernel
theorem dX5_train_14 : decode cX5_train 14 = .ok (.getfield 37, 3) := by decide +kernel
theorem dX5_train_17 : decode cX5_train 17 = .ok (.aload_n 0, 1) := by decide +kernel
theorem dX5_train_18 : decode cX5_train 18 = .ok (.getfield 12, 3) := by decide +kernel
theorem dX5_train_21 : decode cX5_train 21 = .ok (.invokevirtual 87, 3) := by decide +kernel
theorem dX5_train_24 : decode cX5_train 24 = .ok (.aload_n 0, 1) := by decide +kernel
theorem dX5_train_25 : decode cX5_train 25 = .ok (.getfield 37, 3) := by decide +kernel
theorem dX5_train_28 : decode cX5_train 28 = .ok (.invokevirtual 91, 3) := by decide +kernel
theorem dX5_train_31 : decode cX5_train 31 = .ok (.lconst 0, 1) := by decide +kernel
theorem dX5_train_32 : decode cX5_train 32 = .ok (.lcmp, 1) := by decide +kernel
theorem dX5_train_33 : decode cX5_train 33 = .ok (.ifCond .ne 6, 3) := by decide +kernel
theorem dX5_train_36 : decode cX5_train 36 = .ok (.bipush (-5), 2) := by decide +kernel
theorem dX5_train_38 : decode cX5_train 38 = .ok (.ireturn, 1) := by decide +kernel
theorem dX5_train_39 : decode cX5_train 39 = .ok (.aload_n 0, 1) := by decide +kernel
theorem dX5_train_40 : decode cX5_train 40 = .ok (.invokevirtual 71, 3) := by decide +kernel
theorem dX5_train_43 : decode cX5_train 43 = .ok (.aload_n 0, 1) := by decide +kernel
theorem dX5_train_44 : decode cX5_train 44 = .ok (.getfield 51, 3) := by decide +kernel
theorem dX5_train_47 : decode cX5_train 47 = .ok (.aload_n 0, 1) := by decide +kernel
theorem dX5_train_48 : decode cX5_train 48 = .ok (.getfield 12, 3) := by decide +kernel
theorem dX5_train_51 : decode cX5_train 51 = .ok (.aload_n 0, 1) := by decide +kernel
theorem dX5_train_52 : decode cX5_train 52 = .ok (.getfield 37, 3) := by decide +kernel
theorem dX5_train_55 : decode cX5_train 55 = .ok (.invokevirtual 95, 3) := by decide +kernel
theorem dX5_train_58 : decode cX5_train 58 = .ok (.ireturn, 1) := by decide +kernel
theorem dX5_total_0 : decode cX5_total 0 = .ok (.aload_n 0, 1) := by decide +kernel
theorem dX5_total_1 : decode cX5_total 1 = .ok (.getfield 37, 3) := by decide +kernel
theorem dX5_total_4 : decode cX5_total 4 = .ok (.aload_n 0, 1) := by decide +kernel
theorem dX5_total_5 : decode cX5_total 5 = .ok (.getfield 12, 3) := by decide +kernel
theorem dX5_total_8 : decode cX5_total 8 = .ok (.invokevirtual 87, 3) := by decide +kernel
theorem dX5_total_11 : decode cX5_total 11 = .ok (.aload_n 0, 1) := by decide +kernel
theorem dX5_total_12 : decode cX5_total 12 = .ok (.getfield 37, 3) := by decide +kernel
theorem dX5_total_15 : decode cX5_total 15 = .ok (.invokevirtual 91, 3) := by decide +kernel
theorem dX5_total_18 : decode cX5_total 18 = .ok (.lreturn, 1) := by decide +kernel
theorem dX5_forward_0 : decode cX5_forward 0 = .ok (.aload_n 0, 1) := by decide +kernel
theorem dX5_forward_1 : decode cX5_forward 1 = .ok (.getfield 12, 3) := by decide +kernel
theorem dX5_forward_4 : decode cX5_forward 4 = .ok (.iload_n 1, 1) := by decide +kernel
theorem dX5_forward_5 : decode cX5_forward 5 = .ok (.invokevirtual 84, 3) := by decide +kernel
theorem dX5_forward_8 : decode cX5_forward 8 = .ok (.ifCond .eq 10, 3) := by decide +kernel
theorem dX5_forward_11 : decode cX5_forward 11 = .ok (.iload_n 2, 1) := by decide +kernel
theorem dX5_forward_12 : decode cX5_forward 12 = .ok (.invokestatic 121, 3) := by decide +kernel
theorem dX5_forward_15 : decode cX5_forward 15 = .ok (.ifCond .ne 7, 3) := by decide +kernel
theorem dX5_forward_18 : decode cX5_forward 18 = .ok (.ldc2_w 124, 3) := by decide +kernel
theorem dX5_forward_21 : decode cX5_forward 21 = .ok (.lreturn, 1) := by decide +kernel
theorem dX5_forward_22 : decode cX5_forward 22 = .ok (.aload_n 0, 1) := by decide +kernel
theorem dX5_forward_23 : decode cX5_forward 23 = .ok (.getfield 37, 3) := by decide +kernel
theorem dX5_forward_26 : decode cX5_forward 26 = .ok (.aload_n 0, 1) := by decide +kernel
theorem dX5_forward_27 : decode cX5_forward 27 = .ok (.getfield 12, 3) := by decide +kernel
theorem dX5_forward_30 : decode cX5_forward 30 = .ok (.invokevirtual 87, 3) := by decide +kernel
theorem dX5_forward_33 : decode cX5_forward 33 = .ok (.aload_n 0, 1) := by decide +kernel
theorem dX5_forward_34 : decode cX5_forward 34 = .ok (.getfield 37, 3) := by decide +kernel
theorem dX5_forward_37 : decode cX5_forward 37 = .ok (.getfield 126, 3) := by decide +kernel
theorem dX5_forward_40 : decode cX5_forward 40 = .ok (.iload_n 1, 1) := by decide +kernel
theorem dX5_forward_41 : decode cX5_forward 41 = .ok (.iconst 1, 1) := by decide +kernel
theorem dX5_forward_42 : decode cX5_forward 42 = .ok (.iadd, 1) := by decide +kernel
theorem dX5_forward_43 : decode cX5_forward 43 = .ok (.aaload, 1) := by decide +kernel
theorem dX5_forward_44 : decode cX5_forward 44 = .ok (.iload_n 2, 1) := by decide +kernel
theorem dX5_forward_45 : decode cX5_forward 45 = .ok (.laload, 1) := by decide +kernel
theorem dX5_forward_46 : decode cX5_forward 46 = .ok (.lreturn, 1) := by decide +kernel
theorem dX5_backward_0 : decode cX5_backward 0 = .ok (.aload_n 0, 1) := by decide +kernel
theorem dX5_backward_1 : decode cX5_backward 1 = .ok (.getfield 12, 3) := by decide +kernel
theorem dX5_backward_4 : decode cX5_backward 4 = .ok (.iload_n 1, 1) := by decide +kernel
theorem dX5_backward_5 : decode cX5_backward 5 = .ok (.invokevirtual 84, 3) := by decide +kernel
theorem dX5_backward_8 : decode cX5_backward 8 = .ok (.ifCond .eq 10, 3) := by decide +kernel
theorem dX5_backward_11 : decode cX5_backward 11 = .ok (.iload_n 2, 1) := by decide +kernel
theorem dX5_backward_12 : decode cX5_backward 12 = .ok (.invokestatic 121, 3) := by decide +kernel
theorem dX5_backward_15 : decode cX5_backward 15 = .ok (.ifCond .ne 7, 3) := by decide +kernel
theorem dX5_backward_18 : decode cX5_backward 18 = .ok (.ldc2_w 124, 3) := by decide +kernel
theorem dX5_backward_21 : decode cX5_backward 21 = .ok (.lreturn, 1) := by decide +kernel
theorem dX5_backward_22 : decode cX5_backward 22 = .ok (.aload_n 0, 1) := by decide +kernel
theorem dX5_backward_23 : decode cX5_backward 23 = .ok (.getfield 37, 3) := by decide +kernel
theorem dX5_backward_26 : decode cX5_backward 26 = .ok (.aload_n 0, 1) := by decide +kernel
theorem dX5_backward_27 : decode cX5_backward 27 = .ok (.getfield 12, 3) := by decide +kernel
theorem dX5_backward_30 : decode cX5_backward 30 = .ok (.invokevirtual 87, 3) := by decide +kernel
theorem dX5_backward_33 : decode cX5_backward 33 = .ok (.aload_n 0, 1) := by decide +kernel
theorem dX5_backward_34 : decode cX5_backward 34 = .ok (.getfield 37, 3) := by decide +kernel
theorem dX5_backward_37 : decode cX5_backward 37 = .ok (.getfield 130, 3) := by decide +kernel
theorem dX5_backward_40 : decode cX5_backward 40 = .ok (.iload_n 1, 1) := by decide +kernel
theorem dX5_backward_41 : decode cX5_backward 41 = .ok (.iconst 1, 1) := by decide +kernel
theorem dX5_backward_42 : decode cX5_backward 42 = .ok (.iadd, 1) := by decide +kernel
theorem dX5_backward_43 : decode cX5_backward 43 = .ok (.aaload, 1) := by decide +kernel
theorem dX5_backward_44 : decode cX5_backward 44 = .ok (.iload_n 2, 1) := by decide +kernel
theorem dX5_backward_45 : decode cX5_backward 45 = .ok (.laload, 1) := by decide +kernel
theorem dX5_backward_46 : decode cX5_backward 46 = .ok (.lreturn, 1) := by decide +kernel
theorem dX5_ways_0 : decode cX5_ways 0 = .ok (.aload_n 0, 1) := by decide +kernel
theorem dX5_ways_1 : decode cX5_ways 1 = .ok (.getfield 37, 3) := by decide +kernel
theorem dX5_ways_4 : decode cX5_ways 4 = .ok (.aload_n 0, 1) := by decide +kernel
theorem dX5_ways_5 : decode cX5_ways 5 = .ok (.getfield 12, 3) := by decide +kernel
theorem dX5_ways_8 : decode cX5_ways 8 = .ok (.invokevirtual 87, 3) := by decide +kernel
theorem dX5_ways_11 : decode cX5_ways 11 = .ok (.aload_n 0, 1) := by decide +kernel
theorem dX5_ways_12 : decode cX5_ways 12 = .ok (.getfield 37, 3) := by decide +kernel
theorem dX5_ways_15 : decode cX5_ways 15 = .ok (.invokevirtual 133, 3) := by decide +kernel
theorem dX5_ways_18 : decode cX5_ways 18 = .ok (.ireturn, 1) := by decide +kernel
theorem dX5_way_0 : decode cX5_way 0 = .ok (.aload_n 0, 1) := by decide +kernel
theorem dX5_way_1 : decode cX5_way 1 = .ok (.getfield 37, 3) := by decide +kernel
theorem dX5_way_4 : decode cX5_way 4 = .ok (.aload_n 0, 1) := by decide +kernel
theorem dX5_way_5 : decode cX5_way 5 = .ok (.getfield 12, 3) := by decide +kernel
theorem dX5_way_8 : decode cX5_way 8 = .ok (.invokevirtual 87, 3) := by decide +kernel
theorem dX5_way_11 : decode cX5_way 11 = .ok (.iload_n 1, 1) := by decide +kernel
theorem dX5_way_12 : decode cX5_way 12 = .ok (.ifCond .lt 14, 3) := by decide +kernel
theorem dX5_way_15 : decode cX5_way 15 = .ok (.iload_n 1, 1) := by decide +kernel
theorem dX5_way_16 : decode cX5_way 16 = .ok (.aload_n 0, 1) := by decide +kernel
theorem dX5_way_17 : decode cX5_way 17 = .ok (.getfield 37, 3) := by decide +kernel
theorem dX5_way_20 : decode cX5_way 20 = .ok (.invokevirtual 133, 3) := by decide +kernel
theorem dX5_way_23 : decode cX5_way 23 = .ok (.if_icmp .lt 5, 3) := by decide +kernel
theorem dX5_way_26 : decode cX5_way 26 = .ok (.iconst (-1), 1) := by decide +kernel
theorem dX5_way_27 : decode cX5_way 27 = .ok (.ireturn, 1) := by decide +kernel
theorem dX5_way_28 : decode cX5_way 28 = .ok (.iload_n 2, 1) := by decide +kernel
theorem dX5_way_29 : decode cX5_way 29 = .ok (.iconst (-1), 1) := by decide +kernel
theorem dX5_way_30 : decode cX5_way 30 = .ok (.if_icmp .ge 6, 3) := by decide +kernel
theorem dX5_way_33 : decode cX5_way 33 = .ok (.bipush (-2), 2) := by decide +kernel
theorem dX5_way_35 : decode cX5_way 35 = .ok (.ireturn, 1) := by decide +kernel
theorem dX5_way_36 : decode cX5_way 36 = .ok (.aload_n 0, 1) := by decide +kernel
theorem dX5_way_37 : decode cX5_way 37 = .ok (.getfield 44, 3) := by decide +kernel
theorem dX5_way_40 : decode cX5_way 40 = .ok (.aload_n 0, 1) := by decide +kernel
theorem dX5_way_41 : decode cX5_way 41 = .ok (.getfield 12, 3) := by decide +kernel
theorem dX5_way_44 : decode cX5_way 44 = .ok (.aload_n 0, 1) := by decide +kernel
theorem dX5_way_45 : decode cX5_way 45 = .ok (.getfield 37, 3) := by decide +kernel
theorem dX5_way_48 : decode cX5_way 48 = .ok (.iload_n 1, 1) := by decide +kernel
theorem dX5_way_49 : decode cX5_way 49 = .ok (.invokevirtual 136, 3) := by decide +kernel
theorem dX5_way_52 : decode cX5_way 52 = .ok (.aload_n 0, 1) := by decide +kernel
theorem dX5_way_53 : decode cX5_way 53 = .ok (.getfield 44, 3) := by decide +kernel
theorem dX5_way_56 : decode cX5_way 56 = .ok (.iload_n 2, 1) := by decide +kernel
theorem dX5_way_57 : decode cX5_way 57 = .ok (.invokevirtual 140, 3) := by decide +kernel
theorem dX5_way_60 : decode cX5_way 60 = .ok (.ireturn, 1) := by decide +kernel
theorem dX5_weighs_0 : decode cX5_weighs 0 = .ok (.aload_n 0, 1) := by decide +kernel
theorem dX5_weighs_1 : decode cX5_weighs 1 = .ok (.getfield 37, 3) := by decide +kernel
theorem dX5_weighs_4 : decode cX5_weighs 4 = .ok (.aload_n 0, 1) := by decide +kernel
theorem dX5_weighs_5 : decode cX5_weighs 5 = .ok (.getfield 12, 3) := by decide +kernel
theorem dX5_weighs_8 : decode cX5_weighs 8 = .ok (.invokevirtual 87, 3) := by decide +kernel
theorem dX5_weighs_11 : decode cX5_weighs 11 = .ok (.iload_n 1, 1) := by decide +kernel
theorem dX5_weighs_12 : decode cX5_weighs 12 = .ok (.ifCond .lt 14, 3) := by decide +kernel
theorem dX5_weighs_15 : decode cX5_weighs 15 = .ok (.iload_n 1, 1) := by decide +kernel
theorem dX5_weighs_16 : decode cX5_weighs 16 = .ok (.aload_n 0, 1) := by decide +kernel
theorem dX5_weighs_17 : decode cX5_weighs 17 = .ok (.getfield 37, 3) := by decide +kernel
theorem dX5_weighs_20 : decode cX5_weighs 20 = .ok (.invokevirtual 133, 3) := by decide +kernel
theorem dX5_weighs_23 : decode cX5_weighs 23 = .ok (.if_icmp .lt 7, 3) := by decide +kernel
theorem dX5_weighs_26 : decode cX5_weighs 26 = .ok (.ldc2_w 124, 3) := by decide +kernel
theorem dX5_weighs_29 : decode cX5_weighs 29 = .ok (.lreturn, 1) := by decide +kernel
theorem dX5_weighs_30 : decode cX5_weighs 30 = .ok (.aload_n 0, 1) := by decide +kernel
theorem dX5_weighs_31 : decode cX5_weighs 31 = .ok (.getfield 44, 3) := by decide +kernel
theorem dX5_weighs_34 : decode cX5_weighs 34 = .ok (.aload_n 0, 1) := by decide +kernel
theorem dX5_weighs_35 : decode cX5_weighs 35 = .ok (.getfield 12, 3) := by decide +kernel
theorem dX5_weighs_38 : decode cX5_weighs 38 = .ok (.aload_n 0, 1) := by decide +kernel
theorem dX5_weighs_39 : decode cX5_weighs 39 = .ok (.getfield 37, 3) := by decide +kernel
theorem dX5_weighs_42 : decode cX5_weighs 42 = .ok (.iload_n 1, 1) := by decide +kernel
theorem dX5_weighs_43 : decode cX5_weighs 43 = .ok (.invokevirtual 136, 3) := by decide +kernel
theorem dX5_weighs_46 : decode cX5_weighs 46 = .ok (.aload_n 0, 1) := by decide +kernel
theorem dX5_weighs_47 : decode cX5_weighs 47 = .ok (.getfield 44, 3) := by decide +kernel
theorem dX5_weighs_50 : decode cX5_weighs 50 = .ok (.getfield 144, 3) := by decide +kernel
theorem dX5_weighs_53 : decode cX5_weighs 53 = .ok (.lreturn, 1) := by decide +kernel
theorem dX5_likeliest_0 : decode cX5_likeliest 0 = .ok (.iload_n 1, 1) := by decide +kernel
theorem dX5_likeliest_1 : decode cX5_likeliest 1 = .ok (.bipush (-2), 2) := by decide +kernel
theorem dX5_likeliest_3 : decode cX5_likeliest 3 = .ok (.if_icmp .ge 6, 3) := by decide +kernel
theorem dX5_likeliest_6 : decode cX5_likeliest 6 = .ok (.bipush (-2), 2) := by decide +kernel
theorem dX5_likeliest_8 : decode cX5_likeliest 8 = .ok (.ireturn, 1) := by decide +kernel
theorem dX5_likeliest_9 : decode cX5_likeliest 9 = .ok (.aload_n 0, 1) := by decide +kernel
theorem dX5_likeliest_10 : decode cX5_likeliest 10 = .ok (.getfield 37, 3) := by decide +kernel
theorem dX5_likeliest_13 : decode cX5_likeliest 13 = .ok (.aload_n 0, 1) := by decide +kernel
theorem dX5_likeliest_14 : decode cX5_likeliest 14 = .ok (.getfield 12, 3) := by decide +kernel
theorem dX5_likeliest_17 : decode cX5_likeliest 17 = .ok (.invokevirtual 87, 3) := by decide +kernel
theorem dX5_likeliest_20 : decode cX5_likeliest 20 = .ok (.aload_n 0, 1) := by decide +kernel
theorem dX5_likeliest_21 : decode cX5_likeliest 21 = .ok (.getfield 37, 3) := by decide +kernel
theorem dX5_likeliest_24 : decode cX5_likeliest 24 = .ok (.invokevirtual 91, 3) := by decide +kernel
theorem dX5_likeliest_27 : decode cX5_likeliest 27 = .ok (.lconst 0, 1) := by decide +kernel
theorem dX5_likeliest_28 : decode cX5_likeliest 28 = .ok (.lcmp, 1) := by decide +kernel
theorem dX5_likeliest_29 : decode cX5_likeliest 29 = .ok (.ifCond .ne 6, 3) := by decide +kernel
theorem dX5_likeliest_32 : decode cX5_likeliest 32 = .ok (.bipush (-5), 2) := by decide +kernel
theorem dX5_likeliest_34 : decode cX5_likeliest 34 = .ok (.ireturn, 1) := by decide +kernel
theorem dX5_likeliest_35 : decode cX5_likeliest 35 = .ok (.aload_n 0, 1) := by decide +kernel
theorem dX5_likeliest_36 : decode cX5_likeliest 36 = .ok (.getfield 44, 3) := by decide +kernel
theorem dX5_likeliest_39 : decode cX5_likeliest 39 = .ok (.aload_n 0, 1) := by decide +kernel
theorem dX5_likeliest_40 : decode cX5_likeliest 40 = .ok (.getfield 12, 3) := by decide +kernel
theorem dX5_likeliest_43 : decode cX5_likeliest 43 = .ok (.aload_n 0, 1) := by decide +kernel
theorem dX5_likeliest_44 : decode cX5_likeliest 44 = .ok (.getfield 37, 3) := by decide +kernel
theorem dX5_likeliest_47 : decode cX5_likeliest 47 = .ok (.invokevirtual 148, 3) := by decide +kernel
theorem dX5_likeliest_50 : decode cX5_likeliest 50 = .ok (.istore_n 2, 1) := by decide +kernel
theorem dX5_likeliest_51 : decode cX5_likeliest 51 = .ok (.iload_n 1, 1) := by decide +kernel
theorem dX5_likeliest_52 : decode cX5_likeliest 52 = .ok (.bipush (-2), 2) := by decide +kernel
theorem dX5_likeliest_54 : decode cX5_likeliest 54 = .ok (.if_icmp .ne 5, 3) := by decide +kernel
theorem dX5_likeliest_57 : decode cX5_likeliest 57 = .ok (.iload_n 2, 1) := by decide +kernel
theorem dX5_likeliest_58 : decode cX5_likeliest 58 = .ok (.ireturn, 1) := by decide +kernel
theorem dX5_likeliest_59 : decode cX5_likeliest 59 = .ok (.aload_n 0, 1) := by decide +kernel
theorem dX5_likeliest_60 : decode cX5_likeliest 60 = .ok (.getfield 44, 3) := by decide +kernel
theorem dX5_likeliest_63 : decode cX5_likeliest 63 = .ok (.aload_n 0, 1) := by decide +kernel
theorem dX5_likeliest_64 : decode cX5_likeliest 64 = .ok (.getfield 12, 3) := by decide +kernel
theorem dX5_likeliest_67 : decode cX5_likeliest 67 = .ok (.aload_n 0, 1) := by decide +kernel
theorem dX5_likeliest_68 : decode cX5_likeliest 68 = .ok (.getfield 37, 3) := by decide +kernel
theorem dX5_likeliest_71 : decode cX5_likeliest 71 = .ok (.iload_n 2, 1) := by decide +kernel
theorem dX5_likeliest_72 : decode cX5_likeliest 72 = .ok (.invokevirtual 136, 3) := by decide +kernel
theorem dX5_likeliest_75 : decode cX5_likeliest 75 = .ok (.aload_n 0, 1) := by decide +kernel
theorem dX5_likeliest_76 : decode cX5_likeliest 76 = .ok (.getfield 44, 3) := by decide +kernel
theorem dX5_likeliest_79 : decode cX5_likeliest 79 = .ok (.iload_n 1, 1) := by decide +kernel
theorem dX5_likeliest_80 : decode cX5_likeliest 80 = .ok (.invokevirtual 140, 3) := by decide +kernel
theorem dX5_likeliest_83 : decode cX5_likeliest 83 = .ok (.ireturn, 1) := by decide +kernel
theorem dX5_odds_0 : decode cX5_odds 0 = .ok (.aload_n 0, 1) := by decide +kernel
theorem dX5_odds_1 : decode cX5_odds 1 = .ok (.getfield 12, 3) := by decide +kernel
theorem dX5_odds_4 : decode cX5_odds 4 = .ok (.iload_n 1, 1) := by decide +kernel
theorem dX5_odds_5 : decode cX5_odds 5 = .ok (.invokevirtual 84, 3) := by decide +kernel
theorem dX5_odds_8 : decode cX5_odds 8 = .ok (.ifCond .eq 10, 3) := by decide +kernel
theorem dX5_odds_11 : decode cX5_odds 11 = .ok (.iload_n 2, 1) := by decide +kernel
theorem dX5_odds_12 : decode cX5_odds 12 = .ok (.invokestatic 121, 3) := by decide +kernel
theorem dX5_odds_15 : decode cX5_odds 15 = .ok (.ifCond .ne 7, 3) := by decide +kernel
theorem dX5_odds_18 : decode cX5_odds 18 = .ok (.ldc2_w 124, 3) := by decide +kernel
theorem dX5_odds_21 : decode cX5_odds 21 = .ok (.lreturn, 1) := by decide +kernel
theorem dX5_odds_22 : decode cX5_odds 22 = .ok (.iload_n 3, 1) := by decide +kernel
theorem dX5_odds_23 : decode cX5_odds 23 = .ok (.invokestatic 151, 3) := by decide +kernel
theorem dX5_odds_26 : decode cX5_odds 26 = .ok (.ifCond .ne 7, 3) := by decide +kernel
theorem dX5_odds_29 : decode cX5_odds 29 = .ok (.ldc2_w 154, 3) := by decide +kernel
theorem dX5_odds_32 : decode cX5_odds 32 = .ok (.lreturn, 1) := by decide +kernel
theorem dX5_odds_33 : decode cX5_odds 33 = .ok (.aload_n 0, 1) := by decide +kernel
theorem dX5_odds_34 : decode cX5_odds 34 = .ok (.getfield 37, 3) := by decide +kernel
theorem dX5_odds_37 : decode cX5_odds 37 = .ok (.aload_n 0, 1) := by decide +kernel
theorem dX5_odds_38 : decode cX5_odds 38 = .ok (.getfield 12, 3) := by decide +kernel
theorem dX5_odds_41 : decode cX5_odds 41 = .ok (.invokevirtual 87, 3) := by decide +kernel
theorem dX5_odds_44 : decode cX5_odds 44 = .ok (.aload_n 0, 1) := by decide +kernel
theorem dX5_odds_45 : decode cX5_odds 45 = .ok (.getfield 37, 3) := by decide +kernel
theorem dX5_odds_48 : decode cX5_odds 48 = .ok (.invokevirtual 91, 3) := by decide +kernel
theorem dX5_odds_51 : decode cX5_odds 51 = .ok (.lconst 0, 1) := by decide +kernel
theorem dX5_odds_52 : decode cX5_odds 52 = .ok (.lcmp, 1) := by decide +kernel
theorem dX5_odds_53 : decode cX5_odds 53 = .ok (.ifCond .ne 7, 3) := by decide +kernel
theorem dX5_odds_56 : decode cX5_odds 56 = .ok (.ldc2_w 156, 3) := by decide +kernel
theorem dX5_odds_59 : decode cX5_odds 59 = .ok (.lreturn, 1) := by decide +kernel
theorem dX5_odds_60 : decode cX5_odds 60 = .ok (.aload_n 0, 1) := by decide +kernel
theorem dX5_odds_61 : decode cX5_odds 61 = .ok (.getfield 37, 3) := by decide +kernel
theorem dX5_odds_64 : decode cX5_odds 64 = .ok (.iload_n 1, 1) := by decide +kernel
theorem dX5_odds_65 : decode cX5_odds 65 = .ok (.iload_n 2, 1) := by decide +kernel
theorem dX5_odds_66 : decode cX5_odds 66 = .ok (.invokevirtual 158, 3) := by decide +kernel
theorem dX5_odds_69 : decode cX5_odds 69 = .ok (.aload_n 0, 1) := by decide +kernel
theorem dX5_odds_70 : decode cX5_odds 70 = .ok (.getfield 37, 3) := by decide +kernel
theorem dX5_odds_73 : decode cX5_odds 73 = .ok (.invokevirtual 91, 3) := by decide +kernel
theorem dX5_odds_76 : decode cX5_odds 76 = .ok (.iload_n 3, 1) := by decide +kernel
theorem dX5_odds_77 : decode cX5_odds 77 = .ok (.invokestatic 162, 3) := by decide +kernel
theorem dX5_odds_80 : decode cX5_odds 80 = .ok (.lreturn, 1) := by decide +kernel
theorem dX5_likelyAt_0 : decode cX5_likelyAt 0 = .ok (.aload_n 0, 1) := by decide +kernel
theorem dX5_likelyAt_1 : decode cX5_likelyAt 1 = .ok (.getfield 12, 3) := by decide +kernel
theorem dX5_likelyAt_4 : decode cX5_likelyAt 4 = .ok (.iload_n 1, 1) := by decide +kernel
theorem dX5_likelyAt_5 : decode cX5_likelyAt 5 = .ok (.invokevirtual 84, 3) := by decide +kernel
theorem dX5_likelyAt_8 : decode cX5_likelyAt 8 = .ok (.ifCond .ne 5, 3) := by decide +kernel
theorem dX5_likelyAt_11 : decode cX5_likelyAt 11 = .ok (.iconst (-1), 1) := by decide +kernel
theorem dX5_likelyAt_12 : decode cX5_likelyAt 12 = .ok (.ireturn, 1) := by decide +kernel
theorem dX5_likelyAt_13 : decode cX5_likelyAt 13 = .ok (.aload_n 0, 1) := by decide +kernel
theorem dX5_likelyAt_14 : decode cX5_likelyAt 14 = .ok (.getfield 37, 3) := by decide +kernel
theorem dX5_likelyAt_17 : decode cX5_likelyAt 17 = .ok (.aload_n 0, 1) := by decide +kernel
theorem dX5_likelyAt_18 : decode cX5_likelyAt 18 = .ok (.getfield 12, 3) := by decide +kernel
theorem dX5_likelyAt_21 : decode cX5_likelyAt 21 = .ok (.invokevirtual 87, 3) := by decide +kernel
theorem dX5_likelyAt_24 : decode cX5_likelyAt 24 = .ok (.aload_n 0, 1) := by decide +kernel
theorem dX5_likelyAt_25 : decode cX5_likelyAt 25 = .ok (.getfield 37, 3) := by decide +kernel
theorem dX5_likelyAt_28 : decode cX5_likelyAt 28 = .ok (.invokevirtual 91, 3) := by decide +kernel
theorem dX5_likelyAt_31 : decode cX5_likelyAt 31 = .ok (.lconst 0, 1) := by decide +kernel
theorem dX5_likelyAt_32 : decode cX5_likelyAt 32 = .ok (.lcmp, 1) := by decide +kernel
theorem dX5_likelyAt_33 : decode cX5_likelyAt 33 = .ok (.ifCond .ne 6, 3) := by decide +kernel
theorem dX5_likelyAt_36 : decode cX5_likelyAt 36 = .ok (.bipush (-5), 2) := by decide +kernel
theorem dX5_likelyAt_38 : decode cX5_likelyAt 38 = .ok (.ireturn, 1) := by decide +kernel
theorem dX5_likelyAt_39 : decode cX5_likelyAt 39 = .ok (.iconst 0, 1) := by decide +kernel
theorem dX5_likelyAt_40 : decode cX5_likelyAt 40 = .ok (.istore_n 2, 1) := by decide +kernel
theorem dX5_likelyAt_41 : decode cX5_likelyAt 41 = .ok (.iconst 1, 1) := by decide +kernel
theorem dX5_likelyAt_42 : decode cX5_likelyAt 42 = .ok (.istore_n 3, 1) := by decide +kernel
theorem dX5_likelyAt_43 : decode cX5_likelyAt 43 = .ok (.iload_n 3, 1) := by decide +kernel
theorem dX5_likelyAt_44 : decode cX5_likelyAt 44 = .ok (.iconst 4, 1) := by decide +kernel
theorem dX5_likelyAt_45 : decode cX5_likelyAt 45 = .ok (.if_icmp .ge 33, 3) := by decide +kernel
theorem dX5_likelyAt_48 : decode cX5_likelyAt 48 = .ok (.aload_n 0, 1) := by decide +kernel
theorem dX5_likelyAt_49 : decode cX5_likelyAt 49 = .ok (.getfield 37, 3) := by decide +kernel
theorem dX5_likelyAt_52 : decode cX5_likelyAt 52 = .ok (.iload_n 1, 1) := by decide +kernel
theorem dX5_likelyAt_53 : decode cX5_likelyAt 53 = .ok (.iload_n 3, 1) := by decide +kernel
theorem dX5_likelyAt_54 : decode cX5_likelyAt 54 = .ok (.invokevirtual 158, 3) := by decide +kernel
theorem dX5_likelyAt_57 : decode cX5_likelyAt 57 = .ok (.aload_n 0, 1) := by decide +kernel
theorem dX5_likelyAt_58 : decode cX5_likelyAt 58 = .ok (.getfield 37, 3) := by decide +kernel
theorem dX5_likelyAt_61 : decode cX5_likelyAt 61 = .ok (.iload_n 1, 1) := by decide +kernel
theorem dX5_likelyAt_62 : decode cX5_likelyAt 62 = .ok (.iload_n 2, 1) := by decide +kernel
theorem dX5_likelyAt_63 : decode cX5_likelyAt 63 = .ok (.invokevirtual 158, 3) := by decide +kernel
theorem dX5_likelyAt_66 : decode cX5_likelyAt 66 = .ok (.lcmp, 1) := by decide +kernel
theorem dX5_likelyAt_67 : decode cX5_likelyAt 67 = .ok (.ifCond .le 5, 3) := by decide +kernel
theorem dX5_likelyAt_70 : decode cX5_likelyAt 70 = .ok (.iload_n 3, 1) := by decide +kernel
theorem dX5_likelyAt_71 : decode cX5_likelyAt 71 = .ok (.istore_n 2, 1) := by decide +kernel
theorem dX5_likelyAt_72 : decode cX5_likelyAt 72 = .ok (.iinc 3 1, 3) := by decide +kernel
theorem dX5_likelyAt_75 : decode cX5_likelyAt 75 = .ok (.goto (-32), 3) := by decide +kernel
theorem dX5_likelyAt_78 : decode cX5_likelyAt 78 = .ok (.iload_n 2, 1) := by decide +kernel
theorem dX5_likelyAt_79 : decode cX5_likelyAt 79 = .ok (.ireturn, 1) := by decide +kernel
theorem dX5_expected_0 : decode cX5_expected 0 = .ok (.iload_n 1, 1) := by decide +kernel
theorem dX5_expected_1 : decode cX5_expected 1 = .ok (.invokestatic 59, 3) := by decide +kernel
theorem dX5_expected_4 : decode cX5_expected 4 = .ok (.ifCond .eq 11, 3) := by decide +kernel
theorem dX5_expected_7 : decode cX5_expected 7 = .ok (.iload 4, 2) := by decide +kernel
theorem dX5_expected_9 : decode cX5_expected 9 = .ok (.invokestatic 151, 3) := by decide +kernel
theorem dX5_expected_12 : decode cX5_expected 12 = .ok (.ifCond .ne 7, 3) := by decide +kernel
theorem dX5_expected_15 : decode cX5_expected 15 = .ok (.ldc2_w 154, 3) := by decide +kernel
theorem dX5_expected_18 : decode cX5_expected 18 = .ok (.lreturn, 1) := by decide +kernel
theorem dX5_expected_19 : decode cX5_expected 19 = .ok (.iload_n 1, 1) := by decide +kernel
theorem dX5_expected_20 : decode cX5_expected 20 = .ok (.iload_n 2, 1) := by decide +kernel
theorem dX5_expected_21 : decode cX5_expected 21 = .ok (.iload_n 3, 1) := by decide +kernel
theorem dX5_expected_22 : decode cX5_expected 22 = .ok (.invokestatic 63, 3) := by decide +kernel
theorem dX5_expected_25 : decode cX5_expected 25 = .ok (.ifCond .ge 7, 3) := by decide +kernel
theorem dX5_expected_28 : decode cX5_expected 28 = .ok (.ldc2_w 124, 3) := by decide +kernel
theorem dX5_expected_31 : decode cX5_expected 31 = .ok (.lreturn, 1) := by decide +kernel
theorem dX5_expected_32 : decode cX5_expected 32 = .ok (.aload_n 0, 1) := by decide +kernel
theorem dX5_expected_33 : decode cX5_expected 33 = .ok (.getfield 37, 3) := by decide +kernel
theorem dX5_expected_36 : decode cX5_expected 36 = .ok (.aload_n 0, 1) := by decide +kernel
theorem dX5_expected_37 : decode cX5_expected 37 = .ok (.getfield 12, 3) := by decide +kernel
theorem dX5_expected_40 : decode cX5_expected 40 = .ok (.invokevirtual 87, 3) := by decide +kernel
theorem dX5_expected_43 : decode cX5_expected 43 = .ok (.aload_n 0, 1) := by decide +kernel
theorem dX5_expected_44 : decode cX5_expected 44 = .ok (.getfield 37, 3) := by decide +kernel
theorem dX5_expected_47 : decode cX5_expected 47 = .ok (.invokevirtual 91, 3) := by decide +kernel
theorem dX5_expected_50 : decode cX5_expected 50 = .ok (.lconst 0, 1) := by decide +kernel
theorem dX5_expected_51 : decode cX5_expected 51 = .ok (.lcmp, 1) := by decide +kernel
theorem dX5_expected_52 : decode cX5_expected 52 = .ok (.ifCond .ne 7, 3) := by decide +kernel
theorem dX5_expected_55 : decode cX5_expected 55 = .ok (.ldc2_w 156, 3) := by decide +kernel
theorem dX5_expected_58 : decode cX5_expected 58 = .ok (.lreturn, 1) := by decide +kernel
theorem dX5_expected_59 : decode cX5_expected 59 = .ok (.iload_n 1, 1) := by decide +kernel
theorem dX5_expected_60 : decode cX5_expected 60 = .ok (.iconst 2, 1) := by decide +kernel
theorem dX5_expected_61 : decode cX5_expected 61 = .ok (.if_icmp .ne 21, 3) := by decide +kernel
theorem dX5_expected_64 : decode cX5_expected 64 = .ok (.aload_n 0, 1) := by decide +kernel
theorem dX5_expected_65 : decode cX5_expected 65 = .ok (.getfield 37, 3) := by decide +kernel
theorem dX5_expected_68 : decode cX5_expected 68 = .ok (.aload_n 0, 1) := by decide +kernel
theorem dX5_expected_69 : decode cX5_expected 69 = .ok (.getfield 12, 3) := by decide +kernel
theorem dX5_expected_72 : decode cX5_expected 72 = .ok (.iload_n 2, 1) := by decide +kernel
theorem dX5_expected_73 : decode cX5_expected 73 = .ok (.iload_n 3, 1) := by decide +kernel
theorem dX5_expected_74 : decode cX5_expected 74 = .ok (.invokevirtual 166, 3) := by decide +kernel
theorem dX5_expected_77 : decode cX5_expected 77 = .ok (.lstore 5, 2) := by decide +kernel
theorem dX5_expected_79 : decode cX5_expected 79 = .ok (.goto 42, 3) := by decide +kernel
theorem dX5_expected_82 : decode cX5_expected 82 = .ok (.iload_n 1, 1) := by decide +kernel
theorem dX5_expected_83 : decode cX5_expected 83 = .ok (.iconst 1, 1) := by decide +kernel
theorem dX5_expected_84 : decode cX5_expected 84 = .ok (.if_icmp .ne 21, 3) := by decide +kernel
theorem dX5_expected_87 : decode cX5_expected 87 = .ok (.aload_n 0, 1) := by decide +kernel
theorem dX5_expected_88 : decode cX5_expected 88 = .ok (.getfield 37, 3) := by decide +kernel
theorem dX5_expected_91 : decode cX5_expected 91 = .ok (.aload_n 0, 1) := by decide +kernel
theorem dX5_expected_92 : decode cX5_expected 92 = .ok (.getfield 12, 3) := by decide +kernel
theorem dX5_expected_95 : decode cX5_expected 95 = .ok (.iload_n 2, 1) := by decide +kernel
theorem dX5_expected_96 : decode cX5_expected 96 = .ok (.iload_n 3, 1) := by decide +kernel
theorem dX5_expected_97 : decode cX5_expected 97 = .ok (.invokevirtual 170, 3) := by decide +kernel
theorem dX5_expected_100 : decode cX5_expected 100 = .ok (.lstore 5, 2) := by decide +kernel
theorem dX5_expected_102 : decode cX5_expected 102 = .ok (.goto 19, 3) := by decide +kernel
theorem dX5_expected_105 : decode cX5_expected 105 = .ok (.aload_n 0, 1) := by decide +kernel
theorem dX5_expected_106 : decode cX5_expected 106 = .ok (.getfield 37, 3) := by decide +kernel
theorem dX5_expected_109 : decode cX5_expected 109 = .ok (.aload_n 0, 1) := by decide +kernel
theorem dX5_expected_110 : decode cX5_expected 110 = .ok (.getfield 12, 3) := by decide +kernel
theorem dX5_expected_113 : decode cX5_expected 113 = .ok (.bipush 6, 2) := by decide +kernel
theorem dX5_expected_115 : decode cX5_expected 115 = .ok (.iload_n 2, 1) := by decide +kernel
theorem dX5_expected_116 : decode cX5_expected 116 = .ok (.invokevirtual 170, 3) := by decide +kernel
theorem dX5_expected_119 : decode cX5_expected 119 = .ok (.lstore 5, 2) := by decide +kernel
theorem dX5_expected_121 : decode cX5_expected 121 = .ok (.lload 5, 2) := by decide +kernel
theorem dX5_expected_123 : decode cX5_expected 123 = .ok (.aload_n 0, 1) := by decide +kernel
theorem dX5_expected_124 : decode cX5_expected 124 = .ok (.getfield 37, 3) := by decide +kernel
theorem dX5_expected_127 : decode cX5_expected 127 = .ok (.invokevirtual 91, 3) := by decide +kernel
theorem dX5_expected_130 : decode cX5_expected 130 = .ok (.iload 4, 2) := by decide +kernel
theorem dX5_expected_132 : decode cX5_expected 132 = .ok (.invokestatic 162, 3) := by decide +kernel
theorem dX5_expected_135 : decode cX5_expected 135 = .ok (.lreturn, 1) := by decide +kernel
theorem dX5_shareBits_0 : decode cX5_shareBits 0 = .ok (.aload_n 0, 1) := by decide +kernel
theorem dX5_shareBits_1 : decode cX5_shareBits 1 = .ok (.getfield 37, 3) := by decide +kernel
theorem dX5_shareBits_4 : decode cX5_shareBits 4 = .ok (.aload_n 0, 1) := by decide +kernel
theorem dX5_shareBits_5 : decode cX5_shareBits 5 = .ok (.getfield 12, 3) := by decide +kernel
theorem dX5_shareBits_8 : decode cX5_shareBits 8 = .ok (.invokevirtual 87, 3) := by decide +kernel
theorem dX5_shareBits_11 : decode cX5_shareBits 11 = .ok (.aload_n 0, 1) := by decide +kernel
theorem dX5_shareBits_12 : decode cX5_shareBits 12 = .ok (.getfield 37, 3) := by decide +kernel
theorem dX5_shareBits_15 : decode cX5_shareBits 15 = .ok (.invokevirtual 91, 3) := by decide +kernel
theorem dX5_shareBits_18 : decode cX5_shareBits 18 = .ok (.lconst 0, 1) := by decide +kernel
theorem dX5_shareBits_19 : decode cX5_shareBits 19 = .ok (.lcmp, 1) := by decide +kernel
theorem dX5_shareBits_20 : decode cX5_shareBits 20 = .ok (.ifCond .ne 6, 3) := by decide +kernel
theorem dX5_shareBits_23 : decode cX5_shareBits 23 = .ok (.bipush (-5), 2) := by decide +kernel
theorem dX5_shareBits_25 : decode cX5_shareBits 25 = .ok (.ireturn, 1) := by decide +kernel
theorem dX5_shareBits_26 : decode cX5_shareBits 26 = .ok (.aload_n 0, 1) := by decide +kernel
theorem dX5_shareBits_27 : decode cX5_shareBits 27 = .ok (.getfield 37, 3) := by decide +kernel
theorem dX5_shareBits_30 : decode cX5_shareBits 30 = .ok (.invokevirtual 173, 3) := by decide +kernel
theorem dX5_shareBits_33 : decode cX5_shareBits 33 = .ok (.l2d, 1) := by decide +kernel
theorem dX5_shareBits_34 : decode cX5_shareBits 34 = .ok (.aload_n 0, 1) := by decide +kernel
theorem dX5_shareBits_35 : decode cX5_shareBits 35 = .ok (.getfield 37, 3) := by decide +kernel
theorem dX5_shareBits_38 : decode cX5_shareBits 38 = .ok (.invokevirtual 91, 3) := by decide +kernel
theorem dX5_shareBits_41 : decode cX5_shareBits 41 = .ok (.l2d, 1) := by decide +kernel
theorem dX5_shareBits_42 : decode cX5_shareBits 42 = .ok (.ddiv, 1) := by decide +kernel
theorem dX5_shareBits_43 : decode cX5_shareBits 43 = .ok (.dstore_n 1, 1) := by decide +kernel
theorem dX5_shareBits_44 : decode cX5_shareBits 44 = .ok (.dload_n 1, 1) := by decide +kernel
theorem dX5_shareBits_45 : decode cX5_shareBits 45 = .ok (.d2f, 1) := by decide +kernel
theorem dX5_shareBits_46 : decode cX5_shareBits 46 = .ok (.invokestatic 176, 3) := by decide +kernel
theorem dX5_shareBits_49 : decode cX5_shareBits 49 = .ok (.ireturn, 1) := by decide +kernel
theorem dX5_count_0 : decode cX5_count 0 = .ok (.iload_n 1, 1) := by decide +kernel
theorem dX5_count_1 : decode cX5_count 1 = .ok (.tableswitch 60 0 3 #[31, 39, 47, 55], 31) := by decide +kernel
theorem dX5_count_32 : decode cX5_count 32 = .ok (.aload_n 0, 1) := by decide +kernel
theorem dX5_count_33 : decode cX5_count 33 = .ok (.getfield 12, 3) := by decide +kernel
theorem dX5_count_36 : decode cX5_count 36 = .ok (.getfield 74, 3) := by decide +kernel
theorem dX5_count_39 : decode cX5_count 39 = .ok (.ireturn, 1) := by decide +kernel
theorem dX5_count_40 : decode cX5_count 40 = .ok (.aload_n 0, 1) := by decide +kernel
theorem dX5_count_41 : decode cX5_count 41 = .ok (.getfield 12, 3) := by decide +kernel
theorem dX5_count_44 : decode cX5_count 44 = .ok (.invokevirtual 189, 3) := by decide +kernel
theorem dX5_count_47 : decode cX5_count 47 = .ok (.ireturn, 1) := by decide +kernel
theorem dX5_count_48 : decode cX5_count 48 = .ok (.aload_n 0, 1) := by decide +kernel
theorem dX5_count_49 : decode cX5_count 49 = .ok (.getfield 30, 3) := by decide +kernel
theorem dX5_count_52 : decode cX5_count 52 = .ok (.getfield 103, 3) := by decide +kernel
theorem dX5_count_55 : decode cX5_count 55 = .ok (.ireturn, 1) := by decide +kernel
theorem dX5_count_56 : decode cX5_count 56 = .ok (.aload_n 0, 1) := by decide +kernel
theorem dX5_count_57 : decode cX5_count 57 = .ok (.getfield 20, 3) := by decide +kernel
theorem dX5_count_60 : decode cX5_count 60 = .ok (.ireturn, 1) := by decide +kernel
theorem dX5_count_61 : decode cX5_count 61 = .ok (.bipush (-2), 2) := by decide +kernel
theorem dX5_count_63 : decode cX5_count 63 = .ok (.ireturn, 1) := by decide +kernel
theorem dX5_remember_0 : decode cX5_remember 0 = .ok (.aload_n 0, 1) := by decide +kernel
theorem dX5_remember_1 : decode cX5_remember 1 = .ok (.getfield 20, 3) := by decide +kernel
theorem dX5_remember_4 : decode cX5_remember 4 = .ok (.bipush 6, 2) := by decide +kernel
theorem dX5_remember_6 : decode cX5_remember 6 = .ok (.if_icmp .lt 50, 3) := by decide +kernel
theorem dX5_remember_9 : decode cX5_remember 9 = .ok (.aload_n 0, 1) := by decide +kernel
theorem dX5_remember_10 : decode cX5_remember 10 = .ok (.getfield 16, 3) := by decide +kernel
theorem dX5_remember_13 : decode cX5_remember 13 = .ok (.iconst 0, 1) := by decide +kernel
theorem dX5_remember_14 : decode cX5_remember 14 = .ok (.aaload, 1) := by decide +kernel
theorem dX5_remember_15 : decode cX5_remember 15 = .ok (.astore_n 1, 1) := by decide +kernel
theorem dX5_remember_16 : decode cX5_remember 16 = .ok (.iconst 1, 1) := by decide +kernel
theorem dX5_remember_17 : decode cX5_remember 17 = .ok (.istore_n 2, 1) := by decide +kernel
theorem dX5_remember_18 : decode cX5_remember 18 = .ok (.iload_n 2, 1) := by decide +kernel
theorem dX5_remember_19 : decode cX5_remember 19 = .ok (.bipush 6, 2) := by decide +kernel
theorem dX5_remember_21 : decode cX5_remember 21 = .ok (.if_icmp .ge 23, 3) := by decide +kernel
theorem dX5_remember_24 : decode cX5_remember 24 = .ok (.aload_n 0, 1) := by decide +kernel
theorem dX5_remember_25 : decode cX5_remember 25 = .ok (.getfield 16, 3) := by decide +kernel
theorem dX5_remember_28 : decode cX5_remember 28 = .ok (.iload_n 2, 1) := by decide +kernel
theorem dX5_remember_29 : decode cX5_remember 29 = .ok (.iconst 1, 1) := by decide +kernel
theorem dX5_remember_30 : decode cX5_remember 30 = .ok (.isub, 1) := by decide +kernel
theorem dX5_remember_31 : decode cX5_remember 31 = .ok (.aload_n 0, 1) := by decide +kernel
theorem dX5_remember_32 : decode cX5_remember 32 = .ok (.getfield 16, 3) := by decide +kernel
theorem dX5_remember_35 : decode cX5_remember 35 = .ok (.iload_n 2, 1) := by decide +kernel
theorem dX5_remember_36 : decode cX5_remember 36 = .ok (.aaload, 1) := by decide +kernel
theorem dX5_remember_37 : decode cX5_remember 37 = .ok (.aastore, 1) := by decide +kernel
theorem dX5_remember_38 : decode cX5_remember 38 = .ok (.iinc 2 1, 3) := by decide +kernel
theorem dX5_remember_41 : decode cX5_remember 41 = .ok (.goto (-23), 3) := by decide +kernel
theorem dX5_remember_44 : decode cX5_remember 44 = .ok (.aload_n 0, 1) := by decide +kernel
theorem dX5_remember_45 : decode cX5_remember 45 = .ok (.getfield 16, 3) := by decide +kernel
theorem dX5_remember_48 : decode cX5_remember 48 = .ok (.iconst 5, 1) := by decide +kernel
theorem dX5_remember_49 : decode cX5_remember 49 = .ok (.aload_n 1, 1) := by decide +kernel
theorem dX5_remember_50 : decode cX5_remember 50 = .ok (.aastore, 1) := by decide +kernel
theorem dX5_remember_51 : decode cX5_remember 51 = .ok (.aload_n 0, 1) := by decide +kernel
theorem dX5_remember_52 : decode cX5_remember 52 = .ok (.iconst 5, 1) := by decide +kernel
theorem dX5_remember_53 : decode cX5_remember 53 = .ok (.putfield 20, 3) := by decide +kernel
theorem dX5_remember_56 : decode cX5_remember 56 = .ok (.aload_n 0, 1) := by decide +kernel
theorem dX5_remember_57 : decode cX5_remember 57 = .ok (.getfield 16, 3) := by decide +kernel
theorem dX5_remember_60 : decode cX5_remember 60 = .ok (.aload_n 0, 1) := by decide +kernel
theorem dX5_remember_61 : decode cX5_remember 61 = .ok (.getfield 20, 3) := by decide +kernel
theorem dX5_remember_64 : decode cX5_remember 64 = .ok (.aaload, 1) := by decide +kernel
theorem dX5_remember_65 : decode cX5_remember 65 = .ok (.aload_n 0, 1) := by decide +kernel
theorem dX5_remember_66 : decode cX5_remember 66 = .ok (.getfield 12, 3) := by decide +kernel
theorem dX5_remember_69 : decode cX5_remember 69 = .ok (.invokevirtual 192, 3) := by decide +kernel
theorem dX5_remember_72 : decode cX5_remember 72 = .ok (.aload_n 0, 1) := by decide +kernel
theorem dX5_remember_73 : decode cX5_remember 73 = .ok (.dup, 1) := by decide +kernel
theorem dX5_remember_74 : decode cX5_remember 74 = .ok (.getfield 20, 3) := by decide +kernel
theorem dX5_remember_77 : decode cX5_remember 77 = .ok (.iconst 1, 1) := by decide +kernel
theorem dX5_remember_78 : decode cX5_remember 78 = .ok (.iadd, 1) := by decide +kernel
theorem dX5_remember_79 : decode cX5_remember 79 = .ok (.putfield 20, 3) := by decide +kernel
theorem dX5_remember_82 : decode cX5_remember 82 = .ok (.return_, 1) := by decide +kernel
theorem dX5_isKind_0 : decode cX5_isKind 0 = .ok (.iload_n 0, 1) := by decide +kernel
theorem dX5_isKind_1 : decode cX5_isKind 1 = .ok (.ifCond .eq 13, 3) := by decide +kernel
theorem dX5_isKind_4 : decode cX5_isKind 4 = .ok (.iload_n 0, 1) := by decide +kernel
theorem dX5_isKind_5 : decode cX5_isKind 5 = .ok (.iconst 1, 1) := by decide +kernel
theorem dX5_isKind_6 : decode cX5_isKind 6 = .ok (.if_icmp .eq 8, 3) := by decide +kernel
theorem dX5_isKind_9 : decode cX5_isKind 9 = .ok (.iload_n 0, 1) := by decide +kernel
theorem dX5_isKind_10 : decode cX5_isKind 10 = .ok (.iconst 2, 1) := by decide +kernel
theorem dX5_isKind_11 : decode cX5_isKind 11 = .ok (.if_icmp .ne 7, 3) := by decide +kernel
theorem dX5_isKind_14 : decode cX5_isKind 14 = .ok (.iconst 1, 1) := by decide +kernel
theorem dX5_isKind_15 : decode cX5_isKind 15 = .ok (.goto 4, 3) := by decide +kernel
theorem dX5_isKind_18 : decode cX5_isKind 18 = .ok (.iconst 0, 1) := by decide +kernel
theorem dX5_isKind_19 : decode cX5_isKind 19 = .ok (.ireturn, 1) := by decide +kernel
theorem dX5_isPart_0 : decode cX5_isPart 0 = .ok (.iload_n 0, 1) := by decide +kernel
theorem dX5_isPart_1 : decode cX5_isPart 1 = .ok (.ifCond .eq 8, 3) := by decide +kernel
theorem dX5_isPart_4 : decode cX5_isPart 4 = .ok (.iload_n 0, 1) := by decide +kernel
theorem dX5_isPart_5 : decode cX5_isPart 5 = .ok (.iconst 1, 1) := by decide +kernel
theorem dX5_isPart_6 : decode cX5_isPart 6 = .ok (.if_icmp .ne 7, 3) := by decide +kernel
theorem dX5_isPart_9 : decode cX5_isPart 9 = .ok (.iconst 1, 1) := by decide +kernel
theorem dX5_isPart_10 : decode cX5_isPart 10 = .ok (.goto 4, 3) := by decide +kernel
theorem dX5_isPart_13 : decode cX5_isPart 13 = .ok (.iconst 0, 1) := by decide +kernel
theorem dX5_isPart_14 : decode cX5_isPart 14 = .ok (.ireturn, 1) := by decide +kernel
theorem dX5_isLoud_0 : decode cX5_isLoud 0 = .ok (.iload_n 0, 1) := by decide +kernel
theorem dX5_isLoud_1 : decode cX5_isLoud 1 = .ok (.ifCond .lt 12, 3) := by decide +kernel
theorem dX5_isLoud_4 : decode cX5_isLoud 4 = .ok (.iload_n 0, 1) := by decide +kernel
theorem dX5_isLoud_5 : decode cX5_isLoud 5 = .ok (.iconst 4, 1) := by decide +kernel
theorem dX5_isLoud_6 : decode cX5_isLoud 6 = .ok (.if_icmp .ge 7, 3) := by decide +kernel
theorem dX5_isLoud_9 : decode cX5_isLoud 9 = .ok (.iconst 1, 1) := by decide +kernel
theorem dX5_isLoud_10 : decode cX5_isLoud 10 = .ok (.goto 4, 3) := by decide +kernel
theorem dX5_isLoud_13 : decode cX5_isLoud 13 = .ok (.iconst 0, 1) := by decide +kernel
theorem dX5_isLoud_14 : decode cX5_isLoud 14 = .ok (.ireturn, 1) := by decide +kernel
theorem dX5_isCoin_0 : decode cX5_isCoin 0 = .ok (.iload_n 0, 1) := by decide +kernel
theorem dX5_isCoin_1 : decode cX5_isCoin 1 = .ok (.ifCond .lt 13, 3) := by decide +kernel
theorem dX5_isCoin_4 : decode cX5_isCoin 4 = .ok (.iload_n 0, 1) := by decide +kernel
theorem dX5_isCoin_5 : decode cX5_isCoin 5 = .ok (.bipush 6, 2) := by decide +kernel
theorem dX5_isCoin_7 : decode cX5_isCoin 7 = .ok (.if_icmp .ge 7, 3) := by decide +kernel
theorem dX5_isCoin_10 : decode cX5_isCoin 10 = .ok (.iconst 1, 1) := by decide +kernel
theorem dX5_isCoin_11 : decode cX5_isCoin 11 = .ok (.goto 4, 3) := by decide +kernel
theorem dX5_isCoin_14 : decode cX5_isCoin 14 = .ok (.iconst 0, 1) := by decide +kernel
theorem dX5_isCoin_15 : decode cX5_isCoin 15 = .ok (.ireturn, 1) := by decide +kernel
theorem dX5_isBarred_0 : decode cX5_isBarred 0 = .ok (.iload_n 0, 1) := by decide +kernel
theorem dX5_isBarred_1 : decode cX5_isBarred 1 = .ok (.iconst 4, 1) := by decide +kernel
theorem dX5_isBarred_2 : decode cX5_isBarred 2 = .ok (.if_icmp .lt 17, 3) := by decide +kernel
theorem dX5_isBarred_5 : decode cX5_isBarred 5 = .ok (.iload_n 1, 1) := by decide +kernel
theorem dX5_isBarred_6 : decode cX5_isBarred 6 = .ok (.iconst 4, 1) := by decide +kernel
theorem dX5_isBarred_7 : decode cX5_isBarred 7 = .ok (.if_icmp .lt 12, 3) := by decide +kernel
theorem dX5_isBarred_10 : decode cX5_isBarred 10 = .ok (.iload_n 0, 1) := by decide +kernel
theorem dX5_isBarred_11 : decode cX5_isBarred 11 = .ok (.iload_n 1, 1) := by decide +kernel
theorem dX5_isBarred_12 : decode cX5_isBarred 12 = .ok (.if_icmp .lt 7, 3) := by decide +kernel
theorem dX5_isBarred_15 : decode cX5_isBarred 15 = .ok (.iconst 1, 1) := by decide +kernel
theorem dX5_isBarred_16 : decode cX5_isBarred 16 = .ok (.goto 4, 3) := by decide +kernel
theorem dX5_isBarred_19 : decode cX5_isBarred 19 = .ok (.iconst 0, 1) := by decide +kernel
theorem dX5_isBarred_20 : decode cX5_isBarred 20 = .ok (.ireturn, 1) := by decide +kernel
theorem dX5_indexOf_0 : decode cX5_indexOf 0 = .ok (.iload_n 0, 1) := by decide +kernel
theorem dX5_indexOf_1 : decode cX5_indexOf 1 = .ok (.ifCond .ne 23, 3) := by decide +kernel
theorem dX5_indexOf_4 : decode cX5_indexOf 4 = .ok (.iload_n 1, 1) := by decide +kernel
theorem dX5_indexOf_5 : decode cX5_indexOf 5 = .ok (.invokestatic 195, 3) := by decide +kernel
theorem dX5_indexOf_8 : decode cX5_indexOf 8 = .ok (.ifCond .eq 14, 3) := by decide +kernel
theorem dX5_indexOf_11 : decode cX5_indexOf 11 = .ok (.iload_n 2, 1) := by decide +kernel
theorem dX5_indexOf_12 : decode cX5_indexOf 12 = .ok (.ifCond .ne 10, 3) := by decide +kernel
theorem dX5_indexOf_15 : decode cX5_indexOf 15 = .ok (.bipush 36, 2) := by decide +kernel
theorem dX5_indexOf_17 : decode cX5_indexOf 17 = .ok (.iload_n 1, 1) := by decide +kernel
theorem dX5_indexOf_18 : decode cX5_indexOf 18 = .ok (.iadd, 1) := by decide +kernel
theorem dX5_indexOf_19 : decode cX5_indexOf 19 = .ok (.goto 4, 3) := by decide +kernel
theorem dX5_indexOf_22 : decode cX5_indexOf 22 = .ok (.iconst (-1), 1) := by decide +kernel
theorem dX5_indexOf_23 : decode cX5_indexOf 23 = .ok (.ireturn, 1) := by decide +kernel
theorem dX5_indexOf_24 : decode cX5_indexOf 24 = .ok (.iload_n 0, 1) := by decide +kernel
theorem dX5_indexOf_25 : decode cX5_indexOf 25 = .ok (.iconst 1, 1) := by decide +kernel
theorem dX5_indexOf_26 : decode cX5_indexOf 26 = .ok (.if_icmp .ne 28, 3) := by decide +kernel
theorem dX5_indexOf_29 : decode cX5_indexOf 29 = .ok (.iload_n 1, 1) := by decide +kernel
theorem dX5_indexOf_30 : decode cX5_indexOf 30 = .ok (.invokestatic 195, 3) := by decide +kernel
theorem dX5_indexOf_33 : decode cX5_indexOf 33 = .ok (.ifCond .eq 19, 3) := by decide +kernel
theorem dX5_indexOf_36 : decode cX5_indexOf 36 = .ok (.iload_n 2, 1) := by decide +kernel
theorem dX5_indexOf_37 : decode cX5_indexOf 37 = .ok (.invokestatic 195, 3) := by decide +kernel
theorem dX5_indexOf_40 : decode cX5_indexOf 40 = .ok (.ifCond .eq 12, 3) := by decide +kernel
theorem dX5_indexOf_43 : decode cX5_indexOf 43 = .ok (.iload_n 1, 1) := by decide +kernel
theorem dX5_indexOf_44 : decode cX5_indexOf 44 = .ok (.bipush 6, 2) := by decide +kernel
theorem dX5_indexOf_46 : decode cX5_indexOf 46 = .ok (.imul, 1) := by decide +kernel
theorem dX5_indexOf_47 : decode cX5_indexOf 47 = .ok (.iload_n 2, 1) := by decide +kernel
theorem dX5_indexOf_48 : decode cX5_indexOf 48 = .ok (.iadd, 1) := by decide +kernel
theorem dX5_indexOf_49 : decode cX5_indexOf 49 = .ok (.goto 4, 3) := by decide +kernel
theorem dX5_indexOf_52 : decode cX5_indexOf 52 = .ok (.iconst (-1), 1) := by decide +kernel
theorem dX5_indexOf_53 : decode cX5_indexOf 53 = .ok (.ireturn, 1) := by decide +kernel
theorem dX5_indexOf_54 : decode cX5_indexOf 54 = .ok (.iload_n 1, 1) := by decide +kernel
theorem dX5_indexOf_55 : decode cX5_indexOf 55 = .ok (.invokestatic 121, 3) := by decide +kernel
theorem dX5_indexOf_58 : decode cX5_indexOf 58 = .ok (.ifCond .eq 23, 3) := by decide +kernel
theorem dX5_indexOf_61 : decode cX5_indexOf 61 = .ok (.iload_n 2, 1) := by decide +kernel
theorem dX5_indexOf_62 : decode cX5_indexOf 62 = .ok (.ifCond .lt 19, 3) := by decide +kernel
theorem dX5_indexOf_65 : decode cX5_indexOf 65 = .ok (.iload_n 2, 1) := by decide +kernel
theorem dX5_indexOf_66 : decode cX5_indexOf 66 = .ok (.iconst 4, 1) := by decide +kernel
theorem dX5_indexOf_67 : decode cX5_indexOf 67 = .ok (.if_icmp .ge 14, 3) := by decide +kernel
theorem dX5_indexOf_70 : decode cX5_indexOf 70 = .ok (.bipush 42, 2) := by decide +kernel
theorem dX5_indexOf_72 : decode cX5_indexOf 72 = .ok (.iload_n 1, 1) := by decide +kernel
theorem dX5_indexOf_73 : decode cX5_indexOf 73 = .ok (.iconst 4, 1) := by decide +kernel
theorem dX5_indexOf_74 : decode cX5_indexOf 74 = .ok (.imul, 1) := by decide +kernel
theorem dX5_indexOf_75 : decode cX5_indexOf 75 = .ok (.iadd, 1) := by decide +kernel
theorem dX5_indexOf_76 : decode cX5_indexOf 76 = .ok (.iload_n 2, 1) := by decide +kernel
theorem dX5_indexOf_77 : decode cX5_indexOf 77 = .ok (.iadd, 1) := by decide +kernel
theorem dX5_indexOf_78 : decode cX5_indexOf 78 = .ok (.goto 4, 3) := by decide +kernel
theorem dX5_indexOf_81 : decode cX5_indexOf 81 = .ok (.iconst (-1), 1) := by decide +kernel
theorem dX5_indexOf_82 : decode cX5_indexOf 82 = .ok (.ireturn, 1) := by decide +kernel
theorem dX5_inLowestTerms_0 : decode cX5_inLowestTerms 0 = .ok (.lload_n 0, 1) := by decide +kernel
theorem dX5_inLowestTerms_1 : decode cX5_inLowestTerms 1 = .ok (.lload_n 2, 1) := by decide +kernel
theorem dX5_inLowestTerms_2 : decode cX5_inLowestTerms 2 = .ok (.invokestatic 198, 3) := by decide +kernel
theorem dX5_inLowestTerms_5 : decode cX5_inLowestTerms 5 = .ok (.lstore 5, 2) := by decide +kernel
theorem dX5_inLowestTerms_7 : decode cX5_inLowestTerms 7 = .ok (.lload 5, 2) := by decide +kernel
theorem dX5_inLowestTerms_9 : decode cX5_inLowestTerms 9 = .ok (.lconst 0, 1) := by decide +kernel
theorem dX5_inLowestTerms_10 : decode cX5_inLowestTerms 10 = .ok (.lcmp, 1) := by decide +kernel
theorem dX5_inLowestTerms_11 : decode cX5_inLowestTerms 11 = .ok (.ifCond .ne 14, 3) := by decide +kernel
theorem dX5_inLowestTerms_14 : decode cX5_inLowestTerms 14 = .ok (.iload 4, 2) := by decide +kernel
theorem dX5_inLowestTerms_16 : decode cX5_inLowestTerms 16 = .ok (.ifCond .ne 7, 3) := by decide +kernel
theorem dX5_inLowestTerms_19 : decode cX5_inLowestTerms 19 = .ok (.lconst 0, 1) := by decide +kernel
theorem dX5_inLowestTerms_20 : decode cX5_inLowestTerms 20 = .ok (.goto 4, 3) := by decide +kernel
theorem dX5_inLowestTerms_23 : decode cX5_inLowestTerms 23 = .ok (.lconst 1, 1) := by decide +kernel
theorem dX5_inLowestTerms_24 : decode cX5_inLowestTerms 24 = .ok (.lreturn, 1) := by decide +kernel
theorem dX5_inLowestTerms_25 : decode cX5_inLowestTerms 25 = .ok (.iload 4, 2) := by decide +kernel
theorem dX5_inLowestTerms_27 : decode cX5_inLowestTerms 27 = .ok (.ifCond .ne 7, 3) := by decide +kernel
theorem dX5_inLowestTerms_30 : decode cX5_inLowestTerms 30 = .ok (.lload_n 0, 1) := by decide +kernel
theorem dX5_inLowestTerms_31 : decode cX5_inLowestTerms 31 = .ok (.goto 4, 3) := by decide +kernel
theorem dX5_inLowestTerms_34 : decode cX5_inLowestTerms 34 = .ok (.lload_n 2, 1) := by decide +kernel
theorem dX5_inLowestTerms_35 : decode cX5_inLowestTerms 35 = .ok (.lload 5, 2) := by decide +kernel
theorem dX5_inLowestTerms_37 : decode cX5_inLowestTerms 37 = .ok (.ldiv, 1) := by decide +kernel
theorem dX5_inLowestTerms_38 : decode cX5_inLowestTerms 38 = .ok (.lreturn, 1) := by decide +kernel
theorem dX5_commonDivisor_0 : decode cX5_commonDivisor 0 = .ok (.lload_n 0, 1) := by decide +kernel
theorem dX5_commonDivisor_1 : decode cX5_commonDivisor 1 = .ok (.lstore 4, 2) := by decide +kernel
theorem dX5_commonDivisor_3 : decode cX5_commonDivisor 3 = .ok (.lload_n 2, 1) := by decide +kernel
theorem dX5_commonDivisor_4 : decode cX5_commonDivisor 4 = .ok (.lstore 6, 2) := by decide +kernel
theorem dX5_commonDivisor_6 : decode cX5_commonDivisor 6 = .ok (.iconst 0, 1) := by decide +kernel
theorem dX5_commonDivisor_7 : decode cX5_commonDivisor 7 = .ok (.istore 8, 2) := by decide +kernel
theorem dX5_commonDivisor_9 : decode cX5_commonDivisor 9 = .ok (.iload 8, 2) := by decide +kernel
theorem dX5_commonDivisor_11 : decode cX5_commonDivisor 11 = .ok (.bipush 100, 2) := by decide +kernel
theorem dX5_commonDivisor_13 : decode cX5_commonDivisor 13 = .ok (.if_icmp .ge 31, 3) := by decide +kernel
theorem dX5_commonDivisor_16 : decode cX5_commonDivisor 16 = .ok (.lload 6, 2) := by decide +kernel
theorem dX5_commonDivisor_18 : decode cX5_commonDivisor 18 = .ok (.lconst 0, 1) := by decide +kernel
theorem dX5_commonDivisor_19 : decode cX5_commonDivisor 19 = .ok (.lcmp, 1) := by decide +kernel
theorem dX5_commonDivisor_20 : decode cX5_commonDivisor 20 = .ok (.ifCond .eq 24, 3) := by decide +kernel
theorem dX5_commonDivisor_23 : decode cX5_commonDivisor 23 = .ok (.lload 4, 2) := by decide +kernel
theorem dX5_commonDivisor_25 : decode cX5_commonDivisor 25 = .ok (.lload 6, 2) := by decide +kernel
theorem dX5_commonDivisor_27 : decode cX5_commonDivisor 27 = .ok (.lrem, 1) := by decide +kernel
theorem dX5_commonDivisor_28 : decode cX5_commonDivisor 28 = .ok (.lstore 9, 2) := by decide +kernel
theorem dX5_commonDivisor_30 : decode cX5_commonDivisor 30 = .ok (.lload 6, 2) := by decide +kernel
theorem dX5_commonDivisor_32 : decode cX5_commonDivisor 32 = .ok (.lstore 4, 2) := by decide +kernel
theorem dX5_commonDivisor_34 : decode cX5_commonDivisor 34 = .ok (.lload 9, 2) := by decide +kernel
theorem dX5_commonDivisor_36 : decode cX5_commonDivisor 36 = .ok (.lstore 6, 2) := by decide +kernel
theorem dX5_commonDivisor_38 : decode cX5_commonDivisor 38 = .ok (.iinc 8 1, 3) := by decide +kernel
theorem dX5_commonDivisor_41 : decode cX5_commonDivisor 41 = .ok (.goto (-32), 3) := by decide +kernel
theorem dX5_commonDivisor_44 : decode cX5_commonDivisor 44 = .ok (.lload 4, 2) := by decide +kernel
theorem dX5_commonDivisor_46 : decode cX5_commonDivisor 46 = .ok (.lreturn, 1) := by decide +kernel
theorem dX5_bitsOf_0 : decode cX5_bitsOf 0 = .ok (.bipush 127, 2) := by decide +kernel
theorem dX5_bitsOf_2 : decode cX5_bitsOf 2 = .ok (.istore_n 1, 1) := by decide +kernel
theorem dX5_bitsOf_3 : decode cX5_bitsOf 3 = .ok (.fload_n 0, 1) := by decide +kernel
theorem dX5_bitsOf_4 : decode cX5_bitsOf 4 = .ok (.fstore_n 2, 1) := by decide +kernel
theorem dX5_bitsOf_5 : decode cX5_bitsOf 5 = .ok (.fload_n 2, 1) := by decide +kernel
theorem dX5_bitsOf_6 : decode cX5_bitsOf 6 = .ok (.fconst 1, 1) := by decide +kernel
theorem dX5_bitsOf_7 : decode cX5_bitsOf 7 = .ok (.fcmp .g, 1) := by decide +kernel
theorem dX5_bitsOf_8 : decode cX5_bitsOf 8 = .ok (.ifCond .ge 18, 3) := by decide +kernel
theorem dX5_bitsOf_11 : decode cX5_bitsOf 11 = .ok (.iload_n 1, 1) := by decide +kernel
theorem dX5_bitsOf_12 : decode cX5_bitsOf 12 = .ok (.iconst 1, 1) := by decide +kernel
theorem dX5_bitsOf_13 : decode cX5_bitsOf 13 = .ok (.if_icmp .le 13, 3) := by decide +kernel
theorem dX5_bitsOf_16 : decode cX5_bitsOf 16 = .ok (.fload_n 2, 1) := by decide +kernel
theorem dX5_bitsOf_17 : decode cX5_bitsOf 17 = .ok (.fconst 2, 1) := by decide +kernel
theorem dX5_bitsOf_18 : decode cX5_bitsOf 18 = .ok (.fmul, 1) := by decide +kernel
theorem dX5_bitsOf_19 : decode cX5_bitsOf 19 = .ok (.fstore_n 2, 1) := by decide +kernel
theorem dX5_bitsOf_20 : decode cX5_bitsOf 20 = .ok (.iinc 1 (-1), 3) := by decide +kernel
theorem dX5_bitsOf_23 : decode cX5_bitsOf 23 = .ok (.goto (-18), 3) := by decide +kernel
theorem dX5_bitsOf_26 : decode cX5_bitsOf 26 = .ok (.fload_n 2, 1) := by decide +kernel
theorem dX5_bitsOf_27 : decode cX5_bitsOf 27 = .ok (.fconst 1, 1) := by decide +kernel
theorem dX5_bitsOf_28 : decode cX5_bitsOf 28 = .ok (.fsub, 1) := by decide +kernel
theorem dX5_bitsOf_29 : decode cX5_bitsOf 29 = .ok (.ldc 202, 2) := by decide +kernel
theorem dX5_bitsOf_31 : decode cX5_bitsOf 31 = .ok (.fmul, 1) := by decide +kernel
theorem dX5_bitsOf_32 : decode cX5_bitsOf 32 = .ok (.f2i, 1) := by decide +kernel
theorem dX5_bitsOf_33 : decode cX5_bitsOf 33 = .ok (.istore_n 3, 1) := by decide +kernel
theorem dX5_bitsOf_34 : decode cX5_bitsOf 34 = .ok (.iload_n 1, 1) := by decide +kernel
theorem dX5_bitsOf_35 : decode cX5_bitsOf 35 = .ok (.bipush 23, 2) := by decide +kernel
theorem dX5_bitsOf_37 : decode cX5_bitsOf 37 = .ok (.ishl, 1) := by decide +kernel
theorem dX5_bitsOf_38 : decode cX5_bitsOf 38 = .ok (.iload_n 3, 1) := by decide +kernel
theorem dX5_bitsOf_39 : decode cX5_bitsOf 39 = .ok (.ior, 1) := by decide +kernel
theorem dX5_bitsOf_40 : decode cX5_bitsOf 40 = .ok (.ireturn, 1) := by decide +kernel
