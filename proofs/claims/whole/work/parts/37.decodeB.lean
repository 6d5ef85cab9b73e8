theorem dX6_init_0 : decode cX6_init 0 = .ok (.aload_n 0, 1) := by decide +kernel
theorem dX6_init_1 : decode cX6_init 1 = .ok (.invokespecial 1, 3) := by decide +kernel
theorem dX6_init_4 : decode cX6_init 4 = .ok (.aload_n 0, 1) := by decide +kernel
theorem dX6_init_5 : decode cX6_init 5 = .ok (.bipush 70, 2) := by decide +kernel
theorem dX6_init_7 : decode cX6_init 7 = .ok (.newarray .int, 2) := by decide +kernel
theorem dX6_init_9 : decode cX6_init 9 = .ok (.putfield 7, 3) := by decide +kernel
theorem dX6_init_12 : decode cX6_init 12 = .ok (.aload_n 0, 1) := by decide +kernel
theorem dX6_init_13 : decode cX6_init 13 = .ok (.sipush 420, 3) := by decide +kernel
theorem dX6_init_16 : decode cX6_init 16 = .ok (.newarray .int, 2) := by decide +kernel
theorem dX6_init_18 : decode cX6_init 18 = .ok (.putfield 13, 3) := by decide +kernel
theorem dX6_init_21 : decode cX6_init 21 = .ok (.aload_n 0, 1) := by decide +kernel
theorem dX6_init_22 : decode cX6_init 22 = .ok (.sipush 140, 3) := by decide +kernel
theorem dX6_init_25 : decode cX6_init 25 = .ok (.newarray .int, 2) := by decide +kernel
theorem dX6_init_27 : decode cX6_init 27 = .ok (.putfield 16, 3) := by decide +kernel
theorem dX6_init_30 : decode cX6_init 30 = .ok (.aload_n 0, 1) := by decide +kernel
theorem dX6_init_31 : decode cX6_init 31 = .ok (.iconst 2, 1) := by decide +kernel
theorem dX6_init_32 : decode cX6_init 32 = .ok (.newarray .boolean, 2) := by decide +kernel
theorem dX6_init_34 : decode cX6_init 34 = .ok (.putfield 19, 3) := by decide +kernel
theorem dX6_init_37 : decode cX6_init 37 = .ok (.aload_n 0, 1) := by decide +kernel
theorem dX6_init_38 : decode cX6_init 38 = .ok (.bipush 80, 2) := by decide +kernel
theorem dX6_init_40 : decode cX6_init 40 = .ok (.newarray .int, 2) := by decide +kernel
theorem dX6_init_42 : decode cX6_init 42 = .ok (.putfield 23, 3) := by decide +kernel
theorem dX6_init_45 : decode cX6_init 45 = .ok (.aload_n 0, 1) := by decide +kernel
theorem dX6_init_46 : decode cX6_init 46 = .ok (.bipush 42, 2) := by decide +kernel
theorem dX6_init_48 : decode cX6_init 48 = .ok (.newarray .long, 2) := by decide +kernel
theorem dX6_init_50 : decode cX6_init 50 = .ok (.putfield 26, 3) := by decide +kernel
theorem dX6_init_53 : decode cX6_init 53 = .ok (.aload_n 0, 1) := by decide +kernel
theorem dX6_init_54 : decode cX6_init 54 = .ok (.bipush 42, 2) := by decide +kernel
theorem dX6_init_56 : decode cX6_init 56 = .ok (.newarray .long, 2) := by decide +kernel
theorem dX6_init_58 : decode cX6_init 58 = .ok (.putfield 30, 3) := by decide +kernel
theorem dX6_init_61 : decode cX6_init 61 = .ok (.aload_n 0, 1) := by decide +kernel
theorem dX6_init_62 : decode cX6_init 62 = .ok (.bipush 42, 2) := by decide +kernel
theorem dX6_init_64 : decode cX6_init 64 = .ok (.newarray .int, 2) := by decide +kernel
theorem dX6_init_66 : decode cX6_init 66 = .ok (.putfield 33, 3) := by decide +kernel
theorem dX6_init_69 : decode cX6_init 69 = .ok (.aload_n 0, 1) := by decide +kernel
theorem dX6_init_70 : decode cX6_init 70 = .ok (.bipush 42, 2) := by decide +kernel
theorem dX6_init_72 : decode cX6_init 72 = .ok (.newarray .long, 2) := by decide +kernel
theorem dX6_init_74 : decode cX6_init 74 = .ok (.putfield 36, 3) := by decide +kernel
theorem dX6_init_77 : decode cX6_init 77 = .ok (.aload_n 0, 1) := by decide +kernel
theorem dX6_init_78 : decode cX6_init 78 = .ok (.bipush 20, 2) := by decide +kernel
theorem dX6_init_80 : decode cX6_init 80 = .ok (.newarray .int, 2) := by decide +kernel
theorem dX6_init_82 : decode cX6_init 82 = .ok (.putfield 39, 3) := by decide +kernel
theorem dX6_init_85 : decode cX6_init 85 = .ok (.aload_n 0, 1) := by decide +kernel
theorem dX6_init_86 : decode cX6_init 86 = .ok (.bipush 58, 2) := by decide +kernel
theorem dX6_init_88 : decode cX6_init 88 = .ok (.newarray .long, 2) := by decide +kernel
theorem dX6_init_90 : decode cX6_init 90 = .ok (.putfield 42, 3) := by decide +kernel
theorem dX6_init_93 : decode cX6_init 93 = .ok (.aload_n 0, 1) := by decide +kernel
theorem dX6_init_94 : decode cX6_init 94 = .ok (.getfield 7, 3) := by decide +kernel
theorem dX6_init_97 : decode cX6_init 97 = .ok (.iconst 0, 1) := by decide +kernel
theorem dX6_init_98 : decode cX6_init 98 = .ok (.iconst 1, 1) := by decide +kernel
theorem dX6_init_99 : decode cX6_init 99 = .ok (.iastore, 1) := by decide +kernel
theorem dX6_init_100 : decode cX6_init 100 = .ok (.aload_n 0, 1) := by decide +kernel
theorem dX6_init_101 : decode cX6_init 101 = .ok (.getfield 7, 3) := by decide +kernel
theorem dX6_init_104 : decode cX6_init 104 = .ok (.bipush 6, 2) := by decide +kernel
theorem dX6_init_106 : decode cX6_init 106 = .ok (.iconst 1, 1) := by decide +kernel
theorem dX6_init_107 : decode cX6_init 107 = .ok (.iastore, 1) := by decide +kernel
theorem dX6_init_108 : decode cX6_init 108 = .ok (.iconst 0, 1) := by decide +kernel
theorem dX6_init_109 : decode cX6_init 109 = .ok (.istore_n 1, 1) := by decide +kernel
theorem dX6_init_110 : decode cX6_init 110 = .ok (.iload_n 1, 1) := by decide +kernel
theorem dX6_init_111 : decode cX6_init 111 = .ok (.iconst 4, 1) := by decide +kernel
theorem dX6_init_112 : decode cX6_init 112 = .ok (.if_icmp .ge 19, 3) := by decide +kernel
theorem dX6_init_115 : decode cX6_init 115 = .ok (.aload_n 0, 1) := by decide +kernel
theorem dX6_init_116 : decode cX6_init 116 = .ok (.getfield 7, 3) := by decide +kernel
theorem dX6_init_119 : decode cX6_init 119 = .ok (.bipush 42, 2) := by decide +kernel
theorem dX6_init_121 : decode cX6_init 121 = .ok (.iload_n 1, 1) := by decide +kernel
theorem dX6_init_122 : decode cX6_init 122 = .ok (.iadd, 1) := by decide +kernel
theorem dX6_init_123 : decode cX6_init 123 = .ok (.iconst 1, 1) := by decide +kernel
theorem dX6_init_124 : decode cX6_init 124 = .ok (.iastore, 1) := by decide +kernel
theorem dX6_init_125 : decode cX6_init 125 = .ok (.iinc 1 1, 3) := by decide +kernel
theorem dX6_init_128 : decode cX6_init 128 = .ok (.goto (-18), 3) := by decide +kernel
theorem dX6_init_131 : decode cX6_init 131 = .ok (.return_, 1) := by decide +kernel
theorem dX6_in_0 : decode cX6_in 0 = .ok (.iload_n 0, 1) := by decide +kernel
theorem dX6_in_1 : decode cX6_in 1 = .ok (.iload_n 1, 1) := by decide +kernel
theorem dX6_in_2 : decode cX6_in 2 = .ok (.if_icmp .lt 12, 3) := by decide +kernel
theorem dX6_in_5 : decode cX6_in 5 = .ok (.iload_n 0, 1) := by decide +kernel
theorem dX6_in_6 : decode cX6_in 6 = .ok (.iload_n 2, 1) := by decide +kernel
theorem dX6_in_7 : decode cX6_in 7 = .ok (.if_icmp .gt 7, 3) := by decide +kernel
theorem dX6_in_10 : decode cX6_in 10 = .ok (.iconst 1, 1) := by decide +kernel
theorem dX6_in_11 : decode cX6_in 11 = .ok (.goto 4, 3) := by decide +kernel
theorem dX6_in_14 : decode cX6_in 14 = .ok (.iconst 0, 1) := by decide +kernel
theorem dX6_in_15 : decode cX6_in 15 = .ok (.ireturn, 1) := by decide +kernel
theorem dX6_record_0 : decode cX6_record 0 = .ok (.aload_n 0, 1) := by decide +kernel
theorem dX6_record_1 : decode cX6_record 1 = .ok (.getfield 45, 3) := by decide +kernel
theorem dX6_record_4 : decode cX6_record 4 = .ok (.bipush 6, 2) := by decide +kernel
theorem dX6_record_6 : decode cX6_record 6 = .ok (.if_icmp .ne 38, 3) := by decide +kernel
theorem dX6_record_9 : decode cX6_record 9 = .ok (.iconst 0, 1) := by decide +kernel
theorem dX6_record_10 : decode cX6_record 10 = .ok (.istore_n 1, 1) := by decide +kernel
theorem dX6_record_11 : decode cX6_record 11 = .ok (.iload_n 1, 1) := by decide +kernel
theorem dX6_record_12 : decode cX6_record 12 = .ok (.sipush 350, 3) := by decide +kernel
theorem dX6_record_15 : decode cX6_record 15 = .ok (.if_icmp .ge 24, 3) := by decide +kernel
theorem dX6_record_18 : decode cX6_record 18 = .ok (.aload_n 0, 1) := by decide +kernel
theorem dX6_record_19 : decode cX6_record 19 = .ok (.getfield 13, 3) := by decide +kernel
theorem dX6_record_22 : decode cX6_record 22 = .ok (.iload_n 1, 1) := by decide +kernel
theorem dX6_record_23 : decode cX6_record 23 = .ok (.aload_n 0, 1) := by decide +kernel
theorem dX6_record_24 : decode cX6_record 24 = .ok (.getfield 13, 3) := by decide +kernel
theorem dX6_record_27 : decode cX6_record 27 = .ok (.iload_n 1, 1) := by decide +kernel
theorem dX6_record_28 : decode cX6_record 28 = .ok (.bipush 70, 2) := by decide +kernel
theorem dX6_record_30 : decode cX6_record 30 = .ok (.iadd, 1) := by decide +kernel
theorem dX6_record_31 : decode cX6_record 31 = .ok (.iaload, 1) := by decide +kernel
theorem dX6_record_32 : decode cX6_record 32 = .ok (.iastore, 1) := by decide +kernel
theorem dX6_record_33 : decode cX6_record 33 = .ok (.iinc 1 1, 3) := by decide +kernel
theorem dX6_record_36 : decode cX6_record 36 = .ok (.goto (-25), 3) := by decide +kernel
theorem dX6_record_39 : decode cX6_record 39 = .ok (.aload_n 0, 1) := by decide +kernel
theorem dX6_record_40 : decode cX6_record 40 = .ok (.iconst 5, 1) := by decide +kernel
theorem dX6_record_41 : decode cX6_record 41 = .ok (.putfield 45, 3) := by decide +kernel
theorem dX6_record_44 : decode cX6_record 44 = .ok (.iconst 0, 1) := by decide +kernel
theorem dX6_record_45 : decode cX6_record 45 = .ok (.istore_n 1, 1) := by decide +kernel
theorem dX6_record_46 : decode cX6_record 46 = .ok (.iload_n 1, 1) := by decide +kernel
theorem dX6_record_47 : decode cX6_record 47 = .ok (.bipush 70, 2) := by decide +kernel
theorem dX6_record_49 : decode cX6_record 49 = .ok (.if_icmp .ge 29, 3) := by decide +kernel
theorem dX6_record_52 : decode cX6_record 52 = .ok (.aload_n 0, 1) := by decide +kernel
theorem dX6_record_53 : decode cX6_record 53 = .ok (.getfield 13, 3) := by decide +kernel
theorem dX6_record_56 : decode cX6_record 56 = .ok (.aload_n 0, 1) := by decide +kernel
theorem dX6_record_57 : decode cX6_record 57 = .ok (.getfield 45, 3) := by decide +kernel
theorem dX6_record_60 : decode cX6_record 60 = .ok (.bipush 70, 2) := by decide +kernel
theorem dX6_record_62 : decode cX6_record 62 = .ok (.imul, 1) := by decide +kernel
theorem dX6_record_63 : decode cX6_record 63 = .ok (.iload_n 1, 1) := by decide +kernel
theorem dX6_record_64 : decode cX6_record 64 = .ok (.iadd, 1) := by decide +kernel
theorem dX6_record_65 : decode cX6_record 65 = .ok (.aload_n 0, 1) := by decide +kernel
theorem dX6_record_66 : decode cX6_record 66 = .ok (.getfield 7, 3) := by decide +kernel
theorem dX6_record_69 : decode cX6_record 69 = .ok (.iload_n 1, 1) := by decide +kernel
theorem dX6_record_70 : decode cX6_record 70 = .ok (.iaload, 1) := by decide +kernel
theorem dX6_record_71 : decode cX6_record 71 = .ok (.iastore, 1) := by decide +kernel
theorem dX6_record_72 : decode cX6_record 72 = .ok (.iinc 1 1, 3) := by decide +kernel
theorem dX6_record_75 : decode cX6_record 75 = .ok (.goto (-29), 3) := by decide +kernel
theorem dX6_record_78 : decode cX6_record 78 = .ok (.aload_n 0, 1) := by decide +kernel
theorem dX6_record_79 : decode cX6_record 79 = .ok (.dup, 1) := by decide +kernel
theorem dX6_record_80 : decode cX6_record 80 = .ok (.getfield 45, 3) := by decide +kernel
theorem dX6_record_83 : decode cX6_record 83 = .ok (.iconst 1, 1) := by decide +kernel
theorem dX6_record_84 : decode cX6_record 84 = .ok (.iadd, 1) := by decide +kernel
theorem dX6_record_85 : decode cX6_record 85 = .ok (.putfield 45, 3) := by decide +kernel
theorem dX6_record_88 : decode cX6_record 88 = .ok (.return_, 1) := by decide +kernel
theorem dX6_placeOf_0 : decode cX6_placeOf 0 = .ok (.iload_n 0, 1) := by decide +kernel
theorem dX6_placeOf_1 : decode cX6_placeOf 1 = .ok (.lookupswitch 80 #[(0, 27), (1, 47)], 27) := by decide +kernel
theorem dX6_placeOf_28 : decode cX6_placeOf 28 = .ok (.iload_n 1, 1) := by decide +kernel
theorem dX6_placeOf_29 : decode cX6_placeOf 29 = .ok (.iconst 0, 1) := by decide +kernel
theorem dX6_placeOf_30 : decode cX6_placeOf 30 = .ok (.iconst 5, 1) := by decide +kernel
theorem dX6_placeOf_31 : decode cX6_placeOf 31 = .ok (.invokestatic 49, 3) := by decide +kernel
theorem dX6_placeOf_34 : decode cX6_placeOf 34 = .ok (.ifCond .eq 11, 3) := by decide +kernel
theorem dX6_placeOf_37 : decode cX6_placeOf 37 = .ok (.iload_n 2, 1) := by decide +kernel
theorem dX6_placeOf_38 : decode cX6_placeOf 38 = .ok (.ifCond .ne 7, 3) := by decide +kernel
theorem dX6_placeOf_41 : decode cX6_placeOf 41 = .ok (.iload_n 1, 1) := by decide +kernel
theorem dX6_placeOf_42 : decode cX6_placeOf 42 = .ok (.goto 5, 3) := by decide +kernel
theorem dX6_placeOf_45 : decode cX6_placeOf 45 = .ok (.bipush (-6), 2) := by decide +kernel
theorem dX6_placeOf_47 : decode cX6_placeOf 47 = .ok (.ireturn, 1) := by decide +kernel
theorem dX6_placeOf_48 : decode cX6_placeOf 48 = .ok (.iload_n 1, 1) := by decide +kernel
theorem dX6_placeOf_49 : decode cX6_placeOf 49 = .ok (.iconst 0, 1) := by decide +kernel
theorem dX6_placeOf_50 : decode cX6_placeOf 50 = .ok (.iconst 5, 1) := by decide +kernel
theorem dX6_placeOf_51 : decode cX6_placeOf 51 = .ok (.invokestatic 49, 3) := by decide +kernel
theorem dX6_placeOf_54 : decode cX6_placeOf 54 = .ok (.ifCond .eq 24, 3) := by decide +kernel
theorem dX6_placeOf_57 : decode cX6_placeOf 57 = .ok (.iload_n 2, 1) := by decide +kernel
theorem dX6_placeOf_58 : decode cX6_placeOf 58 = .ok (.iconst 0, 1) := by decide +kernel
theorem dX6_placeOf_59 : decode cX6_placeOf 59 = .ok (.iconst 5, 1) := by decide +kernel
theorem dX6_placeOf_60 : decode cX6_placeOf 60 = .ok (.invokestatic 49, 3) := by decide +kernel
theorem dX6_placeOf_63 : decode cX6_placeOf 63 = .ok (.ifCond .eq 15, 3) := by decide +kernel
theorem dX6_placeOf_66 : decode cX6_placeOf 66 = .ok (.bipush 6, 2) := by decide +kernel
theorem dX6_placeOf_68 : decode cX6_placeOf 68 = .ok (.bipush 6, 2) := by decide +kernel
theorem dX6_placeOf_70 : decode cX6_placeOf 70 = .ok (.iload_n 1, 1) := by decide +kernel
theorem dX6_placeOf_71 : decode cX6_placeOf 71 = .ok (.imul, 1) := by decide +kernel
theorem dX6_placeOf_72 : decode cX6_placeOf 72 = .ok (.iadd, 1) := by decide +kernel
theorem dX6_placeOf_73 : decode cX6_placeOf 73 = .ok (.iload_n 2, 1) := by decide +kernel
theorem dX6_placeOf_74 : decode cX6_placeOf 74 = .ok (.iadd, 1) := by decide +kernel
theorem dX6_placeOf_75 : decode cX6_placeOf 75 = .ok (.goto 5, 3) := by decide +kernel
theorem dX6_placeOf_78 : decode cX6_placeOf 78 = .ok (.bipush (-6), 2) := by decide +kernel
theorem dX6_placeOf_80 : decode cX6_placeOf 80 = .ok (.ireturn, 1) := by decide +kernel
theorem dX6_placeOf_81 : decode cX6_placeOf 81 = .ok (.iload_n 1, 1) := by decide +kernel
theorem dX6_placeOf_82 : decode cX6_placeOf 82 = .ok (.iconst 0, 1) := by decide +kernel
theorem dX6_placeOf_83 : decode cX6_placeOf 83 = .ok (.iconst 3, 1) := by decide +kernel
theorem dX6_placeOf_84 : decode cX6_placeOf 84 = .ok (.invokestatic 49, 3) := by decide +kernel
theorem dX6_placeOf_87 : decode cX6_placeOf 87 = .ok (.ifCond .eq 23, 3) := by decide +kernel
theorem dX6_placeOf_90 : decode cX6_placeOf 90 = .ok (.iload_n 2, 1) := by decide +kernel
theorem dX6_placeOf_91 : decode cX6_placeOf 91 = .ok (.iconst 0, 1) := by decide +kernel
theorem dX6_placeOf_92 : decode cX6_placeOf 92 = .ok (.iconst 3, 1) := by decide +kernel
theorem dX6_placeOf_93 : decode cX6_placeOf 93 = .ok (.invokestatic 49, 3) := by decide +kernel
theorem dX6_placeOf_96 : decode cX6_placeOf 96 = .ok (.ifCond .eq 14, 3) := by decide +kernel
theorem dX6_placeOf_99 : decode cX6_placeOf 99 = .ok (.bipush 42, 2) := by decide +kernel
theorem dX6_placeOf_101 : decode cX6_placeOf 101 = .ok (.iconst 4, 1) := by decide +kernel
theorem dX6_placeOf_102 : decode cX6_placeOf 102 = .ok (.iload_n 1, 1) := by decide +kernel
theorem dX6_placeOf_103 : decode cX6_placeOf 103 = .ok (.imul, 1) := by decide +kernel
theorem dX6_placeOf_104 : decode cX6_placeOf 104 = .ok (.iadd, 1) := by decide +kernel
theorem dX6_placeOf_105 : decode cX6_placeOf 105 = .ok (.iload_n 2, 1) := by decide +kernel
theorem dX6_placeOf_106 : decode cX6_placeOf 106 = .ok (.iadd, 1) := by decide +kernel
theorem dX6_placeOf_107 : decode cX6_placeOf 107 = .ok (.goto 5, 3) := by decide +kernel
theorem dX6_placeOf_110 : decode cX6_placeOf 110 = .ok (.bipush (-6), 2) := by decide +kernel
theorem dX6_placeOf_112 : decode cX6_placeOf 112 = .ok (.ireturn, 1) := by decide +kernel
theorem dX6_isNought_0 : decode cX6_isNought 0 = .ok (.iload_n 0, 1) := by decide +kernel
theorem dX6_isNought_1 : decode cX6_isNought 1 = .ok (.iload_n 1, 1) := by decide +kernel
theorem dX6_isNought_2 : decode cX6_isNought 2 = .ok (.if_icmp .ne 8, 3) := by decide +kernel
theorem dX6_isNought_5 : decode cX6_isNought 5 = .ok (.iload_n 0, 1) := by decide +kernel
theorem dX6_isNought_6 : decode cX6_isNought 6 = .ok (.iconst 3, 1) := by decide +kernel
theorem dX6_isNought_7 : decode cX6_isNought 7 = .ok (.if_icmp .gt 13, 3) := by decide +kernel
theorem dX6_isNought_10 : decode cX6_isNought 10 = .ok (.iload_n 0, 1) := by decide +kernel
theorem dX6_isNought_11 : decode cX6_isNought 11 = .ok (.iconst 5, 1) := by decide +kernel
theorem dX6_isNought_12 : decode cX6_isNought 12 = .ok (.if_icmp .ne 12, 3) := by decide +kernel
theorem dX6_isNought_15 : decode cX6_isNought 15 = .ok (.iload_n 1, 1) := by decide +kernel
theorem dX6_isNought_16 : decode cX6_isNought 16 = .ok (.iconst 4, 1) := by decide +kernel
theorem dX6_isNought_17 : decode cX6_isNought 17 = .ok (.if_icmp .ne 7, 3) := by decide +kernel
theorem dX6_isNought_20 : decode cX6_isNought 20 = .ok (.iconst 1, 1) := by decide +kernel
theorem dX6_isNought_21 : decode cX6_isNought 21 = .ok (.goto 4, 3) := by decide +kernel
theorem dX6_isNought_24 : decode cX6_isNought 24 = .ok (.iconst 0, 1) := by decide +kernel
theorem dX6_isNought_25 : decode cX6_isNought 25 = .ok (.ireturn, 1) := by decide +kernel
theorem dX6_give_0 : decode cX6_give 0 = .ok (.iload_n 1, 1) := by decide +kernel
theorem dX6_give_1 : decode cX6_give 1 = .ok (.iconst 0, 1) := by decide +kernel
theorem dX6_give_2 : decode cX6_give 2 = .ok (.iconst 2, 1) := by decide +kernel
theorem dX6_give_3 : decode cX6_give 3 = .ok (.invokestatic 49, 3) := by decide +kernel
theorem dX6_give_6 : decode cX6_give 6 = .ok (.ifCond .eq 13, 3) := by decide +kernel
theorem dX6_give_9 : decode cX6_give 9 = .ok (.iload 4, 2) := by decide +kernel
theorem dX6_give_11 : decode cX6_give 11 = .ok (.iconst 0, 1) := by decide +kernel
theorem dX6_give_12 : decode cX6_give 12 = .ok (.iconst 3, 1) := by decide +kernel
theorem dX6_give_13 : decode cX6_give 13 = .ok (.invokestatic 49, 3) := by decide +kernel
theorem dX6_give_16 : decode cX6_give 16 = .ok (.ifCond .ne 6, 3) := by decide +kernel
theorem dX6_give_19 : decode cX6_give 19 = .ok (.bipush (-2), 2) := by decide +kernel
theorem dX6_give_21 : decode cX6_give 21 = .ok (.ireturn, 1) := by decide +kernel
theorem dX6_give_22 : decode cX6_give 22 = .ok (.iload_n 1, 1) := by decide +kernel
theorem dX6_give_23 : decode cX6_give 23 = .ok (.iload_n 2, 1) := by decide +kernel
theorem dX6_give_24 : decode cX6_give 24 = .ok (.iload_n 3, 1) := by decide +kernel
theorem dX6_give_25 : decode cX6_give 25 = .ok (.invokestatic 53, 3) := by decide +kernel
theorem dX6_give_28 : decode cX6_give 28 = .ok (.istore 5, 2) := by decide +kernel
theorem dX6_give_30 : decode cX6_give 30 = .ok (.iload 5, 2) := by decide +kernel
theorem dX6_give_32 : decode cX6_give 32 = .ok (.ifCond .ge 5, 3) := by decide +kernel
theorem dX6_give_35 : decode cX6_give 35 = .ok (.iconst (-1), 1) := by decide +kernel
theorem dX6_give_36 : decode cX6_give 36 = .ok (.ireturn, 1) := by decide +kernel
theorem dX6_give_37 : decode cX6_give 37 = .ok (.iload_n 1, 1) := by decide +kernel
theorem dX6_give_38 : decode cX6_give 38 = .ok (.iconst 1, 1) := by decide +kernel
theorem dX6_give_39 : decode cX6_give 39 = .ok (.if_icmp .ne 19, 3) := by decide +kernel
theorem dX6_give_42 : decode cX6_give 42 = .ok (.iload 4, 2) := by decide +kernel
theorem dX6_give_44 : decode cX6_give 44 = .ok (.ifCond .le 14, 3) := by decide +kernel
theorem dX6_give_47 : decode cX6_give 47 = .ok (.iload_n 2, 1) := by decide +kernel
theorem dX6_give_48 : decode cX6_give 48 = .ok (.iload_n 3, 1) := by decide +kernel
theorem dX6_give_49 : decode cX6_give 49 = .ok (.invokestatic 57, 3) := by decide +kernel
theorem dX6_give_52 : decode cX6_give 52 = .ok (.ifCond .eq 6, 3) := by decide +kernel
theorem dX6_give_55 : decode cX6_give 55 = .ok (.bipush (-5), 2) := by decide +kernel
theorem dX6_give_57 : decode cX6_give 57 = .ok (.ireturn, 1) := by decide +kernel
theorem dX6_give_58 : decode cX6_give 58 = .ok (.aload_n 0, 1) := by decide +kernel
theorem dX6_give_59 : decode cX6_give 59 = .ok (.invokevirtual 61, 3) := by decide +kernel
theorem dX6_give_62 : decode cX6_give 62 = .ok (.aload_n 0, 1) := by decide +kernel
theorem dX6_give_63 : decode cX6_give 63 = .ok (.getfield 7, 3) := by decide +kernel
theorem dX6_give_66 : decode cX6_give 66 = .ok (.iload 5, 2) := by decide +kernel
theorem dX6_give_68 : decode cX6_give 68 = .ok (.iaload, 1) := by decide +kernel
theorem dX6_give_69 : decode cX6_give 69 = .ok (.istore 6, 2) := by decide +kernel
theorem dX6_give_71 : decode cX6_give 71 = .ok (.aload_n 0, 1) := by decide +kernel
theorem dX6_give_72 : decode cX6_give 72 = .ok (.getfield 7, 3) := by decide +kernel
theorem dX6_give_75 : decode cX6_give 75 = .ok (.iload 5, 2) := by decide +kernel
theorem dX6_give_77 : decode cX6_give 77 = .ok (.iload 4, 2) := by decide +kernel
theorem dX6_give_79 : decode cX6_give 79 = .ok (.iastore, 1) := by decide +kernel
theorem dX6_give_80 : decode cX6_give 80 = .ok (.iload 6, 2) := by decide +kernel
theorem dX6_give_82 : decode cX6_give 82 = .ok (.ireturn, 1) := by decide +kernel
theorem dX6_weight_0 : decode cX6_weight 0 = .ok (.iload_n 1, 1) := by decide +kernel
theorem dX6_weight_1 : decode cX6_weight 1 = .ok (.iconst 0, 1) := by decide +kernel
theorem dX6_weight_2 : decode cX6_weight 2 = .ok (.iconst 2, 1) := by decide +kernel
theorem dX6_weight_3 : decode cX6_weight 3 = .ok (.invokestatic 49, 3) := by decide +kernel
theorem dX6_weight_6 : decode cX6_weight 6 = .ok (.ifCond .ne 6, 3) := by decide +kernel
theorem dX6_weight_9 : decode cX6_weight 9 = .ok (.bipush (-2), 2) := by decide +kernel
theorem dX6_weight_11 : decode cX6_weight 11 = .ok (.ireturn, 1) := by decide +kernel
theorem dX6_weight_12 : decode cX6_weight 12 = .ok (.iload_n 1, 1) := by decide +kernel
theorem dX6_weight_13 : decode cX6_weight 13 = .ok (.iload_n 2, 1) := by decide +kernel
theorem dX6_weight_14 : decode cX6_weight 14 = .ok (.iload_n 3, 1) := by decide +kernel
theorem dX6_weight_15 : decode cX6_weight 15 = .ok (.invokestatic 53, 3) := by decide +kernel
theorem dX6_weight_18 : decode cX6_weight 18 = .ok (.istore 4, 2) := by decide +kernel
theorem dX6_weight_20 : decode cX6_weight 20 = .ok (.iload 4, 2) := by decide +kernel
theorem dX6_weight_22 : decode cX6_weight 22 = .ok (.ifCond .ge 7, 3) := by decide +kernel
theorem dX6_weight_25 : decode cX6_weight 25 = .ok (.iconst (-1), 1) := by decide +kernel
theorem dX6_weight_26 : decode cX6_weight 26 = .ok (.goto 10, 3) := by decide +kernel
theorem dX6_weight_29 : decode cX6_weight 29 = .ok (.aload_n 0, 1) := by decide +kernel
theorem dX6_weight_30 : decode cX6_weight 30 = .ok (.getfield 7, 3) := by decide +kernel
theorem dX6_weight_33 : decode cX6_weight 33 = .ok (.iload 4, 2) := by decide +kernel
theorem dX6_weight_35 : decode cX6_weight 35 = .ok (.iaload, 1) := by decide +kernel
theorem dX6_weight_36 : decode cX6_weight 36 = .ok (.ireturn, 1) := by decide +kernel
theorem dX6_add_0 : decode cX6_add 0 = .ok (.iload_n 1, 1) := by decide +kernel
theorem dX6_add_1 : decode cX6_add 1 = .ok (.iconst 0, 1) := by decide +kernel
theorem dX6_add_2 : decode cX6_add 2 = .ok (.iconst 3, 1) := by decide +kernel
theorem dX6_add_3 : decode cX6_add 3 = .ok (.invokestatic 49, 3) := by decide +kernel
theorem dX6_add_6 : decode cX6_add 6 = .ok (.ifCond .ne 6, 3) := by decide +kernel
theorem dX6_add_9 : decode cX6_add 9 = .ok (.bipush (-2), 2) := by decide +kernel
theorem dX6_add_11 : decode cX6_add 11 = .ok (.ireturn, 1) := by decide +kernel
theorem dX6_add_12 : decode cX6_add 12 = .ok (.aload_n 0, 1) := by decide +kernel
theorem dX6_add_13 : decode cX6_add 13 = .ok (.getfield 7, 3) := by decide +kernel
theorem dX6_add_16 : decode cX6_add 16 = .ok (.bipush 58, 2) := by decide +kernel
theorem dX6_add_18 : decode cX6_add 18 = .ok (.iaload, 1) := by decide +kernel
theorem dX6_add_19 : decode cX6_add 19 = .ok (.bipush 6, 2) := by decide +kernel
theorem dX6_add_21 : decode cX6_add 21 = .ok (.if_icmp .ne 6, 3) := by decide +kernel
theorem dX6_add_24 : decode cX6_add 24 = .ok (.bipush (-4), 2) := by decide +kernel
theorem dX6_add_26 : decode cX6_add 26 = .ok (.ireturn, 1) := by decide +kernel
theorem dX6_add_27 : decode cX6_add 27 = .ok (.aload_n 0, 1) := by decide +kernel
theorem dX6_add_28 : decode cX6_add 28 = .ok (.invokevirtual 61, 3) := by decide +kernel
theorem dX6_add_31 : decode cX6_add 31 = .ok (.aload_n 0, 1) := by decide +kernel
theorem dX6_add_32 : decode cX6_add 32 = .ok (.getfield 7, 3) := by decide +kernel
theorem dX6_add_35 : decode cX6_add 35 = .ok (.bipush 60, 2) := by decide +kernel
theorem dX6_add_37 : decode cX6_add 37 = .ok (.aload_n 0, 1) := by decide +kernel
theorem dX6_add_38 : decode cX6_add 38 = .ok (.getfield 7, 3) := by decide +kernel
theorem dX6_add_41 : decode cX6_add 41 = .ok (.bipush 58, 2) := by decide +kernel
theorem dX6_add_43 : decode cX6_add 43 = .ok (.iaload, 1) := by decide +kernel
theorem dX6_add_44 : decode cX6_add 44 = .ok (.iadd, 1) := by decide +kernel
theorem dX6_add_45 : decode cX6_add 45 = .ok (.iload_n 1, 1) := by decide +kernel
theorem dX6_add_46 : decode cX6_add 46 = .ok (.iastore, 1) := by decide +kernel
theorem dX6_add_47 : decode cX6_add 47 = .ok (.aload_n 0, 1) := by decide +kernel
theorem dX6_add_48 : decode cX6_add 48 = .ok (.getfield 7, 3) := by decide +kernel
theorem dX6_add_51 : decode cX6_add 51 = .ok (.bipush 58, 2) := by decide +kernel
theorem dX6_add_53 : decode cX6_add 53 = .ok (.dup2, 1) := by decide +kernel
theorem dX6_add_54 : decode cX6_add 54 = .ok (.iaload, 1) := by decide +kernel
theorem dX6_add_55 : decode cX6_add 55 = .ok (.iconst 1, 1) := by decide +kernel
theorem dX6_add_56 : decode cX6_add 56 = .ok (.iadd, 1) := by decide +kernel
theorem dX6_add_57 : decode cX6_add 57 = .ok (.iastore, 1) := by decide +kernel
theorem dX6_add_58 : decode cX6_add 58 = .ok (.aload_n 0, 1) := by decide +kernel
theorem dX6_add_59 : decode cX6_add 59 = .ok (.getfield 7, 3) := by decide +kernel
theorem dX6_add_62 : decode cX6_add 62 = .ok (.bipush 58, 2) := by decide +kernel
theorem dX6_add_64 : decode cX6_add 64 = .ok (.iaload, 1) := by decide +kernel
theorem dX6_add_65 : decode cX6_add 65 = .ok (.ireturn, 1) := by decide +kernel
theorem dX6_cut_0 : decode cX6_cut 0 = .ok (.aload_n 0, 1) := by decide +kernel
theorem dX6_cut_1 : decode cX6_cut 1 = .ok (.getfield 7, 3) := by decide +kernel
theorem dX6_cut_4 : decode cX6_cut 4 = .ok (.bipush 58, 2) := by decide +kernel
theorem dX6_cut_6 : decode cX6_cut 6 = .ok (.iaload, 1) := by decide +kernel
theorem dX6_cut_7 : decode cX6_cut 7 = .ok (.ifCond .ne 6, 3) := by decide +kernel
theorem dX6_cut_10 : decode cX6_cut 10 = .ok (.bipush (-5), 2) := by decide +kernel
theorem dX6_cut_12 : decode cX6_cut 12 = .ok (.ireturn, 1) := by decide +kernel
theorem dX6_cut_13 : decode cX6_cut 13 = .ok (.aload_n 0, 1) := by decide +kernel
theorem dX6_cut_14 : decode cX6_cut 14 = .ok (.invokevirtual 61, 3) := by decide +kernel
theorem dX6_cut_17 : decode cX6_cut 17 = .ok (.aload_n 0, 1) := by decide +kernel
theorem dX6_cut_18 : decode cX6_cut 18 = .ok (.getfield 7, 3) := by decide +kernel
theorem dX6_cut_21 : decode cX6_cut 21 = .ok (.bipush 58, 2) := by decide +kernel
theorem dX6_cut_23 : decode cX6_cut 23 = .ok (.dup2, 1) := by decide +kernel
theorem dX6_cut_24 : decode cX6_cut 24 = .ok (.iaload, 1) := by decide +kernel
theorem dX6_cut_25 : decode cX6_cut 25 = .ok (.iconst 1, 1) := by decide +kernel
theorem dX6_cut_26 : decode cX6_cut 26 = .ok (.isub, 1) := by decide +kernel
theorem dX6_cut_27 : decode cX6_cut 27 = .ok (.iastore, 1) := by decide +kernel
theorem dX6_cut_28 : decode cX6_cut 28 = .ok (.aload_n 0, 1) := by decide +kernel
theorem dX6_cut_29 : decode cX6_cut 29 = .ok (.getfield 7, 3) := by decide +kernel
theorem dX6_cut_32 : decode cX6_cut 32 = .ok (.bipush 60, 2) := by decide +kernel
theorem dX6_cut_34 : decode cX6_cut 34 = .ok (.aload_n 0, 1) := by decide +kernel
theorem dX6_cut_35 : decode cX6_cut 35 = .ok (.getfield 7, 3) := by decide +kernel
theorem dX6_cut_38 : decode cX6_cut 38 = .ok (.bipush 58, 2) := by decide +kernel
theorem dX6_cut_40 : decode cX6_cut 40 = .ok (.iaload, 1) := by decide +kernel
theorem dX6_cut_41 : decode cX6_cut 41 = .ok (.iadd, 1) := by decide +kernel
theorem dX6_cut_42 : decode cX6_cut 42 = .ok (.iaload, 1) := by decide +kernel
theorem dX6_cut_43 : decode cX6_cut 43 = .ok (.ireturn, 1) := by decide +kernel
theorem dX6_isPlace_0 : decode cX6_isPlace 0 = .ok (.iload_n 1, 1) := by decide +kernel
theorem dX6_isPlace_1 : decode cX6_isPlace 1 = .ok (.iconst 0, 1) := by decide +kernel
theorem dX6_isPlace_2 : decode cX6_isPlace 2 = .ok (.aload_n 0, 1) := by decide +kernel
theorem dX6_isPlace_3 : decode cX6_isPlace 3 = .ok (.getfield 7, 3) := by decide +kernel
theorem dX6_isPlace_6 : decode cX6_isPlace 6 = .ok (.bipush 58, 2) := by decide +kernel
theorem dX6_isPlace_8 : decode cX6_isPlace 8 = .ok (.iaload, 1) := by decide +kernel
theorem dX6_isPlace_9 : decode cX6_isPlace 9 = .ok (.iconst 1, 1) := by decide +kernel
theorem dX6_isPlace_10 : decode cX6_isPlace 10 = .ok (.isub, 1) := by decide +kernel
theorem dX6_isPlace_11 : decode cX6_isPlace 11 = .ok (.invokestatic 49, 3) := by decide +kernel
theorem dX6_isPlace_14 : decode cX6_isPlace 14 = .ok (.ireturn, 1) := by decide +kernel
theorem dX6_letter_0 : decode cX6_letter 0 = .ok (.aload_n 0, 1) := by decide +kernel
theorem dX6_letter_1 : decode cX6_letter 1 = .ok (.iload_n 1, 1) := by decide +kernel
theorem dX6_letter_2 : decode cX6_letter 2 = .ok (.invokevirtual 64, 3) := by decide +kernel
theorem dX6_letter_5 : decode cX6_letter 5 = .ok (.ifCond .eq 15, 3) := by decide +kernel
theorem dX6_letter_8 : decode cX6_letter 8 = .ok (.aload_n 0, 1) := by decide +kernel
theorem dX6_letter_9 : decode cX6_letter 9 = .ok (.getfield 7, 3) := by decide +kernel
theorem dX6_letter_12 : decode cX6_letter 12 = .ok (.bipush 60, 2) := by decide +kernel
theorem dX6_letter_14 : decode cX6_letter 14 = .ok (.iload_n 1, 1) := by decide +kernel
theorem dX6_letter_15 : decode cX6_letter 15 = .ok (.iadd, 1) := by decide +kernel
theorem dX6_letter_16 : decode cX6_letter 16 = .ok (.iaload, 1) := by decide +kernel
theorem dX6_letter_17 : decode cX6_letter 17 = .ok (.goto 4, 3) := by decide +kernel
theorem dX6_letter_20 : decode cX6_letter 20 = .ok (.iconst (-1), 1) := by decide +kernel
theorem dX6_letter_21 : decode cX6_letter 21 = .ok (.ireturn, 1) := by decide +kernel
theorem dX6_step_0 : decode cX6_step 0 = .ok (.aload_n 0, 1) := by decide +kernel
theorem dX6_step_1 : decode cX6_step 1 = .ok (.getfield 7, 3) := by decide +kernel
theorem dX6_step_4 : decode cX6_step 4 = .ok (.bipush 6, 2) := by decide +kernel
theorem dX6_step_6 : decode cX6_step 6 = .ok (.bipush 6, 2) := by decide +kernel
theorem dX6_step_8 : decode cX6_step 8 = .ok (.iload_n 1, 1) := by decide +kernel
theorem dX6_step_9 : decode cX6_step 9 = .ok (.imul, 1) := by decide +kernel
theorem dX6_step_10 : decode cX6_step 10 = .ok (.iadd, 1) := by decide +kernel
theorem dX6_step_11 : decode cX6_step 11 = .ok (.iload_n 2, 1) := by decide +kernel
theorem dX6_step_12 : decode cX6_step 12 = .ok (.iadd, 1) := by decide +kernel
theorem dX6_step_13 : decode cX6_step 13 = .ok (.iaload, 1) := by decide +kernel
theorem dX6_step_14 : decode cX6_step 14 = .ok (.ireturn, 1) := by decide +kernel
theorem dX6_tells_0 : decode cX6_tells 0 = .ok (.aload_n 0, 1) := by decide +kernel
theorem dX6_tells_1 : decode cX6_tells 1 = .ok (.getfield 7, 3) := by decide +kernel
theorem dX6_tells_4 : decode cX6_tells 4 = .ok (.bipush 42, 2) := by decide +kernel
theorem dX6_tells_6 : decode cX6_tells 6 = .ok (.iconst 4, 1) := by decide +kernel
theorem dX6_tells_7 : decode cX6_tells 7 = .ok (.iload_n 1, 1) := by decide +kernel
theorem dX6_tells_8 : decode cX6_tells 8 = .ok (.imul, 1) := by decide +kernel
theorem dX6_tells_9 : decode cX6_tells 9 = .ok (.iadd, 1) := by decide +kernel
theorem dX6_tells_10 : decode cX6_tells 10 = .ok (.aload_n 0, 1) := by decide +kernel
theorem dX6_tells_11 : decode cX6_tells 11 = .ok (.getfield 7, 3) := by decide +kernel
theorem dX6_tells_14 : decode cX6_tells 14 = .ok (.bipush 60, 2) := by decide +kernel
theorem dX6_tells_16 : decode cX6_tells 16 = .ok (.iload_n 2, 1) := by decide +kernel
theorem dX6_tells_17 : decode cX6_tells 17 = .ok (.iadd, 1) := by decide +kernel
theorem dX6_tells_18 : decode cX6_tells 18 = .ok (.iaload, 1) := by decide +kernel
theorem dX6_tells_19 : decode cX6_tells 19 = .ok (.iadd, 1) := by decide +kernel
theorem dX6_tells_20 : decode cX6_tells 20 = .ok (.iaload, 1) := by decide +kernel
theorem dX6_tells_21 : decode cX6_tells 21 = .ok (.ireturn, 1) := by decide +kernel
theorem dX6_going_0 : decode cX6_going 0 = .ok (.iload_n 2, 1) := by decide +kernel
theorem dX6_going_1 : decode cX6_going 1 = .ok (.iconst 3, 1) := by decide +kernel
theorem dX6_going_2 : decode cX6_going 2 = .ok (.if_icmp .le 7, 3) := by decide +kernel
theorem dX6_going_5 : decode cX6_going 5 = .ok (.iload_n 1, 1) := by decide +kernel
theorem dX6_going_6 : decode cX6_going 6 = .ok (.goto 26, 3) := by decide +kernel
theorem dX6_going_9 : decode cX6_going 9 = .ok (.iload_n 3, 1) := by decide +kernel
theorem dX6_going_10 : decode cX6_going 10 = .ok (.aload_n 0, 1) := by decide +kernel
theorem dX6_going_11 : decode cX6_going 11 = .ok (.getfield 7, 3) := by decide +kernel
theorem dX6_going_14 : decode cX6_going 14 = .ok (.bipush 58, 2) := by decide +kernel
theorem dX6_going_16 : decode cX6_going 16 = .ok (.iaload, 1) := by decide +kernel
theorem dX6_going_17 : decode cX6_going 17 = .ok (.if_icmp .ge 14, 3) := by decide +kernel
theorem dX6_going_20 : decode cX6_going 20 = .ok (.iload_n 1, 1) := by decide +kernel
theorem dX6_going_21 : decode cX6_going 21 = .ok (.aload_n 0, 1) := by decide +kernel
theorem dX6_going_22 : decode cX6_going 22 = .ok (.iload_n 2, 1) := by decide +kernel
theorem dX6_going_23 : decode cX6_going 23 = .ok (.iload_n 3, 1) := by decide +kernel
theorem dX6_going_24 : decode cX6_going 24 = .ok (.invokevirtual 68, 3) := by decide +kernel
theorem dX6_going_27 : decode cX6_going 27 = .ok (.imul, 1) := by decide +kernel
theorem dX6_going_28 : decode cX6_going 28 = .ok (.goto 4, 3) := by decide +kernel
theorem dX6_going_31 : decode cX6_going 31 = .ok (.iconst 0, 1) := by decide +kernel
theorem dX6_going_32 : decode cX6_going 32 = .ok (.ireturn, 1) := by decide +kernel
theorem dX6_toldThen_0 : decode cX6_toldThen 0 = .ok (.iload_n 0, 1) := by decide +kernel
theorem dX6_toldThen_1 : decode cX6_toldThen 1 = .ok (.iconst 3, 1) := by decide +kernel
theorem dX6_toldThen_2 : decode cX6_toldThen 2 = .ok (.if_icmp .le 7, 3) := by decide +kernel
theorem dX6_toldThen_5 : decode cX6_toldThen 5 = .ok (.iload_n 1, 1) := by decide +kernel
theorem dX6_toldThen_6 : decode cX6_toldThen 6 = .ok (.goto 6, 3) := by decide +kernel
theorem dX6_toldThen_9 : decode cX6_toldThen 9 = .ok (.iload_n 1, 1) := by decide +kernel
theorem dX6_toldThen_10 : decode cX6_toldThen 10 = .ok (.iconst 1, 1) := by decide +kernel
theorem dX6_toldThen_11 : decode cX6_toldThen 11 = .ok (.iadd, 1) := by decide +kernel
theorem dX6_toldThen_12 : decode cX6_toldThen 12 = .ok (.ireturn, 1) := by decide +kernel
theorem dX6_addAhead_0 : decode cX6_addAhead 0 = .ok (.lload_n 1, 1) := by decide +kernel
theorem dX6_addAhead_1 : decode cX6_addAhead 1 = .ok (.lconst 0, 1) := by decide +kernel
theorem dX6_addAhead_2 : decode cX6_addAhead 2 = .ok (.lcmp, 1) := by decide +kernel
theorem dX6_addAhead_3 : decode cX6_addAhead 3 = .ok (.ifCond .le 23, 3) := by decide +kernel
theorem dX6_addAhead_6 : decode cX6_addAhead 6 = .ok (.aload_n 0, 1) := by decide +kernel
theorem dX6_addAhead_7 : decode cX6_addAhead 7 = .ok (.getfield 26, 3) := by decide +kernel
theorem dX6_addAhead_10 : decode cX6_addAhead 10 = .ok (.bipush 7, 2) := by decide +kernel
theorem dX6_addAhead_12 : decode cX6_addAhead 12 = .ok (.iload_n 3, 1) := by decide +kernel
theorem dX6_addAhead_13 : decode cX6_addAhead 13 = .ok (.imul, 1) := by decide +kernel
theorem dX6_addAhead_14 : decode cX6_addAhead 14 = .ok (.iload_n 3, 1) := by decide +kernel
theorem dX6_addAhead_15 : decode cX6_addAhead 15 = .ok (.iload 4, 2) := by decide +kernel
theorem dX6_addAhead_17 : decode cX6_addAhead 17 = .ok (.invokestatic 72, 3) := by decide +kernel
theorem dX6_addAhead_20 : decode cX6_addAhead 20 = .ok (.iadd, 1) := by decide +kernel
theorem dX6_addAhead_21 : decode cX6_addAhead 21 = .ok (.dup2, 1) := by decide +kernel
theorem dX6_addAhead_22 : decode cX6_addAhead 22 = .ok (.laload, 1) := by decide +kernel
theorem dX6_addAhead_23 : decode cX6_addAhead 23 = .ok (.lload_n 1, 1) := by decide +kernel
theorem dX6_addAhead_24 : decode cX6_addAhead 24 = .ok (.ladd, 1) := by decide +kernel
theorem dX6_addAhead_25 : decode cX6_addAhead 25 = .ok (.lastore, 1) := by decide +kernel
theorem dX6_addAhead_26 : decode cX6_addAhead 26 = .ok (.return_, 1) := by decide +kernel
theorem dX6_spread_0 : decode cX6_spread 0 = .ok (.iconst 0, 1) := by decide +kernel
theorem dX6_spread_1 : decode cX6_spread 1 = .ok (.istore_n 3, 1) := by decide +kernel
theorem dX6_spread_2 : decode cX6_spread 2 = .ok (.iload_n 3, 1) := by decide +kernel
theorem dX6_spread_3 : decode cX6_spread 3 = .ok (.bipush 6, 2) := by decide +kernel
theorem dX6_spread_5 : decode cX6_spread 5 = .ok (.if_icmp .ge 40, 3) := by decide +kernel
theorem dX6_spread_8 : decode cX6_spread 8 = .ok (.aload_n 0, 1) := by decide +kernel
theorem dX6_spread_9 : decode cX6_spread 9 = .ok (.aload_n 0, 1) := by decide +kernel
theorem dX6_spread_10 : decode cX6_spread 10 = .ok (.getfield 26, 3) := by decide +kernel
theorem dX6_spread_13 : decode cX6_spread 13 = .ok (.bipush 7, 2) := by decide +kernel
theorem dX6_spread_15 : decode cX6_spread 15 = .ok (.iload_n 1, 1) := by decide +kernel
theorem dX6_spread_16 : decode cX6_spread 16 = .ok (.imul, 1) := by decide +kernel
theorem dX6_spread_17 : decode cX6_spread 17 = .ok (.iload_n 2, 1) := by decide +kernel
theorem dX6_spread_18 : decode cX6_spread 18 = .ok (.iadd, 1) := by decide +kernel
theorem dX6_spread_19 : decode cX6_spread 19 = .ok (.laload, 1) := by decide +kernel
theorem dX6_spread_20 : decode cX6_spread 20 = .ok (.aload_n 0, 1) := by decide +kernel
theorem dX6_spread_21 : decode cX6_spread 21 = .ok (.aload_n 0, 1) := by decide +kernel
theorem dX6_spread_22 : decode cX6_spread 22 = .ok (.iload_n 1, 1) := by decide +kernel
theorem dX6_spread_23 : decode cX6_spread 23 = .ok (.iload_n 3, 1) := by decide +kernel
theorem dX6_spread_24 : decode cX6_spread 24 = .ok (.invokevirtual 75, 3) := by decide +kernel
theorem dX6_spread_27 : decode cX6_spread 27 = .ok (.iload_n 3, 1) := by decide +kernel
theorem dX6_spread_28 : decode cX6_spread 28 = .ok (.iload_n 2, 1) := by decide +kernel
theorem dX6_spread_29 : decode cX6_spread 29 = .ok (.invokevirtual 78, 3) := by decide +kernel
theorem dX6_spread_32 : decode cX6_spread 32 = .ok (.i2l, 1) := by decide +kernel
theorem dX6_spread_33 : decode cX6_spread 33 = .ok (.lmul, 1) := by decide +kernel
theorem dX6_spread_34 : decode cX6_spread 34 = .ok (.iload_n 3, 1) := by decide +kernel
theorem dX6_spread_35 : decode cX6_spread 35 = .ok (.iload_n 2, 1) := by decide +kernel
theorem dX6_spread_36 : decode cX6_spread 36 = .ok (.invokevirtual 81, 3) := by decide +kernel
theorem dX6_spread_39 : decode cX6_spread 39 = .ok (.iinc 3 1, 3) := by decide +kernel
theorem dX6_spread_42 : decode cX6_spread 42 = .ok (.goto (-40), 3) := by decide +kernel
theorem dX6_spread_45 : decode cX6_spread 45 = .ok (.return_, 1) := by decide +kernel
theorem dX6_layAhead_0 : decode cX6_layAhead 0 = .ok (.iconst 0, 1) := by decide +kernel
theorem dX6_layAhead_1 : decode cX6_layAhead 1 = .ok (.istore_n 1, 1) := by decide +kernel
theorem dX6_layAhead_2 : decode cX6_layAhead 2 = .ok (.iload_n 1, 1) := by decide +kernel
theorem dX6_layAhead_3 : decode cX6_layAhead 3 = .ok (.bipush 42, 2) := by decide +kernel
theorem dX6_layAhead_5 : decode cX6_layAhead 5 = .ok (.if_icmp .ge 16, 3) := by decide +kernel
theorem dX6_layAhead_8 : decode cX6_layAhead 8 = .ok (.aload_n 0, 1) := by decide +kernel
theorem dX6_layAhead_9 : decode cX6_layAhead 9 = .ok (.getfield 26, 3) := by decide +kernel
theorem dX6_layAhead_12 : decode cX6_layAhead 12 = .ok (.iload_n 1, 1) := by decide +kernel
theorem dX6_layAhead_13 : decode cX6_layAhead 13 = .ok (.lconst 0, 1) := by decide +kernel
theorem dX6_layAhead_14 : decode cX6_layAhead 14 = .ok (.lastore, 1) := by decide +kernel
theorem dX6_layAhead_15 : decode cX6_layAhead 15 = .ok (.iinc 1 1, 3) := by decide +kernel
theorem dX6_layAhead_18 : decode cX6_layAhead 18 = .ok (.goto (-16), 3) := by decide +kernel
theorem dX6_layAhead_21 : decode cX6_layAhead 21 = .ok (.iconst 0, 1) := by decide +kernel
theorem dX6_layAhead_22 : decode cX6_layAhead 22 = .ok (.istore_n 1, 1) := by decide +kernel
theorem dX6_layAhead_23 : decode cX6_layAhead 23 = .ok (.iload_n 1, 1) := by decide +kernel
theorem dX6_layAhead_24 : decode cX6_layAhead 24 = .ok (.bipush 6, 2) := by decide +kernel
theorem dX6_layAhead_26 : decode cX6_layAhead 26 = .ok (.if_icmp .ge 28, 3) := by decide +kernel
theorem dX6_layAhead_29 : decode cX6_layAhead 29 = .ok (.aload_n 0, 1) := by decide +kernel
theorem dX6_layAhead_30 : decode cX6_layAhead 30 = .ok (.aload_n 0, 1) := by decide +kernel
theorem dX6_layAhead_31 : decode cX6_layAhead 31 = .ok (.aload_n 0, 1) := by decide +kernel
theorem dX6_layAhead_32 : decode cX6_layAhead 32 = .ok (.getfield 7, 3) := by decide +kernel
theorem dX6_layAhead_35 : decode cX6_layAhead 35 = .ok (.iload_n 1, 1) := by decide +kernel
theorem dX6_layAhead_36 : decode cX6_layAhead 36 = .ok (.iaload, 1) := by decide +kernel
theorem dX6_layAhead_37 : decode cX6_layAhead 37 = .ok (.iload_n 1, 1) := by decide +kernel
theorem dX6_layAhead_38 : decode cX6_layAhead 38 = .ok (.iconst 0, 1) := by decide +kernel
theorem dX6_layAhead_39 : decode cX6_layAhead 39 = .ok (.invokevirtual 78, 3) := by decide +kernel
theorem dX6_layAhead_42 : decode cX6_layAhead 42 = .ok (.i2l, 1) := by decide +kernel
theorem dX6_layAhead_43 : decode cX6_layAhead 43 = .ok (.iload_n 1, 1) := by decide +kernel
theorem dX6_layAhead_44 : decode cX6_layAhead 44 = .ok (.iconst 0, 1) := by decide +kernel
theorem dX6_layAhead_45 : decode cX6_layAhead 45 = .ok (.invokevirtual 81, 3) := by decide +kernel
theorem dX6_layAhead_48 : decode cX6_layAhead 48 = .ok (.iinc 1 1, 3) := by decide +kernel
theorem dX6_layAhead_51 : decode cX6_layAhead 51 = .ok (.goto (-28), 3) := by decide +kernel
theorem dX6_layAhead_54 : decode cX6_layAhead 54 = .ok (.iconst 0, 1) := by decide +kernel
theorem dX6_layAhead_55 : decode cX6_layAhead 55 = .ok (.istore_n 1, 1) := by decide +kernel
theorem dX6_layAhead_56 : decode cX6_layAhead 56 = .ok (.iload_n 1, 1) := by decide +kernel
theorem dX6_layAhead_57 : decode cX6_layAhead 57 = .ok (.bipush 7, 2) := by decide +kernel
theorem dX6_layAhead_59 : decode cX6_layAhead 59 = .ok (.if_icmp .ge 29, 3) := by decide +kernel
theorem dX6_layAhead_62 : decode cX6_layAhead 62 = .ok (.iconst 0, 1) := by decide +kernel
theorem dX6_layAhead_63 : decode cX6_layAhead 63 = .ok (.istore_n 2, 1) := by decide +kernel
theorem dX6_layAhead_64 : decode cX6_layAhead 64 = .ok (.iload_n 2, 1) := by decide +kernel
theorem dX6_layAhead_65 : decode cX6_layAhead 65 = .ok (.bipush 6, 2) := by decide +kernel
theorem dX6_layAhead_67 : decode cX6_layAhead 67 = .ok (.if_icmp .ge 15, 3) := by decide +kernel
theorem dX6_layAhead_70 : decode cX6_layAhead 70 = .ok (.aload_n 0, 1) := by decide +kernel
theorem dX6_layAhead_71 : decode cX6_layAhead 71 = .ok (.iload_n 2, 1) := by decide +kernel
theorem dX6_layAhead_72 : decode cX6_layAhead 72 = .ok (.iload_n 1, 1) := by decide +kernel
theorem dX6_layAhead_73 : decode cX6_layAhead 73 = .ok (.invokevirtual 85, 3) := by decide +kernel
theorem dX6_layAhead_76 : decode cX6_layAhead 76 = .ok (.iinc 2 1, 3) := by decide +kernel
theorem dX6_layAhead_79 : decode cX6_layAhead 79 = .ok (.goto (-15), 3) := by decide +kernel
theorem dX6_layAhead_82 : decode cX6_layAhead 82 = .ok (.iinc 1 1, 3) := by decide +kernel
theorem dX6_layAhead_85 : decode cX6_layAhead 85 = .ok (.goto (-29), 3) := by decide +kernel
theorem dX6_layAhead_88 : decode cX6_layAhead 88 = .ok (.return_, 1) := by decide +kernel
theorem dX6_layBehindOf_0 : decode cX6_layBehindOf 0 = .ok (.bipush 7, 2) := by decide +kernel
theorem dX6_layBehindOf_2 : decode cX6_layBehindOf 2 = .ok (.iload_n 1, 1) := by decide +kernel
theorem dX6_layBehindOf_3 : decode cX6_layBehindOf 3 = .ok (.imul, 1) := by decide +kernel
theorem dX6_layBehindOf_4 : decode cX6_layBehindOf 4 = .ok (.iload_n 2, 1) := by decide +kernel
theorem dX6_layBehindOf_5 : decode cX6_layBehindOf 5 = .ok (.iadd, 1) := by decide +kernel
theorem dX6_layBehindOf_6 : decode cX6_layBehindOf 6 = .ok (.istore_n 3, 1) := by decide +kernel
theorem dX6_layBehindOf_7 : decode cX6_layBehindOf 7 = .ok (.iload_n 1, 1) := by decide +kernel
theorem dX6_layBehindOf_8 : decode cX6_layBehindOf 8 = .ok (.iconst 4, 1) := by decide +kernel
theorem dX6_layBehindOf_9 : decode cX6_layBehindOf 9 = .ok (.if_icmp .ge 18, 3) := by decide +kernel
theorem dX6_layBehindOf_12 : decode cX6_layBehindOf 12 = .ok (.iload_n 2, 1) := by decide +kernel
theorem dX6_layBehindOf_13 : decode cX6_layBehindOf 13 = .ok (.aload_n 0, 1) := by decide +kernel
theorem dX6_layBehindOf_14 : decode cX6_layBehindOf 14 = .ok (.getfield 7, 3) := by decide +kernel
theorem dX6_layBehindOf_17 : decode cX6_layBehindOf 17 = .ok (.bipush 58, 2) := by decide +kernel
theorem dX6_layBehindOf_19 : decode cX6_layBehindOf 19 = .ok (.iaload, 1) := by decide +kernel
theorem dX6_layBehindOf_20 : decode cX6_layBehindOf 20 = .ok (.if_icmp .ne 7, 3) := by decide +kernel
theorem dX6_layBehindOf_23 : decode cX6_layBehindOf 23 = .ok (.iconst 1, 1) := by decide +kernel
theorem dX6_layBehindOf_24 : decode cX6_layBehindOf 24 = .ok (.goto 4, 3) := by decide +kernel
theorem dX6_layBehindOf_27 : decode cX6_layBehindOf 27 = .ok (.iconst 0, 1) := by decide +kernel
theorem dX6_layBehindOf_28 : decode cX6_layBehindOf 28 = .ok (.istore 4, 2) := by decide +kernel
theorem dX6_layBehindOf_30 : decode cX6_layBehindOf 30 = .ok (.aload_n 0, 1) := by decide +kernel
theorem dX6_layBehindOf_31 : decode cX6_layBehindOf 31 = .ok (.getfield 30, 3) := by decide +kernel
theorem dX6_layBehindOf_34 : decode cX6_layBehindOf 34 = .ok (.iload_n 3, 1) := by decide +kernel
theorem dX6_layBehindOf_35 : decode cX6_layBehindOf 35 = .ok (.iload 4, 2) := by decide +kernel
theorem dX6_layBehindOf_37 : decode cX6_layBehindOf 37 = .ok (.ifCond .eq 7, 3) := by decide +kernel
theorem dX6_layBehindOf_40 : decode cX6_layBehindOf 40 = .ok (.lconst 1, 1) := by decide +kernel
theorem dX6_layBehindOf_41 : decode cX6_layBehindOf 41 = .ok (.goto 4, 3) := by decide +kernel
theorem dX6_layBehindOf_44 : decode cX6_layBehindOf 44 = .ok (.lconst 0, 1) := by decide +kernel
theorem dX6_layBehindOf_45 : decode cX6_layBehindOf 45 = .ok (.lastore, 1) := by decide +kernel
theorem dX6_layBehindOf_46 : decode cX6_layBehindOf 46 = .ok (.aload_n 0, 1) := by decide +kernel
theorem dX6_layBehindOf_47 : decode cX6_layBehindOf 47 = .ok (.getfield 33, 3) := by decide +kernel
theorem dX6_layBehindOf_50 : decode cX6_layBehindOf 50 = .ok (.iload_n 3, 1) := by decide +kernel
theorem dX6_layBehindOf_51 : decode cX6_layBehindOf 51 = .ok (.iload 4, 2) := by decide +kernel
theorem dX6_layBehindOf_53 : decode cX6_layBehindOf 53 = .ok (.ifCond .eq 7, 3) := by decide +kernel
theorem dX6_layBehindOf_56 : decode cX6_layBehindOf 56 = .ok (.iconst 1, 1) := by decide +kernel
theorem dX6_layBehindOf_57 : decode cX6_layBehindOf 57 = .ok (.goto 4, 3) := by decide +kernel
theorem dX6_layBehindOf_60 : decode cX6_layBehindOf 60 = .ok (.iconst 0, 1) := by decide +kernel
theorem dX6_layBehindOf_61 : decode cX6_layBehindOf 61 = .ok (.iastore, 1) := by decide +kernel
theorem dX6_layBehindOf_62 : decode cX6_layBehindOf 62 = .ok (.aload_n 0, 1) := by decide +kernel
theorem dX6_layBehindOf_63 : decode cX6_layBehindOf 63 = .ok (.getfield 36, 3) := by decide +kernel
theorem dX6_layBehindOf_66 : decode cX6_layBehindOf 66 = .ok (.iload_n 3, 1) := by decide +kernel
theorem dX6_layBehindOf_67 : decode cX6_layBehindOf 67 = .ok (.iload 4, 2) := by decide +kernel
theorem dX6_layBehindOf_69 : decode cX6_layBehindOf 69 = .ok (.ifCond .eq 7, 3) := by decide +kernel
theorem dX6_layBehindOf_72 : decode cX6_layBehindOf 72 = .ok (.lconst 1, 1) := by decide +kernel
theorem dX6_layBehindOf_73 : decode cX6_layBehindOf 73 = .ok (.goto 4, 3) := by decide +kernel
theorem dX6_layBehindOf_76 : decode cX6_layBehindOf 76 = .ok (.lconst 0, 1) := by decide +kernel
theorem dX6_layBehindOf_77 : decode cX6_layBehindOf 77 = .ok (.lastore, 1) := by decide +kernel
theorem dX6_layBehindOf_78 : decode cX6_layBehindOf 78 = .ok (.iconst 0, 1) := by decide +kernel
theorem dX6_layBehindOf_79 : decode cX6_layBehindOf 79 = .ok (.istore 5, 2) := by decide +kernel
theorem dX6_layBehindOf_81 : decode cX6_layBehindOf 81 = .ok (.iload 5, 2) := by decide +kernel
theorem dX6_layBehindOf_83 : decode cX6_layBehindOf 83 = .ok (.bipush 6, 2) := by decide +kernel
theorem dX6_layBehindOf_85 : decode cX6_layBehindOf 85 = .ok (.if_icmp .ge 132, 3) := by decide +kernel
theorem dX6_layBehindOf_88 : decode cX6_layBehindOf 88 = .ok (.iload 4, 2) := by decide +kernel
theorem dX6_layBehindOf_90 : decode cX6_layBehindOf 90 = .ok (.ifCond .ne 127, 3) := by decide +kernel
theorem dX6_layBehindOf_93 : decode cX6_layBehindOf 93 = .ok (.aload_n 0, 1) := by decide +kernel
theorem dX6_layBehindOf_94 : decode cX6_layBehindOf 94 = .ok (.aload_n 0, 1) := by decide +kernel
theorem dX6_layBehindOf_95 : decode cX6_layBehindOf 95 = .ok (.iload_n 1, 1) := by decide +kernel
theorem dX6_layBehindOf_96 : decode cX6_layBehindOf 96 = .ok (.iload 5, 2) := by decide +kernel
theorem dX6_layBehindOf_98 : decode cX6_layBehindOf 98 = .ok (.invokevirtual 75, 3) := by decide +kernel
theorem dX6_layBehindOf_101 : decode cX6_layBehindOf 101 = .ok (.iload 5, 2) := by decide +kernel
theorem dX6_layBehindOf_103 : decode cX6_layBehindOf 103 = .ok (.iload_n 2, 1) := by decide +kernel
theorem dX6_layBehindOf_104 : decode cX6_layBehindOf 104 = .ok (.invokevirtual 78, 3) := by decide +kernel
theorem dX6_layBehindOf_107 : decode cX6_layBehindOf 107 = .ok (.istore 6, 2) := by decide +kernel
theorem dX6_layBehindOf_109 : decode cX6_layBehindOf 109 = .ok (.bipush 7, 2) := by decide +kernel
theorem dX6_layBehindOf_111 : decode cX6_layBehindOf 111 = .ok (.iload 5, 2) := by decide +kernel
theorem dX6_layBehindOf_113 : decode cX6_layBehindOf 113 = .ok (.imul, 1) := by decide +kernel
theorem dX6_layBehindOf_114 : decode cX6_layBehindOf 114 = .ok (.iload 5, 2) := by decide +kernel
theorem dX6_layBehindOf_116 : decode cX6_layBehindOf 116 = .ok (.iload_n 2, 1) := by decide +kernel
theorem dX6_layBehindOf_117 : decode cX6_layBehindOf 117 = .ok (.invokestatic 72, 3) := by decide +kernel
theorem dX6_layBehindOf_120 : decode cX6_layBehindOf 120 = .ok (.iadd, 1) := by decide +kernel
theorem dX6_layBehindOf_121 : decode cX6_layBehindOf 121 = .ok (.istore 7, 2) := by decide +kernel
theorem dX6_layBehindOf_123 : decode cX6_layBehindOf 123 = .ok (.iload 6, 2) := by decide +kernel
theorem dX6_layBehindOf_125 : decode cX6_layBehindOf 125 = .ok (.ifCond .le 86, 3) := by decide +kernel
theorem dX6_layBehindOf_128 : decode cX6_layBehindOf 128 = .ok (.aload_n 0, 1) := by decide +kernel
theorem dX6_layBehindOf_129 : decode cX6_layBehindOf 129 = .ok (.getfield 30, 3) := by decide +kernel
theorem dX6_layBehindOf_132 : decode cX6_layBehindOf 132 = .ok (.iload_n 3, 1) := by decide +kernel
theorem dX6_layBehindOf_133 : decode cX6_layBehindOf 133 = .ok (.dup2, 1) := by decide +kernel
theorem dX6_layBehindOf_134 : decode cX6_layBehindOf 134 = .ok (.laload, 1) := by decide +kernel
theorem dX6_layBehindOf_135 : decode cX6_layBehindOf 135 = .ok (.iload 6, 2) := by decide +kernel
theorem dX6_layBehindOf_137 : decode cX6_layBehindOf 137 = .ok (.i2l, 1) := by decide +kernel
theorem dX6_layBehindOf_138 : decode cX6_layBehindOf 138 = .ok (.aload_n 0, 1) := by decide +kernel
theorem dX6_layBehindOf_139 : decode cX6_layBehindOf 139 = .ok (.getfield 30, 3) := by decide +kernel
theorem dX6_layBehindOf_142 : decode cX6_layBehindOf 142 = .ok (.iload 7, 2) := by decide +kernel
theorem dX6_layBehindOf_144 : decode cX6_layBehindOf 144 = .ok (.laload, 1) := by decide +kernel
theorem dX6_layBehindOf_145 : decode cX6_layBehindOf 145 = .ok (.lmul, 1) := by decide +kernel
theorem dX6_layBehindOf_146 : decode cX6_layBehindOf 146 = .ok (.ladd, 1) := by decide +kernel
theorem dX6_layBehindOf_147 : decode cX6_layBehindOf 147 = .ok (.lastore, 1) := by decide +kernel
theorem dX6_layBehindOf_148 : decode cX6_layBehindOf 148 = .ok (.aload_n 0, 1) := by decide +kernel
theorem dX6_layBehindOf_149 : decode cX6_layBehindOf 149 = .ok (.getfield 33, 3) := by decide +kernel
theorem dX6_layBehindOf_152 : decode cX6_layBehindOf 152 = .ok (.iload_n 3, 1) := by decide +kernel
theorem dX6_layBehindOf_153 : decode cX6_layBehindOf 153 = .ok (.dup2, 1) := by decide +kernel
theorem dX6_layBehindOf_154 : decode cX6_layBehindOf 154 = .ok (.iaload, 1) := by decide +kernel
theorem dX6_layBehindOf_155 : decode cX6_layBehindOf 155 = .ok (.aload_n 0, 1) := by decide +kernel
theorem dX6_layBehindOf_156 : decode cX6_layBehindOf 156 = .ok (.getfield 33, 3) := by decide +kernel
theorem dX6_layBehindOf_159 : decode cX6_layBehindOf 159 = .ok (.iload 7, 2) := by decide +kernel
theorem dX6_layBehindOf_161 : decode cX6_layBehindOf 161 = .ok (.iaload, 1) := by decide +kernel
theorem dX6_layBehindOf_162 : decode cX6_layBehindOf 162 = .ok (.iadd, 1) := by decide +kernel
theorem dX6_layBehindOf_163 : decode cX6_layBehindOf 163 = .ok (.iastore, 1) := by decide +kernel
theorem dX6_layBehindOf_164 : decode cX6_layBehindOf 164 = .ok (.aload_n 0, 1) := by decide +kernel
theorem dX6_layBehindOf_165 : decode cX6_layBehindOf 165 = .ok (.getfield 36, 3) := by decide +kernel
theorem dX6_layBehindOf_168 : decode cX6_layBehindOf 168 = .ok (.iload_n 3, 1) := by decide +kernel
theorem dX6_layBehindOf_169 : decode cX6_layBehindOf 169 = .ok (.iload 6, 2) := by decide +kernel
theorem dX6_layBehindOf_171 : decode cX6_layBehindOf 171 = .ok (.i2l, 1) := by decide +kernel
theorem dX6_layBehindOf_172 : decode cX6_layBehindOf 172 = .ok (.aload_n 0, 1) := by decide +kernel
theorem dX6_layBehindOf_173 : decode cX6_layBehindOf 173 = .ok (.getfield 36, 3) := by decide +kernel
theorem dX6_layBehindOf_176 : decode cX6_layBehindOf 176 = .ok (.iload 7, 2) := by decide +kernel
theorem dX6_layBehindOf_178 : decode cX6_layBehindOf 178 = .ok (.laload, 1) := by decide +kernel
theorem dX6_layBehindOf_179 : decode cX6_layBehindOf 179 = .ok (.lmul, 1) := by decide +kernel
theorem dX6_layBehindOf_180 : decode cX6_layBehindOf 180 = .ok (.aload_n 0, 1) := by decide +kernel
theorem dX6_layBehindOf_181 : decode cX6_layBehindOf 181 = .ok (.getfield 36, 3) := by decide +kernel
theorem dX6_layBehindOf_184 : decode cX6_layBehindOf 184 = .ok (.iload_n 3, 1) := by decide +kernel
theorem dX6_layBehindOf_185 : decode cX6_layBehindOf 185 = .ok (.laload, 1) := by decide +kernel
theorem dX6_layBehindOf_186 : decode cX6_layBehindOf 186 = .ok (.lcmp, 1) := by decide +kernel
theorem dX6_layBehindOf_187 : decode cX6_layBehindOf 187 = .ok (.ifCond .le 17, 3) := by decide +kernel
theorem dX6_layBehindOf_190 : decode cX6_layBehindOf 190 = .ok (.iload 6, 2) := by decide +kernel
theorem dX6_layBehindOf_192 : decode cX6_layBehindOf 192 = .ok (.i2l, 1) := by decide +kernel
theorem dX6_layBehindOf_193 : decode cX6_layBehindOf 193 = .ok (.aload_n 0, 1) := by decide +kernel
theorem dX6_layBehindOf_194 : decode cX6_layBehindOf 194 = .ok (.getfield 36, 3) := by decide +kernel
theorem dX6_layBehindOf_197 : decode cX6_layBehindOf 197 = .ok (.iload 7, 2) := by decide +kernel
theorem dX6_layBehindOf_199 : decode cX6_layBehindOf 199 = .ok (.laload, 1) := by decide +kernel
theorem dX6_layBehindOf_200 : decode cX6_layBehindOf 200 = .ok (.lmul, 1) := by decide +kernel
theorem dX6_layBehindOf_201 : decode cX6_layBehindOf 201 = .ok (.goto 9, 3) := by decide +kernel
theorem dX6_layBehindOf_204 : decode cX6_layBehindOf 204 = .ok (.aload_n 0, 1) := by decide +kernel
theorem dX6_layBehindOf_205 : decode cX6_layBehindOf 205 = .ok (.getfield 36, 3) := by decide +kernel
theorem dX6_layBehindOf_208 : decode cX6_layBehindOf 208 = .ok (.iload_n 3, 1) := by decide +kernel
theorem dX6_layBehindOf_209 : decode cX6_layBehindOf 209 = .ok (.laload, 1) := by decide +kernel
theorem dX6_layBehindOf_210 : decode cX6_layBehindOf 210 = .ok (.lastore, 1) := by decide +kernel
theorem dX6_layBehindOf_211 : decode cX6_layBehindOf 211 = .ok (.iinc 5 1, 3) := by decide +kernel
theorem dX6_layBehindOf_214 : decode cX6_layBehindOf 214 = .ok (.goto (-133), 3) := by decide +kernel
theorem dX6_layBehindOf_217 : decode cX6_layBehindOf 217 = .ok (.return_, 1) := by decide +kernel
theorem dX6_layBehind_0 : decode cX6_layBehind 0 = .ok (.aload_n 0, 1) := by decide +kernel
theorem dX6_layBehind_1 : decode cX6_layBehind 1 = .ok (.getfield 7, 3) := by decide +kernel
theorem dX6_layBehind_4 : decode cX6_layBehind 4 = .ok (.bipush 58, 2) := by decide +kernel
theorem dX6_layBehind_6 : decode cX6_layBehind 6 = .ok (.iaload, 1) := by decide +kernel
theorem dX6_layBehind_7 : decode cX6_layBehind 7 = .ok (.istore_n 1, 1) := by decide +kernel
theorem dX6_layBehind_8 : decode cX6_layBehind 8 = .ok (.iload_n 1, 1) := by decide +kernel
theorem dX6_layBehind_9 : decode cX6_layBehind 9 = .ok (.ifCond .lt 40, 3) := by decide +kernel
theorem dX6_layBehind_12 : decode cX6_layBehind 12 = .ok (.aload_n 0, 1) := by decide +kernel
theorem dX6_layBehind_13 : decode cX6_layBehind 13 = .ok (.iconst 5, 1) := by decide +kernel
theorem dX6_layBehind_14 : decode cX6_layBehind 14 = .ok (.iload_n 1, 1) := by decide +kernel
theorem dX6_layBehind_15 : decode cX6_layBehind 15 = .ok (.invokevirtual 89, 3) := by decide +kernel
theorem dX6_layBehind_18 : decode cX6_layBehind 18 = .ok (.aload_n 0, 1) := by decide +kernel
theorem dX6_layBehind_19 : decode cX6_layBehind 19 = .ok (.iconst 4, 1) := by decide +kernel
theorem dX6_layBehind_20 : decode cX6_layBehind 20 = .ok (.iload_n 1, 1) := by decide +kernel
theorem dX6_layBehind_21 : decode cX6_layBehind 21 = .ok (.invokevirtual 89, 3) := by decide +kernel
theorem dX6_layBehind_24 : decode cX6_layBehind 24 = .ok (.iconst 0, 1) := by decide +kernel
theorem dX6_layBehind_25 : decode cX6_layBehind 25 = .ok (.istore_n 2, 1) := by decide +kernel
theorem dX6_layBehind_26 : decode cX6_layBehind 26 = .ok (.iload_n 2, 1) := by decide +kernel
theorem dX6_layBehind_27 : decode cX6_layBehind 27 = .ok (.iconst 4, 1) := by decide +kernel
theorem dX6_layBehind_28 : decode cX6_layBehind 28 = .ok (.if_icmp .ge 15, 3) := by decide +kernel
theorem dX6_layBehind_31 : decode cX6_layBehind 31 = .ok (.aload_n 0, 1) := by decide +kernel
theorem dX6_layBehind_32 : decode cX6_layBehind 32 = .ok (.iload_n 2, 1) := by decide +kernel
theorem dX6_layBehind_33 : decode cX6_layBehind 33 = .ok (.iload_n 1, 1) := by decide +kernel
theorem dX6_layBehind_34 : decode cX6_layBehind 34 = .ok (.invokevirtual 89, 3) := by decide +kernel
theorem dX6_layBehind_37 : decode cX6_layBehind 37 = .ok (.iinc 2 1, 3) := by decide +kernel
theorem dX6_layBehind_40 : decode cX6_layBehind 40 = .ok (.goto (-14), 3) := by decide +kernel
theorem dX6_layBehind_43 : decode cX6_layBehind 43 = .ok (.iinc 1 (-1), 3) := by decide +kernel
theorem dX6_layBehind_46 : decode cX6_layBehind 46 = .ok (.goto (-38), 3) := by decide +kernel
theorem dX6_layBehind_49 : decode cX6_layBehind 49 = .ok (.return_, 1) := by decide +kernel
theorem dX6_totalNow_0 : decode cX6_totalNow 0 = .ok (.aload_n 0, 1) := by decide +kernel
theorem dX6_totalNow_1 : decode cX6_totalNow 1 = .ok (.invokevirtual 92, 3) := by decide +kernel
theorem dX6_totalNow_4 : decode cX6_totalNow 4 = .ok (.aload_n 0, 1) := by decide +kernel
theorem dX6_totalNow_5 : decode cX6_totalNow 5 = .ok (.getfield 7, 3) := by decide +kernel
theorem dX6_totalNow_8 : decode cX6_totalNow 8 = .ok (.bipush 58, 2) := by decide +kernel
theorem dX6_totalNow_10 : decode cX6_totalNow 10 = .ok (.iaload, 1) := by decide +kernel
theorem dX6_totalNow_11 : decode cX6_totalNow 11 = .ok (.ifCond .ne 5, 3) := by decide +kernel
theorem dX6_totalNow_14 : decode cX6_totalNow 14 = .ok (.lconst 1, 1) := by decide +kernel
theorem dX6_totalNow_15 : decode cX6_totalNow 15 = .ok (.lreturn, 1) := by decide +kernel
theorem dX6_totalNow_16 : decode cX6_totalNow 16 = .ok (.lconst 0, 1) := by decide +kernel
theorem dX6_totalNow_17 : decode cX6_totalNow 17 = .ok (.lstore_n 1, 1) := by decide +kernel
theorem dX6_totalNow_18 : decode cX6_totalNow 18 = .ok (.iconst 0, 1) := by decide +kernel
theorem dX6_totalNow_19 : decode cX6_totalNow 19 = .ok (.istore_n 3, 1) := by decide +kernel
theorem dX6_totalNow_20 : decode cX6_totalNow 20 = .ok (.iload_n 3, 1) := by decide +kernel
theorem dX6_totalNow_21 : decode cX6_totalNow 21 = .ok (.bipush 6, 2) := by decide +kernel
theorem dX6_totalNow_23 : decode cX6_totalNow 23 = .ok (.if_icmp .ge 54, 3) := by decide +kernel
theorem dX6_totalNow_26 : decode cX6_totalNow 26 = .ok (.aload_n 0, 1) := by decide +kernel
theorem dX6_totalNow_27 : decode cX6_totalNow 27 = .ok (.aload_n 0, 1) := by decide +kernel
theorem dX6_totalNow_28 : decode cX6_totalNow 28 = .ok (.getfield 7, 3) := by decide +kernel
theorem dX6_totalNow_31 : decode cX6_totalNow 31 = .ok (.iload_n 3, 1) := by decide +kernel
theorem dX6_totalNow_32 : decode cX6_totalNow 32 = .ok (.iaload, 1) := by decide +kernel
theorem dX6_totalNow_33 : decode cX6_totalNow 33 = .ok (.iload_n 3, 1) := by decide +kernel
theorem dX6_totalNow_34 : decode cX6_totalNow 34 = .ok (.iconst 0, 1) := by decide +kernel
theorem dX6_totalNow_35 : decode cX6_totalNow 35 = .ok (.invokevirtual 78, 3) := by decide +kernel
theorem dX6_totalNow_38 : decode cX6_totalNow 38 = .ok (.istore 4, 2) := by decide +kernel
theorem dX6_totalNow_40 : decode cX6_totalNow 40 = .ok (.lload_n 1, 1) := by decide +kernel
theorem dX6_totalNow_41 : decode cX6_totalNow 41 = .ok (.iload 4, 2) := by decide +kernel
theorem dX6_totalNow_43 : decode cX6_totalNow 43 = .ok (.ifCond .le 25, 3) := by decide +kernel
theorem dX6_totalNow_46 : decode cX6_totalNow 46 = .ok (.iload 4, 2) := by decide +kernel
theorem dX6_totalNow_48 : decode cX6_totalNow 48 = .ok (.i2l, 1) := by decide +kernel
theorem dX6_totalNow_49 : decode cX6_totalNow 49 = .ok (.aload_n 0, 1) := by decide +kernel
theorem dX6_totalNow_50 : decode cX6_totalNow 50 = .ok (.getfield 30, 3) := by decide +kernel
theorem dX6_totalNow_53 : decode cX6_totalNow 53 = .ok (.bipush 7, 2) := by decide +kernel
theorem dX6_totalNow_55 : decode cX6_totalNow 55 = .ok (.iload_n 3, 1) := by decide +kernel
theorem dX6_totalNow_56 : decode cX6_totalNow 56 = .ok (.imul, 1) := by decide +kernel
theorem dX6_totalNow_57 : decode cX6_totalNow 57 = .ok (.iload_n 3, 1) := by decide +kernel
theorem dX6_totalNow_58 : decode cX6_totalNow 58 = .ok (.iconst 0, 1) := by decide +kernel
theorem dX6_totalNow_59 : decode cX6_totalNow 59 = .ok (.invokestatic 72, 3) := by decide +kernel
theorem dX6_totalNow_62 : decode cX6_totalNow 62 = .ok (.iadd, 1) := by decide +kernel
theorem dX6_totalNow_63 : decode cX6_totalNow 63 = .ok (.laload, 1) := by decide +kernel
theorem dX6_totalNow_64 : decode cX6_totalNow 64 = .ok (.lmul, 1) := by decide +kernel
theorem dX6_totalNow_65 : decode cX6_totalNow 65 = .ok (.goto 4, 3) := by decide +kernel
theorem dX6_totalNow_68 : decode cX6_totalNow 68 = .ok (.lconst 0, 1) := by decide +kernel
theorem dX6_totalNow_69 : decode cX6_totalNow 69 = .ok (.ladd, 1) := by decide +kernel
theorem dX6_totalNow_70 : decode cX6_totalNow 70 = .ok (.lstore_n 1, 1) := by decide +kernel
theorem dX6_totalNow_71 : decode cX6_totalNow 71 = .ok (.iinc 3 1, 3) := by decide +kernel
theorem dX6_totalNow_74 : decode cX6_totalNow 74 = .ok (.goto (-54), 3) := by decide +kernel
theorem dX6_totalNow_77 : decode cX6_totalNow 77 = .ok (.lload_n 1, 1) := by decide +kernel
theorem dX6_totalNow_78 : decode cX6_totalNow 78 = .ok (.lreturn, 1) := by decide +kernel
theorem dX6_total_0 : decode cX6_total 0 = .ok (.aload_n 0, 1) := by decide +kernel
theorem dX6_total_1 : decode cX6_total 1 = .ok (.invokevirtual 95, 3) := by decide +kernel
theorem dX6_total_4 : decode cX6_total 4 = .ok (.lreturn, 1) := by decide +kernel
theorem dX6_forward_0 : decode cX6_forward 0 = .ok (.aload_n 0, 1) := by decide +kernel
theorem dX6_forward_1 : decode cX6_forward 1 = .ok (.iload_n 1, 1) := by decide +kernel
theorem dX6_forward_2 : decode cX6_forward 2 = .ok (.invokevirtual 64, 3) := by decide +kernel
theorem dX6_forward_5 : decode cX6_forward 5 = .ok (.ifCond .eq 12, 3) := by decide +kernel
theorem dX6_forward_8 : decode cX6_forward 8 = .ok (.iload_n 2, 1) := by decide +kernel
theorem dX6_forward_9 : decode cX6_forward 9 = .ok (.iconst 0, 1) := by decide +kernel
theorem dX6_forward_10 : decode cX6_forward 10 = .ok (.iconst 3, 1) := by decide +kernel
theorem dX6_forward_11 : decode cX6_forward 11 = .ok (.invokestatic 49, 3) := by decide +kernel
theorem dX6_forward_14 : decode cX6_forward 14 = .ok (.ifCond .ne 7, 3) := by decide +kernel
theorem dX6_forward_17 : decode cX6_forward 17 = .ok (.ldc2_w 99, 3) := by decide +kernel
theorem dX6_forward_20 : decode cX6_forward 20 = .ok (.lreturn, 1) := by decide +kernel
theorem dX6_forward_21 : decode cX6_forward 21 = .ok (.aload_n 0, 1) := by decide +kernel
theorem dX6_forward_22 : decode cX6_forward 22 = .ok (.invokevirtual 101, 3) := by decide +kernel
theorem dX6_forward_25 : decode cX6_forward 25 = .ok (.aload_n 0, 1) := by decide +kernel
theorem dX6_forward_26 : decode cX6_forward 26 = .ok (.getfield 26, 3) := by decide +kernel
theorem dX6_forward_29 : decode cX6_forward 29 = .ok (.bipush 7, 2) := by decide +kernel
theorem dX6_forward_31 : decode cX6_forward 31 = .ok (.iload_n 2, 1) := by decide +kernel
theorem dX6_forward_32 : decode cX6_forward 32 = .ok (.imul, 1) := by decide +kernel
theorem dX6_forward_33 : decode cX6_forward 33 = .ok (.iload_n 1, 1) := by decide +kernel
theorem dX6_forward_34 : decode cX6_forward 34 = .ok (.iadd, 1) := by decide +kernel
theorem dX6_forward_35 : decode cX6_forward 35 = .ok (.iconst 1, 1) := by decide +kernel
theorem dX6_forward_36 : decode cX6_forward 36 = .ok (.iadd, 1) := by decide +kernel
theorem dX6_forward_37 : decode cX6_forward 37 = .ok (.laload, 1) := by decide +kernel
theorem dX6_forward_38 : decode cX6_forward 38 = .ok (.lreturn, 1) := by decide +kernel
theorem dX6_backward_0 : decode cX6_backward 0 = .ok (.aload_n 0, 1) := by decide +kernel
theorem dX6_backward_1 : decode cX6_backward 1 = .ok (.iload_n 1, 1) := by decide +kernel
theorem dX6_backward_2 : decode cX6_backward 2 = .ok (.invokevirtual 64, 3) := by decide +kernel
theorem dX6_backward_5 : decode cX6_backward 5 = .ok (.ifCond .eq 12, 3) := by decide +kernel
theorem dX6_backward_8 : decode cX6_backward 8 = .ok (.iload_n 2, 1) := by decide +kernel
theorem dX6_backward_9 : decode cX6_backward 9 = .ok (.iconst 0, 1) := by decide +kernel
theorem dX6_backward_10 : decode cX6_backward 10 = .ok (.iconst 3, 1) := by decide +kernel
theorem dX6_backward_11 : decode cX6_backward 11 = .ok (.invokestatic 49, 3) := by decide +kernel
theorem dX6_backward_14 : decode cX6_backward 14 = .ok (.ifCond .ne 7, 3) := by decide +kernel
theorem dX6_backward_17 : decode cX6_backward 17 = .ok (.ldc2_w 99, 3) := by decide +kernel
theorem dX6_backward_20 : decode cX6_backward 20 = .ok (.lreturn, 1) := by decide +kernel
theorem dX6_backward_21 : decode cX6_backward 21 = .ok (.aload_n 0, 1) := by decide +kernel
theorem dX6_backward_22 : decode cX6_backward 22 = .ok (.invokevirtual 92, 3) := by decide +kernel
theorem dX6_backward_25 : decode cX6_backward 25 = .ok (.aload_n 0, 1) := by decide +kernel
theorem dX6_backward_26 : decode cX6_backward 26 = .ok (.getfield 30, 3) := by decide +kernel
theorem dX6_backward_29 : decode cX6_backward 29 = .ok (.bipush 7, 2) := by decide +kernel
theorem dX6_backward_31 : decode cX6_backward 31 = .ok (.iload_n 2, 1) := by decide +kernel
theorem dX6_backward_32 : decode cX6_backward 32 = .ok (.imul, 1) := by decide +kernel
theorem dX6_backward_33 : decode cX6_backward 33 = .ok (.iload_n 1, 1) := by decide +kernel
theorem dX6_backward_34 : decode cX6_backward 34 = .ok (.iadd, 1) := by decide +kernel
theorem dX6_backward_35 : decode cX6_backward 35 = .ok (.iconst 1, 1) := by decide +kernel
theorem dX6_backward_36 : decode cX6_backward 36 = .ok (.iadd, 1) := by decide +kernel
theorem dX6_backward_37 : decode cX6_backward 37 = .ok (.laload, 1) := by decide +kernel
theorem dX6_backward_38 : decode cX6_backward 38 = .ok (.lreturn, 1) := by decide +kernel
theorem dX6_waysNow_0 : decode cX6_waysNow 0 = .ok (.aload_n 0, 1) := by decide +kernel
theorem dX6_waysNow_1 : decode cX6_waysNow 1 = .ok (.invokevirtual 92, 3) := by decide +kernel
theorem dX6_waysNow_4 : decode cX6_waysNow 4 = .ok (.aload_n 0, 1) := by decide +kernel
theorem dX6_waysNow_5 : decode cX6_waysNow 5 = .ok (.getfield 7, 3) := by decide +kernel
theorem dX6_waysNow_8 : decode cX6_waysNow 8 = .ok (.bipush 58, 2) := by decide +kernel
theorem dX6_waysNow_10 : decode cX6_waysNow 10 = .ok (.iaload, 1) := by decide +kernel
theorem dX6_waysNow_11 : decode cX6_waysNow 11 = .ok (.ifCond .ne 5, 3) := by decide +kernel
theorem dX6_waysNow_14 : decode cX6_waysNow 14 = .ok (.iconst 1, 1) := by decide +kernel
theorem dX6_waysNow_15 : decode cX6_waysNow 15 = .ok (.ireturn, 1) := by decide +kernel
theorem dX6_waysNow_16 : decode cX6_waysNow 16 = .ok (.iconst 0, 1) := by decide +kernel
theorem dX6_waysNow_17 : decode cX6_waysNow 17 = .ok (.istore_n 1, 1) := by decide +kernel
theorem dX6_waysNow_18 : decode cX6_waysNow 18 = .ok (.iconst 0, 1) := by decide +kernel
theorem dX6_waysNow_19 : decode cX6_waysNow 19 = .ok (.istore_n 2, 1) := by decide +kernel
theorem dX6_waysNow_20 : decode cX6_waysNow 20 = .ok (.iload_n 2, 1) := by decide +kernel
theorem dX6_waysNow_21 : decode cX6_waysNow 21 = .ok (.bipush 6, 2) := by decide +kernel
theorem dX6_waysNow_23 : decode cX6_waysNow 23 = .ok (.if_icmp .ge 46, 3) := by decide +kernel
theorem dX6_waysNow_26 : decode cX6_waysNow 26 = .ok (.iload_n 1, 1) := by decide +kernel
theorem dX6_waysNow_27 : decode cX6_waysNow 27 = .ok (.aload_n 0, 1) := by decide +kernel
theorem dX6_waysNow_28 : decode cX6_waysNow 28 = .ok (.aload_n 0, 1) := by decide +kernel
theorem dX6_waysNow_29 : decode cX6_waysNow 29 = .ok (.getfield 7, 3) := by decide +kernel
theorem dX6_waysNow_32 : decode cX6_waysNow 32 = .ok (.iload_n 2, 1) := by decide +kernel
theorem dX6_waysNow_33 : decode cX6_waysNow 33 = .ok (.iaload, 1) := by decide +kernel
theorem dX6_waysNow_34 : decode cX6_waysNow 34 = .ok (.iload_n 2, 1) := by decide +kernel
theorem dX6_waysNow_35 : decode cX6_waysNow 35 = .ok (.iconst 0, 1) := by decide +kernel
theorem dX6_waysNow_36 : decode cX6_waysNow 36 = .ok (.invokevirtual 78, 3) := by decide +kernel
theorem dX6_waysNow_39 : decode cX6_waysNow 39 = .ok (.ifCond .le 21, 3) := by decide +kernel
theorem dX6_waysNow_42 : decode cX6_waysNow 42 = .ok (.aload_n 0, 1) := by decide +kernel
theorem dX6_waysNow_43 : decode cX6_waysNow 43 = .ok (.getfield 33, 3) := by decide +kernel
theorem dX6_waysNow_46 : decode cX6_waysNow 46 = .ok (.bipush 7, 2) := by decide +kernel
theorem dX6_waysNow_48 : decode cX6_waysNow 48 = .ok (.iload_n 2, 1) := by decide +kernel
theorem dX6_waysNow_49 : decode cX6_waysNow 49 = .ok (.imul, 1) := by decide +kernel
theorem dX6_waysNow_50 : decode cX6_waysNow 50 = .ok (.iload_n 2, 1) := by decide +kernel
theorem dX6_waysNow_51 : decode cX6_waysNow 51 = .ok (.iconst 0, 1) := by decide +kernel
theorem dX6_waysNow_52 : decode cX6_waysNow 52 = .ok (.invokestatic 72, 3) := by decide +kernel
theorem dX6_waysNow_55 : decode cX6_waysNow 55 = .ok (.iadd, 1) := by decide +kernel
theorem dX6_waysNow_56 : decode cX6_waysNow 56 = .ok (.iaload, 1) := by decide +kernel
theorem dX6_waysNow_57 : decode cX6_waysNow 57 = .ok (.goto 4, 3) := by decide +kernel
theorem dX6_waysNow_60 : decode cX6_waysNow 60 = .ok (.iconst 0, 1) := by decide +kernel
theorem dX6_waysNow_61 : decode cX6_waysNow 61 = .ok (.iadd, 1) := by decide +kernel
theorem dX6_waysNow_62 : decode cX6_waysNow 62 = .ok (.istore_n 1, 1) := by decide +kernel
theorem dX6_waysNow_63 : decode cX6_waysNow 63 = .ok (.iinc 2 1, 3) := by decide +kernel
theorem dX6_waysNow_66 : decode cX6_waysNow 66 = .ok (.goto (-46), 3) := by decide +kernel
theorem dX6_waysNow_69 : decode cX6_waysNow 69 = .ok (.iload_n 1, 1) := by decide +kernel
theorem dX6_waysNow_70 : decode cX6_waysNow 70 = .ok (.ireturn, 1) := by decide +kernel
theorem dX6_layWay_0 : decode cX6_layWay 0 = .ok (.iload_n 1, 1) := by decide +kernel
theorem dX6_layWay_1 : decode cX6_layWay 1 = .ok (.istore_n 2, 1) := by decide +kernel
theorem dX6_layWay_2 : decode cX6_layWay 2 = .ok (.iconst 0, 1) := by decide +kernel
theorem dX6_layWay_3 : decode cX6_layWay 3 = .ok (.istore_n 3, 1) := by decide +kernel
theorem dX6_layWay_4 : decode cX6_layWay 4 = .ok (.iconst 0, 1) := by decide +kernel
theorem dX6_layWay_5 : decode cX6_layWay 5 = .ok (.istore 4, 2) := by decide +kernel
theorem dX6_layWay_7 : decode cX6_layWay 7 = .ok (.bipush (-6), 2) := by decide +kernel
theorem dX6_layWay_9 : decode cX6_layWay 9 = .ok (.istore 5, 2) := by decide +kernel
theorem dX6_layWay_11 : decode cX6_layWay 11 = .ok (.aload_n 0, 1) := by decide +kernel
theorem dX6_layWay_12 : decode cX6_layWay 12 = .ok (.iconst 0, 1) := by decide +kernel
theorem dX6_layWay_13 : decode cX6_layWay 13 = .ok (.putfield 104, 3) := by decide +kernel
theorem dX6_layWay_16 : decode cX6_layWay 16 = .ok (.aload_n 0, 1) := by decide +kernel
theorem dX6_layWay_17 : decode cX6_layWay 17 = .ok (.lconst 1, 1) := by decide +kernel
theorem dX6_layWay_18 : decode cX6_layWay 18 = .ok (.putfield 107, 3) := by decide +kernel
theorem dX6_layWay_21 : decode cX6_layWay 21 = .ok (.aload_n 0, 1) := by decide +kernel
theorem dX6_layWay_22 : decode cX6_layWay 22 = .ok (.getfield 7, 3) := by decide +kernel
theorem dX6_layWay_25 : decode cX6_layWay 25 = .ok (.bipush 58, 2) := by decide +kernel
theorem dX6_layWay_27 : decode cX6_layWay 27 = .ok (.iaload, 1) := by decide +kernel
theorem dX6_layWay_28 : decode cX6_layWay 28 = .ok (.ifCond .ne 7, 3) := by decide +kernel
theorem dX6_layWay_31 : decode cX6_layWay 31 = .ok (.iconst 1, 1) := by decide +kernel
theorem dX6_layWay_32 : decode cX6_layWay 32 = .ok (.goto 4, 3) := by decide +kernel
theorem dX6_layWay_35 : decode cX6_layWay 35 = .ok (.iconst 0, 1) := by decide +kernel
theorem dX6_layWay_36 : decode cX6_layWay 36 = .ok (.istore 6, 2) := by decide +kernel
theorem dX6_layWay_38 : decode cX6_layWay 38 = .ok (.iload 6, 2) := by decide +kernel
theorem dX6_layWay_40 : decode cX6_layWay 40 = .ok (.ifCond .ne 341, 3) := by decide +kernel
theorem dX6_layWay_43 : decode cX6_layWay 43 = .ok (.lconst 0, 1) := by decide +kernel
theorem dX6_layWay_44 : decode cX6_layWay 44 = .ok (.lstore 7, 2) := by decide +kernel
theorem dX6_layWay_46 : decode cX6_layWay 46 = .ok (.iconst 0, 1) := by decide +kernel
theorem dX6_layWay_47 : decode cX6_layWay 47 = .ok (.istore 9, 2) := by decide +kernel
theorem dX6_layWay_49 : decode cX6_layWay 49 = .ok (.iload 9, 2) := by decide +kernel
theorem dX6_layWay_51 : decode cX6_layWay 51 = .ok (.bipush 6, 2) := by decide +kernel
theorem dX6_layWay_53 : decode cX6_layWay 53 = .ok (.if_icmp .ge 94, 3) := by decide +kernel
theorem dX6_layWay_56 : decode cX6_layWay 56 = .ok (.aload_n 0, 1) := by decide +kernel
theorem dX6_layWay_57 : decode cX6_layWay 57 = .ok (.iload 5, 2) := by decide +kernel
theorem dX6_layWay_59 : decode cX6_layWay 59 = .ok (.ifCond .ge 13, 3) := by decide +kernel
theorem dX6_layWay_62 : decode cX6_layWay 62 = .ok (.aload_n 0, 1) := by decide +kernel
theorem dX6_layWay_63 : decode cX6_layWay 63 = .ok (.getfield 7, 3) := by decide +kernel
theorem dX6_layWay_66 : decode cX6_layWay 66 = .ok (.iload 9, 2) := by decide +kernel
theorem dX6_layWay_68 : decode cX6_layWay 68 = .ok (.iaload, 1) := by decide +kernel
theorem dX6_layWay_69 : decode cX6_layWay 69 = .ok (.goto 11, 3) := by decide +kernel
theorem dX6_layWay_72 : decode cX6_layWay 72 = .ok (.aload_n 0, 1) := by decide +kernel
theorem dX6_layWay_73 : decode cX6_layWay 73 = .ok (.iload 5, 2) := by decide +kernel
theorem dX6_layWay_75 : decode cX6_layWay 75 = .ok (.iload 9, 2) := by decide +kernel
theorem dX6_layWay_77 : decode cX6_layWay 77 = .ok (.invokevirtual 75, 3) := by decide +kernel
theorem dX6_layWay_80 : decode cX6_layWay 80 = .ok (.iload 9, 2) := by decide +kernel
theorem dX6_layWay_82 : decode cX6_layWay 82 = .ok (.iload 4, 2) := by decide +kernel
theorem dX6_layWay_84 : decode cX6_layWay 84 = .ok (.invokevirtual 78, 3) := by decide +kernel
theorem dX6_layWay_87 : decode cX6_layWay 87 = .ok (.i2l, 1) := by decide +kernel
theorem dX6_layWay_88 : decode cX6_layWay 88 = .ok (.lstore 10, 2) := by decide +kernel
theorem dX6_layWay_90 : decode cX6_layWay 90 = .ok (.lload 10, 2) := by decide +kernel
theorem dX6_layWay_92 : decode cX6_layWay 92 = .ok (.lconst 0, 1) := by decide +kernel
theorem dX6_layWay_93 : decode cX6_layWay 93 = .ok (.lcmp, 1) := by decide +kernel
theorem dX6_layWay_94 : decode cX6_layWay 94 = .ok (.ifCond .le 27, 3) := by decide +kernel
theorem dX6_layWay_97 : decode cX6_layWay 97 = .ok (.lload 10, 2) := by decide +kernel
theorem dX6_layWay_99 : decode cX6_layWay 99 = .ok (.aload_n 0, 1) := by decide +kernel
theorem dX6_layWay_100 : decode cX6_layWay 100 = .ok (.getfield 36, 3) := by decide +kernel
theorem dX6_layWay_103 : decode cX6_layWay 103 = .ok (.bipush 7, 2) := by decide +kernel
theorem dX6_layWay_105 : decode cX6_layWay 105 = .ok (.iload 9, 2) := by decide +kernel
theorem dX6_layWay_107 : decode cX6_layWay 107 = .ok (.imul, 1) := by decide +kernel
theorem dX6_layWay_108 : decode cX6_layWay 108 = .ok (.iload 9, 2) := by decide +kernel
theorem dX6_layWay_110 : decode cX6_layWay 110 = .ok (.iload 4, 2) := by decide +kernel
theorem dX6_layWay_112 : decode cX6_layWay 112 = .ok (.invokestatic 72, 3) := by decide +kernel
theorem dX6_layWay_115 : decode cX6_layWay 115 = .ok (.iadd, 1) := by decide +kernel
theorem dX6_layWay_116 : decode cX6_layWay 116 = .ok (.laload, 1) := by decide +kernel
theorem dX6_layWay_117 : decode cX6_layWay 117 = .ok (.lmul, 1) := by decide +kernel
theorem dX6_layWay_118 : decode cX6_layWay 118 = .ok (.goto 4, 3) := by decide +kernel
theorem dX6_layWay_121 : decode cX6_layWay 121 = .ok (.lconst 0, 1) := by decide +kernel
theorem dX6_layWay_122 : decode cX6_layWay 122 = .ok (.lstore 12, 2) := by decide +kernel
theorem dX6_layWay_124 : decode cX6_layWay 124 = .ok (.lload 12, 2) := by decide +kernel
theorem dX6_layWay_126 : decode cX6_layWay 126 = .ok (.lload 7, 2) := by decide +kernel
theorem dX6_layWay_128 : decode cX6_layWay 128 = .ok (.lcmp, 1) := by decide +kernel
theorem dX6_layWay_129 : decode cX6_layWay 129 = .ok (.ifCond .le 8, 3) := by decide +kernel
theorem dX6_layWay_132 : decode cX6_layWay 132 = .ok (.lload 12, 2) := by decide +kernel
theorem dX6_layWay_134 : decode cX6_layWay 134 = .ok (.goto 5, 3) := by decide +kernel
theorem dX6_layWay_137 : decode cX6_layWay 137 = .ok (.lload 7, 2) := by decide +kernel
theorem dX6_layWay_139 : decode cX6_layWay 139 = .ok (.lstore 7, 2) := by decide +kernel
theorem dX6_layWay_141 : decode cX6_layWay 141 = .ok (.iinc 9 1, 3) := by decide +kernel
theorem dX6_layWay_144 : decode cX6_layWay 144 = .ok (.goto (-95), 3) := by decide +kernel
theorem dX6_layWay_147 : decode cX6_layWay 147 = .ok (.iconst 0, 1) := by decide +kernel
theorem dX6_layWay_148 : decode cX6_layWay 148 = .ok (.istore 9, 2) := by decide +kernel
theorem dX6_layWay_150 : decode cX6_layWay 150 = .ok (.iconst 0, 1) := by decide +kernel
theorem dX6_layWay_151 : decode cX6_layWay 151 = .ok (.istore 10, 2) := by decide +kernel
theorem dX6_layWay_153 : decode cX6_layWay 153 = .ok (.iload 10, 2) := by decide +kernel
theorem dX6_layWay_155 : decode cX6_layWay 155 = .ok (.bipush 6, 2) := by decide +kernel
theorem dX6_layWay_157 : decode cX6_layWay 157 = .ok (.if_icmp .ge 196, 3) := by decide +kernel
theorem dX6_layWay_160 : decode cX6_layWay 160 = .ok (.iload 9, 2) := by decide +kernel
theorem dX6_layWay_162 : decode cX6_layWay 162 = .ok (.ifCond .ne 191, 3) := by decide +kernel
theorem dX6_layWay_165 : decode cX6_layWay 165 = .ok (.aload_n 0, 1) := by decide +kernel
theorem dX6_layWay_166 : decode cX6_layWay 166 = .ok (.iload 5, 2) := by decide +kernel
theorem dX6_layWay_168 : decode cX6_layWay 168 = .ok (.ifCond .ge 13, 3) := by decide +kernel
theorem dX6_layWay_171 : decode cX6_layWay 171 = .ok (.aload_n 0, 1) := by decide +kernel
theorem dX6_layWay_172 : decode cX6_layWay 172 = .ok (.getfield 7, 3) := by decide +kernel
theorem dX6_layWay_175 : decode cX6_layWay 175 = .ok (.iload 10, 2) := by decide +kernel
theorem dX6_layWay_177 : decode cX6_layWay 177 = .ok (.iaload, 1) := by decide +kernel
theorem dX6_layWay_178 : decode cX6_layWay 178 = .ok (.goto 11, 3) := by decide +kernel
theorem dX6_layWay_181 : decode cX6_layWay 181 = .ok (.aload_n 0, 1) := by decide +kernel
theorem dX6_layWay_182 : decode cX6_layWay 182 = .ok (.iload 5, 2) := by decide +kernel
theorem dX6_layWay_184 : decode cX6_layWay 184 = .ok (.iload 10, 2) := by decide +kernel
theorem dX6_layWay_186 : decode cX6_layWay 186 = .ok (.invokevirtual 75, 3) := by decide +kernel
theorem dX6_layWay_189 : decode cX6_layWay 189 = .ok (.iload 10, 2) := by decide +kernel
theorem dX6_layWay_191 : decode cX6_layWay 191 = .ok (.iload 4, 2) := by decide +kernel
theorem dX6_layWay_193 : decode cX6_layWay 193 = .ok (.invokevirtual 78, 3) := by decide +kernel
theorem dX6_layWay_196 : decode cX6_layWay 196 = .ok (.istore 11, 2) := by decide +kernel
theorem dX6_layWay_198 : decode cX6_layWay 198 = .ok (.bipush 7, 2) := by decide +kernel
theorem dX6_layWay_200 : decode cX6_layWay 200 = .ok (.iload 10, 2) := by decide +kernel
theorem dX6_layWay_202 : decode cX6_layWay 202 = .ok (.imul, 1) := by decide +kernel
theorem dX6_layWay_203 : decode cX6_layWay 203 = .ok (.iload 10, 2) := by decide +kernel
theorem dX6_layWay_205 : decode cX6_layWay 205 = .ok (.iload 4, 2) := by decide +kernel
theorem dX6_layWay_207 : decode cX6_layWay 207 = .ok (.invokestatic 72, 3) := by decide +kernel
theorem dX6_layWay_210 : decode cX6_layWay 210 = .ok (.iadd, 1) := by decide +kernel
theorem dX6_layWay_211 : decode cX6_layWay 211 = .ok (.istore 12, 2) := by decide +kernel
theorem dX6_layWay_213 : decode cX6_layWay 213 = .ok (.iload 11, 2) := by decide +kernel
theorem dX6_layWay_215 : decode cX6_layWay 215 = .ok (.ifCond .le 13, 3) := by decide +kernel
theorem dX6_layWay_218 : decode cX6_layWay 218 = .ok (.aload_n 0, 1) := by decide +kernel
theorem dX6_layWay_219 : decode cX6_layWay 219 = .ok (.getfield 33, 3) := by decide +kernel
theorem dX6_layWay_222 : decode cX6_layWay 222 = .ok (.iload 12, 2) := by decide +kernel
theorem dX6_layWay_224 : decode cX6_layWay 224 = .ok (.iaload, 1) := by decide +kernel
theorem dX6_layWay_225 : decode cX6_layWay 225 = .ok (.goto 4, 3) := by decide +kernel
theorem dX6_layWay_228 : decode cX6_layWay 228 = .ok (.iconst 0, 1) := by decide +kernel
theorem dX6_layWay_229 : decode cX6_layWay 229 = .ok (.istore 13, 2) := by decide +kernel
theorem dX6_layWay_231 : decode cX6_layWay 231 = .ok (.iload_n 1, 1) := by decide +kernel
theorem dX6_layWay_232 : decode cX6_layWay 232 = .ok (.ifCond .ge 38, 3) := by decide +kernel
theorem dX6_layWay_235 : decode cX6_layWay 235 = .ok (.iload 11, 2) := by decide +kernel
theorem dX6_layWay_237 : decode cX6_layWay 237 = .ok (.ifCond .le 29, 3) := by decide +kernel
theorem dX6_layWay_240 : decode cX6_layWay 240 = .ok (.iload 11, 2) := by decide +kernel
theorem dX6_layWay_242 : decode cX6_layWay 242 = .ok (.i2l, 1) := by decide +kernel
theorem dX6_layWay_243 : decode cX6_layWay 243 = .ok (.aload_n 0, 1) := by decide +kernel
theorem dX6_layWay_244 : decode cX6_layWay 244 = .ok (.getfield 36, 3) := by decide +kernel
theorem dX6_layWay_247 : decode cX6_layWay 247 = .ok (.iload 12, 2) := by decide +kernel
theorem dX6_layWay_249 : decode cX6_layWay 249 = .ok (.laload, 1) := by decide +kernel
theorem dX6_layWay_250 : decode cX6_layWay 250 = .ok (.lmul, 1) := by decide +kernel
theorem dX6_layWay_251 : decode cX6_layWay 251 = .ok (.lload 7, 2) := by decide +kernel
theorem dX6_layWay_253 : decode cX6_layWay 253 = .ok (.lcmp, 1) := by decide +kernel
theorem dX6_layWay_254 : decode cX6_layWay 254 = .ok (.ifCond .ne 12, 3) := by decide +kernel
theorem dX6_layWay_257 : decode cX6_layWay 257 = .ok (.iload 13, 2) := by decide +kernel
theorem dX6_layWay_259 : decode cX6_layWay 259 = .ok (.ifCond .le 7, 3) := by decide +kernel
theorem dX6_layWay_262 : decode cX6_layWay 262 = .ok (.iconst 1, 1) := by decide +kernel
theorem dX6_layWay_263 : decode cX6_layWay 263 = .ok (.goto 18, 3) := by decide +kernel
theorem dX6_layWay_266 : decode cX6_layWay 266 = .ok (.iconst 0, 1) := by decide +kernel
theorem dX6_layWay_267 : decode cX6_layWay 267 = .ok (.goto 14, 3) := by decide +kernel
theorem dX6_layWay_270 : decode cX6_layWay 270 = .ok (.iload_n 2, 1) := by decide +kernel
theorem dX6_layWay_271 : decode cX6_layWay 271 = .ok (.iload 13, 2) := by decide +kernel
theorem dX6_layWay_273 : decode cX6_layWay 273 = .ok (.if_icmp .ge 7, 3) := by decide +kernel
theorem dX6_layWay_276 : decode cX6_layWay 276 = .ok (.iconst 1, 1) := by decide +kernel
theorem dX6_layWay_277 : decode cX6_layWay 277 = .ok (.goto 4, 3) := by decide +kernel
theorem dX6_layWay_280 : decode cX6_layWay 280 = .ok (.iconst 0, 1) := by decide +kernel
theorem dX6_layWay_281 : decode cX6_layWay 281 = .ok (.istore 9, 2) := by decide +kernel
theorem dX6_layWay_283 : decode cX6_layWay 283 = .ok (.iload 9, 2) := by decide +kernel
theorem dX6_layWay_285 : decode cX6_layWay 285 = .ok (.ifCond .eq 52, 3) := by decide +kernel
theorem dX6_layWay_288 : decode cX6_layWay 288 = .ok (.aload_n 0, 1) := by decide +kernel
theorem dX6_layWay_289 : decode cX6_layWay 289 = .ok (.getfield 39, 3) := by decide +kernel
theorem dX6_layWay_292 : decode cX6_layWay 292 = .ok (.aload_n 0, 1) := by decide +kernel
theorem dX6_layWay_293 : decode cX6_layWay 293 = .ok (.getfield 104, 3) := by decide +kernel
theorem dX6_layWay_296 : decode cX6_layWay 296 = .ok (.iload 10, 2) := by decide +kernel
theorem dX6_layWay_298 : decode cX6_layWay 298 = .ok (.iastore, 1) := by decide +kernel
theorem dX6_layWay_299 : decode cX6_layWay 299 = .ok (.aload_n 0, 1) := by decide +kernel
theorem dX6_layWay_300 : decode cX6_layWay 300 = .ok (.dup, 1) := by decide +kernel
theorem dX6_layWay_301 : decode cX6_layWay 301 = .ok (.getfield 104, 3) := by decide +kernel
theorem dX6_layWay_304 : decode cX6_layWay 304 = .ok (.iconst 1, 1) := by decide +kernel
theorem dX6_layWay_305 : decode cX6_layWay 305 = .ok (.iadd, 1) := by decide +kernel
theorem dX6_layWay_306 : decode cX6_layWay 306 = .ok (.putfield 104, 3) := by decide +kernel
theorem dX6_layWay_309 : decode cX6_layWay 309 = .ok (.aload_n 0, 1) := by decide +kernel
theorem dX6_layWay_310 : decode cX6_layWay 310 = .ok (.dup, 1) := by decide +kernel
theorem dX6_layWay_311 : decode cX6_layWay 311 = .ok (.getfield 107, 3) := by decide +kernel
theorem dX6_layWay_314 : decode cX6_layWay 314 = .ok (.iload 11, 2) := by decide +kernel
theorem dX6_layWay_316 : decode cX6_layWay 316 = .ok (.i2l, 1) := by decide +kernel
theorem dX6_layWay_317 : decode cX6_layWay 317 = .ok (.lmul, 1) := by decide +kernel
theorem dX6_layWay_318 : decode cX6_layWay 318 = .ok (.putfield 107, 3) := by decide +kernel
theorem dX6_layWay_321 : decode cX6_layWay 321 = .ok (.iload 10, 2) := by decide +kernel
theorem dX6_layWay_323 : decode cX6_layWay 323 = .ok (.iload 4, 2) := by decide +kernel
theorem dX6_layWay_325 : decode cX6_layWay 325 = .ok (.invokestatic 72, 3) := by decide +kernel
theorem dX6_layWay_328 : decode cX6_layWay 328 = .ok (.istore 4, 2) := by decide +kernel
theorem dX6_layWay_330 : decode cX6_layWay 330 = .ok (.iload 10, 2) := by decide +kernel
theorem dX6_layWay_332 : decode cX6_layWay 332 = .ok (.istore 5, 2) := by decide +kernel
theorem dX6_layWay_334 : decode cX6_layWay 334 = .ok (.goto 13, 3) := by decide +kernel
theorem dX6_layWay_337 : decode cX6_layWay 337 = .ok (.iload_n 2, 1) := by decide +kernel
theorem dX6_layWay_338 : decode cX6_layWay 338 = .ok (.iload 13, 2) := by decide +kernel
theorem dX6_layWay_340 : decode cX6_layWay 340 = .ok (.isub, 1) := by decide +kernel
theorem dX6_layWay_341 : decode cX6_layWay 341 = .ok (.istore_n 2, 1) := by decide +kernel
theorem dX6_layWay_342 : decode cX6_layWay 342 = .ok (.iload_n 3, 1) := by decide +kernel
theorem dX6_layWay_343 : decode cX6_layWay 343 = .ok (.iload 13, 2) := by decide +kernel
theorem dX6_layWay_345 : decode cX6_layWay 345 = .ok (.iadd, 1) := by decide +kernel
theorem dX6_layWay_346 : decode cX6_layWay 346 = .ok (.istore_n 3, 1) := by decide +kernel
theorem dX6_layWay_347 : decode cX6_layWay 347 = .ok (.iinc 10 1, 3) := by decide +kernel
theorem dX6_layWay_350 : decode cX6_layWay 350 = .ok (.goto (-197), 3) := by decide +kernel
theorem dX6_layWay_353 : decode cX6_layWay 353 = .ok (.iload 5, 2) := by decide +kernel
theorem dX6_layWay_355 : decode cX6_layWay 355 = .ok (.iconst 4, 1) := by decide +kernel
theorem dX6_layWay_356 : decode cX6_layWay 356 = .ok (.if_icmp .ge 19, 3) := by decide +kernel
theorem dX6_layWay_359 : decode cX6_layWay 359 = .ok (.iload 4, 2) := by decide +kernel
theorem dX6_layWay_361 : decode cX6_layWay 361 = .ok (.aload_n 0, 1) := by decide +kernel
theorem dX6_layWay_362 : decode cX6_layWay 362 = .ok (.getfield 7, 3) := by decide +kernel
theorem dX6_layWay_365 : decode cX6_layWay 365 = .ok (.bipush 58, 2) := by decide +kernel
theorem dX6_layWay_367 : decode cX6_layWay 367 = .ok (.iaload, 1) := by decide +kernel
theorem dX6_layWay_368 : decode cX6_layWay 368 = .ok (.if_icmp .ne 7, 3) := by decide +kernel
theorem dX6_layWay_371 : decode cX6_layWay 371 = .ok (.iconst 1, 1) := by decide +kernel
theorem dX6_layWay_372 : decode cX6_layWay 372 = .ok (.goto 4, 3) := by decide +kernel
theorem dX6_layWay_375 : decode cX6_layWay 375 = .ok (.iconst 0, 1) := by decide +kernel
theorem dX6_layWay_376 : decode cX6_layWay 376 = .ok (.istore 6, 2) := by decide +kernel
theorem dX6_layWay_378 : decode cX6_layWay 378 = .ok (.goto (-340), 3) := by decide +kernel
theorem dX6_layWay_381 : decode cX6_layWay 381 = .ok (.iload_n 3, 1) := by decide +kernel
theorem dX6_layWay_382 : decode cX6_layWay 382 = .ok (.ireturn, 1) := by decide +kernel
theorem dX6_ways_0 : decode cX6_ways 0 = .ok (.aload_n 0, 1) := by decide +kernel
theorem dX6_ways_1 : decode cX6_ways 1 = .ok (.invokevirtual 111, 3) := by decide +kernel
theorem dX6_ways_4 : decode cX6_ways 4 = .ok (.ireturn, 1) := by decide +kernel
theorem dX6_isWay_0 : decode cX6_isWay 0 = .ok (.iload_n 1, 1) := by decide +kernel
theorem dX6_isWay_1 : decode cX6_isWay 1 = .ok (.iconst 0, 1) := by decide +kernel
theorem dX6_isWay_2 : decode cX6_isWay 2 = .ok (.aload_n 0, 1) := by decide +kernel
theorem dX6_isWay_3 : decode cX6_isWay 3 = .ok (.invokevirtual 111, 3) := by decide +kernel
theorem dX6_isWay_6 : decode cX6_isWay 6 = .ok (.iconst 1, 1) := by decide +kernel
theorem dX6_isWay_7 : decode cX6_isWay 7 = .ok (.isub, 1) := by decide +kernel
theorem dX6_isWay_8 : decode cX6_isWay 8 = .ok (.invokestatic 49, 3) := by decide +kernel
theorem dX6_isWay_11 : decode cX6_isWay 11 = .ok (.ireturn, 1) := by decide +kernel
theorem dX6_ofLaid_0 : decode cX6_ofLaid 0 = .ok (.iload_n 1, 1) := by decide +kernel
theorem dX6_ofLaid_1 : decode cX6_ofLaid 1 = .ok (.iconst (-1), 1) := by decide +kernel
theorem dX6_ofLaid_2 : decode cX6_ofLaid 2 = .ok (.if_icmp .ne 10, 3) := by decide +kernel
theorem dX6_ofLaid_5 : decode cX6_ofLaid 5 = .ok (.aload_n 0, 1) := by decide +kernel
theorem dX6_ofLaid_6 : decode cX6_ofLaid 6 = .ok (.getfield 104, 3) := by decide +kernel
theorem dX6_ofLaid_9 : decode cX6_ofLaid 9 = .ok (.goto 22, 3) := by decide +kernel
theorem dX6_ofLaid_12 : decode cX6_ofLaid 12 = .ok (.iload_n 1, 1) := by decide +kernel
theorem dX6_ofLaid_13 : decode cX6_ofLaid 13 = .ok (.aload_n 0, 1) := by decide +kernel
theorem dX6_ofLaid_14 : decode cX6_ofLaid 14 = .ok (.getfield 104, 3) := by decide +kernel
theorem dX6_ofLaid_17 : decode cX6_ofLaid 17 = .ok (.if_icmp .ge 12, 3) := by decide +kernel
theorem dX6_ofLaid_20 : decode cX6_ofLaid 20 = .ok (.aload_n 0, 1) := by decide +kernel
theorem dX6_ofLaid_21 : decode cX6_ofLaid 21 = .ok (.getfield 39, 3) := by decide +kernel
theorem dX6_ofLaid_24 : decode cX6_ofLaid 24 = .ok (.iload_n 1, 1) := by decide +kernel
theorem dX6_ofLaid_25 : decode cX6_ofLaid 25 = .ok (.iaload, 1) := by decide +kernel
theorem dX6_ofLaid_26 : decode cX6_ofLaid 26 = .ok (.goto 5, 3) := by decide +kernel
theorem dX6_ofLaid_29 : decode cX6_ofLaid 29 = .ok (.bipush (-6), 2) := by decide +kernel
theorem dX6_ofLaid_31 : decode cX6_ofLaid 31 = .ok (.ireturn, 1) := by decide +kernel
theorem dX6_way_0 : decode cX6_way 0 = .ok (.aload_n 0, 1) := by decide +kernel
theorem dX6_way_1 : decode cX6_way 1 = .ok (.iload_n 1, 1) := by decide +kernel
theorem dX6_way_2 : decode cX6_way 2 = .ok (.invokevirtual 115, 3) := by decide +kernel
theorem dX6_way_5 : decode cX6_way 5 = .ok (.ifCond .ne 5, 3) := by decide +kernel
theorem dX6_way_8 : decode cX6_way 8 = .ok (.iconst (-1), 1) := by decide +kernel
theorem dX6_way_9 : decode cX6_way 9 = .ok (.ireturn, 1) := by decide +kernel
theorem dX6_way_10 : decode cX6_way 10 = .ok (.iload_n 2, 1) := by decide +kernel
theorem dX6_way_11 : decode cX6_way 11 = .ok (.iconst (-1), 1) := by decide +kernel
theorem dX6_way_12 : decode cX6_way 12 = .ok (.if_icmp .ge 6, 3) := by decide +kernel
theorem dX6_way_15 : decode cX6_way 15 = .ok (.bipush (-2), 2) := by decide +kernel
theorem dX6_way_17 : decode cX6_way 17 = .ok (.ireturn, 1) := by decide +kernel
theorem dX6_way_18 : decode cX6_way 18 = .ok (.aload_n 0, 1) := by decide +kernel
theorem dX6_way_19 : decode cX6_way 19 = .ok (.iload_n 1, 1) := by decide +kernel
theorem dX6_way_20 : decode cX6_way 20 = .ok (.invokevirtual 118, 3) := by decide +kernel
theorem dX6_way_23 : decode cX6_way 23 = .ok (.pop, 1) := by decide +kernel
theorem dX6_way_24 : decode cX6_way 24 = .ok (.aload_n 0, 1) := by decide +kernel
theorem dX6_way_25 : decode cX6_way 25 = .ok (.iload_n 2, 1) := by decide +kernel
theorem dX6_way_26 : decode cX6_way 26 = .ok (.invokevirtual 122, 3) := by decide +kernel
theorem dX6_way_29 : decode cX6_way 29 = .ok (.ireturn, 1) := by decide +kernel
theorem dX6_weighs_0 : decode cX6_weighs 0 = .ok (.aload_n 0, 1) := by decide +kernel
theorem dX6_weighs_1 : decode cX6_weighs 1 = .ok (.iload_n 1, 1) := by decide +kernel
theorem dX6_weighs_2 : decode cX6_weighs 2 = .ok (.invokevirtual 115, 3) := by decide +kernel
theorem dX6_weighs_5 : decode cX6_weighs 5 = .ok (.ifCond .ne 7, 3) := by decide +kernel
theorem dX6_weighs_8 : decode cX6_weighs 8 = .ok (.ldc2_w 99, 3) := by decide +kernel
theorem dX6_weighs_11 : decode cX6_weighs 11 = .ok (.lreturn, 1) := by decide +kernel
theorem dX6_weighs_12 : decode cX6_weighs 12 = .ok (.aload_n 0, 1) := by decide +kernel
theorem dX6_weighs_13 : decode cX6_weighs 13 = .ok (.iload_n 1, 1) := by decide +kernel
theorem dX6_weighs_14 : decode cX6_weighs 14 = .ok (.invokevirtual 118, 3) := by decide +kernel
theorem dX6_weighs_17 : decode cX6_weighs 17 = .ok (.pop, 1) := by decide +kernel
theorem dX6_weighs_18 : decode cX6_weighs 18 = .ok (.aload_n 0, 1) := by decide +kernel
theorem dX6_weighs_19 : decode cX6_weighs 19 = .ok (.getfield 107, 3) := by decide +kernel
theorem dX6_weighs_22 : decode cX6_weighs 22 = .ok (.lreturn, 1) := by decide +kernel
theorem dX6_likeliest_0 : decode cX6_likeliest 0 = .ok (.iload_n 1, 1) := by decide +kernel
theorem dX6_likeliest_1 : decode cX6_likeliest 1 = .ok (.bipush (-2), 2) := by decide +kernel
theorem dX6_likeliest_3 : decode cX6_likeliest 3 = .ok (.if_icmp .ge 6, 3) := by decide +kernel
theorem dX6_likeliest_6 : decode cX6_likeliest 6 = .ok (.bipush (-2), 2) := by decide +kernel
theorem dX6_likeliest_8 : decode cX6_likeliest 8 = .ok (.ireturn, 1) := by decide +kernel
theorem dX6_likeliest_9 : decode cX6_likeliest 9 = .ok (.aload_n 0, 1) := by decide +kernel
theorem dX6_likeliest_10 : decode cX6_likeliest 10 = .ok (.invokevirtual 111, 3) := by decide +kernel
theorem dX6_likeliest_13 : decode cX6_likeliest 13 = .ok (.ifCond .ne 6, 3) := by decide +kernel
theorem dX6_likeliest_16 : decode cX6_likeliest 16 = .ok (.bipush (-5), 2) := by decide +kernel
theorem dX6_likeliest_18 : decode cX6_likeliest 18 = .ok (.ireturn, 1) := by decide +kernel
theorem dX6_likeliest_19 : decode cX6_likeliest 19 = .ok (.aload_n 0, 1) := by decide +kernel
theorem dX6_likeliest_20 : decode cX6_likeliest 20 = .ok (.bipush (-6), 2) := by decide +kernel
theorem dX6_likeliest_22 : decode cX6_likeliest 22 = .ok (.invokevirtual 118, 3) := by decide +kernel
theorem dX6_likeliest_25 : decode cX6_likeliest 25 = .ok (.istore_n 2, 1) := by decide +kernel
theorem dX6_likeliest_26 : decode cX6_likeliest 26 = .ok (.iload_n 1, 1) := by decide +kernel
theorem dX6_likeliest_27 : decode cX6_likeliest 27 = .ok (.bipush (-2), 2) := by decide +kernel
theorem dX6_likeliest_29 : decode cX6_likeliest 29 = .ok (.if_icmp .ne 7, 3) := by decide +kernel
theorem dX6_likeliest_32 : decode cX6_likeliest 32 = .ok (.iload_n 2, 1) := by decide +kernel
theorem dX6_likeliest_33 : decode cX6_likeliest 33 = .ok (.goto 8, 3) := by decide +kernel
theorem dX6_likeliest_36 : decode cX6_likeliest 36 = .ok (.aload_n 0, 1) := by decide +kernel
theorem dX6_likeliest_37 : decode cX6_likeliest 37 = .ok (.iload_n 1, 1) := by decide +kernel
theorem dX6_likeliest_38 : decode cX6_likeliest 38 = .ok (.invokevirtual 122, 3) := by decide +kernel
theorem dX6_likeliest_41 : decode cX6_likeliest 41 = .ok (.ireturn, 1) := by decide +kernel
theorem dX6_divisor_0 : decode cX6_divisor 0 = .ok (.lload_n 0, 1) := by decide +kernel
theorem dX6_divisor_1 : decode cX6_divisor 1 = .ok (.lstore 4, 2) := by decide +kernel
theorem dX6_divisor_3 : decode cX6_divisor 3 = .ok (.lload_n 2, 1) := by decide +kernel
theorem dX6_divisor_4 : decode cX6_divisor 4 = .ok (.lstore 6, 2) := by decide +kernel
theorem dX6_divisor_6 : decode cX6_divisor 6 = .ok (.lload 6, 2) := by decide +kernel
theorem dX6_divisor_8 : decode cX6_divisor 8 = .ok (.lconst 0, 1) := by decide +kernel
theorem dX6_divisor_9 : decode cX6_divisor 9 = .ok (.lcmp, 1) := by decide +kernel
theorem dX6_divisor_10 : decode cX6_divisor 10 = .ok (.ifCond .eq 21, 3) := by decide +kernel
theorem dX6_divisor_13 : decode cX6_divisor 13 = .ok (.lload 4, 2) := by decide +kernel
theorem dX6_divisor_15 : decode cX6_divisor 15 = .ok (.lload 6, 2) := by decide +kernel
theorem dX6_divisor_17 : decode cX6_divisor 17 = .ok (.lrem, 1) := by decide +kernel
theorem dX6_divisor_18 : decode cX6_divisor 18 = .ok (.lstore 8, 2) := by decide +kernel
theorem dX6_divisor_20 : decode cX6_divisor 20 = .ok (.lload 6, 2) := by decide +kernel
theorem dX6_divisor_22 : decode cX6_divisor 22 = .ok (.lstore 4, 2) := by decide +kernel
theorem dX6_divisor_24 : decode cX6_divisor 24 = .ok (.lload 8, 2) := by decide +kernel
theorem dX6_divisor_26 : decode cX6_divisor 26 = .ok (.lstore 6, 2) := by decide +kernel
theorem dX6_divisor_28 : decode cX6_divisor 28 = .ok (.goto (-22), 3) := by decide +kernel
theorem dX6_divisor_31 : decode cX6_divisor 31 = .ok (.lload 4, 2) := by decide +kernel
theorem dX6_divisor_33 : decode cX6_divisor 33 = .ok (.lreturn, 1) := by decide +kernel
theorem dX6_lowest_0 : decode cX6_lowest 0 = .ok (.lload_n 0, 1) := by decide +kernel
theorem dX6_lowest_1 : decode cX6_lowest 1 = .ok (.lload_n 2, 1) := by decide +kernel
theorem dX6_lowest_2 : decode cX6_lowest 2 = .ok (.invokestatic 125, 3) := by decide +kernel
theorem dX6_lowest_5 : decode cX6_lowest 5 = .ok (.lstore 5, 2) := by decide +kernel
theorem dX6_lowest_7 : decode cX6_lowest 7 = .ok (.iload 4, 2) := by decide +kernel
theorem dX6_lowest_9 : decode cX6_lowest 9 = .ok (.ifCond .ne 7, 3) := by decide +kernel
theorem dX6_lowest_12 : decode cX6_lowest 12 = .ok (.lload_n 0, 1) := by decide +kernel
theorem dX6_lowest_13 : decode cX6_lowest 13 = .ok (.goto 4, 3) := by decide +kernel
theorem dX6_lowest_16 : decode cX6_lowest 16 = .ok (.lload_n 2, 1) := by decide +kernel
theorem dX6_lowest_17 : decode cX6_lowest 17 = .ok (.lload 5, 2) := by decide +kernel
theorem dX6_lowest_19 : decode cX6_lowest 19 = .ok (.ldiv, 1) := by decide +kernel
theorem dX6_lowest_20 : decode cX6_lowest 20 = .ok (.lreturn, 1) := by decide +kernel
theorem dX6_through_0 : decode cX6_through 0 = .ok (.aload_n 0, 1) := by decide +kernel
theorem dX6_through_1 : decode cX6_through 1 = .ok (.getfield 26, 3) := by decide +kernel
theorem dX6_through_4 : decode cX6_through 4 = .ok (.bipush 7, 2) := by decide +kernel
theorem dX6_through_6 : decode cX6_through 6 = .ok (.iload_n 2, 1) := by decide +kernel
theorem dX6_through_7 : decode cX6_through 7 = .ok (.imul, 1) := by decide +kernel
theorem dX6_through_8 : decode cX6_through 8 = .ok (.iload_n 1, 1) := by decide +kernel
theorem dX6_through_9 : decode cX6_through 9 = .ok (.iadd, 1) := by decide +kernel
theorem dX6_through_10 : decode cX6_through 10 = .ok (.iconst 1, 1) := by decide +kernel
theorem dX6_through_11 : decode cX6_through 11 = .ok (.iadd, 1) := by decide +kernel
theorem dX6_through_12 : decode cX6_through 12 = .ok (.laload, 1) := by decide +kernel
theorem dX6_through_13 : decode cX6_through 13 = .ok (.aload_n 0, 1) := by decide +kernel
theorem dX6_through_14 : decode cX6_through 14 = .ok (.getfield 30, 3) := by decide +kernel
theorem dX6_through_17 : decode cX6_through 17 = .ok (.bipush 7, 2) := by decide +kernel
theorem dX6_through_19 : decode cX6_through 19 = .ok (.iload_n 2, 1) := by decide +kernel
theorem dX6_through_20 : decode cX6_through 20 = .ok (.imul, 1) := by decide +kernel
theorem dX6_through_21 : decode cX6_through 21 = .ok (.iload_n 1, 1) := by decide +kernel
theorem dX6_through_22 : decode cX6_through 22 = .ok (.iadd, 1) := by decide +kernel
theorem dX6_through_23 : decode cX6_through 23 = .ok (.iconst 1, 1) := by decide +kernel
theorem dX6_through_24 : decode cX6_through 24 = .ok (.iadd, 1) := by decide +kernel
theorem dX6_through_25 : decode cX6_through 25 = .ok (.laload, 1) := by decide +kernel
theorem dX6_through_26 : decode cX6_through 26 = .ok (.lmul, 1) := by decide +kernel
theorem dX6_through_27 : decode cX6_through 27 = .ok (.lreturn, 1) := by decide +kernel
theorem dX6_odds_0 : decode cX6_odds 0 = .ok (.aload_n 0, 1) := by decide +kernel
theorem dX6_odds_1 : decode cX6_odds 1 = .ok (.iload_n 1, 1) := by decide +kernel
theorem dX6_odds_2 : decode cX6_odds 2 = .ok (.invokevirtual 64, 3) := by decide +kernel
theorem dX6_odds_5 : decode cX6_odds 5 = .ok (.ifCond .eq 12, 3) := by decide +kernel
theorem dX6_odds_8 : decode cX6_odds 8 = .ok (.iload_n 2, 1) := by decide +kernel
theorem dX6_odds_9 : decode cX6_odds 9 = .ok (.iconst 0, 1) := by decide +kernel
theorem dX6_odds_10 : decode cX6_odds 10 = .ok (.iconst 3, 1) := by decide +kernel
theorem dX6_odds_11 : decode cX6_odds 11 = .ok (.invokestatic 49, 3) := by decide +kernel
theorem dX6_odds_14 : decode cX6_odds 14 = .ok (.ifCond .ne 7, 3) := by decide +kernel
theorem dX6_odds_17 : decode cX6_odds 17 = .ok (.ldc2_w 99, 3) := by decide +kernel
theorem dX6_odds_20 : decode cX6_odds 20 = .ok (.lreturn, 1) := by decide +kernel
theorem dX6_odds_21 : decode cX6_odds 21 = .ok (.iload_n 3, 1) := by decide +kernel
theorem dX6_odds_22 : decode cX6_odds 22 = .ok (.iconst 0, 1) := by decide +kernel
theorem dX6_odds_23 : decode cX6_odds 23 = .ok (.iconst 1, 1) := by decide +kernel
theorem dX6_odds_24 : decode cX6_odds 24 = .ok (.invokestatic 49, 3) := by decide +kernel
theorem dX6_odds_27 : decode cX6_odds 27 = .ok (.ifCond .ne 7, 3) := by decide +kernel
theorem dX6_odds_30 : decode cX6_odds 30 = .ok (.ldc2_w 129, 3) := by decide +kernel
theorem dX6_odds_33 : decode cX6_odds 33 = .ok (.lreturn, 1) := by decide +kernel
theorem dX6_odds_34 : decode cX6_odds 34 = .ok (.aload_n 0, 1) := by decide +kernel
theorem dX6_odds_35 : decode cX6_odds 35 = .ok (.invokevirtual 95, 3) := by decide +kernel
theorem dX6_odds_38 : decode cX6_odds 38 = .ok (.lstore 4, 2) := by decide +kernel
theorem dX6_odds_40 : decode cX6_odds 40 = .ok (.lload 4, 2) := by decide +kernel
theorem dX6_odds_42 : decode cX6_odds 42 = .ok (.lconst 0, 1) := by decide +kernel
theorem dX6_odds_43 : decode cX6_odds 43 = .ok (.lcmp, 1) := by decide +kernel
theorem dX6_odds_44 : decode cX6_odds 44 = .ok (.ifCond .ne 7, 3) := by decide +kernel
theorem dX6_odds_47 : decode cX6_odds 47 = .ok (.ldc2_w 131, 3) := by decide +kernel
theorem dX6_odds_50 : decode cX6_odds 50 = .ok (.lreturn, 1) := by decide +kernel
theorem dX6_odds_51 : decode cX6_odds 51 = .ok (.aload_n 0, 1) := by decide +kernel
theorem dX6_odds_52 : decode cX6_odds 52 = .ok (.invokevirtual 101, 3) := by decide +kernel
theorem dX6_odds_55 : decode cX6_odds 55 = .ok (.aload_n 0, 1) := by decide +kernel
theorem dX6_odds_56 : decode cX6_odds 56 = .ok (.iload_n 1, 1) := by decide +kernel
theorem dX6_odds_57 : decode cX6_odds 57 = .ok (.iload_n 2, 1) := by decide +kernel
theorem dX6_odds_58 : decode cX6_odds 58 = .ok (.invokevirtual 133, 3) := by decide +kernel
theorem dX6_odds_61 : decode cX6_odds 61 = .ok (.lload 4, 2) := by decide +kernel
theorem dX6_odds_63 : decode cX6_odds 63 = .ok (.iload_n 3, 1) := by decide +kernel
theorem dX6_odds_64 : decode cX6_odds 64 = .ok (.invokestatic 137, 3) := by decide +kernel
theorem dX6_odds_67 : decode cX6_odds 67 = .ok (.lreturn, 1) := by decide +kernel
theorem dX6_likelyAt_0 : decode cX6_likelyAt 0 = .ok (.aload_n 0, 1) := by decide +kernel
theorem dX6_likelyAt_1 : decode cX6_likelyAt 1 = .ok (.iload_n 1, 1) := by decide +kernel
theorem dX6_likelyAt_2 : decode cX6_likelyAt 2 = .ok (.invokevirtual 64, 3) := by decide +kernel
theorem dX6_likelyAt_5 : decode cX6_likelyAt 5 = .ok (.ifCond .ne 5, 3) := by decide +kernel
theorem dX6_likelyAt_8 : decode cX6_likelyAt 8 = .ok (.iconst (-1), 1) := by decide +kernel
theorem dX6_likelyAt_9 : decode cX6_likelyAt 9 = .ok (.ireturn, 1) := by decide +kernel
theorem dX6_likelyAt_10 : decode cX6_likelyAt 10 = .ok (.aload_n 0, 1) := by decide +kernel
theorem dX6_likelyAt_11 : decode cX6_likelyAt 11 = .ok (.invokevirtual 95, 3) := by decide +kernel
theorem dX6_likelyAt_14 : decode cX6_likelyAt 14 = .ok (.lconst 0, 1) := by decide +kernel
theorem dX6_likelyAt_15 : decode cX6_likelyAt 15 = .ok (.lcmp, 1) := by decide +kernel
theorem dX6_likelyAt_16 : decode cX6_likelyAt 16 = .ok (.ifCond .ne 6, 3) := by decide +kernel
theorem dX6_likelyAt_19 : decode cX6_likelyAt 19 = .ok (.bipush (-5), 2) := by decide +kernel
theorem dX6_likelyAt_21 : decode cX6_likelyAt 21 = .ok (.ireturn, 1) := by decide +kernel
theorem dX6_likelyAt_22 : decode cX6_likelyAt 22 = .ok (.aload_n 0, 1) := by decide +kernel
theorem dX6_likelyAt_23 : decode cX6_likelyAt 23 = .ok (.invokevirtual 101, 3) := by decide +kernel
theorem dX6_likelyAt_26 : decode cX6_likelyAt 26 = .ok (.iconst 0, 1) := by decide +kernel
theorem dX6_likelyAt_27 : decode cX6_likelyAt 27 = .ok (.istore_n 2, 1) := by decide +kernel
theorem dX6_likelyAt_28 : decode cX6_likelyAt 28 = .ok (.iconst 1, 1) := by decide +kernel
theorem dX6_likelyAt_29 : decode cX6_likelyAt 29 = .ok (.istore_n 3, 1) := by decide +kernel
theorem dX6_likelyAt_30 : decode cX6_likelyAt 30 = .ok (.iload_n 3, 1) := by decide +kernel
theorem dX6_likelyAt_31 : decode cX6_likelyAt 31 = .ok (.iconst 4, 1) := by decide +kernel
theorem dX6_likelyAt_32 : decode cX6_likelyAt 32 = .ok (.if_icmp .ge 31, 3) := by decide +kernel
theorem dX6_likelyAt_35 : decode cX6_likelyAt 35 = .ok (.aload_n 0, 1) := by decide +kernel
theorem dX6_likelyAt_36 : decode cX6_likelyAt 36 = .ok (.iload_n 1, 1) := by decide +kernel
theorem dX6_likelyAt_37 : decode cX6_likelyAt 37 = .ok (.iload_n 3, 1) := by decide +kernel
theorem dX6_likelyAt_38 : decode cX6_likelyAt 38 = .ok (.invokevirtual 133, 3) := by decide +kernel
theorem dX6_likelyAt_41 : decode cX6_likelyAt 41 = .ok (.aload_n 0, 1) := by decide +kernel
theorem dX6_likelyAt_42 : decode cX6_likelyAt 42 = .ok (.iload_n 1, 1) := by decide +kernel
theorem dX6_likelyAt_43 : decode cX6_likelyAt 43 = .ok (.iload_n 2, 1) := by decide +kernel
theorem dX6_likelyAt_44 : decode cX6_likelyAt 44 = .ok (.invokevirtual 133, 3) := by decide +kernel
theorem dX6_likelyAt_47 : decode cX6_likelyAt 47 = .ok (.lcmp, 1) := by decide +kernel
theorem dX6_likelyAt_48 : decode cX6_likelyAt 48 = .ok (.ifCond .le 7, 3) := by decide +kernel
theorem dX6_likelyAt_51 : decode cX6_likelyAt 51 = .ok (.iload_n 3, 1) := by decide +kernel
theorem dX6_likelyAt_52 : decode cX6_likelyAt 52 = .ok (.goto 4, 3) := by decide +kernel
theorem dX6_likelyAt_55 : decode cX6_likelyAt 55 = .ok (.iload_n 2, 1) := by decide +kernel
theorem dX6_likelyAt_56 : decode cX6_likelyAt 56 = .ok (.istore_n 2, 1) := by decide +kernel
theorem dX6_likelyAt_57 : decode cX6_likelyAt 57 = .ok (.iinc 3 1, 3) := by decide +kernel
theorem dX6_likelyAt_60 : decode cX6_likelyAt 60 = .ok (.goto (-30), 3) := by decide +kernel
theorem dX6_likelyAt_63 : decode cX6_likelyAt 63 = .ok (.iload_n 2, 1) := by decide +kernel
theorem dX6_likelyAt_64 : decode cX6_likelyAt 64 = .ok (.ireturn, 1) := by decide +kernel
theorem dX6_numberOf_0 : decode cX6_numberOf 0 = .ok (.lconst 0, 1) := by decide +kernel
theorem dX6_numberOf_1 : decode cX6_numberOf 1 = .ok (.lstore 4, 2) := by decide +kernel
theorem dX6_numberOf_3 : decode cX6_numberOf 3 = .ok (.iload_n 1, 1) := by decide +kernel
theorem dX6_numberOf_4 : decode cX6_numberOf 4 = .ok (.ifCond .ne 46, 3) := by decide +kernel
theorem dX6_numberOf_7 : decode cX6_numberOf 7 = .ok (.aload_n 0, 1) := by decide +kernel
theorem dX6_numberOf_8 : decode cX6_numberOf 8 = .ok (.aload_n 0, 1) := by decide +kernel
theorem dX6_numberOf_9 : decode cX6_numberOf 9 = .ok (.getfield 7, 3) := by decide +kernel
theorem dX6_numberOf_12 : decode cX6_numberOf 12 = .ok (.iload_n 2, 1) := by decide +kernel
theorem dX6_numberOf_13 : decode cX6_numberOf 13 = .ok (.iaload, 1) := by decide +kernel
theorem dX6_numberOf_14 : decode cX6_numberOf 14 = .ok (.iload_n 2, 1) := by decide +kernel
theorem dX6_numberOf_15 : decode cX6_numberOf 15 = .ok (.iconst 0, 1) := by decide +kernel
theorem dX6_numberOf_16 : decode cX6_numberOf 16 = .ok (.invokevirtual 78, 3) := by decide +kernel
theorem dX6_numberOf_19 : decode cX6_numberOf 19 = .ok (.istore 6, 2) := by decide +kernel
theorem dX6_numberOf_21 : decode cX6_numberOf 21 = .ok (.iload 6, 2) := by decide +kernel
theorem dX6_numberOf_23 : decode cX6_numberOf 23 = .ok (.ifCond .le 25, 3) := by decide +kernel
theorem dX6_numberOf_26 : decode cX6_numberOf 26 = .ok (.iload 6, 2) := by decide +kernel
theorem dX6_numberOf_28 : decode cX6_numberOf 28 = .ok (.i2l, 1) := by decide +kernel
theorem dX6_numberOf_29 : decode cX6_numberOf 29 = .ok (.aload_n 0, 1) := by decide +kernel
theorem dX6_numberOf_30 : decode cX6_numberOf 30 = .ok (.getfield 30, 3) := by decide +kernel
theorem dX6_numberOf_33 : decode cX6_numberOf 33 = .ok (.bipush 7, 2) := by decide +kernel
theorem dX6_numberOf_35 : decode cX6_numberOf 35 = .ok (.iload_n 2, 1) := by decide +kernel
theorem dX6_numberOf_36 : decode cX6_numberOf 36 = .ok (.imul, 1) := by decide +kernel
theorem dX6_numberOf_37 : decode cX6_numberOf 37 = .ok (.iload_n 2, 1) := by decide +kernel
theorem dX6_numberOf_38 : decode cX6_numberOf 38 = .ok (.iconst 0, 1) := by decide +kernel
theorem dX6_numberOf_39 : decode cX6_numberOf 39 = .ok (.invokestatic 72, 3) := by decide +kernel
theorem dX6_numberOf_42 : decode cX6_numberOf 42 = .ok (.iadd, 1) := by decide +kernel
theorem dX6_numberOf_43 : decode cX6_numberOf 43 = .ok (.laload, 1) := by decide +kernel
theorem dX6_numberOf_44 : decode cX6_numberOf 44 = .ok (.lmul, 1) := by decide +kernel
theorem dX6_numberOf_45 : decode cX6_numberOf 45 = .ok (.goto 4, 3) := by decide +kernel
theorem dX6_numberOf_48 : decode cX6_numberOf 48 = .ok (.lconst 0, 1) := by decide +kernel
theorem dX6_numberOf_49 : decode cX6_numberOf 49 = .ok (.lreturn, 1) := by decide +kernel
theorem dX6_numberOf_50 : decode cX6_numberOf 50 = .ok (.iload_n 1, 1) := by decide +kernel
theorem dX6_numberOf_51 : decode cX6_numberOf 51 = .ok (.iconst 2, 1) := by decide +kernel
theorem dX6_numberOf_52 : decode cX6_numberOf 52 = .ok (.if_icmp .ne 57, 3) := by decide +kernel
theorem dX6_numberOf_55 : decode cX6_numberOf 55 = .ok (.iconst 0, 1) := by decide +kernel
theorem dX6_numberOf_56 : decode cX6_numberOf 56 = .ok (.istore 6, 2) := by decide +kernel
theorem dX6_numberOf_58 : decode cX6_numberOf 58 = .ok (.iload 6, 2) := by decide +kernel
theorem dX6_numberOf_60 : decode cX6_numberOf 60 = .ok (.aload_n 0, 1) := by decide +kernel
theorem dX6_numberOf_61 : decode cX6_numberOf 61 = .ok (.getfield 7, 3) := by decide +kernel
theorem dX6_numberOf_64 : decode cX6_numberOf 64 = .ok (.bipush 58, 2) := by decide +kernel
theorem dX6_numberOf_66 : decode cX6_numberOf 66 = .ok (.iaload, 1) := by decide +kernel
theorem dX6_numberOf_67 : decode cX6_numberOf 67 = .ok (.if_icmp .ge 39, 3) := by decide +kernel
theorem dX6_numberOf_70 : decode cX6_numberOf 70 = .ok (.lload 4, 2) := by decide +kernel
theorem dX6_numberOf_72 : decode cX6_numberOf 72 = .ok (.aload_n 0, 1) := by decide +kernel
theorem dX6_numberOf_73 : decode cX6_numberOf 73 = .ok (.getfield 7, 3) := by decide +kernel
theorem dX6_numberOf_76 : decode cX6_numberOf 76 = .ok (.bipush 60, 2) := by decide +kernel
theorem dX6_numberOf_78 : decode cX6_numberOf 78 = .ok (.iload 6, 2) := by decide +kernel
theorem dX6_numberOf_80 : decode cX6_numberOf 80 = .ok (.iadd, 1) := by decide +kernel
theorem dX6_numberOf_81 : decode cX6_numberOf 81 = .ok (.iaload, 1) := by decide +kernel
theorem dX6_numberOf_82 : decode cX6_numberOf 82 = .ok (.iload_n 3, 1) := by decide +kernel
theorem dX6_numberOf_83 : decode cX6_numberOf 83 = .ok (.if_icmp .ne 13, 3) := by decide +kernel
theorem dX6_numberOf_86 : decode cX6_numberOf 86 = .ok (.aload_n 0, 1) := by decide +kernel
theorem dX6_numberOf_87 : decode cX6_numberOf 87 = .ok (.iload 6, 2) := by decide +kernel
theorem dX6_numberOf_89 : decode cX6_numberOf 89 = .ok (.iload_n 2, 1) := by decide +kernel
theorem dX6_numberOf_90 : decode cX6_numberOf 90 = .ok (.invokevirtual 133, 3) := by decide +kernel
theorem dX6_numberOf_93 : decode cX6_numberOf 93 = .ok (.goto 4, 3) := by decide +kernel
theorem dX6_numberOf_96 : decode cX6_numberOf 96 = .ok (.lconst 0, 1) := by decide +kernel
theorem dX6_numberOf_97 : decode cX6_numberOf 97 = .ok (.ladd, 1) := by decide +kernel
theorem dX6_numberOf_98 : decode cX6_numberOf 98 = .ok (.lstore 4, 2) := by decide +kernel
theorem dX6_numberOf_100 : decode cX6_numberOf 100 = .ok (.iinc 6 1, 3) := by decide +kernel
theorem dX6_numberOf_103 : decode cX6_numberOf 103 = .ok (.goto (-45), 3) := by decide +kernel
theorem dX6_numberOf_106 : decode cX6_numberOf 106 = .ok (.lload 4, 2) := by decide +kernel
theorem dX6_numberOf_108 : decode cX6_numberOf 108 = .ok (.lreturn, 1) := by decide +kernel
theorem dX6_numberOf_109 : decode cX6_numberOf 109 = .ok (.iconst 0, 1) := by decide +kernel
theorem dX6_numberOf_110 : decode cX6_numberOf 110 = .ok (.istore 6, 2) := by decide +kernel
theorem dX6_numberOf_112 : decode cX6_numberOf 112 = .ok (.iload 6, 2) := by decide +kernel
theorem dX6_numberOf_114 : decode cX6_numberOf 114 = .ok (.aload_n 0, 1) := by decide +kernel
theorem dX6_numberOf_115 : decode cX6_numberOf 115 = .ok (.getfield 7, 3) := by decide +kernel
theorem dX6_numberOf_118 : decode cX6_numberOf 118 = .ok (.bipush 58, 2) := by decide +kernel
theorem dX6_numberOf_120 : decode cX6_numberOf 120 = .ok (.iaload, 1) := by decide +kernel
theorem dX6_numberOf_121 : decode cX6_numberOf 121 = .ok (.if_icmp .gt 100, 3) := by decide +kernel
theorem dX6_numberOf_124 : decode cX6_numberOf 124 = .ok (.aload_n 0, 1) := by decide +kernel
theorem dX6_numberOf_125 : decode cX6_numberOf 125 = .ok (.aload_n 0, 1) := by decide +kernel
theorem dX6_numberOf_126 : decode cX6_numberOf 126 = .ok (.iload_n 2, 1) := by decide +kernel
theorem dX6_numberOf_127 : decode cX6_numberOf 127 = .ok (.iload_n 3, 1) := by decide +kernel
theorem dX6_numberOf_128 : decode cX6_numberOf 128 = .ok (.invokevirtual 75, 3) := by decide +kernel
theorem dX6_numberOf_131 : decode cX6_numberOf 131 = .ok (.iload_n 3, 1) := by decide +kernel
theorem dX6_numberOf_132 : decode cX6_numberOf 132 = .ok (.iload 6, 2) := by decide +kernel
theorem dX6_numberOf_134 : decode cX6_numberOf 134 = .ok (.invokevirtual 78, 3) := by decide +kernel
theorem dX6_numberOf_137 : decode cX6_numberOf 137 = .ok (.istore 7, 2) := by decide +kernel
theorem dX6_numberOf_139 : decode cX6_numberOf 139 = .ok (.iload_n 2, 1) := by decide +kernel
theorem dX6_numberOf_140 : decode cX6_numberOf 140 = .ok (.iconst 4, 1) := by decide +kernel
theorem dX6_numberOf_141 : decode cX6_numberOf 141 = .ok (.if_icmp .ge 19, 3) := by decide +kernel
theorem dX6_numberOf_144 : decode cX6_numberOf 144 = .ok (.iload 6, 2) := by decide +kernel
theorem dX6_numberOf_146 : decode cX6_numberOf 146 = .ok (.aload_n 0, 1) := by decide +kernel
theorem dX6_numberOf_147 : decode cX6_numberOf 147 = .ok (.getfield 7, 3) := by decide +kernel
theorem dX6_numberOf_150 : decode cX6_numberOf 150 = .ok (.bipush 58, 2) := by decide +kernel
theorem dX6_numberOf_152 : decode cX6_numberOf 152 = .ok (.iaload, 1) := by decide +kernel
theorem dX6_numberOf_153 : decode cX6_numberOf 153 = .ok (.if_icmp .ne 7, 3) := by decide +kernel
theorem dX6_numberOf_156 : decode cX6_numberOf 156 = .ok (.iconst 1, 1) := by decide +kernel
theorem dX6_numberOf_157 : decode cX6_numberOf 157 = .ok (.goto 4, 3) := by decide +kernel
theorem dX6_numberOf_160 : decode cX6_numberOf 160 = .ok (.iconst 0, 1) := by decide +kernel
theorem dX6_numberOf_161 : decode cX6_numberOf 161 = .ok (.istore 8, 2) := by decide +kernel
theorem dX6_numberOf_163 : decode cX6_numberOf 163 = .ok (.lload 4, 2) := by decide +kernel
theorem dX6_numberOf_165 : decode cX6_numberOf 165 = .ok (.iload 7, 2) := by decide +kernel
theorem dX6_numberOf_167 : decode cX6_numberOf 167 = .ok (.ifCond .le 44, 3) := by decide +kernel
theorem dX6_numberOf_170 : decode cX6_numberOf 170 = .ok (.iload 8, 2) := by decide +kernel
theorem dX6_numberOf_172 : decode cX6_numberOf 172 = .ok (.ifCond .ne 39, 3) := by decide +kernel
theorem dX6_numberOf_175 : decode cX6_numberOf 175 = .ok (.aload_n 0, 1) := by decide +kernel
theorem dX6_numberOf_176 : decode cX6_numberOf 176 = .ok (.getfield 26, 3) := by decide +kernel
theorem dX6_numberOf_179 : decode cX6_numberOf 179 = .ok (.bipush 7, 2) := by decide +kernel
theorem dX6_numberOf_181 : decode cX6_numberOf 181 = .ok (.iload_n 2, 1) := by decide +kernel
theorem dX6_numberOf_182 : decode cX6_numberOf 182 = .ok (.imul, 1) := by decide +kernel
theorem dX6_numberOf_183 : decode cX6_numberOf 183 = .ok (.iload 6, 2) := by decide +kernel
theorem dX6_numberOf_185 : decode cX6_numberOf 185 = .ok (.iadd, 1) := by decide +kernel
theorem dX6_numberOf_186 : decode cX6_numberOf 186 = .ok (.laload, 1) := by decide +kernel
theorem dX6_numberOf_187 : decode cX6_numberOf 187 = .ok (.iload 7, 2) := by decide +kernel
theorem dX6_numberOf_189 : decode cX6_numberOf 189 = .ok (.i2l, 1) := by decide +kernel
theorem dX6_numberOf_190 : decode cX6_numberOf 190 = .ok (.lmul, 1) := by decide +kernel
theorem dX6_numberOf_191 : decode cX6_numberOf 191 = .ok (.aload_n 0, 1) := by decide +kernel
theorem dX6_numberOf_192 : decode cX6_numberOf 192 = .ok (.getfield 30, 3) := by decide +kernel
theorem dX6_numberOf_195 : decode cX6_numberOf 195 = .ok (.bipush 7, 2) := by decide +kernel
theorem dX6_numberOf_197 : decode cX6_numberOf 197 = .ok (.iload_n 3, 1) := by decide +kernel
theorem dX6_numberOf_198 : decode cX6_numberOf 198 = .ok (.imul, 1) := by decide +kernel
theorem dX6_numberOf_199 : decode cX6_numberOf 199 = .ok (.iload_n 3, 1) := by decide +kernel
theorem dX6_numberOf_200 : decode cX6_numberOf 200 = .ok (.iload 6, 2) := by decide +kernel
theorem dX6_numberOf_202 : decode cX6_numberOf 202 = .ok (.invokestatic 72, 3) := by decide +kernel
theorem dX6_numberOf_205 : decode cX6_numberOf 205 = .ok (.iadd, 1) := by decide +kernel
theorem dX6_numberOf_206 : decode cX6_numberOf 206 = .ok (.laload, 1) := by decide +kernel
theorem dX6_numberOf_207 : decode cX6_numberOf 207 = .ok (.lmul, 1) := by decide +kernel
theorem dX6_numberOf_208 : decode cX6_numberOf 208 = .ok (.goto 4, 3) := by decide +kernel
theorem dX6_numberOf_211 : decode cX6_numberOf 211 = .ok (.lconst 0, 1) := by decide +kernel
theorem dX6_numberOf_212 : decode cX6_numberOf 212 = .ok (.ladd, 1) := by decide +kernel
theorem dX6_numberOf_213 : decode cX6_numberOf 213 = .ok (.lstore 4, 2) := by decide +kernel
theorem dX6_numberOf_215 : decode cX6_numberOf 215 = .ok (.iinc 6 1, 3) := by decide +kernel
theorem dX6_numberOf_218 : decode cX6_numberOf 218 = .ok (.goto (-106), 3) := by decide +kernel
theorem dX6_numberOf_221 : decode cX6_numberOf 221 = .ok (.lload 4, 2) := by decide +kernel
theorem dX6_numberOf_223 : decode cX6_numberOf 223 = .ok (.lreturn, 1) := by decide +kernel
theorem dX6_expected_0 : decode cX6_expected 0 = .ok (.iload_n 1, 1) := by decide +kernel
theorem dX6_expected_1 : decode cX6_expected 1 = .ok (.iconst 0, 1) := by decide +kernel
theorem dX6_expected_2 : decode cX6_expected 2 = .ok (.iconst 2, 1) := by decide +kernel
theorem dX6_expected_3 : decode cX6_expected 3 = .ok (.invokestatic 49, 3) := by decide +kernel
theorem dX6_expected_6 : decode cX6_expected 6 = .ok (.ifCond .eq 13, 3) := by decide +kernel
theorem dX6_expected_9 : decode cX6_expected 9 = .ok (.iload 4, 2) := by decide +kernel
theorem dX6_expected_11 : decode cX6_expected 11 = .ok (.iconst 0, 1) := by decide +kernel
theorem dX6_expected_12 : decode cX6_expected 12 = .ok (.iconst 1, 1) := by decide +kernel
theorem dX6_expected_13 : decode cX6_expected 13 = .ok (.invokestatic 49, 3) := by decide +kernel
theorem dX6_expected_16 : decode cX6_expected 16 = .ok (.ifCond .ne 7, 3) := by decide +kernel
theorem dX6_expected_19 : decode cX6_expected 19 = .ok (.ldc2_w 129, 3) := by decide +kernel
theorem dX6_expected_22 : decode cX6_expected 22 = .ok (.lreturn, 1) := by decide +kernel
theorem dX6_expected_23 : decode cX6_expected 23 = .ok (.iload_n 1, 1) := by decide +kernel
theorem dX6_expected_24 : decode cX6_expected 24 = .ok (.iload_n 2, 1) := by decide +kernel
theorem dX6_expected_25 : decode cX6_expected 25 = .ok (.iload_n 3, 1) := by decide +kernel
theorem dX6_expected_26 : decode cX6_expected 26 = .ok (.invokestatic 53, 3) := by decide +kernel
theorem dX6_expected_29 : decode cX6_expected 29 = .ok (.ifCond .ge 7, 3) := by decide +kernel
theorem dX6_expected_32 : decode cX6_expected 32 = .ok (.ldc2_w 99, 3) := by decide +kernel
theorem dX6_expected_35 : decode cX6_expected 35 = .ok (.lreturn, 1) := by decide +kernel
theorem dX6_expected_36 : decode cX6_expected 36 = .ok (.aload_n 0, 1) := by decide +kernel
theorem dX6_expected_37 : decode cX6_expected 37 = .ok (.invokevirtual 95, 3) := by decide +kernel
theorem dX6_expected_40 : decode cX6_expected 40 = .ok (.lstore 5, 2) := by decide +kernel
theorem dX6_expected_42 : decode cX6_expected 42 = .ok (.lload 5, 2) := by decide +kernel
theorem dX6_expected_44 : decode cX6_expected 44 = .ok (.lconst 0, 1) := by decide +kernel
theorem dX6_expected_45 : decode cX6_expected 45 = .ok (.lcmp, 1) := by decide +kernel
theorem dX6_expected_46 : decode cX6_expected 46 = .ok (.ifCond .ne 7, 3) := by decide +kernel
theorem dX6_expected_49 : decode cX6_expected 49 = .ok (.ldc2_w 131, 3) := by decide +kernel
theorem dX6_expected_52 : decode cX6_expected 52 = .ok (.lreturn, 1) := by decide +kernel
theorem dX6_expected_53 : decode cX6_expected 53 = .ok (.aload_n 0, 1) := by decide +kernel
theorem dX6_expected_54 : decode cX6_expected 54 = .ok (.invokevirtual 101, 3) := by decide +kernel
theorem dX6_expected_57 : decode cX6_expected 57 = .ok (.aload_n 0, 1) := by decide +kernel
theorem dX6_expected_58 : decode cX6_expected 58 = .ok (.getfield 7, 3) := by decide +kernel
theorem dX6_expected_61 : decode cX6_expected 61 = .ok (.bipush 58, 2) := by decide +kernel
theorem dX6_expected_63 : decode cX6_expected 63 = .ok (.iaload, 1) := by decide +kernel
theorem dX6_expected_64 : decode cX6_expected 64 = .ok (.ifCond .ne 7, 3) := by decide +kernel
theorem dX6_expected_67 : decode cX6_expected 67 = .ok (.lconst 0, 1) := by decide +kernel
theorem dX6_expected_68 : decode cX6_expected 68 = .ok (.goto 10, 3) := by decide +kernel
theorem dX6_expected_71 : decode cX6_expected 71 = .ok (.aload_n 0, 1) := by decide +kernel
theorem dX6_expected_72 : decode cX6_expected 72 = .ok (.iload_n 1, 1) := by decide +kernel
theorem dX6_expected_73 : decode cX6_expected 73 = .ok (.iload_n 2, 1) := by decide +kernel
theorem dX6_expected_74 : decode cX6_expected 74 = .ok (.iload_n 3, 1) := by decide +kernel
theorem dX6_expected_75 : decode cX6_expected 75 = .ok (.invokevirtual 141, 3) := by decide +kernel
theorem dX6_expected_78 : decode cX6_expected 78 = .ok (.lload 5, 2) := by decide +kernel
theorem dX6_expected_80 : decode cX6_expected 80 = .ok (.iload 4, 2) := by decide +kernel
theorem dX6_expected_82 : decode cX6_expected 82 = .ok (.invokestatic 137, 3) := by decide +kernel
theorem dX6_expected_85 : decode cX6_expected 85 = .ok (.lreturn, 1) := by decide +kernel
theorem dX6_shareBits_0 : decode cX6_shareBits 0 = .ok (.aload_n 0, 1) := by decide +kernel
theorem dX6_shareBits_1 : decode cX6_shareBits 1 = .ok (.invokevirtual 95, 3) := by decide +kernel
theorem dX6_shareBits_4 : decode cX6_shareBits 4 = .ok (.lstore_n 1, 1) := by decide +kernel
theorem dX6_shareBits_5 : decode cX6_shareBits 5 = .ok (.lload_n 1, 1) := by decide +kernel
theorem dX6_shareBits_6 : decode cX6_shareBits 6 = .ok (.lconst 0, 1) := by decide +kernel
theorem dX6_shareBits_7 : decode cX6_shareBits 7 = .ok (.lcmp, 1) := by decide +kernel
theorem dX6_shareBits_8 : decode cX6_shareBits 8 = .ok (.ifCond .ne 6, 3) := by decide +kernel
theorem dX6_shareBits_11 : decode cX6_shareBits 11 = .ok (.bipush (-5), 2) := by decide +kernel
theorem dX6_shareBits_13 : decode cX6_shareBits 13 = .ok (.ireturn, 1) := by decide +kernel
theorem dX6_shareBits_14 : decode cX6_shareBits 14 = .ok (.aload_n 0, 1) := by decide +kernel
theorem dX6_shareBits_15 : decode cX6_shareBits 15 = .ok (.bipush (-6), 2) := by decide +kernel
theorem dX6_shareBits_17 : decode cX6_shareBits 17 = .ok (.invokevirtual 118, 3) := by decide +kernel
theorem dX6_shareBits_20 : decode cX6_shareBits 20 = .ok (.pop, 1) := by decide +kernel
theorem dX6_shareBits_21 : decode cX6_shareBits 21 = .ok (.aload_n 0, 1) := by decide +kernel
theorem dX6_shareBits_22 : decode cX6_shareBits 22 = .ok (.getfield 107, 3) := by decide +kernel
theorem dX6_shareBits_25 : decode cX6_shareBits 25 = .ok (.l2d, 1) := by decide +kernel
theorem dX6_shareBits_26 : decode cX6_shareBits 26 = .ok (.lload_n 1, 1) := by decide +kernel
theorem dX6_shareBits_27 : decode cX6_shareBits 27 = .ok (.l2d, 1) := by decide +kernel
theorem dX6_shareBits_28 : decode cX6_shareBits 28 = .ok (.ddiv, 1) := by decide +kernel
theorem dX6_shareBits_29 : decode cX6_shareBits 29 = .ok (.d2f, 1) := by decide +kernel
theorem dX6_shareBits_30 : decode cX6_shareBits 30 = .ok (.invokestatic 145, 3) := by decide +kernel
theorem dX6_shareBits_33 : decode cX6_shareBits 33 = .ok (.ireturn, 1) := by decide +kernel
theorem dX6_trainGroup_0 : decode cX6_trainGroup 0 = .ok (.lconst 0, 1) := by decide +kernel
theorem dX6_trainGroup_1 : decode cX6_trainGroup 1 = .ok (.lstore_n 3, 1) := by decide +kernel
theorem dX6_trainGroup_2 : decode cX6_trainGroup 2 = .ok (.iload_n 1, 1) := by decide +kernel
theorem dX6_trainGroup_3 : decode cX6_trainGroup 3 = .ok (.istore 5, 2) := by decide +kernel
theorem dX6_trainGroup_5 : decode cX6_trainGroup 5 = .ok (.iload 5, 2) := by decide +kernel
theorem dX6_trainGroup_7 : decode cX6_trainGroup 7 = .ok (.iload_n 1, 1) := by decide +kernel
theorem dX6_trainGroup_8 : decode cX6_trainGroup 8 = .ok (.iload_n 2, 1) := by decide +kernel
theorem dX6_trainGroup_9 : decode cX6_trainGroup 9 = .ok (.iadd, 1) := by decide +kernel
theorem dX6_trainGroup_10 : decode cX6_trainGroup 10 = .ok (.if_icmp .ge 33, 3) := by decide +kernel
theorem dX6_trainGroup_13 : decode cX6_trainGroup 13 = .ok (.aload_n 0, 1) := by decide +kernel
theorem dX6_trainGroup_14 : decode cX6_trainGroup 14 = .ok (.getfield 42, 3) := by decide +kernel
theorem dX6_trainGroup_17 : decode cX6_trainGroup 17 = .ok (.iload 5, 2) := by decide +kernel
theorem dX6_trainGroup_19 : decode cX6_trainGroup 19 = .ok (.laload, 1) := by decide +kernel
theorem dX6_trainGroup_20 : decode cX6_trainGroup 20 = .ok (.lload_n 3, 1) := by decide +kernel
theorem dX6_trainGroup_21 : decode cX6_trainGroup 21 = .ok (.lcmp, 1) := by decide +kernel
theorem dX6_trainGroup_22 : decode cX6_trainGroup 22 = .ok (.ifCond .le 13, 3) := by decide +kernel
theorem dX6_trainGroup_25 : decode cX6_trainGroup 25 = .ok (.aload_n 0, 1) := by decide +kernel
theorem dX6_trainGroup_26 : decode cX6_trainGroup 26 = .ok (.getfield 42, 3) := by decide +kernel
theorem dX6_trainGroup_29 : decode cX6_trainGroup 29 = .ok (.iload 5, 2) := by decide +kernel
theorem dX6_trainGroup_31 : decode cX6_trainGroup 31 = .ok (.laload, 1) := by decide +kernel
theorem dX6_trainGroup_32 : decode cX6_trainGroup 32 = .ok (.goto 4, 3) := by decide +kernel
theorem dX6_trainGroup_35 : decode cX6_trainGroup 35 = .ok (.lload_n 3, 1) := by decide +kernel
theorem dX6_trainGroup_36 : decode cX6_trainGroup 36 = .ok (.lstore_n 3, 1) := by decide +kernel
theorem dX6_trainGroup_37 : decode cX6_trainGroup 37 = .ok (.iinc 5 1, 3) := by decide +kernel
theorem dX6_trainGroup_40 : decode cX6_trainGroup 40 = .ok (.goto (-35), 3) := by decide +kernel
theorem dX6_trainGroup_43 : decode cX6_trainGroup 43 = .ok (.iconst 0, 1) := by decide +kernel
theorem dX6_trainGroup_44 : decode cX6_trainGroup 44 = .ok (.istore 5, 2) := by decide +kernel
theorem dX6_trainGroup_46 : decode cX6_trainGroup 46 = .ok (.iload_n 1, 1) := by decide +kernel
theorem dX6_trainGroup_47 : decode cX6_trainGroup 47 = .ok (.istore 6, 2) := by decide +kernel
theorem dX6_trainGroup_49 : decode cX6_trainGroup 49 = .ok (.iload 6, 2) := by decide +kernel
theorem dX6_trainGroup_51 : decode cX6_trainGroup 51 = .ok (.iload_n 1, 1) := by decide +kernel
theorem dX6_trainGroup_52 : decode cX6_trainGroup 52 = .ok (.iload_n 2, 1) := by decide +kernel
theorem dX6_trainGroup_53 : decode cX6_trainGroup 53 = .ok (.iadd, 1) := by decide +kernel
theorem dX6_trainGroup_54 : decode cX6_trainGroup 54 = .ok (.if_icmp .ge 68, 3) := by decide +kernel
theorem dX6_trainGroup_57 : decode cX6_trainGroup 57 = .ok (.lload_n 3, 1) := by decide +kernel
theorem dX6_trainGroup_58 : decode cX6_trainGroup 58 = .ok (.lconst 0, 1) := by decide +kernel
theorem dX6_trainGroup_59 : decode cX6_trainGroup 59 = .ok (.lcmp, 1) := by decide +kernel
theorem dX6_trainGroup_60 : decode cX6_trainGroup 60 = .ok (.ifCond .le 62, 3) := by decide +kernel
theorem dX6_trainGroup_63 : decode cX6_trainGroup 63 = .ok (.ldc2_w 151, 3) := by decide +kernel
theorem dX6_trainGroup_66 : decode cX6_trainGroup 66 = .ok (.aload_n 0, 1) := by decide +kernel
theorem dX6_trainGroup_67 : decode cX6_trainGroup 67 = .ok (.getfield 42, 3) := by decide +kernel
theorem dX6_trainGroup_70 : decode cX6_trainGroup 70 = .ok (.iload 6, 2) := by decide +kernel
theorem dX6_trainGroup_72 : decode cX6_trainGroup 72 = .ok (.laload, 1) := by decide +kernel
theorem dX6_trainGroup_73 : decode cX6_trainGroup 73 = .ok (.lmul, 1) := by decide +kernel
theorem dX6_trainGroup_74 : decode cX6_trainGroup 74 = .ok (.lload_n 3, 1) := by decide +kernel
theorem dX6_trainGroup_75 : decode cX6_trainGroup 75 = .ok (.ladd, 1) := by decide +kernel
theorem dX6_trainGroup_76 : decode cX6_trainGroup 76 = .ok (.ldc2_w 153, 3) := by decide +kernel
theorem dX6_trainGroup_79 : decode cX6_trainGroup 79 = .ok (.lload_n 3, 1) := by decide +kernel
theorem dX6_trainGroup_80 : decode cX6_trainGroup 80 = .ok (.lmul, 1) := by decide +kernel
theorem dX6_trainGroup_81 : decode cX6_trainGroup 81 = .ok (.ldiv, 1) := by decide +kernel
theorem dX6_trainGroup_82 : decode cX6_trainGroup 82 = .ok (.l2i, 1) := by decide +kernel
theorem dX6_trainGroup_83 : decode cX6_trainGroup 83 = .ok (.istore 7, 2) := by decide +kernel
theorem dX6_trainGroup_85 : decode cX6_trainGroup 85 = .ok (.iload 5, 2) := by decide +kernel
theorem dX6_trainGroup_87 : decode cX6_trainGroup 87 = .ok (.iload 7, 2) := by decide +kernel
theorem dX6_trainGroup_89 : decode cX6_trainGroup 89 = .ok (.aload_n 0, 1) := by decide +kernel
theorem dX6_trainGroup_90 : decode cX6_trainGroup 90 = .ok (.getfield 7, 3) := by decide +kernel
theorem dX6_trainGroup_93 : decode cX6_trainGroup 93 = .ok (.iload 6, 2) := by decide +kernel
theorem dX6_trainGroup_95 : decode cX6_trainGroup 95 = .ok (.iaload, 1) := by decide +kernel
theorem dX6_trainGroup_96 : decode cX6_trainGroup 96 = .ok (.if_icmp .eq 7, 3) := by decide +kernel
theorem dX6_trainGroup_99 : decode cX6_trainGroup 99 = .ok (.iconst 1, 1) := by decide +kernel
theorem dX6_trainGroup_100 : decode cX6_trainGroup 100 = .ok (.goto 4, 3) := by decide +kernel
theorem dX6_trainGroup_103 : decode cX6_trainGroup 103 = .ok (.iconst 0, 1) := by decide +kernel
theorem dX6_trainGroup_104 : decode cX6_trainGroup 104 = .ok (.iadd, 1) := by decide +kernel
theorem dX6_trainGroup_105 : decode cX6_trainGroup 105 = .ok (.istore 5, 2) := by decide +kernel
theorem dX6_trainGroup_107 : decode cX6_trainGroup 107 = .ok (.aload_n 0, 1) := by decide +kernel
theorem dX6_trainGroup_108 : decode cX6_trainGroup 108 = .ok (.getfield 7, 3) := by decide +kernel
theorem dX6_trainGroup_111 : decode cX6_trainGroup 111 = .ok (.iload 6, 2) := by decide +kernel
theorem dX6_trainGroup_113 : decode cX6_trainGroup 113 = .ok (.iload 7, 2) := by decide +kernel
theorem dX6_trainGroup_115 : decode cX6_trainGroup 115 = .ok (.iastore, 1) := by decide +kernel
theorem dX6_trainGroup_116 : decode cX6_trainGroup 116 = .ok (.iinc 6 1, 3) := by decide +kernel
theorem dX6_trainGroup_119 : decode cX6_trainGroup 119 = .ok (.goto (-70), 3) := by decide +kernel
theorem dX6_trainGroup_122 : decode cX6_trainGroup 122 = .ok (.iload 5, 2) := by decide +kernel
theorem dX6_trainGroup_124 : decode cX6_trainGroup 124 = .ok (.ireturn, 1) := by decide +kernel
theorem dX6_train_0 : decode cX6_train 0 = .ok (.aload_n 0, 1) := by decide +kernel
theorem dX6_train_1 : decode cX6_train 1 = .ok (.getfield 7, 3) := by decide +kernel
theorem dX6_train_4 : decode cX6_train 4 = .ok (.bipush 58, 2) := by decide +kernel
theorem dX6_train_6 : decode cX6_train 6 = .ok (.iaload, 1) := by decide +kernel
theorem dX6_train_7 : decode cX6_train 7 = .ok (.ifCond .eq 12, 3) := by decide +kernel
theorem dX6_train_10 : decode cX6_train 10 = .ok (.aload_n 0, 1) := by decide +kernel
theorem dX6_train_11 : decode cX6_train 11 = .ok (.invokevirtual 95, 3) := by decide +kernel
theorem dX6_train_14 : decode cX6_train 14 = .ok (.lconst 0, 1) := by decide +kernel
theorem dX6_train_15 : decode cX6_train 15 = .ok (.lcmp, 1) := by decide +kernel
theorem dX6_train_16 : decode cX6_train 16 = .ok (.ifCond .ne 6, 3) := by decide +kernel
theorem dX6_train_19 : decode cX6_train 19 = .ok (.bipush (-5), 2) := by decide +kernel
theorem dX6_train_21 : decode cX6_train 21 = .ok (.ireturn, 1) := by decide +kernel
theorem dX6_train_22 : decode cX6_train 22 = .ok (.aload_n 0, 1) := by decide +kernel
theorem dX6_train_23 : decode cX6_train 23 = .ok (.invokevirtual 61, 3) := by decide +kernel
theorem dX6_train_26 : decode cX6_train 26 = .ok (.aload_n 0, 1) := by decide +kernel
theorem dX6_train_27 : decode cX6_train 27 = .ok (.invokevirtual 101, 3) := by decide +kernel
theorem dX6_train_30 : decode cX6_train 30 = .ok (.iconst 0, 1) := by decide +kernel
theorem dX6_train_31 : decode cX6_train 31 = .ok (.istore_n 1, 1) := by decide +kernel
theorem dX6_train_32 : decode cX6_train 32 = .ok (.iload_n 1, 1) := by decide +kernel
theorem dX6_train_33 : decode cX6_train 33 = .ok (.bipush 6, 2) := by decide +kernel
theorem dX6_train_35 : decode cX6_train 35 = .ok (.if_icmp .ge 95, 3) := by decide +kernel
theorem dX6_train_38 : decode cX6_train 38 = .ok (.aload_n 0, 1) := by decide +kernel
theorem dX6_train_39 : decode cX6_train 39 = .ok (.getfield 42, 3) := by decide +kernel
theorem dX6_train_42 : decode cX6_train 42 = .ok (.iload_n 1, 1) := by decide +kernel
theorem dX6_train_43 : decode cX6_train 43 = .ok (.aload_n 0, 1) := by decide +kernel
theorem dX6_train_44 : decode cX6_train 44 = .ok (.iconst 0, 1) := by decide +kernel
theorem dX6_train_45 : decode cX6_train 45 = .ok (.iload_n 1, 1) := by decide +kernel
theorem dX6_train_46 : decode cX6_train 46 = .ok (.iconst 0, 1) := by decide +kernel
theorem dX6_train_47 : decode cX6_train 47 = .ok (.invokevirtual 141, 3) := by decide +kernel
theorem dX6_train_50 : decode cX6_train 50 = .ok (.lastore, 1) := by decide +kernel
theorem dX6_train_51 : decode cX6_train 51 = .ok (.iconst 0, 1) := by decide +kernel
theorem dX6_train_52 : decode cX6_train 52 = .ok (.istore_n 2, 1) := by decide +kernel
theorem dX6_train_53 : decode cX6_train 53 = .ok (.iload_n 2, 1) := by decide +kernel
theorem dX6_train_54 : decode cX6_train 54 = .ok (.bipush 6, 2) := by decide +kernel
theorem dX6_train_56 : decode cX6_train 56 = .ok (.if_icmp .ge 30, 3) := by decide +kernel
theorem dX6_train_59 : decode cX6_train 59 = .ok (.aload_n 0, 1) := by decide +kernel
theorem dX6_train_60 : decode cX6_train 60 = .ok (.getfield 42, 3) := by decide +kernel
theorem dX6_train_63 : decode cX6_train 63 = .ok (.bipush 6, 2) := by decide +kernel
theorem dX6_train_65 : decode cX6_train 65 = .ok (.bipush 6, 2) := by decide +kernel
theorem dX6_train_67 : decode cX6_train 67 = .ok (.iload_n 1, 1) := by decide +kernel
theorem dX6_train_68 : decode cX6_train 68 = .ok (.imul, 1) := by decide +kernel
theorem dX6_train_69 : decode cX6_train 69 = .ok (.iadd, 1) := by decide +kernel
theorem dX6_train_70 : decode cX6_train 70 = .ok (.iload_n 2, 1) := by decide +kernel
theorem dX6_train_71 : decode cX6_train 71 = .ok (.iadd, 1) := by decide +kernel
theorem dX6_train_72 : decode cX6_train 72 = .ok (.aload_n 0, 1) := by decide +kernel
theorem dX6_train_73 : decode cX6_train 73 = .ok (.iconst 1, 1) := by decide +kernel
theorem dX6_train_74 : decode cX6_train 74 = .ok (.iload_n 1, 1) := by decide +kernel
theorem dX6_train_75 : decode cX6_train 75 = .ok (.iload_n 2, 1) := by decide +kernel
theorem dX6_train_76 : decode cX6_train 76 = .ok (.invokevirtual 141, 3) := by decide +kernel
theorem dX6_train_79 : decode cX6_train 79 = .ok (.lastore, 1) := by decide +kernel
theorem dX6_train_80 : decode cX6_train 80 = .ok (.iinc 2 1, 3) := by decide +kernel
theorem dX6_train_83 : decode cX6_train 83 = .ok (.goto (-30), 3) := by decide +kernel
theorem dX6_train_86 : decode cX6_train 86 = .ok (.iconst 0, 1) := by decide +kernel
theorem dX6_train_87 : decode cX6_train 87 = .ok (.istore_n 2, 1) := by decide +kernel
theorem dX6_train_88 : decode cX6_train 88 = .ok (.iload_n 2, 1) := by decide +kernel
theorem dX6_train_89 : decode cX6_train 89 = .ok (.iconst 4, 1) := by decide +kernel
theorem dX6_train_90 : decode cX6_train 90 = .ok (.if_icmp .ge 34, 3) := by decide +kernel
theorem dX6_train_93 : decode cX6_train 93 = .ok (.iload_n 1, 1) := by decide +kernel
theorem dX6_train_94 : decode cX6_train 94 = .ok (.iconst 4, 1) := by decide +kernel
theorem dX6_train_95 : decode cX6_train 95 = .ok (.if_icmp .ge 29, 3) := by decide +kernel
theorem dX6_train_98 : decode cX6_train 98 = .ok (.aload_n 0, 1) := by decide +kernel
theorem dX6_train_99 : decode cX6_train 99 = .ok (.getfield 42, 3) := by decide +kernel
theorem dX6_train_102 : decode cX6_train 102 = .ok (.bipush 42, 2) := by decide +kernel
theorem dX6_train_104 : decode cX6_train 104 = .ok (.iconst 4, 1) := by decide +kernel
theorem dX6_train_105 : decode cX6_train 105 = .ok (.iload_n 1, 1) := by decide +kernel
theorem dX6_train_106 : decode cX6_train 106 = .ok (.imul, 1) := by decide +kernel
theorem dX6_train_107 : decode cX6_train 107 = .ok (.iadd, 1) := by decide +kernel
theorem dX6_train_108 : decode cX6_train 108 = .ok (.iload_n 2, 1) := by decide +kernel
theorem dX6_train_109 : decode cX6_train 109 = .ok (.iadd, 1) := by decide +kernel
theorem dX6_train_110 : decode cX6_train 110 = .ok (.aload_n 0, 1) := by decide +kernel
theorem dX6_train_111 : decode cX6_train 111 = .ok (.iconst 2, 1) := by decide +kernel
theorem dX6_train_112 : decode cX6_train 112 = .ok (.iload_n 1, 1) := by decide +kernel
theorem dX6_train_113 : decode cX6_train 113 = .ok (.iload_n 2, 1) := by decide +kernel
theorem dX6_train_114 : decode cX6_train 114 = .ok (.invokevirtual 141, 3) := by decide +kernel
theorem dX6_train_117 : decode cX6_train 117 = .ok (.lastore, 1) := by decide +kernel
theorem dX6_train_118 : decode cX6_train 118 = .ok (.iinc 2 1, 3) := by decide +kernel
theorem dX6_train_121 : decode cX6_train 121 = .ok (.goto (-33), 3) := by decide +kernel
theorem dX6_train_124 : decode cX6_train 124 = .ok (.iinc 1 1, 3) := by decide +kernel
theorem dX6_train_127 : decode cX6_train 127 = .ok (.goto (-95), 3) := by decide +kernel
theorem dX6_train_130 : decode cX6_train 130 = .ok (.aload_n 0, 1) := by decide +kernel
theorem dX6_train_131 : decode cX6_train 131 = .ok (.iconst 0, 1) := by decide +kernel
theorem dX6_train_132 : decode cX6_train 132 = .ok (.bipush 6, 2) := by decide +kernel
theorem dX6_train_134 : decode cX6_train 134 = .ok (.invokevirtual 155, 3) := by decide +kernel
theorem dX6_train_137 : decode cX6_train 137 = .ok (.istore_n 1, 1) := by decide +kernel
theorem dX6_train_138 : decode cX6_train 138 = .ok (.iconst 0, 1) := by decide +kernel
theorem dX6_train_139 : decode cX6_train 139 = .ok (.istore_n 2, 1) := by decide +kernel
theorem dX6_train_140 : decode cX6_train 140 = .ok (.iload_n 2, 1) := by decide +kernel
theorem dX6_train_141 : decode cX6_train 141 = .ok (.bipush 6, 2) := by decide +kernel
theorem dX6_train_143 : decode cX6_train 143 = .ok (.if_icmp .ge 48, 3) := by decide +kernel
theorem dX6_train_146 : decode cX6_train 146 = .ok (.iload_n 1, 1) := by decide +kernel
theorem dX6_train_147 : decode cX6_train 147 = .ok (.aload_n 0, 1) := by decide +kernel
theorem dX6_train_148 : decode cX6_train 148 = .ok (.bipush 6, 2) := by decide +kernel
theorem dX6_train_150 : decode cX6_train 150 = .ok (.bipush 6, 2) := by decide +kernel
theorem dX6_train_152 : decode cX6_train 152 = .ok (.iload_n 2, 1) := by decide +kernel
theorem dX6_train_153 : decode cX6_train 153 = .ok (.imul, 1) := by decide +kernel
theorem dX6_train_154 : decode cX6_train 154 = .ok (.iadd, 1) := by decide +kernel
theorem dX6_train_155 : decode cX6_train 155 = .ok (.bipush 6, 2) := by decide +kernel
theorem dX6_train_157 : decode cX6_train 157 = .ok (.invokevirtual 155, 3) := by decide +kernel
theorem dX6_train_160 : decode cX6_train 160 = .ok (.iadd, 1) := by decide +kernel
theorem dX6_train_161 : decode cX6_train 161 = .ok (.istore_n 1, 1) := by decide +kernel
theorem dX6_train_162 : decode cX6_train 162 = .ok (.iload_n 1, 1) := by decide +kernel
theorem dX6_train_163 : decode cX6_train 163 = .ok (.iload_n 2, 1) := by decide +kernel
theorem dX6_train_164 : decode cX6_train 164 = .ok (.iconst 4, 1) := by decide +kernel
theorem dX6_train_165 : decode cX6_train 165 = .ok (.if_icmp .ge 17, 3) := by decide +kernel
theorem dX6_train_168 : decode cX6_train 168 = .ok (.aload_n 0, 1) := by decide +kernel
theorem dX6_train_169 : decode cX6_train 169 = .ok (.bipush 42, 2) := by decide +kernel
theorem dX6_train_171 : decode cX6_train 171 = .ok (.iconst 4, 1) := by decide +kernel
theorem dX6_train_172 : decode cX6_train 172 = .ok (.iload_n 2, 1) := by decide +kernel
theorem dX6_train_173 : decode cX6_train 173 = .ok (.imul, 1) := by decide +kernel
theorem dX6_train_174 : decode cX6_train 174 = .ok (.iadd, 1) := by decide +kernel
theorem dX6_train_175 : decode cX6_train 175 = .ok (.iconst 4, 1) := by decide +kernel
theorem dX6_train_176 : decode cX6_train 176 = .ok (.invokevirtual 155, 3) := by decide +kernel
theorem dX6_train_179 : decode cX6_train 179 = .ok (.goto 4, 3) := by decide +kernel
theorem dX6_train_182 : decode cX6_train 182 = .ok (.iconst 0, 1) := by decide +kernel
theorem dX6_train_183 : decode cX6_train 183 = .ok (.iadd, 1) := by decide +kernel
theorem dX6_train_184 : decode cX6_train 184 = .ok (.istore_n 1, 1) := by decide +kernel
theorem dX6_train_185 : decode cX6_train 185 = .ok (.iinc 2 1, 3) := by decide +kernel
theorem dX6_train_188 : decode cX6_train 188 = .ok (.goto (-48), 3) := by decide +kernel
theorem dX6_train_191 : decode cX6_train 191 = .ok (.iload_n 1, 1) := by decide +kernel
theorem dX6_train_192 : decode cX6_train 192 = .ok (.ireturn, 1) := by decide +kernel
theorem dX6_next_0 : decode cX6_next 0 = .ok (.iload_n 1, 1) := by decide +kernel
theorem dX6_next_1 : decode cX6_next 1 = .ok (.iconst 0, 1) := by decide +kernel
theorem dX6_next_2 : decode cX6_next 2 = .ok (.iconst 1, 1) := by decide +kernel
theorem dX6_next_3 : decode cX6_next 3 = .ok (.invokestatic 49, 3) := by decide +kernel
theorem dX6_next_6 : decode cX6_next 6 = .ok (.ifCond .ne 7, 3) := by decide +kernel
theorem dX6_next_9 : decode cX6_next 9 = .ok (.ldc2_w 129, 3) := by decide +kernel
theorem dX6_next_12 : decode cX6_next 12 = .ok (.lreturn, 1) := by decide +kernel
theorem dX6_next_13 : decode cX6_next 13 = .ok (.aload_n 0, 1) := by decide +kernel
theorem dX6_next_14 : decode cX6_next 14 = .ok (.getfield 7, 3) := by decide +kernel
theorem dX6_next_17 : decode cX6_next 17 = .ok (.bipush 58, 2) := by decide +kernel
theorem dX6_next_19 : decode cX6_next 19 = .ok (.iaload, 1) := by decide +kernel
theorem dX6_next_20 : decode cX6_next 20 = .ok (.bipush 6, 2) := by decide +kernel
theorem dX6_next_22 : decode cX6_next 22 = .ok (.if_icmp .ne 7, 3) := by decide +kernel
theorem dX6_next_25 : decode cX6_next 25 = .ok (.ldc2_w 131, 3) := by decide +kernel
theorem dX6_next_28 : decode cX6_next 28 = .ok (.lreturn, 1) := by decide +kernel
theorem dX6_next_29 : decode cX6_next 29 = .ok (.bipush 60, 2) := by decide +kernel
theorem dX6_next_31 : decode cX6_next 31 = .ok (.aload_n 0, 1) := by decide +kernel
theorem dX6_next_32 : decode cX6_next 32 = .ok (.getfield 7, 3) := by decide +kernel
theorem dX6_next_35 : decode cX6_next 35 = .ok (.bipush 58, 2) := by decide +kernel
theorem dX6_next_37 : decode cX6_next 37 = .ok (.iaload, 1) := by decide +kernel
theorem dX6_next_38 : decode cX6_next 38 = .ok (.iadd, 1) := by decide +kernel
theorem dX6_next_39 : decode cX6_next 39 = .ok (.istore_n 2, 1) := by decide +kernel
theorem dX6_next_40 : decode cX6_next 40 = .ok (.aload_n 0, 1) := by decide +kernel
theorem dX6_next_41 : decode cX6_next 41 = .ok (.getfield 7, 3) := by decide +kernel
theorem dX6_next_44 : decode cX6_next 44 = .ok (.iload_n 2, 1) := by decide +kernel
theorem dX6_next_45 : decode cX6_next 45 = .ok (.iaload, 1) := by decide +kernel
theorem dX6_next_46 : decode cX6_next 46 = .ok (.istore_n 3, 1) := by decide +kernel
theorem dX6_next_47 : decode cX6_next 47 = .ok (.bipush (-6), 2) := by decide +kernel
theorem dX6_next_49 : decode cX6_next 49 = .ok (.istore 4, 2) := by decide +kernel
theorem dX6_next_51 : decode cX6_next 51 = .ok (.lconst 0, 1) := by decide +kernel
theorem dX6_next_52 : decode cX6_next 52 = .ok (.lstore 5, 2) := by decide +kernel
theorem dX6_next_54 : decode cX6_next 54 = .ok (.aload_n 0, 1) := by decide +kernel
theorem dX6_next_55 : decode cX6_next 55 = .ok (.getfield 7, 3) := by decide +kernel
theorem dX6_next_58 : decode cX6_next 58 = .ok (.bipush 58, 2) := by decide +kernel
theorem dX6_next_60 : decode cX6_next 60 = .ok (.dup2, 1) := by decide +kernel
theorem dX6_next_61 : decode cX6_next 61 = .ok (.iaload, 1) := by decide +kernel
theorem dX6_next_62 : decode cX6_next 62 = .ok (.iconst 1, 1) := by decide +kernel
theorem dX6_next_63 : decode cX6_next 63 = .ok (.iadd, 1) := by decide +kernel
theorem dX6_next_64 : decode cX6_next 64 = .ok (.iastore, 1) := by decide +kernel
theorem dX6_next_65 : decode cX6_next 65 = .ok (.iconst 0, 1) := by decide +kernel
theorem dX6_next_66 : decode cX6_next 66 = .ok (.istore 7, 2) := by decide +kernel
theorem dX6_next_68 : decode cX6_next 68 = .ok (.iload 7, 2) := by decide +kernel
theorem dX6_next_70 : decode cX6_next 70 = .ok (.iconst 4, 1) := by decide +kernel
theorem dX6_next_71 : decode cX6_next 71 = .ok (.if_icmp .ge 57, 3) := by decide +kernel
theorem dX6_next_74 : decode cX6_next 74 = .ok (.aload_n 0, 1) := by decide +kernel
theorem dX6_next_75 : decode cX6_next 75 = .ok (.getfield 7, 3) := by decide +kernel
theorem dX6_next_78 : decode cX6_next 78 = .ok (.iload_n 2, 1) := by decide +kernel
theorem dX6_next_79 : decode cX6_next 79 = .ok (.iload 7, 2) := by decide +kernel
theorem dX6_next_81 : decode cX6_next 81 = .ok (.iastore, 1) := by decide +kernel
theorem dX6_next_82 : decode cX6_next 82 = .ok (.aload_n 0, 1) := by decide +kernel
theorem dX6_next_83 : decode cX6_next 83 = .ok (.invokevirtual 95, 3) := by decide +kernel
theorem dX6_next_86 : decode cX6_next 86 = .ok (.lstore 8, 2) := by decide +kernel
theorem dX6_next_88 : decode cX6_next 88 = .ok (.lload 8, 2) := by decide +kernel
theorem dX6_next_90 : decode cX6_next 90 = .ok (.lload 5, 2) := by decide +kernel
theorem dX6_next_92 : decode cX6_next 92 = .ok (.lcmp, 1) := by decide +kernel
theorem dX6_next_93 : decode cX6_next 93 = .ok (.ifCond .le 8, 3) := by decide +kernel
theorem dX6_next_96 : decode cX6_next 96 = .ok (.iload 7, 2) := by decide +kernel
theorem dX6_next_98 : decode cX6_next 98 = .ok (.goto 5, 3) := by decide +kernel
theorem dX6_next_101 : decode cX6_next 101 = .ok (.iload 4, 2) := by decide +kernel
theorem dX6_next_103 : decode cX6_next 103 = .ok (.istore 4, 2) := by decide +kernel
theorem dX6_next_105 : decode cX6_next 105 = .ok (.lload 8, 2) := by decide +kernel
theorem dX6_next_107 : decode cX6_next 107 = .ok (.lload 5, 2) := by decide +kernel
theorem dX6_next_109 : decode cX6_next 109 = .ok (.lcmp, 1) := by decide +kernel
theorem dX6_next_110 : decode cX6_next 110 = .ok (.ifCond .le 8, 3) := by decide +kernel
theorem dX6_next_113 : decode cX6_next 113 = .ok (.lload 8, 2) := by decide +kernel
theorem dX6_next_115 : decode cX6_next 115 = .ok (.goto 5, 3) := by decide +kernel
theorem dX6_next_118 : decode cX6_next 118 = .ok (.lload 5, 2) := by decide +kernel
theorem dX6_next_120 : decode cX6_next 120 = .ok (.lstore 5, 2) := by decide +kernel
theorem dX6_next_122 : decode cX6_next 122 = .ok (.iinc 7 1, 3) := by decide +kernel
theorem dX6_next_125 : decode cX6_next 125 = .ok (.goto (-57), 3) := by decide +kernel
theorem dX6_next_128 : decode cX6_next 128 = .ok (.aload_n 0, 1) := by decide +kernel
theorem dX6_next_129 : decode cX6_next 129 = .ok (.getfield 7, 3) := by decide +kernel
theorem dX6_next_132 : decode cX6_next 132 = .ok (.bipush 58, 2) := by decide +kernel
theorem dX6_next_134 : decode cX6_next 134 = .ok (.dup2, 1) := by decide +kernel
theorem dX6_next_135 : decode cX6_next 135 = .ok (.iaload, 1) := by decide +kernel
theorem dX6_next_136 : decode cX6_next 136 = .ok (.iconst 1, 1) := by decide +kernel
theorem dX6_next_137 : decode cX6_next 137 = .ok (.isub, 1) := by decide +kernel
theorem dX6_next_138 : decode cX6_next 138 = .ok (.iastore, 1) := by decide +kernel
theorem dX6_next_139 : decode cX6_next 139 = .ok (.aload_n 0, 1) := by decide +kernel
theorem dX6_next_140 : decode cX6_next 140 = .ok (.getfield 7, 3) := by decide +kernel
theorem dX6_next_143 : decode cX6_next 143 = .ok (.iload_n 2, 1) := by decide +kernel
theorem dX6_next_144 : decode cX6_next 144 = .ok (.iload_n 3, 1) := by decide +kernel
theorem dX6_next_145 : decode cX6_next 145 = .ok (.iastore, 1) := by decide +kernel
theorem dX6_next_146 : decode cX6_next 146 = .ok (.iload 4, 2) := by decide +kernel
theorem dX6_next_148 : decode cX6_next 148 = .ok (.ifCond .ge 9, 3) := by decide +kernel
theorem dX6_next_151 : decode cX6_next 151 = .ok (.ldc2_w 158, 3) := by decide +kernel
theorem dX6_next_154 : decode cX6_next 154 = .ok (.goto 15, 3) := by decide +kernel
theorem dX6_next_157 : decode cX6_next 157 = .ok (.iload_n 1, 1) := by decide +kernel
theorem dX6_next_158 : decode cX6_next 158 = .ok (.ifCond .ne 9, 3) := by decide +kernel
theorem dX6_next_161 : decode cX6_next 161 = .ok (.iload 4, 2) := by decide +kernel
theorem dX6_next_163 : decode cX6_next 163 = .ok (.i2l, 1) := by decide +kernel
theorem dX6_next_164 : decode cX6_next 164 = .ok (.goto 5, 3) := by decide +kernel
theorem dX6_next_167 : decode cX6_next 167 = .ok (.lload 5, 2) := by decide +kernel
theorem dX6_next_169 : decode cX6_next 169 = .ok (.lreturn, 1) := by decide +kernel
theorem dX6_slip_0 : decode cX6_slip 0 = .ok (.iload_n 1, 1) := by decide +kernel
theorem dX6_slip_1 : decode cX6_slip 1 = .ok (.iconst 0, 1) := by decide +kernel
theorem dX6_slip_2 : decode cX6_slip 2 = .ok (.iconst 2, 1) := by decide +kernel
theorem dX6_slip_3 : decode cX6_slip 3 = .ok (.invokestatic 49, 3) := by decide +kernel
theorem dX6_slip_6 : decode cX6_slip 6 = .ok (.ifCond .ne 7, 3) := by decide +kernel
theorem dX6_slip_9 : decode cX6_slip 9 = .ok (.ldc2_w 129, 3) := by decide +kernel
theorem dX6_slip_12 : decode cX6_slip 12 = .ok (.lreturn, 1) := by decide +kernel
theorem dX6_slip_13 : decode cX6_slip 13 = .ok (.aload_n 0, 1) := by decide +kernel
theorem dX6_slip_14 : decode cX6_slip 14 = .ok (.invokevirtual 95, 3) := by decide +kernel
theorem dX6_slip_17 : decode cX6_slip 17 = .ok (.lstore_n 2, 1) := by decide +kernel
theorem dX6_slip_18 : decode cX6_slip 18 = .ok (.bipush (-6), 2) := by decide +kernel
theorem dX6_slip_20 : decode cX6_slip 20 = .ok (.istore 4, 2) := by decide +kernel
theorem dX6_slip_22 : decode cX6_slip 22 = .ok (.bipush (-6), 2) := by decide +kernel
theorem dX6_slip_24 : decode cX6_slip 24 = .ok (.istore 5, 2) := by decide +kernel
theorem dX6_slip_26 : decode cX6_slip 26 = .ok (.iconst 0, 1) := by decide +kernel
theorem dX6_slip_27 : decode cX6_slip 27 = .ok (.istore 6, 2) := by decide +kernel
theorem dX6_slip_29 : decode cX6_slip 29 = .ok (.iload 6, 2) := by decide +kernel
theorem dX6_slip_31 : decode cX6_slip 31 = .ok (.aload_n 0, 1) := by decide +kernel
theorem dX6_slip_32 : decode cX6_slip 32 = .ok (.getfield 7, 3) := by decide +kernel
theorem dX6_slip_35 : decode cX6_slip 35 = .ok (.bipush 58, 2) := by decide +kernel
theorem dX6_slip_37 : decode cX6_slip 37 = .ok (.iaload, 1) := by decide +kernel
theorem dX6_slip_38 : decode cX6_slip 38 = .ok (.if_icmp .ge 84, 3) := by decide +kernel
theorem dX6_slip_41 : decode cX6_slip 41 = .ok (.aload_n 0, 1) := by decide +kernel
theorem dX6_slip_42 : decode cX6_slip 42 = .ok (.getfield 7, 3) := by decide +kernel
theorem dX6_slip_45 : decode cX6_slip 45 = .ok (.bipush 60, 2) := by decide +kernel
theorem dX6_slip_47 : decode cX6_slip 47 = .ok (.iload 6, 2) := by decide +kernel
theorem dX6_slip_49 : decode cX6_slip 49 = .ok (.iadd, 1) := by decide +kernel
theorem dX6_slip_50 : decode cX6_slip 50 = .ok (.iaload, 1) := by decide +kernel
theorem dX6_slip_51 : decode cX6_slip 51 = .ok (.istore 7, 2) := by decide +kernel
theorem dX6_slip_53 : decode cX6_slip 53 = .ok (.iconst 0, 1) := by decide +kernel
theorem dX6_slip_54 : decode cX6_slip 54 = .ok (.istore 8, 2) := by decide +kernel
theorem dX6_slip_56 : decode cX6_slip 56 = .ok (.iload 8, 2) := by decide +kernel
theorem dX6_slip_58 : decode cX6_slip 58 = .ok (.iconst 4, 1) := by decide +kernel
theorem dX6_slip_59 : decode cX6_slip 59 = .ok (.if_icmp .ge 45, 3) := by decide +kernel
theorem dX6_slip_62 : decode cX6_slip 62 = .ok (.aload_n 0, 1) := by decide +kernel
theorem dX6_slip_63 : decode cX6_slip 63 = .ok (.getfield 7, 3) := by decide +kernel
theorem dX6_slip_66 : decode cX6_slip 66 = .ok (.bipush 60, 2) := by decide +kernel
theorem dX6_slip_68 : decode cX6_slip 68 = .ok (.iload 6, 2) := by decide +kernel
theorem dX6_slip_70 : decode cX6_slip 70 = .ok (.iadd, 1) := by decide +kernel
theorem dX6_slip_71 : decode cX6_slip 71 = .ok (.iload 8, 2) := by decide +kernel
theorem dX6_slip_73 : decode cX6_slip 73 = .ok (.iastore, 1) := by decide +kernel
theorem dX6_slip_74 : decode cX6_slip 74 = .ok (.aload_n 0, 1) := by decide +kernel
theorem dX6_slip_75 : decode cX6_slip 75 = .ok (.invokevirtual 95, 3) := by decide +kernel
theorem dX6_slip_78 : decode cX6_slip 78 = .ok (.lstore 9, 2) := by decide +kernel
theorem dX6_slip_80 : decode cX6_slip 80 = .ok (.lload 9, 2) := by decide +kernel
theorem dX6_slip_82 : decode cX6_slip 82 = .ok (.lload_n 2, 1) := by decide +kernel
theorem dX6_slip_83 : decode cX6_slip 83 = .ok (.lcmp, 1) := by decide +kernel
theorem dX6_slip_84 : decode cX6_slip 84 = .ok (.ifCond .le 14, 3) := by decide +kernel
theorem dX6_slip_87 : decode cX6_slip 87 = .ok (.iload 6, 2) := by decide +kernel
theorem dX6_slip_89 : decode cX6_slip 89 = .ok (.istore 4, 2) := by decide +kernel
theorem dX6_slip_91 : decode cX6_slip 91 = .ok (.iload 8, 2) := by decide +kernel
theorem dX6_slip_93 : decode cX6_slip 93 = .ok (.istore 5, 2) := by decide +kernel
theorem dX6_slip_95 : decode cX6_slip 95 = .ok (.lload 9, 2) := by decide +kernel
theorem dX6_slip_97 : decode cX6_slip 97 = .ok (.lstore_n 2, 1) := by decide +kernel
theorem dX6_slip_98 : decode cX6_slip 98 = .ok (.iinc 8 1, 3) := by decide +kernel
theorem dX6_slip_101 : decode cX6_slip 101 = .ok (.goto (-45), 3) := by decide +kernel
theorem dX6_slip_104 : decode cX6_slip 104 = .ok (.aload_n 0, 1) := by decide +kernel
theorem dX6_slip_105 : decode cX6_slip 105 = .ok (.getfield 7, 3) := by decide +kernel
theorem dX6_slip_108 : decode cX6_slip 108 = .ok (.bipush 60, 2) := by decide +kernel
theorem dX6_slip_110 : decode cX6_slip 110 = .ok (.iload 6, 2) := by decide +kernel
theorem dX6_slip_112 : decode cX6_slip 112 = .ok (.iadd, 1) := by decide +kernel
theorem dX6_slip_113 : decode cX6_slip 113 = .ok (.iload 7, 2) := by decide +kernel
theorem dX6_slip_115 : decode cX6_slip 115 = .ok (.iastore, 1) := by decide +kernel
theorem dX6_slip_116 : decode cX6_slip 116 = .ok (.iinc 6 1, 3) := by decide +kernel
theorem dX6_slip_119 : decode cX6_slip 119 = .ok (.goto (-90), 3) := by decide +kernel
theorem dX6_slip_122 : decode cX6_slip 122 = .ok (.iload 4, 2) := by decide +kernel
theorem dX6_slip_124 : decode cX6_slip 124 = .ok (.ifCond .ge 9, 3) := by decide +kernel
theorem dX6_slip_127 : decode cX6_slip 127 = .ok (.ldc2_w 158, 3) := by decide +kernel
theorem dX6_slip_130 : decode cX6_slip 130 = .ok (.goto 25, 3) := by decide +kernel
theorem dX6_slip_133 : decode cX6_slip 133 = .ok (.iload_n 1, 1) := by decide +kernel
theorem dX6_slip_134 : decode cX6_slip 134 = .ok (.ifCond .ne 9, 3) := by decide +kernel
theorem dX6_slip_137 : decode cX6_slip 137 = .ok (.iload 4, 2) := by decide +kernel
theorem dX6_slip_139 : decode cX6_slip 139 = .ok (.i2l, 1) := by decide +kernel
theorem dX6_slip_140 : decode cX6_slip 140 = .ok (.goto 15, 3) := by decide +kernel
theorem dX6_slip_143 : decode cX6_slip 143 = .ok (.iload_n 1, 1) := by decide +kernel
theorem dX6_slip_144 : decode cX6_slip 144 = .ok (.iconst 1, 1) := by decide +kernel
theorem dX6_slip_145 : decode cX6_slip 145 = .ok (.if_icmp .ne 9, 3) := by decide +kernel
theorem dX6_slip_148 : decode cX6_slip 148 = .ok (.iload 5, 2) := by decide +kernel
theorem dX6_slip_150 : decode cX6_slip 150 = .ok (.i2l, 1) := by decide +kernel
theorem dX6_slip_151 : decode cX6_slip 151 = .ok (.goto 4, 3) := by decide +kernel
theorem dX6_slip_154 : decode cX6_slip 154 = .ok (.lload_n 2, 1) := by decide +kernel
theorem dX6_slip_155 : decode cX6_slip 155 = .ok (.lreturn, 1) := by decide +kernel
theorem dX6_count_0 : decode cX6_count 0 = .ok (.iconst 0, 1) := by decide +kernel
theorem dX6_count_1 : decode cX6_count 1 = .ok (.istore_n 2, 1) := by decide +kernel
theorem dX6_count_2 : decode cX6_count 2 = .ok (.iconst 0, 1) := by decide +kernel
theorem dX6_count_3 : decode cX6_count 3 = .ok (.istore_n 3, 1) := by decide +kernel
theorem dX6_count_4 : decode cX6_count 4 = .ok (.iload_n 3, 1) := by decide +kernel
theorem dX6_count_5 : decode cX6_count 5 = .ok (.bipush 58, 2) := by decide +kernel
theorem dX6_count_7 : decode cX6_count 7 = .ok (.if_icmp .ge 26, 3) := by decide +kernel
theorem dX6_count_10 : decode cX6_count 10 = .ok (.iload_n 2, 1) := by decide +kernel
theorem dX6_count_11 : decode cX6_count 11 = .ok (.aload_n 0, 1) := by decide +kernel
theorem dX6_count_12 : decode cX6_count 12 = .ok (.getfield 7, 3) := by decide +kernel
theorem dX6_count_15 : decode cX6_count 15 = .ok (.iload_n 3, 1) := by decide +kernel
theorem dX6_count_16 : decode cX6_count 16 = .ok (.iaload, 1) := by decide +kernel
theorem dX6_count_17 : decode cX6_count 17 = .ok (.ifCond .eq 7, 3) := by decide +kernel
theorem dX6_count_20 : decode cX6_count 20 = .ok (.iconst 1, 1) := by decide +kernel
theorem dX6_count_21 : decode cX6_count 21 = .ok (.goto 4, 3) := by decide +kernel
theorem dX6_count_24 : decode cX6_count 24 = .ok (.iconst 0, 1) := by decide +kernel
theorem dX6_count_25 : decode cX6_count 25 = .ok (.iadd, 1) := by decide +kernel
theorem dX6_count_26 : decode cX6_count 26 = .ok (.istore_n 2, 1) := by decide +kernel
theorem dX6_count_27 : decode cX6_count 27 = .ok (.iinc 3 1, 3) := by decide +kernel
theorem dX6_count_30 : decode cX6_count 30 = .ok (.goto (-26), 3) := by decide +kernel
theorem dX6_count_33 : decode cX6_count 33 = .ok (.iload_n 1, 1) := by decide +kernel
theorem dX6_count_34 : decode cX6_count 34 = .ok (.tableswitch 41 0 2 #[26, 34, 36], 26) := by decide +kernel
theorem dX6_count_60 : decode cX6_count 60 = .ok (.aload_n 0, 1) := by decide +kernel
theorem dX6_count_61 : decode cX6_count 61 = .ok (.getfield 7, 3) := by decide +kernel
theorem dX6_count_64 : decode cX6_count 64 = .ok (.bipush 58, 2) := by decide +kernel
theorem dX6_count_66 : decode cX6_count 66 = .ok (.iaload, 1) := by decide +kernel
theorem dX6_count_67 : decode cX6_count 67 = .ok (.ireturn, 1) := by decide +kernel
theorem dX6_count_68 : decode cX6_count 68 = .ok (.iload_n 2, 1) := by decide +kernel
theorem dX6_count_69 : decode cX6_count 69 = .ok (.ireturn, 1) := by decide +kernel
theorem dX6_count_70 : decode cX6_count 70 = .ok (.aload_n 0, 1) := by decide +kernel
theorem dX6_count_71 : decode cX6_count 71 = .ok (.getfield 160, 3) := by decide +kernel
theorem dX6_count_74 : decode cX6_count 74 = .ok (.ireturn, 1) := by decide +kernel
theorem dX6_count_75 : decode cX6_count 75 = .ok (.iload_n 1, 1) := by decide +kernel
theorem dX6_count_76 : decode cX6_count 76 = .ok (.iconst 3, 1) := by decide +kernel
theorem dX6_count_77 : decode cX6_count 77 = .ok (.if_icmp .ne 10, 3) := by decide +kernel
theorem dX6_count_80 : decode cX6_count 80 = .ok (.aload_n 0, 1) := by decide +kernel
theorem dX6_count_81 : decode cX6_count 81 = .ok (.getfield 45, 3) := by decide +kernel
theorem dX6_count_84 : decode cX6_count 84 = .ok (.goto 5, 3) := by decide +kernel
theorem dX6_count_87 : decode cX6_count 87 = .ok (.bipush (-2), 2) := by decide +kernel
theorem dX6_count_89 : decode cX6_count 89 = .ok (.ireturn, 1) := by decide +kernel
theorem dX6_read_0 : decode cX6_read 0 = .ok (.aload_n 0, 1) := by decide +kernel
theorem dX6_read_1 : decode cX6_read 1 = .ok (.iconst 0, 1) := by decide +kernel
theorem dX6_read_2 : decode cX6_read 2 = .ok (.putfield 163, 3) := by decide +kernel
theorem dX6_read_5 : decode cX6_read 5 = .ok (.iconst 0, 1) := by decide +kernel
theorem dX6_read_6 : decode cX6_read 6 = .ok (.istore_n 2, 1) := by decide +kernel
theorem dX6_read_7 : decode cX6_read 7 = .ok (.iconst 0, 1) := by decide +kernel
theorem dX6_read_8 : decode cX6_read 8 = .ok (.istore_n 3, 1) := by decide +kernel
theorem dX6_read_9 : decode cX6_read 9 = .ok (.iconst 0, 1) := by decide +kernel
theorem dX6_read_10 : decode cX6_read 10 = .ok (.istore 4, 2) := by decide +kernel
theorem dX6_read_12 : decode cX6_read 12 = .ok (.iconst 0, 1) := by decide +kernel
theorem dX6_read_13 : decode cX6_read 13 = .ok (.istore 5, 2) := by decide +kernel
theorem dX6_read_15 : decode cX6_read 15 = .ok (.iconst 0, 1) := by decide +kernel
theorem dX6_read_16 : decode cX6_read 16 = .ok (.istore 6, 2) := by decide +kernel
theorem dX6_read_18 : decode cX6_read 18 = .ok (.iload 6, 2) := by decide +kernel
theorem dX6_read_20 : decode cX6_read 20 = .ok (.aload_n 0, 1) := by decide +kernel
theorem dX6_read_21 : decode cX6_read 21 = .ok (.getfield 160, 3) := by decide +kernel
theorem dX6_read_24 : decode cX6_read 24 = .ok (.if_icmp .ge 539, 3) := by decide +kernel
theorem dX6_read_27 : decode cX6_read 27 = .ok (.aload_n 0, 1) := by decide +kernel
theorem dX6_read_28 : decode cX6_read 28 = .ok (.getfield 23, 3) := by decide +kernel
theorem dX6_read_31 : decode cX6_read 31 = .ok (.iload 6, 2) := by decide +kernel
theorem dX6_read_33 : decode cX6_read 33 = .ok (.iaload, 1) := by decide +kernel
theorem dX6_read_34 : decode cX6_read 34 = .ok (.istore 7, 2) := by decide +kernel
theorem dX6_read_36 : decode cX6_read 36 = .ok (.iload 7, 2) := by decide +kernel
theorem dX6_read_38 : decode cX6_read 38 = .ok (.bipush 48, 2) := by decide +kernel
theorem dX6_read_40 : decode cX6_read 40 = .ok (.isub, 1) := by decide +kernel
theorem dX6_read_41 : decode cX6_read 41 = .ok (.istore 8, 2) := by decide +kernel
theorem dX6_read_43 : decode cX6_read 43 = .ok (.iload 8, 2) := by decide +kernel
theorem dX6_read_45 : decode cX6_read 45 = .ok (.iconst 0, 1) := by decide +kernel
theorem dX6_read_46 : decode cX6_read 46 = .ok (.iconst 5, 1) := by decide +kernel
theorem dX6_read_47 : decode cX6_read 47 = .ok (.invokestatic 49, 3) := by decide +kernel
theorem dX6_read_50 : decode cX6_read 50 = .ok (.istore 9, 2) := by decide +kernel
theorem dX6_read_52 : decode cX6_read 52 = .ok (.iload 8, 2) := by decide +kernel
theorem dX6_read_54 : decode cX6_read 54 = .ok (.iconst 0, 1) := by decide +kernel
theorem dX6_read_55 : decode cX6_read 55 = .ok (.iconst 3, 1) := by decide +kernel
theorem dX6_read_56 : decode cX6_read 56 = .ok (.invokestatic 49, 3) := by decide +kernel
theorem dX6_read_59 : decode cX6_read 59 = .ok (.istore 10, 2) := by decide +kernel
theorem dX6_read_61 : decode cX6_read 61 = .ok (.iload 7, 2) := by decide +kernel
theorem dX6_read_63 : decode cX6_read 63 = .ok (.bipush 97, 2) := by decide +kernel
theorem dX6_read_65 : decode cX6_read 65 = .ok (.bipush 100, 2) := by decide +kernel
theorem dX6_read_67 : decode cX6_read 67 = .ok (.invokestatic 49, 3) := by decide +kernel
theorem dX6_read_70 : decode cX6_read 70 = .ok (.istore 11, 2) := by decide +kernel
theorem dX6_read_72 : decode cX6_read 72 = .ok (.bipush (-6), 2) := by decide +kernel
theorem dX6_read_74 : decode cX6_read 74 = .ok (.istore 12, 2) := by decide +kernel
theorem dX6_read_76 : decode cX6_read 76 = .ok (.iload_n 2, 1) := by decide +kernel
theorem dX6_read_77 : decode cX6_read 77 = .ok (.tableswitch 435 0 8 #[51, 115, 134, 172, 207, 227, 290, 314, 360], 51) := by decide +kernel
theorem dX6_read_128 : decode cX6_read 128 = .ok (.iload 7, 2) := by decide +kernel
theorem dX6_read_130 : decode cX6_read 130 = .ok (.bipush 64, 2) := by decide +kernel
theorem dX6_read_132 : decode cX6_read 132 = .ok (.if_icmp .ne 7, 3) := by decide +kernel
theorem dX6_read_135 : decode cX6_read 135 = .ok (.iconst 1, 1) := by decide +kernel
theorem dX6_read_136 : decode cX6_read 136 = .ok (.goto 26, 3) := by decide +kernel
theorem dX6_read_139 : decode cX6_read 139 = .ok (.iload 9, 2) := by decide +kernel
theorem dX6_read_141 : decode cX6_read 141 = .ok (.ifCond .eq 7, 3) := by decide +kernel
theorem dX6_read_144 : decode cX6_read 144 = .ok (.iconst 3, 1) := by decide +kernel
theorem dX6_read_145 : decode cX6_read 145 = .ok (.goto 17, 3) := by decide +kernel
theorem dX6_read_148 : decode cX6_read 148 = .ok (.iload 7, 2) := by decide +kernel
theorem dX6_read_150 : decode cX6_read 150 = .ok (.bipush 33, 2) := by decide +kernel
theorem dX6_read_152 : decode cX6_read 152 = .ok (.if_icmp .ne 8, 3) := by decide +kernel
theorem dX6_read_155 : decode cX6_read 155 = .ok (.bipush 8, 2) := by decide +kernel
theorem dX6_read_157 : decode cX6_read 157 = .ok (.goto 5, 3) := by decide +kernel
theorem dX6_read_160 : decode cX6_read 160 = .ok (.bipush (-6), 2) := by decide +kernel
theorem dX6_read_162 : decode cX6_read 162 = .ok (.istore 12, 2) := by decide +kernel
theorem dX6_read_164 : decode cX6_read 164 = .ok (.iload 8, 2) := by decide +kernel
theorem dX6_read_166 : decode cX6_read 166 = .ok (.istore_n 3, 1) := by decide +kernel
theorem dX6_read_167 : decode cX6_read 167 = .ok (.iconst 0, 1) := by decide +kernel
theorem dX6_read_168 : decode cX6_read 168 = .ok (.istore 5, 2) := by decide +kernel
theorem dX6_read_170 : decode cX6_read 170 = .ok (.iload 7, 2) := by decide +kernel
theorem dX6_read_172 : decode cX6_read 172 = .ok (.bipush 33, 2) := by decide +kernel
theorem dX6_read_174 : decode cX6_read 174 = .ok (.if_icmp .ne 353, 3) := by decide +kernel
theorem dX6_read_177 : decode cX6_read 177 = .ok (.iload_n 1, 1) := by decide +kernel
theorem dX6_read_178 : decode cX6_read 178 = .ok (.ifCond .eq 349, 3) := by decide +kernel
theorem dX6_read_181 : decode cX6_read 181 = .ok (.aload_n 0, 1) := by decide +kernel
theorem dX6_read_182 : decode cX6_read 182 = .ok (.getfield 7, 3) := by decide +kernel
theorem dX6_read_185 : decode cX6_read 185 = .ok (.bipush 58, 2) := by decide +kernel
theorem dX6_read_187 : decode cX6_read 187 = .ok (.iconst 0, 1) := by decide +kernel
theorem dX6_read_188 : decode cX6_read 188 = .ok (.iastore, 1) := by decide +kernel
theorem dX6_read_189 : decode cX6_read 189 = .ok (.goto 338, 3) := by decide +kernel
theorem dX6_read_192 : decode cX6_read 192 = .ok (.iload 9, 2) := by decide +kernel
theorem dX6_read_194 : decode cX6_read 194 = .ok (.ifCond .eq 7, 3) := by decide +kernel
theorem dX6_read_197 : decode cX6_read 197 = .ok (.iconst 2, 1) := by decide +kernel
theorem dX6_read_198 : decode cX6_read 198 = .ok (.goto 5, 3) := by decide +kernel
theorem dX6_read_201 : decode cX6_read 201 = .ok (.bipush (-6), 2) := by decide +kernel
theorem dX6_read_203 : decode cX6_read 203 = .ok (.istore 12, 2) := by decide +kernel
theorem dX6_read_205 : decode cX6_read 205 = .ok (.iload 8, 2) := by decide +kernel
theorem dX6_read_207 : decode cX6_read 207 = .ok (.istore_n 3, 1) := by decide +kernel
theorem dX6_read_208 : decode cX6_read 208 = .ok (.goto 319, 3) := by decide +kernel
theorem dX6_read_211 : decode cX6_read 211 = .ok (.iload 10, 2) := by decide +kernel
theorem dX6_read_213 : decode cX6_read 213 = .ok (.ifCond .eq 8, 3) := by decide +kernel
theorem dX6_read_216 : decode cX6_read 216 = .ok (.bipush 9, 2) := by decide +kernel
theorem dX6_read_218 : decode cX6_read 218 = .ok (.goto 5, 3) := by decide +kernel
theorem dX6_read_221 : decode cX6_read 221 = .ok (.bipush (-6), 2) := by decide +kernel
theorem dX6_read_223 : decode cX6_read 223 = .ok (.istore 12, 2) := by decide +kernel
theorem dX6_read_225 : decode cX6_read 225 = .ok (.aload_n 0, 1) := by decide +kernel
theorem dX6_read_226 : decode cX6_read 226 = .ok (.iload_n 1, 1) := by decide +kernel
theorem dX6_read_227 : decode cX6_read 227 = .ok (.ifCond .eq 12, 3) := by decide +kernel
theorem dX6_read_230 : decode cX6_read 230 = .ok (.iload 10, 2) := by decide +kernel
theorem dX6_read_232 : decode cX6_read 232 = .ok (.ifCond .eq 7, 3) := by decide +kernel
theorem dX6_read_235 : decode cX6_read 235 = .ok (.iconst 1, 1) := by decide +kernel
theorem dX6_read_236 : decode cX6_read 236 = .ok (.goto 4, 3) := by decide +kernel
theorem dX6_read_239 : decode cX6_read 239 = .ok (.iconst 0, 1) := by decide +kernel
theorem dX6_read_240 : decode cX6_read 240 = .ok (.iload_n 3, 1) := by decide +kernel
theorem dX6_read_241 : decode cX6_read 241 = .ok (.iload 8, 2) := by decide +kernel
theorem dX6_read_243 : decode cX6_read 243 = .ok (.invokevirtual 166, 3) := by decide +kernel
theorem dX6_read_246 : decode cX6_read 246 = .ok (.goto 281, 3) := by decide +kernel
theorem dX6_read_249 : decode cX6_read 249 = .ok (.iload 7, 2) := by decide +kernel
theorem dX6_read_251 : decode cX6_read 251 = .ok (.bipush 62, 2) := by decide +kernel
theorem dX6_read_253 : decode cX6_read 253 = .ok (.if_icmp .ne 7, 3) := by decide +kernel
theorem dX6_read_256 : decode cX6_read 256 = .ok (.iconst 4, 1) := by decide +kernel
theorem dX6_read_257 : decode cX6_read 257 = .ok (.goto 22, 3) := by decide +kernel
theorem dX6_read_260 : decode cX6_read 260 = .ok (.iload 7, 2) := by decide +kernel
theorem dX6_read_262 : decode cX6_read 262 = .ok (.bipush 61, 2) := by decide +kernel
theorem dX6_read_264 : decode cX6_read 264 = .ok (.if_icmp .ne 13, 3) := by decide +kernel
theorem dX6_read_267 : decode cX6_read 267 = .ok (.iload_n 3, 1) := by decide +kernel
theorem dX6_read_268 : decode cX6_read 268 = .ok (.iconst 4, 1) := by decide +kernel
theorem dX6_read_269 : decode cX6_read 269 = .ok (.if_icmp .ge 8, 3) := by decide +kernel
theorem dX6_read_272 : decode cX6_read 272 = .ok (.bipush 6, 2) := by decide +kernel
theorem dX6_read_274 : decode cX6_read 274 = .ok (.goto 5, 3) := by decide +kernel
theorem dX6_read_277 : decode cX6_read 277 = .ok (.bipush (-6), 2) := by decide +kernel
theorem dX6_read_279 : decode cX6_read 279 = .ok (.istore 12, 2) := by decide +kernel
theorem dX6_read_281 : decode cX6_read 281 = .ok (.goto 246, 3) := by decide +kernel
theorem dX6_read_284 : decode cX6_read 284 = .ok (.iload 9, 2) := by decide +kernel
theorem dX6_read_286 : decode cX6_read 286 = .ok (.ifCond .eq 7, 3) := by decide +kernel
theorem dX6_read_289 : decode cX6_read 289 = .ok (.iconst 5, 1) := by decide +kernel
theorem dX6_read_290 : decode cX6_read 290 = .ok (.goto 5, 3) := by decide +kernel
theorem dX6_read_293 : decode cX6_read 293 = .ok (.bipush (-6), 2) := by decide +kernel
theorem dX6_read_295 : decode cX6_read 295 = .ok (.istore 12, 2) := by decide +kernel
theorem dX6_read_297 : decode cX6_read 297 = .ok (.iload 8, 2) := by decide +kernel
theorem dX6_read_299 : decode cX6_read 299 = .ok (.istore 4, 2) := by decide +kernel
theorem dX6_read_301 : decode cX6_read 301 = .ok (.goto 226, 3) := by decide +kernel
theorem dX6_read_304 : decode cX6_read 304 = .ok (.iload 10, 2) := by decide +kernel
theorem dX6_read_306 : decode cX6_read 306 = .ok (.ifCond .eq 22, 3) := by decide +kernel
theorem dX6_read_309 : decode cX6_read 309 = .ok (.iload 8, 2) := by decide +kernel
theorem dX6_read_311 : decode cX6_read 311 = .ok (.ifCond .eq 12, 3) := by decide +kernel
theorem dX6_read_314 : decode cX6_read 314 = .ok (.iload_n 3, 1) := by decide +kernel
theorem dX6_read_315 : decode cX6_read 315 = .ok (.iload 4, 2) := by decide +kernel
theorem dX6_read_317 : decode cX6_read 317 = .ok (.invokestatic 57, 3) := by decide +kernel
theorem dX6_read_320 : decode cX6_read 320 = .ok (.ifCond .ne 8, 3) := by decide +kernel
theorem dX6_read_323 : decode cX6_read 323 = .ok (.bipush 9, 2) := by decide +kernel
theorem dX6_read_325 : decode cX6_read 325 = .ok (.goto 5, 3) := by decide +kernel
theorem dX6_read_328 : decode cX6_read 328 = .ok (.bipush (-6), 2) := by decide +kernel
theorem dX6_read_330 : decode cX6_read 330 = .ok (.istore 12, 2) := by decide +kernel
theorem dX6_read_332 : decode cX6_read 332 = .ok (.aload_n 0, 1) := by decide +kernel
theorem dX6_read_333 : decode cX6_read 333 = .ok (.iload_n 1, 1) := by decide +kernel
theorem dX6_read_334 : decode cX6_read 334 = .ok (.ifCond .eq 14, 3) := by decide +kernel
theorem dX6_read_337 : decode cX6_read 337 = .ok (.iload 12, 2) := by decide +kernel
theorem dX6_read_339 : decode cX6_read 339 = .ok (.bipush 9, 2) := by decide +kernel
theorem dX6_read_341 : decode cX6_read 341 = .ok (.if_icmp .ne 7, 3) := by decide +kernel
theorem dX6_read_344 : decode cX6_read 344 = .ok (.iconst 1, 1) := by decide +kernel
theorem dX6_read_345 : decode cX6_read 345 = .ok (.goto 4, 3) := by decide +kernel
theorem dX6_read_348 : decode cX6_read 348 = .ok (.iconst 0, 1) := by decide +kernel
theorem dX6_read_349 : decode cX6_read 349 = .ok (.bipush 6, 2) := by decide +kernel
theorem dX6_read_351 : decode cX6_read 351 = .ok (.bipush 6, 2) := by decide +kernel
theorem dX6_read_353 : decode cX6_read 353 = .ok (.iload_n 3, 1) := by decide +kernel
theorem dX6_read_354 : decode cX6_read 354 = .ok (.imul, 1) := by decide +kernel
theorem dX6_read_355 : decode cX6_read 355 = .ok (.iadd, 1) := by decide +kernel
theorem dX6_read_356 : decode cX6_read 356 = .ok (.iload 4, 2) := by decide +kernel
theorem dX6_read_358 : decode cX6_read 358 = .ok (.iadd, 1) := by decide +kernel
theorem dX6_read_359 : decode cX6_read 359 = .ok (.iload 8, 2) := by decide +kernel
theorem dX6_read_361 : decode cX6_read 361 = .ok (.invokevirtual 166, 3) := by decide +kernel
theorem dX6_read_364 : decode cX6_read 364 = .ok (.goto 163, 3) := by decide +kernel
theorem dX6_read_367 : decode cX6_read 367 = .ok (.iload 11, 2) := by decide +kernel
theorem dX6_read_369 : decode cX6_read 369 = .ok (.ifCond .eq 8, 3) := by decide +kernel
theorem dX6_read_372 : decode cX6_read 372 = .ok (.bipush 7, 2) := by decide +kernel
theorem dX6_read_374 : decode cX6_read 374 = .ok (.goto 5, 3) := by decide +kernel
theorem dX6_read_377 : decode cX6_read 377 = .ok (.bipush (-6), 2) := by decide +kernel
theorem dX6_read_379 : decode cX6_read 379 = .ok (.istore 12, 2) := by decide +kernel
theorem dX6_read_381 : decode cX6_read 381 = .ok (.iload 7, 2) := by decide +kernel
theorem dX6_read_383 : decode cX6_read 383 = .ok (.bipush 97, 2) := by decide +kernel
theorem dX6_read_385 : decode cX6_read 385 = .ok (.isub, 1) := by decide +kernel
theorem dX6_read_386 : decode cX6_read 386 = .ok (.istore 4, 2) := by decide +kernel
theorem dX6_read_388 : decode cX6_read 388 = .ok (.goto 139, 3) := by decide +kernel
theorem dX6_read_391 : decode cX6_read 391 = .ok (.iload 10, 2) := by decide +kernel
theorem dX6_read_393 : decode cX6_read 393 = .ok (.ifCond .eq 8, 3) := by decide +kernel
theorem dX6_read_396 : decode cX6_read 396 = .ok (.bipush 9, 2) := by decide +kernel
theorem dX6_read_398 : decode cX6_read 398 = .ok (.goto 5, 3) := by decide +kernel
theorem dX6_read_401 : decode cX6_read 401 = .ok (.bipush (-6), 2) := by decide +kernel
theorem dX6_read_403 : decode cX6_read 403 = .ok (.istore 12, 2) := by decide +kernel
theorem dX6_read_405 : decode cX6_read 405 = .ok (.aload_n 0, 1) := by decide +kernel
theorem dX6_read_406 : decode cX6_read 406 = .ok (.iload_n 1, 1) := by decide +kernel
theorem dX6_read_407 : decode cX6_read 407 = .ok (.ifCond .eq 12, 3) := by decide +kernel
theorem dX6_read_410 : decode cX6_read 410 = .ok (.iload 10, 2) := by decide +kernel
theorem dX6_read_412 : decode cX6_read 412 = .ok (.ifCond .eq 7, 3) := by decide +kernel
theorem dX6_read_415 : decode cX6_read 415 = .ok (.iconst 1, 1) := by decide +kernel
theorem dX6_read_416 : decode cX6_read 416 = .ok (.goto 4, 3) := by decide +kernel
theorem dX6_read_419 : decode cX6_read 419 = .ok (.iconst 0, 1) := by decide +kernel
theorem dX6_read_420 : decode cX6_read 420 = .ok (.bipush 42, 2) := by decide +kernel
theorem dX6_read_422 : decode cX6_read 422 = .ok (.iconst 4, 1) := by decide +kernel
theorem dX6_read_423 : decode cX6_read 423 = .ok (.iload_n 3, 1) := by decide +kernel
theorem dX6_read_424 : decode cX6_read 424 = .ok (.imul, 1) := by decide +kernel
theorem dX6_read_425 : decode cX6_read 425 = .ok (.iadd, 1) := by decide +kernel
theorem dX6_read_426 : decode cX6_read 426 = .ok (.iload 4, 2) := by decide +kernel
theorem dX6_read_428 : decode cX6_read 428 = .ok (.iadd, 1) := by decide +kernel
theorem dX6_read_429 : decode cX6_read 429 = .ok (.iload 8, 2) := by decide +kernel
theorem dX6_read_431 : decode cX6_read 431 = .ok (.invokevirtual 166, 3) := by decide +kernel
theorem dX6_read_434 : decode cX6_read 434 = .ok (.goto 93, 3) := by decide +kernel
theorem dX6_read_437 : decode cX6_read 437 = .ok (.iload 11, 2) := by decide +kernel
theorem dX6_read_439 : decode cX6_read 439 = .ok (.ifCond .eq 15, 3) := by decide +kernel
theorem dX6_read_442 : decode cX6_read 442 = .ok (.iload 5, 2) := by decide +kernel
theorem dX6_read_444 : decode cX6_read 444 = .ok (.bipush 6, 2) := by decide +kernel
theorem dX6_read_446 : decode cX6_read 446 = .ok (.if_icmp .ge 8, 3) := by decide +kernel
theorem dX6_read_449 : decode cX6_read 449 = .ok (.bipush 8, 2) := by decide +kernel
theorem dX6_read_451 : decode cX6_read 451 = .ok (.goto 16, 3) := by decide +kernel
theorem dX6_read_454 : decode cX6_read 454 = .ok (.iload 7, 2) := by decide +kernel
theorem dX6_read_456 : decode cX6_read 456 = .ok (.bipush 59, 2) := by decide +kernel
theorem dX6_read_458 : decode cX6_read 458 = .ok (.if_icmp .ne 7, 3) := by decide +kernel
theorem dX6_read_461 : decode cX6_read 461 = .ok (.iconst 0, 1) := by decide +kernel
theorem dX6_read_462 : decode cX6_read 462 = .ok (.goto 5, 3) := by decide +kernel
theorem dX6_read_465 : decode cX6_read 465 = .ok (.bipush (-6), 2) := by decide +kernel
theorem dX6_read_467 : decode cX6_read 467 = .ok (.istore 12, 2) := by decide +kernel
theorem dX6_read_469 : decode cX6_read 469 = .ok (.iload 12, 2) := by decide +kernel
theorem dX6_read_471 : decode cX6_read 471 = .ok (.bipush 8, 2) := by decide +kernel
theorem dX6_read_473 : decode cX6_read 473 = .ok (.if_icmp .ne 33, 3) := by decide +kernel
theorem dX6_read_476 : decode cX6_read 476 = .ok (.iload_n 1, 1) := by decide +kernel
theorem dX6_read_477 : decode cX6_read 477 = .ok (.ifCond .eq 29, 3) := by decide +kernel
theorem dX6_read_480 : decode cX6_read 480 = .ok (.aload_n 0, 1) := by decide +kernel
theorem dX6_read_481 : decode cX6_read 481 = .ok (.getfield 7, 3) := by decide +kernel
theorem dX6_read_484 : decode cX6_read 484 = .ok (.bipush 60, 2) := by decide +kernel
theorem dX6_read_486 : decode cX6_read 486 = .ok (.iload 5, 2) := by decide +kernel
theorem dX6_read_488 : decode cX6_read 488 = .ok (.iadd, 1) := by decide +kernel
theorem dX6_read_489 : decode cX6_read 489 = .ok (.iload 7, 2) := by decide +kernel
theorem dX6_read_491 : decode cX6_read 491 = .ok (.bipush 97, 2) := by decide +kernel
theorem dX6_read_493 : decode cX6_read 493 = .ok (.isub, 1) := by decide +kernel
theorem dX6_read_494 : decode cX6_read 494 = .ok (.iastore, 1) := by decide +kernel
theorem dX6_read_495 : decode cX6_read 495 = .ok (.aload_n 0, 1) := by decide +kernel
theorem dX6_read_496 : decode cX6_read 496 = .ok (.getfield 7, 3) := by decide +kernel
theorem dX6_read_499 : decode cX6_read 499 = .ok (.bipush 58, 2) := by decide +kernel
theorem dX6_read_501 : decode cX6_read 501 = .ok (.iload 5, 2) := by decide +kernel
theorem dX6_read_503 : decode cX6_read 503 = .ok (.iconst 1, 1) := by decide +kernel
theorem dX6_read_504 : decode cX6_read 504 = .ok (.iadd, 1) := by decide +kernel
theorem dX6_read_505 : decode cX6_read 505 = .ok (.iastore, 1) := by decide +kernel
theorem dX6_read_506 : decode cX6_read 506 = .ok (.iinc 5 1, 3) := by decide +kernel
theorem dX6_read_509 : decode cX6_read 509 = .ok (.goto 18, 3) := by decide +kernel
theorem dX6_read_512 : decode cX6_read 512 = .ok (.iload 7, 2) := by decide +kernel
theorem dX6_read_514 : decode cX6_read 514 = .ok (.bipush 59, 2) := by decide +kernel
theorem dX6_read_516 : decode cX6_read 516 = .ok (.if_icmp .ne 7, 3) := by decide +kernel
theorem dX6_read_519 : decode cX6_read 519 = .ok (.iconst 0, 1) := by decide +kernel
theorem dX6_read_520 : decode cX6_read 520 = .ok (.goto 5, 3) := by decide +kernel
theorem dX6_read_523 : decode cX6_read 523 = .ok (.bipush (-6), 2) := by decide +kernel
theorem dX6_read_525 : decode cX6_read 525 = .ok (.istore 12, 2) := by decide +kernel
theorem dX6_read_527 : decode cX6_read 527 = .ok (.iload 12, 2) := by decide +kernel
theorem dX6_read_529 : decode cX6_read 529 = .ok (.ifCond .ge 6, 3) := by decide +kernel
theorem dX6_read_532 : decode cX6_read 532 = .ok (.iload 6, 2) := by decide +kernel
theorem dX6_read_534 : decode cX6_read 534 = .ok (.ireturn, 1) := by decide +kernel
theorem dX6_read_535 : decode cX6_read 535 = .ok (.aload_n 0, 1) := by decide +kernel
theorem dX6_read_536 : decode cX6_read 536 = .ok (.dup, 1) := by decide +kernel
theorem dX6_read_537 : decode cX6_read 537 = .ok (.getfield 163, 3) := by decide +kernel
theorem dX6_read_540 : decode cX6_read 540 = .ok (.iload 12, 2) := by decide +kernel
theorem dX6_read_542 : decode cX6_read 542 = .ok (.ifCond .ne 7, 3) := by decide +kernel
theorem dX6_read_545 : decode cX6_read 545 = .ok (.iconst 1, 1) := by decide +kernel
theorem dX6_read_546 : decode cX6_read 546 = .ok (.goto 4, 3) := by decide +kernel
theorem dX6_read_549 : decode cX6_read 549 = .ok (.iconst 0, 1) := by decide +kernel
theorem dX6_read_550 : decode cX6_read 550 = .ok (.iadd, 1) := by decide +kernel
theorem dX6_read_551 : decode cX6_read 551 = .ok (.putfield 163, 3) := by decide +kernel
theorem dX6_read_554 : decode cX6_read 554 = .ok (.iload 12, 2) := by decide +kernel
theorem dX6_read_556 : decode cX6_read 556 = .ok (.istore_n 2, 1) := by decide +kernel
theorem dX6_read_557 : decode cX6_read 557 = .ok (.iinc 6 1, 3) := by decide +kernel
theorem dX6_read_560 : decode cX6_read 560 = .ok (.goto (-542), 3) := by decide +kernel
theorem dX6_read_563 : decode cX6_read 563 = .ok (.aload_n 0, 1) := by decide +kernel
theorem dX6_read_564 : decode cX6_read 564 = .ok (.dup, 1) := by decide +kernel
theorem dX6_read_565 : decode cX6_read 565 = .ok (.getfield 163, 3) := by decide +kernel
theorem dX6_read_568 : decode cX6_read 568 = .ok (.iconst 1, 1) := by decide +kernel
theorem dX6_read_569 : decode cX6_read 569 = .ok (.iadd, 1) := by decide +kernel
theorem dX6_read_570 : decode cX6_read 570 = .ok (.putfield 163, 3) := by decide +kernel
theorem dX6_read_573 : decode cX6_read 573 = .ok (.iload_n 2, 1) := by decide +kernel
theorem dX6_read_574 : decode cX6_read 574 = .ok (.bipush 7, 2) := by decide +kernel
theorem dX6_read_576 : decode cX6_read 576 = .ok (.if_icmp .le 8, 3) := by decide +kernel
theorem dX6_read_579 : decode cX6_read 579 = .ok (.bipush (-6), 2) := by decide +kernel
theorem dX6_read_581 : decode cX6_read 581 = .ok (.goto 7, 3) := by decide +kernel
theorem dX6_read_584 : decode cX6_read 584 = .ok (.aload_n 0, 1) := by decide +kernel
theorem dX6_read_585 : decode cX6_read 585 = .ok (.getfield 160, 3) := by decide +kernel
theorem dX6_read_588 : decode cX6_read 588 = .ok (.ireturn, 1) := by decide +kernel
theorem dX6_lay_0 : decode cX6_lay 0 = .ok (.iload_n 1, 1) := by decide +kernel
theorem dX6_lay_1 : decode cX6_lay 1 = .ok (.ifCond .eq 10, 3) := by decide +kernel
theorem dX6_lay_4 : decode cX6_lay 4 = .ok (.aload_n 0, 1) := by decide +kernel
theorem dX6_lay_5 : decode cX6_lay 5 = .ok (.getfield 7, 3) := by decide +kernel
theorem dX6_lay_8 : decode cX6_lay 8 = .ok (.iload_n 2, 1) := by decide +kernel
theorem dX6_lay_9 : decode cX6_lay 9 = .ok (.iload_n 3, 1) := by decide +kernel
theorem dX6_lay_10 : decode cX6_lay 10 = .ok (.iastore, 1) := by decide +kernel
theorem dX6_lay_11 : decode cX6_lay 11 = .ok (.return_, 1) := by decide +kernel
theorem dX6_put_0 : decode cX6_put 0 = .ok (.iconst 0, 1) := by decide +kernel
theorem dX6_put_1 : decode cX6_put 1 = .ok (.istore_n 3, 1) := by decide +kernel
theorem dX6_put_2 : decode cX6_put 2 = .ok (.lload_n 1, 1) := by decide +kernel
theorem dX6_put_3 : decode cX6_put 3 = .ok (.lstore 4, 2) := by decide +kernel
theorem dX6_put_5 : decode cX6_put 5 = .ok (.lload 4, 2) := by decide +kernel
theorem dX6_put_7 : decode cX6_put 7 = .ok (.ldc2_w 170, 3) := by decide +kernel
theorem dX6_put_10 : decode cX6_put 10 = .ok (.land, 1) := by decide +kernel
theorem dX6_put_11 : decode cX6_put 11 = .ok (.lconst 0, 1) := by decide +kernel
theorem dX6_put_12 : decode cX6_put 12 = .ok (.lcmp, 1) := by decide +kernel
theorem dX6_put_13 : decode cX6_put 13 = .ok (.ifCond .eq 36, 3) := by decide +kernel
theorem dX6_put_16 : decode cX6_put 16 = .ok (.lload 4, 2) := by decide +kernel
theorem dX6_put_18 : decode cX6_put 18 = .ok (.ldc2_w 170, 3) := by decide +kernel
theorem dX6_put_21 : decode cX6_put 21 = .ok (.land, 1) := by decide +kernel
theorem dX6_put_22 : decode cX6_put 22 = .ok (.l2i, 1) := by decide +kernel
theorem dX6_put_23 : decode cX6_put 23 = .ok (.bipush 33, 2) := by decide +kernel
theorem dX6_put_25 : decode cX6_put 25 = .ok (.bipush 126, 2) := by decide +kernel
theorem dX6_put_27 : decode cX6_put 27 = .ok (.invokestatic 49, 3) := by decide +kernel
theorem dX6_put_30 : decode cX6_put 30 = .ok (.ifCond .ne 6, 3) := by decide +kernel
theorem dX6_put_33 : decode cX6_put 33 = .ok (.bipush (-2), 2) := by decide +kernel
theorem dX6_put_35 : decode cX6_put 35 = .ok (.ireturn, 1) := by decide +kernel
theorem dX6_put_36 : decode cX6_put 36 = .ok (.iinc 3 1, 3) := by decide +kernel
theorem dX6_put_39 : decode cX6_put 39 = .ok (.lload 4, 2) := by decide +kernel
theorem dX6_put_41 : decode cX6_put 41 = .ok (.bipush 8, 2) := by decide +kernel
theorem dX6_put_43 : decode cX6_put 43 = .ok (.lushr, 1) := by decide +kernel
theorem dX6_put_44 : decode cX6_put 44 = .ok (.lstore 4, 2) := by decide +kernel
theorem dX6_put_46 : decode cX6_put 46 = .ok (.goto (-41), 3) := by decide +kernel
theorem dX6_put_49 : decode cX6_put 49 = .ok (.lload 4, 2) := by decide +kernel
theorem dX6_put_51 : decode cX6_put 51 = .ok (.lconst 0, 1) := by decide +kernel
theorem dX6_put_52 : decode cX6_put 52 = .ok (.lcmp, 1) := by decide +kernel
theorem dX6_put_53 : decode cX6_put 53 = .ok (.ifCond .ne 7, 3) := by decide +kernel
theorem dX6_put_56 : decode cX6_put 56 = .ok (.iload_n 3, 1) := by decide +kernel
theorem dX6_put_57 : decode cX6_put 57 = .ok (.ifCond .ne 6, 3) := by decide +kernel
theorem dX6_put_60 : decode cX6_put 60 = .ok (.bipush (-2), 2) := by decide +kernel
theorem dX6_put_62 : decode cX6_put 62 = .ok (.ireturn, 1) := by decide +kernel
theorem dX6_put_63 : decode cX6_put 63 = .ok (.aload_n 0, 1) := by decide +kernel
theorem dX6_put_64 : decode cX6_put 64 = .ok (.getfield 160, 3) := by decide +kernel
theorem dX6_put_67 : decode cX6_put 67 = .ok (.iload_n 3, 1) := by decide +kernel
theorem dX6_put_68 : decode cX6_put 68 = .ok (.iadd, 1) := by decide +kernel
theorem dX6_put_69 : decode cX6_put 69 = .ok (.bipush 80, 2) := by decide +kernel
theorem dX6_put_71 : decode cX6_put 71 = .ok (.if_icmp .le 6, 3) := by decide +kernel
theorem dX6_put_74 : decode cX6_put 74 = .ok (.bipush (-4), 2) := by decide +kernel
theorem dX6_put_76 : decode cX6_put 76 = .ok (.ireturn, 1) := by decide +kernel
theorem dX6_put_77 : decode cX6_put 77 = .ok (.lload_n 1, 1) := by decide +kernel
theorem dX6_put_78 : decode cX6_put 78 = .ok (.lstore 4, 2) := by decide +kernel
theorem dX6_put_80 : decode cX6_put 80 = .ok (.iload_n 3, 1) := by decide +kernel
theorem dX6_put_81 : decode cX6_put 81 = .ok (.iconst 1, 1) := by decide +kernel
theorem dX6_put_82 : decode cX6_put 82 = .ok (.isub, 1) := by decide +kernel
theorem dX6_put_83 : decode cX6_put 83 = .ok (.istore 6, 2) := by decide +kernel
theorem dX6_put_85 : decode cX6_put 85 = .ok (.iload 6, 2) := by decide +kernel
theorem dX6_put_87 : decode cX6_put 87 = .ok (.ifCond .lt 35, 3) := by decide +kernel
theorem dX6_put_90 : decode cX6_put 90 = .ok (.aload_n 0, 1) := by decide +kernel
theorem dX6_put_91 : decode cX6_put 91 = .ok (.getfield 23, 3) := by decide +kernel
theorem dX6_put_94 : decode cX6_put 94 = .ok (.aload_n 0, 1) := by decide +kernel
theorem dX6_put_95 : decode cX6_put 95 = .ok (.getfield 160, 3) := by decide +kernel
theorem dX6_put_98 : decode cX6_put 98 = .ok (.iload 6, 2) := by decide +kernel
theorem dX6_put_100 : decode cX6_put 100 = .ok (.iadd, 1) := by decide +kernel
theorem dX6_put_101 : decode cX6_put 101 = .ok (.lload 4, 2) := by decide +kernel
theorem dX6_put_103 : decode cX6_put 103 = .ok (.ldc2_w 170, 3) := by decide +kernel
theorem dX6_put_106 : decode cX6_put 106 = .ok (.land, 1) := by decide +kernel
theorem dX6_put_107 : decode cX6_put 107 = .ok (.l2i, 1) := by decide +kernel
theorem dX6_put_108 : decode cX6_put 108 = .ok (.iastore, 1) := by decide +kernel
theorem dX6_put_109 : decode cX6_put 109 = .ok (.lload 4, 2) := by decide +kernel
theorem dX6_put_111 : decode cX6_put 111 = .ok (.bipush 8, 2) := by decide +kernel
theorem dX6_put_113 : decode cX6_put 113 = .ok (.lushr, 1) := by decide +kernel
theorem dX6_put_114 : decode cX6_put 114 = .ok (.lstore 4, 2) := by decide +kernel
theorem dX6_put_116 : decode cX6_put 116 = .ok (.iinc 6 (-1), 3) := by decide +kernel
theorem dX6_put_119 : decode cX6_put 119 = .ok (.goto (-34), 3) := by decide +kernel
theorem dX6_put_122 : decode cX6_put 122 = .ok (.aload_n 0, 1) := by decide +kernel
theorem dX6_put_123 : decode cX6_put 123 = .ok (.dup, 1) := by decide +kernel
theorem dX6_put_124 : decode cX6_put 124 = .ok (.getfield 160, 3) := by decide +kernel
theorem dX6_put_127 : decode cX6_put 127 = .ok (.iload_n 3, 1) := by decide +kernel
theorem dX6_put_128 : decode cX6_put 128 = .ok (.iadd, 1) := by decide +kernel
theorem dX6_put_129 : decode cX6_put 129 = .ok (.putfield 160, 3) := by decide +kernel
theorem dX6_put_132 : decode cX6_put 132 = .ok (.aload_n 0, 1) := by decide +kernel
theorem dX6_put_133 : decode cX6_put 133 = .ok (.getfield 160, 3) := by decide +kernel
theorem dX6_put_136 : decode cX6_put 136 = .ok (.ireturn, 1) := by decide +kernel
theorem dX6_wipe_0 : decode cX6_wipe 0 = .ok (.aload_n 0, 1) := by decide +kernel
theorem dX6_wipe_1 : decode cX6_wipe 1 = .ok (.getfield 160, 3) := by decide +kernel
theorem dX6_wipe_4 : decode cX6_wipe 4 = .ok (.istore_n 1, 1) := by decide +kernel
theorem dX6_wipe_5 : decode cX6_wipe 5 = .ok (.aload_n 0, 1) := by decide +kernel
theorem dX6_wipe_6 : decode cX6_wipe 6 = .ok (.iconst 0, 1) := by decide +kernel
theorem dX6_wipe_7 : decode cX6_wipe 7 = .ok (.putfield 160, 3) := by decide +kernel
theorem dX6_wipe_10 : decode cX6_wipe 10 = .ok (.iload_n 1, 1) := by decide +kernel
theorem dX6_wipe_11 : decode cX6_wipe 11 = .ok (.ireturn, 1) := by decide +kernel
theorem dX6_fault_0 : decode cX6_fault 0 = .ok (.aload_n 0, 1) := by decide +kernel
theorem dX6_fault_1 : decode cX6_fault 1 = .ok (.iconst 0, 1) := by decide +kernel
theorem dX6_fault_2 : decode cX6_fault 2 = .ok (.invokevirtual 172, 3) := by decide +kernel
theorem dX6_fault_5 : decode cX6_fault 5 = .ok (.ireturn, 1) := by decide +kernel
theorem dX6_load_0 : decode cX6_load 0 = .ok (.aload_n 0, 1) := by decide +kernel
theorem dX6_load_1 : decode cX6_load 1 = .ok (.iconst 0, 1) := by decide +kernel
theorem dX6_load_2 : decode cX6_load 2 = .ok (.invokevirtual 172, 3) := by decide +kernel
theorem dX6_load_5 : decode cX6_load 5 = .ok (.bipush (-6), 2) := by decide +kernel
theorem dX6_load_7 : decode cX6_load 7 = .ok (.if_icmp .eq 6, 3) := by decide +kernel
theorem dX6_load_10 : decode cX6_load 10 = .ok (.bipush (-3), 2) := by decide +kernel
theorem dX6_load_12 : decode cX6_load 12 = .ok (.ireturn, 1) := by decide +kernel
theorem dX6_load_13 : decode cX6_load 13 = .ok (.aload_n 0, 1) := by decide +kernel
theorem dX6_load_14 : decode cX6_load 14 = .ok (.invokevirtual 61, 3) := by decide +kernel
theorem dX6_load_17 : decode cX6_load 17 = .ok (.aload_n 0, 1) := by decide +kernel
theorem dX6_load_18 : decode cX6_load 18 = .ok (.iconst 1, 1) := by decide +kernel
theorem dX6_load_19 : decode cX6_load 19 = .ok (.invokevirtual 172, 3) := by decide +kernel
theorem dX6_load_22 : decode cX6_load 22 = .ok (.pop, 1) := by decide +kernel
theorem dX6_load_23 : decode cX6_load 23 = .ok (.aload_n 0, 1) := by decide +kernel
theorem dX6_load_24 : decode cX6_load 24 = .ok (.iconst 0, 1) := by decide +kernel
theorem dX6_load_25 : decode cX6_load 25 = .ok (.putfield 160, 3) := by decide +kernel
theorem dX6_load_28 : decode cX6_load 28 = .ok (.aload_n 0, 1) := by decide +kernel
theorem dX6_load_29 : decode cX6_load 29 = .ok (.getfield 163, 3) := by decide +kernel
theorem dX6_load_32 : decode cX6_load 32 = .ok (.ireturn, 1) := by decide +kernel
theorem dX6_undo_0 : decode cX6_undo 0 = .ok (.aload_n 0, 1) := by decide +kernel
theorem dX6_undo_1 : decode cX6_undo 1 = .ok (.getfield 45, 3) := by decide +kernel
theorem dX6_undo_4 : decode cX6_undo 4 = .ok (.ifCond .ne 6, 3) := by decide +kernel
theorem dX6_undo_7 : decode cX6_undo 7 = .ok (.bipush (-5), 2) := by decide +kernel
theorem dX6_undo_9 : decode cX6_undo 9 = .ok (.ireturn, 1) := by decide +kernel
theorem dX6_undo_10 : decode cX6_undo 10 = .ok (.aload_n 0, 1) := by decide +kernel
theorem dX6_undo_11 : decode cX6_undo 11 = .ok (.dup, 1) := by decide +kernel
theorem dX6_undo_12 : decode cX6_undo 12 = .ok (.getfield 45, 3) := by decide +kernel
theorem dX6_undo_15 : decode cX6_undo 15 = .ok (.iconst 1, 1) := by decide +kernel
theorem dX6_undo_16 : decode cX6_undo 16 = .ok (.isub, 1) := by decide +kernel
theorem dX6_undo_17 : decode cX6_undo 17 = .ok (.putfield 45, 3) := by decide +kernel
theorem dX6_undo_20 : decode cX6_undo 20 = .ok (.iconst 0, 1) := by decide +kernel
theorem dX6_undo_21 : decode cX6_undo 21 = .ok (.istore_n 1, 1) := by decide +kernel
theorem dX6_undo_22 : decode cX6_undo 22 = .ok (.iload_n 1, 1) := by decide +kernel
theorem dX6_undo_23 : decode cX6_undo 23 = .ok (.bipush 70, 2) := by decide +kernel
theorem dX6_undo_25 : decode cX6_undo 25 = .ok (.if_icmp .ge 29, 3) := by decide +kernel
theorem dX6_undo_28 : decode cX6_undo 28 = .ok (.aload_n 0, 1) := by decide +kernel
theorem dX6_undo_29 : decode cX6_undo 29 = .ok (.getfield 7, 3) := by decide +kernel
theorem dX6_undo_32 : decode cX6_undo 32 = .ok (.iload_n 1, 1) := by decide +kernel
theorem dX6_undo_33 : decode cX6_undo 33 = .ok (.aload_n 0, 1) := by decide +kernel
theorem dX6_undo_34 : decode cX6_undo 34 = .ok (.getfield 13, 3) := by decide +kernel
theorem dX6_undo_37 : decode cX6_undo 37 = .ok (.aload_n 0, 1) := by decide +kernel
theorem dX6_undo_38 : decode cX6_undo 38 = .ok (.getfield 45, 3) := by decide +kernel
theorem dX6_undo_41 : decode cX6_undo 41 = .ok (.bipush 70, 2) := by decide +kernel
theorem dX6_undo_43 : decode cX6_undo 43 = .ok (.imul, 1) := by decide +kernel
theorem dX6_undo_44 : decode cX6_undo 44 = .ok (.iload_n 1, 1) := by decide +kernel
theorem dX6_undo_45 : decode cX6_undo 45 = .ok (.iadd, 1) := by decide +kernel
theorem dX6_undo_46 : decode cX6_undo 46 = .ok (.iaload, 1) := by decide +kernel
theorem dX6_undo_47 : decode cX6_undo 47 = .ok (.iastore, 1) := by decide +kernel
theorem dX6_undo_48 : decode cX6_undo 48 = .ok (.iinc 1 1, 3) := by decide +kernel
theorem dX6_undo_51 : decode cX6_undo 51 = .ok (.goto (-29), 3) := by decide +kernel
theorem dX6_undo_54 : decode cX6_undo 54 = .ok (.aload_n 0, 1) := by decide +kernel
theorem dX6_undo_55 : decode cX6_undo 55 = .ok (.getfield 45, 3) := by decide +kernel
theorem dX6_undo_58 : decode cX6_undo 58 = .ok (.ireturn, 1) := by decide +kernel
theorem dX6_save_0 : decode cX6_save 0 = .ok (.iload_n 1, 1) := by decide +kernel
theorem dX6_save_1 : decode cX6_save 1 = .ok (.iconst 0, 1) := by decide +kernel
theorem dX6_save_2 : decode cX6_save 2 = .ok (.iconst 1, 1) := by decide +kernel
theorem dX6_save_3 : decode cX6_save 3 = .ok (.invokestatic 49, 3) := by decide +kernel
theorem dX6_save_6 : decode cX6_save 6 = .ok (.ifCond .ne 6, 3) := by decide +kernel
theorem dX6_save_9 : decode cX6_save 9 = .ok (.bipush (-2), 2) := by decide +kernel
theorem dX6_save_11 : decode cX6_save 11 = .ok (.ireturn, 1) := by decide +kernel
theorem dX6_save_12 : decode cX6_save 12 = .ok (.iconst 0, 1) := by decide +kernel
theorem dX6_save_13 : decode cX6_save 13 = .ok (.istore_n 2, 1) := by decide +kernel
theorem dX6_save_14 : decode cX6_save 14 = .ok (.iload_n 2, 1) := by decide +kernel
theorem dX6_save_15 : decode cX6_save 15 = .ok (.bipush 70, 2) := by decide +kernel
theorem dX6_save_17 : decode cX6_save 17 = .ok (.if_icmp .ge 26, 3) := by decide +kernel
theorem dX6_save_20 : decode cX6_save 20 = .ok (.aload_n 0, 1) := by decide +kernel
theorem dX6_save_21 : decode cX6_save 21 = .ok (.getfield 16, 3) := by decide +kernel
theorem dX6_save_24 : decode cX6_save 24 = .ok (.iload_n 1, 1) := by decide +kernel
theorem dX6_save_25 : decode cX6_save 25 = .ok (.bipush 70, 2) := by decide +kernel
theorem dX6_save_27 : decode cX6_save 27 = .ok (.imul, 1) := by decide +kernel
theorem dX6_save_28 : decode cX6_save 28 = .ok (.iload_n 2, 1) := by decide +kernel
theorem dX6_save_29 : decode cX6_save 29 = .ok (.iadd, 1) := by decide +kernel
theorem dX6_save_30 : decode cX6_save 30 = .ok (.aload_n 0, 1) := by decide +kernel
theorem dX6_save_31 : decode cX6_save 31 = .ok (.getfield 7, 3) := by decide +kernel
theorem dX6_save_34 : decode cX6_save 34 = .ok (.iload_n 2, 1) := by decide +kernel
theorem dX6_save_35 : decode cX6_save 35 = .ok (.iaload, 1) := by decide +kernel
theorem dX6_save_36 : decode cX6_save 36 = .ok (.iastore, 1) := by decide +kernel
theorem dX6_save_37 : decode cX6_save 37 = .ok (.iinc 2 1, 3) := by decide +kernel
theorem dX6_save_40 : decode cX6_save 40 = .ok (.goto (-26), 3) := by decide +kernel
theorem dX6_save_43 : decode cX6_save 43 = .ok (.aload_n 0, 1) := by decide +kernel
theorem dX6_save_44 : decode cX6_save 44 = .ok (.getfield 19, 3) := by decide +kernel
theorem dX6_save_47 : decode cX6_save 47 = .ok (.iload_n 1, 1) := by decide +kernel
theorem dX6_save_48 : decode cX6_save 48 = .ok (.iconst 1, 1) := by decide +kernel
theorem dX6_save_49 : decode cX6_save 49 = .ok (.bastore, 1) := by decide +kernel
theorem dX6_save_50 : decode cX6_save 50 = .ok (.aload_n 0, 1) := by decide +kernel
theorem dX6_save_51 : decode cX6_save 51 = .ok (.getfield 7, 3) := by decide +kernel
theorem dX6_save_54 : decode cX6_save 54 = .ok (.bipush 58, 2) := by decide +kernel
theorem dX6_save_56 : decode cX6_save 56 = .ok (.iaload, 1) := by decide +kernel
theorem dX6_save_57 : decode cX6_save 57 = .ok (.ireturn, 1) := by decide +kernel
theorem dX6_restore_0 : decode cX6_restore 0 = .ok (.iload_n 1, 1) := by decide +kernel
theorem dX6_restore_1 : decode cX6_restore 1 = .ok (.iconst 0, 1) := by decide +kernel
theorem dX6_restore_2 : decode cX6_restore 2 = .ok (.iconst 1, 1) := by decide +kernel
theorem dX6_restore_3 : decode cX6_restore 3 = .ok (.invokestatic 49, 3) := by decide +kernel
theorem dX6_restore_6 : decode cX6_restore 6 = .ok (.ifCond .ne 6, 3) := by decide +kernel
theorem dX6_restore_9 : decode cX6_restore 9 = .ok (.bipush (-2), 2) := by decide +kernel
theorem dX6_restore_11 : decode cX6_restore 11 = .ok (.ireturn, 1) := by decide +kernel
theorem dX6_restore_12 : decode cX6_restore 12 = .ok (.aload_n 0, 1) := by decide +kernel
theorem dX6_restore_13 : decode cX6_restore 13 = .ok (.getfield 19, 3) := by decide +kernel
theorem dX6_restore_16 : decode cX6_restore 16 = .ok (.iload_n 1, 1) := by decide +kernel
theorem dX6_restore_17 : decode cX6_restore 17 = .ok (.baload, 1) := by decide +kernel
theorem dX6_restore_18 : decode cX6_restore 18 = .ok (.ifCond .ne 6, 3) := by decide +kernel
theorem dX6_restore_21 : decode cX6_restore 21 = .ok (.bipush (-5), 2) := by decide +kernel
theorem dX6_restore_23 : decode cX6_restore 23 = .ok (.ireturn, 1) := by decide +kernel
theorem dX6_restore_24 : decode cX6_restore 24 = .ok (.aload_n 0, 1) := by decide +kernel
theorem dX6_restore_25 : decode cX6_restore 25 = .ok (.invokevirtual 61, 3) := by decide +kernel
theorem dX6_restore_28 : decode cX6_restore 28 = .ok (.iconst 0, 1) := by decide +kernel
theorem dX6_restore_29 : decode cX6_restore 29 = .ok (.istore_n 2, 1) := by decide +kernel
theorem dX6_restore_30 : decode cX6_restore 30 = .ok (.iload_n 2, 1) := by decide +kernel
theorem dX6_restore_31 : decode cX6_restore 31 = .ok (.bipush 70, 2) := by decide +kernel
theorem dX6_restore_33 : decode cX6_restore 33 = .ok (.if_icmp .ge 26, 3) := by decide +kernel
theorem dX6_restore_36 : decode cX6_restore 36 = .ok (.aload_n 0, 1) := by decide +kernel
theorem dX6_restore_37 : decode cX6_restore 37 = .ok (.getfield 7, 3) := by decide +kernel
theorem dX6_restore_40 : decode cX6_restore 40 = .ok (.iload_n 2, 1) := by decide +kernel
theorem dX6_restore_41 : decode cX6_restore 41 = .ok (.aload_n 0, 1) := by decide +kernel
theorem dX6_restore_42 : decode cX6_restore 42 = .ok (.getfield 16, 3) := by decide +kernel
theorem dX6_restore_45 : decode cX6_restore 45 = .ok (.iload_n 1, 1) := by decide +kernel
theorem dX6_restore_46 : decode cX6_restore 46 = .ok (.bipush 70, 2) := by decide +kernel
theorem dX6_restore_48 : decode cX6_restore 48 = .ok (.imul, 1) := by decide +kernel
theorem dX6_restore_49 : decode cX6_restore 49 = .ok (.iload_n 2, 1) := by decide +kernel
theorem dX6_restore_50 : decode cX6_restore 50 = .ok (.iadd, 1) := by decide +kernel
theorem dX6_restore_51 : decode cX6_restore 51 = .ok (.iaload, 1) := by decide +kernel
theorem dX6_restore_52 : decode cX6_restore 52 = .ok (.iastore, 1) := by decide +kernel
theorem dX6_restore_53 : decode cX6_restore 53 = .ok (.iinc 2 1, 3) := by decide +kernel
theorem dX6_restore_56 : decode cX6_restore 56 = .ok (.goto (-26), 3) := by decide +kernel
theorem dX6_restore_59 : decode cX6_restore 59 = .ok (.aload_n 0, 1) := by decide +kernel
theorem dX6_restore_60 : decode cX6_restore 60 = .ok (.getfield 7, 3) := by decide +kernel
theorem dX6_restore_63 : decode cX6_restore 63 = .ok (.bipush 58, 2) := by decide +kernel
theorem dX6_restore_65 : decode cX6_restore 65 = .ok (.iaload, 1) := by decide +kernel
theorem dX6_restore_66 : decode cX6_restore 66 = .ok (.ireturn, 1) := by decide +kernel
