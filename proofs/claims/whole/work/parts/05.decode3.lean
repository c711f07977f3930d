theorem dX7_init_0 : decode cX7_init 0 = .ok (.aload_n 0, 1) := by decide +kernel
theorem dX7_init_1 : decode cX7_init 1 = .ok (.invokespecial 1, 3) := by decide +kernel
theorem dX7_init_4 : decode cX7_init 4 = .ok (.aload_n 0, 1) := by decide +kernel
theorem dX7_init_5 : decode cX7_init 5 = .ok (.sipush 986, 3) := by decide +kernel
theorem dX7_init_8 : decode cX7_init 8 = .ok (.newarray .int, 2) := by decide +kernel
theorem dX7_init_10 : decode cX7_init 10 = .ok (.putfield 7, 3) := by decide +kernel
theorem dX7_init_13 : decode cX7_init 13 = .ok (.aload_n 0, 1) := by decide +kernel
theorem dX7_init_14 : decode cX7_init 14 = .ok (.sipush 4930, 3) := by decide +kernel
theorem dX7_init_17 : decode cX7_init 17 = .ok (.newarray .int, 2) := by decide +kernel
theorem dX7_init_19 : decode cX7_init 19 = .ok (.putfield 13, 3) := by decide +kernel
theorem dX7_init_22 : decode cX7_init 22 = .ok (.aload_n 0, 1) := by decide +kernel
theorem dX7_init_23 : decode cX7_init 23 = .ok (.sipush 328, 3) := by decide +kernel
theorem dX7_init_26 : decode cX7_init 26 = .ok (.newarray .int, 2) := by decide +kernel
theorem dX7_init_28 : decode cX7_init 28 = .ok (.putfield 16, 3) := by decide +kernel
theorem dX7_init_31 : decode cX7_init 31 = .ok (.aload_n 0, 1) := by decide +kernel
theorem dX7_init_32 : decode cX7_init 32 = .ok (.bipush 80, 2) := by decide +kernel
theorem dX7_init_34 : decode cX7_init 34 = .ok (.newarray .int, 2) := by decide +kernel
theorem dX7_init_36 : decode cX7_init 36 = .ok (.putfield 19, 3) := by decide +kernel
theorem dX7_init_39 : decode cX7_init 39 = .ok (.iconst 0, 1) := by decide +kernel
theorem dX7_init_40 : decode cX7_init 40 = .ok (.istore_n 1, 1) := by decide +kernel
theorem dX7_init_41 : decode cX7_init 41 = .ok (.iload_n 1, 1) := by decide +kernel
theorem dX7_init_42 : decode cX7_init 42 = .ok (.bipush 8, 2) := by decide +kernel
theorem dX7_init_44 : decode cX7_init 44 = .ok (.if_icmp .ge 21, 3) := by decide +kernel
theorem dX7_init_47 : decode cX7_init 47 = .ok (.aload_n 0, 1) := by decide +kernel
theorem dX7_init_48 : decode cX7_init 48 = .ok (.getfield 7, 3) := by decide +kernel
theorem dX7_init_51 : decode cX7_init 51 = .ok (.sipush 241, 3) := by decide +kernel
theorem dX7_init_54 : decode cX7_init 54 = .ok (.iload_n 1, 1) := by decide +kernel
theorem dX7_init_55 : decode cX7_init 55 = .ok (.iadd, 1) := by decide +kernel
theorem dX7_init_56 : decode cX7_init 56 = .ok (.bipush 8, 2) := by decide +kernel
theorem dX7_init_58 : decode cX7_init 58 = .ok (.iastore, 1) := by decide +kernel
theorem dX7_init_59 : decode cX7_init 59 = .ok (.iinc 1 1, 3) := by decide +kernel
theorem dX7_init_62 : decode cX7_init 62 = .ok (.goto (-21), 3) := by decide +kernel
theorem dX7_init_65 : decode cX7_init 65 = .ok (.iconst 0, 1) := by decide +kernel
theorem dX7_init_66 : decode cX7_init 66 = .ok (.istore_n 1, 1) := by decide +kernel
theorem dX7_init_67 : decode cX7_init 67 = .ok (.iload_n 1, 1) := by decide +kernel
theorem dX7_init_68 : decode cX7_init 68 = .ok (.bipush 12, 2) := by decide +kernel
theorem dX7_init_70 : decode cX7_init 70 = .ok (.if_icmp .ge 46, 3) := by decide +kernel
theorem dX7_init_73 : decode cX7_init 73 = .ok (.aload_n 0, 1) := by decide +kernel
theorem dX7_init_74 : decode cX7_init 74 = .ok (.getfield 7, 3) := by decide +kernel
theorem dX7_init_77 : decode cX7_init 77 = .ok (.sipush 249, 3) := by decide +kernel
theorem dX7_init_80 : decode cX7_init 80 = .ok (.iload_n 1, 1) := by decide +kernel
theorem dX7_init_81 : decode cX7_init 81 = .ok (.iadd, 1) := by decide +kernel
theorem dX7_init_82 : decode cX7_init 82 = .ok (.bipush 40, 2) := by decide +kernel
theorem dX7_init_84 : decode cX7_init 84 = .ok (.iastore, 1) := by decide +kernel
theorem dX7_init_85 : decode cX7_init 85 = .ok (.aload_n 0, 1) := by decide +kernel
theorem dX7_init_86 : decode cX7_init 86 = .ok (.getfield 7, 3) := by decide +kernel
theorem dX7_init_89 : decode cX7_init 89 = .ok (.sipush 261, 3) := by decide +kernel
theorem dX7_init_92 : decode cX7_init 92 = .ok (.iload_n 1, 1) := by decide +kernel
theorem dX7_init_93 : decode cX7_init 93 = .ok (.iadd, 1) := by decide +kernel
theorem dX7_init_94 : decode cX7_init 94 = .ok (.iconst (-1), 1) := by decide +kernel
theorem dX7_init_95 : decode cX7_init 95 = .ok (.iastore, 1) := by decide +kernel
theorem dX7_init_96 : decode cX7_init 96 = .ok (.aload_n 0, 1) := by decide +kernel
theorem dX7_init_97 : decode cX7_init 97 = .ok (.getfield 7, 3) := by decide +kernel
theorem dX7_init_100 : decode cX7_init 100 = .ok (.sipush 297, 3) := by decide +kernel
theorem dX7_init_103 : decode cX7_init 103 = .ok (.iload_n 1, 1) := by decide +kernel
theorem dX7_init_104 : decode cX7_init 104 = .ok (.iadd, 1) := by decide +kernel
theorem dX7_init_105 : decode cX7_init 105 = .ok (.iload_n 1, 1) := by decide +kernel
theorem dX7_init_106 : decode cX7_init 106 = .ok (.bipush 8, 2) := by decide +kernel
theorem dX7_init_108 : decode cX7_init 108 = .ok (.irem, 1) := by decide +kernel
theorem dX7_init_109 : decode cX7_init 109 = .ok (.iastore, 1) := by decide +kernel
theorem dX7_init_110 : decode cX7_init 110 = .ok (.iinc 1 1, 3) := by decide +kernel
theorem dX7_init_113 : decode cX7_init 113 = .ok (.goto (-46), 3) := by decide +kernel
theorem dX7_init_116 : decode cX7_init 116 = .ok (.aload_n 0, 1) := by decide +kernel
theorem dX7_init_117 : decode cX7_init 117 = .ok (.getfield 7, 3) := by decide +kernel
theorem dX7_init_120 : decode cX7_init 120 = .ok (.sipush 321, 3) := by decide +kernel
theorem dX7_init_123 : decode cX7_init 123 = .ok (.bipush 100, 2) := by decide +kernel
theorem dX7_init_125 : decode cX7_init 125 = .ok (.iastore, 1) := by decide +kernel
theorem dX7_init_126 : decode cX7_init 126 = .ok (.aload_n 0, 1) := by decide +kernel
theorem dX7_init_127 : decode cX7_init 127 = .ok (.getfield 7, 3) := by decide +kernel
theorem dX7_init_130 : decode cX7_init 130 = .ok (.sipush 327, 3) := by decide +kernel
theorem dX7_init_133 : decode cX7_init 133 = .ok (.iconst 1, 1) := by decide +kernel
theorem dX7_init_134 : decode cX7_init 134 = .ok (.iastore, 1) := by decide +kernel
theorem dX7_init_135 : decode cX7_init 135 = .ok (.return_, 1) := by decide +kernel
theorem dX7_in_0 : decode cX7_in 0 = .ok (.iload_n 0, 1) := by decide +kernel
theorem dX7_in_1 : decode cX7_in 1 = .ok (.iload_n 1, 1) := by decide +kernel
theorem dX7_in_2 : decode cX7_in 2 = .ok (.if_icmp .lt 12, 3) := by decide +kernel
theorem dX7_in_5 : decode cX7_in 5 = .ok (.iload_n 0, 1) := by decide +kernel
theorem dX7_in_6 : decode cX7_in 6 = .ok (.iload_n 2, 1) := by decide +kernel
theorem dX7_in_7 : decode cX7_in 7 = .ok (.if_icmp .gt 7, 3) := by decide +kernel
theorem dX7_in_10 : decode cX7_in 10 = .ok (.iconst 1, 1) := by decide +kernel
theorem dX7_in_11 : decode cX7_in 11 = .ok (.goto 4, 3) := by decide +kernel
theorem dX7_in_14 : decode cX7_in 14 = .ok (.iconst 0, 1) := by decide +kernel
theorem dX7_in_15 : decode cX7_in 15 = .ok (.ireturn, 1) := by decide +kernel
theorem dX7_isStand_0 : decode cX7_isStand 0 = .ok (.iload_n 0, 1) := by decide +kernel
theorem dX7_isStand_1 : decode cX7_isStand 1 = .ok (.iconst 0, 1) := by decide +kernel
theorem dX7_isStand_2 : decode cX7_isStand 2 = .ok (.bipush 7, 2) := by decide +kernel
theorem dX7_isStand_4 : decode cX7_isStand 4 = .ok (.invokestatic 22, 3) := by decide +kernel
theorem dX7_isStand_7 : decode cX7_isStand 7 = .ok (.ireturn, 1) := by decide +kernel
theorem dX7_isPerson_0 : decode cX7_isPerson 0 = .ok (.iload_n 0, 1) := by decide +kernel
theorem dX7_isPerson_1 : decode cX7_isPerson 1 = .ok (.iconst 0, 1) := by decide +kernel
theorem dX7_isPerson_2 : decode cX7_isPerson 2 = .ok (.bipush 11, 2) := by decide +kernel
theorem dX7_isPerson_4 : decode cX7_isPerson 4 = .ok (.invokestatic 22, 3) := by decide +kernel
theorem dX7_isPerson_7 : decode cX7_isPerson 7 = .ok (.ireturn, 1) := by decide +kernel
theorem dX7_save_0 : decode cX7_save 0 = .ok (.aload_n 0, 1) := by decide +kernel
theorem dX7_save_1 : decode cX7_save 1 = .ok (.getfield 26, 3) := by decide +kernel
theorem dX7_save_4 : decode cX7_save 4 = .ok (.iconst 5, 1) := by decide +kernel
theorem dX7_save_5 : decode cX7_save 5 = .ok (.if_icmp .ne 44, 3) := by decide +kernel
theorem dX7_save_8 : decode cX7_save 8 = .ok (.iconst 0, 1) := by decide +kernel
theorem dX7_save_9 : decode cX7_save 9 = .ok (.istore_n 1, 1) := by decide +kernel
theorem dX7_save_10 : decode cX7_save 10 = .ok (.iload_n 1, 1) := by decide +kernel
theorem dX7_save_11 : decode cX7_save 11 = .ok (.sipush 3944, 3) := by decide +kernel
theorem dX7_save_14 : decode cX7_save 14 = .ok (.if_icmp .ge 25, 3) := by decide +kernel
theorem dX7_save_17 : decode cX7_save 17 = .ok (.aload_n 0, 1) := by decide +kernel
theorem dX7_save_18 : decode cX7_save 18 = .ok (.getfield 13, 3) := by decide +kernel
theorem dX7_save_21 : decode cX7_save 21 = .ok (.iload_n 1, 1) := by decide +kernel
theorem dX7_save_22 : decode cX7_save 22 = .ok (.aload_n 0, 1) := by decide +kernel
theorem dX7_save_23 : decode cX7_save 23 = .ok (.getfield 13, 3) := by decide +kernel
theorem dX7_save_26 : decode cX7_save 26 = .ok (.iload_n 1, 1) := by decide +kernel
theorem dX7_save_27 : decode cX7_save 27 = .ok (.sipush 986, 3) := by decide +kernel
theorem dX7_save_30 : decode cX7_save 30 = .ok (.iadd, 1) := by decide +kernel
theorem dX7_save_31 : decode cX7_save 31 = .ok (.iaload, 1) := by decide +kernel
theorem dX7_save_32 : decode cX7_save 32 = .ok (.iastore, 1) := by decide +kernel
theorem dX7_save_33 : decode cX7_save 33 = .ok (.iinc 1 1, 3) := by decide +kernel
theorem dX7_save_36 : decode cX7_save 36 = .ok (.goto (-26), 3) := by decide +kernel
theorem dX7_save_39 : decode cX7_save 39 = .ok (.aload_n 0, 1) := by decide +kernel
theorem dX7_save_40 : decode cX7_save 40 = .ok (.dup, 1) := by decide +kernel
theorem dX7_save_41 : decode cX7_save 41 = .ok (.getfield 26, 3) := by decide +kernel
theorem dX7_save_44 : decode cX7_save 44 = .ok (.iconst 1, 1) := by decide +kernel
theorem dX7_save_45 : decode cX7_save 45 = .ok (.isub, 1) := by decide +kernel
theorem dX7_save_46 : decode cX7_save 46 = .ok (.putfield 26, 3) := by decide +kernel
theorem dX7_save_49 : decode cX7_save 49 = .ok (.iconst 0, 1) := by decide +kernel
theorem dX7_save_50 : decode cX7_save 50 = .ok (.istore_n 1, 1) := by decide +kernel
theorem dX7_save_51 : decode cX7_save 51 = .ok (.iload_n 1, 1) := by decide +kernel
theorem dX7_save_52 : decode cX7_save 52 = .ok (.sipush 986, 3) := by decide +kernel
theorem dX7_save_55 : decode cX7_save 55 = .ok (.if_icmp .ge 30, 3) := by decide +kernel
theorem dX7_save_58 : decode cX7_save 58 = .ok (.aload_n 0, 1) := by decide +kernel
theorem dX7_save_59 : decode cX7_save 59 = .ok (.getfield 13, 3) := by decide +kernel
theorem dX7_save_62 : decode cX7_save 62 = .ok (.sipush 986, 3) := by decide +kernel
theorem dX7_save_65 : decode cX7_save 65 = .ok (.aload_n 0, 1) := by decide +kernel
theorem dX7_save_66 : decode cX7_save 66 = .ok (.getfield 26, 3) := by decide +kernel
theorem dX7_save_69 : decode cX7_save 69 = .ok (.imul, 1) := by decide +kernel
theorem dX7_save_70 : decode cX7_save 70 = .ok (.iload_n 1, 1) := by decide +kernel
theorem dX7_save_71 : decode cX7_save 71 = .ok (.iadd, 1) := by decide +kernel
theorem dX7_save_72 : decode cX7_save 72 = .ok (.aload_n 0, 1) := by decide +kernel
theorem dX7_save_73 : decode cX7_save 73 = .ok (.getfield 7, 3) := by decide +kernel
theorem dX7_save_76 : decode cX7_save 76 = .ok (.iload_n 1, 1) := by decide +kernel
theorem dX7_save_77 : decode cX7_save 77 = .ok (.iaload, 1) := by decide +kernel
theorem dX7_save_78 : decode cX7_save 78 = .ok (.iastore, 1) := by decide +kernel
theorem dX7_save_79 : decode cX7_save 79 = .ok (.iinc 1 1, 3) := by decide +kernel
theorem dX7_save_82 : decode cX7_save 82 = .ok (.goto (-31), 3) := by decide +kernel
theorem dX7_save_85 : decode cX7_save 85 = .ok (.aload_n 0, 1) := by decide +kernel
theorem dX7_save_86 : decode cX7_save 86 = .ok (.dup, 1) := by decide +kernel
theorem dX7_save_87 : decode cX7_save 87 = .ok (.getfield 26, 3) := by decide +kernel
theorem dX7_save_90 : decode cX7_save 90 = .ok (.iconst 1, 1) := by decide +kernel
theorem dX7_save_91 : decode cX7_save 91 = .ok (.iadd, 1) := by decide +kernel
theorem dX7_save_92 : decode cX7_save 92 = .ok (.putfield 26, 3) := by decide +kernel
theorem dX7_save_95 : decode cX7_save 95 = .ok (.return_, 1) := by decide +kernel
theorem dX7_isAt_0 : decode cX7_isAt 0 = .ok (.aload_n 0, 1) := by decide +kernel
theorem dX7_isAt_1 : decode cX7_isAt 1 = .ok (.getfield 7, 3) := by decide +kernel
theorem dX7_isAt_4 : decode cX7_isAt 4 = .ok (.iconst 1, 1) := by decide +kernel
theorem dX7_isAt_5 : decode cX7_isAt 5 = .ok (.iload_n 1, 1) := by decide +kernel
theorem dX7_isAt_6 : decode cX7_isAt 6 = .ok (.iadd, 1) := by decide +kernel
theorem dX7_isAt_7 : decode cX7_isAt 7 = .ok (.iaload, 1) := by decide +kernel
theorem dX7_isAt_8 : decode cX7_isAt 8 = .ok (.iload_n 2, 1) := by decide +kernel
theorem dX7_isAt_9 : decode cX7_isAt 9 = .ok (.if_icmp .ne 25, 3) := by decide +kernel
theorem dX7_isAt_12 : decode cX7_isAt 12 = .ok (.iload_n 2, 1) := by decide +kernel
theorem dX7_isAt_13 : decode cX7_isAt 13 = .ok (.iconst 2, 1) := by decide +kernel
theorem dX7_isAt_14 : decode cX7_isAt 14 = .ok (.if_icmp .gt 16, 3) := by decide +kernel
theorem dX7_isAt_17 : decode cX7_isAt 17 = .ok (.aload_n 0, 1) := by decide +kernel
theorem dX7_isAt_18 : decode cX7_isAt 18 = .ok (.getfield 7, 3) := by decide +kernel
theorem dX7_isAt_21 : decode cX7_isAt 21 = .ok (.bipush 61, 2) := by decide +kernel
theorem dX7_isAt_23 : decode cX7_isAt 23 = .ok (.iload_n 1, 1) := by decide +kernel
theorem dX7_isAt_24 : decode cX7_isAt 24 = .ok (.iadd, 1) := by decide +kernel
theorem dX7_isAt_25 : decode cX7_isAt 25 = .ok (.iaload, 1) := by decide +kernel
theorem dX7_isAt_26 : decode cX7_isAt 26 = .ok (.iload_n 3, 1) := by decide +kernel
theorem dX7_isAt_27 : decode cX7_isAt 27 = .ok (.if_icmp .ne 7, 3) := by decide +kernel
theorem dX7_isAt_30 : decode cX7_isAt 30 = .ok (.iconst 1, 1) := by decide +kernel
theorem dX7_isAt_31 : decode cX7_isAt 31 = .ok (.goto 4, 3) := by decide +kernel
theorem dX7_isAt_34 : decode cX7_isAt 34 = .ok (.iconst 0, 1) := by decide +kernel
theorem dX7_isAt_35 : decode cX7_isAt 35 = .ok (.ireturn, 1) := by decide +kernel
theorem dX7_manyAt_0 : decode cX7_manyAt 0 = .ok (.iconst 0, 1) := by decide +kernel
theorem dX7_manyAt_1 : decode cX7_manyAt 1 = .ok (.istore_n 3, 1) := by decide +kernel
theorem dX7_manyAt_2 : decode cX7_manyAt 2 = .ok (.iconst 0, 1) := by decide +kernel
theorem dX7_manyAt_3 : decode cX7_manyAt 3 = .ok (.istore 4, 2) := by decide +kernel
theorem dX7_manyAt_5 : decode cX7_manyAt 5 = .ok (.iload 4, 2) := by decide +kernel
theorem dX7_manyAt_7 : decode cX7_manyAt 7 = .ok (.aload_n 0, 1) := by decide +kernel
theorem dX7_manyAt_8 : decode cX7_manyAt 8 = .ok (.getfield 7, 3) := by decide +kernel
theorem dX7_manyAt_11 : decode cX7_manyAt 11 = .ok (.iconst 0, 1) := by decide +kernel
theorem dX7_manyAt_12 : decode cX7_manyAt 12 = .ok (.iaload, 1) := by decide +kernel
theorem dX7_manyAt_13 : decode cX7_manyAt 13 = .ok (.if_icmp .ge 28, 3) := by decide +kernel
theorem dX7_manyAt_16 : decode cX7_manyAt 16 = .ok (.iload_n 3, 1) := by decide +kernel
theorem dX7_manyAt_17 : decode cX7_manyAt 17 = .ok (.aload_n 0, 1) := by decide +kernel
theorem dX7_manyAt_18 : decode cX7_manyAt 18 = .ok (.iload 4, 2) := by decide +kernel
theorem dX7_manyAt_20 : decode cX7_manyAt 20 = .ok (.iload_n 1, 1) := by decide +kernel
theorem dX7_manyAt_21 : decode cX7_manyAt 21 = .ok (.iload_n 2, 1) := by decide +kernel
theorem dX7_manyAt_22 : decode cX7_manyAt 22 = .ok (.invokevirtual 30, 3) := by decide +kernel
theorem dX7_manyAt_25 : decode cX7_manyAt 25 = .ok (.ifCond .eq 7, 3) := by decide +kernel
theorem dX7_manyAt_28 : decode cX7_manyAt 28 = .ok (.iconst 1, 1) := by decide +kernel
theorem dX7_manyAt_29 : decode cX7_manyAt 29 = .ok (.goto 4, 3) := by decide +kernel
theorem dX7_manyAt_32 : decode cX7_manyAt 32 = .ok (.iconst 0, 1) := by decide +kernel
theorem dX7_manyAt_33 : decode cX7_manyAt 33 = .ok (.iadd, 1) := by decide +kernel
theorem dX7_manyAt_34 : decode cX7_manyAt 34 = .ok (.istore_n 3, 1) := by decide +kernel
theorem dX7_manyAt_35 : decode cX7_manyAt 35 = .ok (.iinc 4 1, 3) := by decide +kernel
theorem dX7_manyAt_38 : decode cX7_manyAt 38 = .ok (.goto (-33), 3) := by decide +kernel
theorem dX7_manyAt_41 : decode cX7_manyAt 41 = .ok (.iload_n 3, 1) := by decide +kernel
theorem dX7_manyAt_42 : decode cX7_manyAt 42 = .ok (.ireturn, 1) := by decide +kernel
theorem dX7_manyIn_0 : decode cX7_manyIn 0 = .ok (.iconst 0, 1) := by decide +kernel
theorem dX7_manyIn_1 : decode cX7_manyIn 1 = .ok (.istore_n 2, 1) := by decide +kernel
theorem dX7_manyIn_2 : decode cX7_manyIn 2 = .ok (.iconst 0, 1) := by decide +kernel
theorem dX7_manyIn_3 : decode cX7_manyIn 3 = .ok (.istore_n 3, 1) := by decide +kernel
theorem dX7_manyIn_4 : decode cX7_manyIn 4 = .ok (.iload_n 3, 1) := by decide +kernel
theorem dX7_manyIn_5 : decode cX7_manyIn 5 = .ok (.aload_n 0, 1) := by decide +kernel
theorem dX7_manyIn_6 : decode cX7_manyIn 6 = .ok (.getfield 7, 3) := by decide +kernel
theorem dX7_manyIn_9 : decode cX7_manyIn 9 = .ok (.iconst 0, 1) := by decide +kernel
theorem dX7_manyIn_10 : decode cX7_manyIn 10 = .ok (.iaload, 1) := by decide +kernel
theorem dX7_manyIn_11 : decode cX7_manyIn 11 = .ok (.if_icmp .ge 29, 3) := by decide +kernel
theorem dX7_manyIn_14 : decode cX7_manyIn 14 = .ok (.iload_n 2, 1) := by decide +kernel
theorem dX7_manyIn_15 : decode cX7_manyIn 15 = .ok (.aload_n 0, 1) := by decide +kernel
theorem dX7_manyIn_16 : decode cX7_manyIn 16 = .ok (.getfield 7, 3) := by decide +kernel
theorem dX7_manyIn_19 : decode cX7_manyIn 19 = .ok (.iconst 1, 1) := by decide +kernel
theorem dX7_manyIn_20 : decode cX7_manyIn 20 = .ok (.iload_n 3, 1) := by decide +kernel
theorem dX7_manyIn_21 : decode cX7_manyIn 21 = .ok (.iadd, 1) := by decide +kernel
theorem dX7_manyIn_22 : decode cX7_manyIn 22 = .ok (.iaload, 1) := by decide +kernel
theorem dX7_manyIn_23 : decode cX7_manyIn 23 = .ok (.iload_n 1, 1) := by decide +kernel
theorem dX7_manyIn_24 : decode cX7_manyIn 24 = .ok (.if_icmp .ne 7, 3) := by decide +kernel
theorem dX7_manyIn_27 : decode cX7_manyIn 27 = .ok (.iconst 1, 1) := by decide +kernel
theorem dX7_manyIn_28 : decode cX7_manyIn 28 = .ok (.goto 4, 3) := by decide +kernel
theorem dX7_manyIn_31 : decode cX7_manyIn 31 = .ok (.iconst 0, 1) := by decide +kernel
theorem dX7_manyIn_32 : decode cX7_manyIn 32 = .ok (.iadd, 1) := by decide +kernel
theorem dX7_manyIn_33 : decode cX7_manyIn 33 = .ok (.istore_n 2, 1) := by decide +kernel
theorem dX7_manyIn_34 : decode cX7_manyIn 34 = .ok (.iinc 3 1, 3) := by decide +kernel
theorem dX7_manyIn_37 : decode cX7_manyIn 37 = .ok (.goto (-33), 3) := by decide +kernel
theorem dX7_manyIn_40 : decode cX7_manyIn 40 = .ok (.iload_n 2, 1) := by decide +kernel
theorem dX7_manyIn_41 : decode cX7_manyIn 41 = .ok (.ireturn, 1) := by decide +kernel
theorem dX7_isBroken_0 : decode cX7_isBroken 0 = .ok (.aload_n 0, 1) := by decide +kernel
theorem dX7_isBroken_1 : decode cX7_isBroken 1 = .ok (.getfield 7, 3) := by decide +kernel
theorem dX7_isBroken_4 : decode cX7_isBroken 4 = .ok (.bipush 121, 2) := by decide +kernel
theorem dX7_isBroken_6 : decode cX7_isBroken 6 = .ok (.iload_n 1, 1) := by decide +kernel
theorem dX7_isBroken_7 : decode cX7_isBroken 7 = .ok (.iadd, 1) := by decide +kernel
theorem dX7_isBroken_8 : decode cX7_isBroken 8 = .ok (.iaload, 1) := by decide +kernel
theorem dX7_isBroken_9 : decode cX7_isBroken 9 = .ok (.bipush 32, 2) := by decide +kernel
theorem dX7_isBroken_11 : decode cX7_isBroken 11 = .ok (.if_icmp .lt 7, 3) := by decide +kernel
theorem dX7_isBroken_14 : decode cX7_isBroken 14 = .ok (.iconst 1, 1) := by decide +kernel
theorem dX7_isBroken_15 : decode cX7_isBroken 15 = .ok (.goto 4, 3) := by decide +kernel
theorem dX7_isBroken_18 : decode cX7_isBroken 18 = .ok (.iconst 0, 1) := by decide +kernel
theorem dX7_isBroken_19 : decode cX7_isBroken 19 = .ok (.ireturn, 1) := by decide +kernel
theorem dX7_brokenAt_0 : decode cX7_brokenAt 0 = .ok (.iconst 0, 1) := by decide +kernel
theorem dX7_brokenAt_1 : decode cX7_brokenAt 1 = .ok (.istore_n 3, 1) := by decide +kernel
theorem dX7_brokenAt_2 : decode cX7_brokenAt 2 = .ok (.iconst 0, 1) := by decide +kernel
theorem dX7_brokenAt_3 : decode cX7_brokenAt 3 = .ok (.istore 4, 2) := by decide +kernel
theorem dX7_brokenAt_5 : decode cX7_brokenAt 5 = .ok (.iload 4, 2) := by decide +kernel
theorem dX7_brokenAt_7 : decode cX7_brokenAt 7 = .ok (.aload_n 0, 1) := by decide +kernel
theorem dX7_brokenAt_8 : decode cX7_brokenAt 8 = .ok (.getfield 7, 3) := by decide +kernel
theorem dX7_brokenAt_11 : decode cX7_brokenAt 11 = .ok (.iconst 0, 1) := by decide +kernel
theorem dX7_brokenAt_12 : decode cX7_brokenAt 12 = .ok (.iaload, 1) := by decide +kernel
theorem dX7_brokenAt_13 : decode cX7_brokenAt 13 = .ok (.if_icmp .ge 37, 3) := by decide +kernel
theorem dX7_brokenAt_16 : decode cX7_brokenAt 16 = .ok (.iload_n 3, 1) := by decide +kernel
theorem dX7_brokenAt_17 : decode cX7_brokenAt 17 = .ok (.aload_n 0, 1) := by decide +kernel
theorem dX7_brokenAt_18 : decode cX7_brokenAt 18 = .ok (.iload 4, 2) := by decide +kernel
theorem dX7_brokenAt_20 : decode cX7_brokenAt 20 = .ok (.iload_n 1, 1) := by decide +kernel
theorem dX7_brokenAt_21 : decode cX7_brokenAt 21 = .ok (.iload_n 2, 1) := by decide +kernel
theorem dX7_brokenAt_22 : decode cX7_brokenAt 22 = .ok (.invokevirtual 30, 3) := by decide +kernel
theorem dX7_brokenAt_25 : decode cX7_brokenAt 25 = .ok (.ifCond .eq 16, 3) := by decide +kernel
theorem dX7_brokenAt_28 : decode cX7_brokenAt 28 = .ok (.aload_n 0, 1) := by decide +kernel
theorem dX7_brokenAt_29 : decode cX7_brokenAt 29 = .ok (.iload 4, 2) := by decide +kernel
theorem dX7_brokenAt_31 : decode cX7_brokenAt 31 = .ok (.invokevirtual 33, 3) := by decide +kernel
theorem dX7_brokenAt_34 : decode cX7_brokenAt 34 = .ok (.ifCond .eq 7, 3) := by decide +kernel
theorem dX7_brokenAt_37 : decode cX7_brokenAt 37 = .ok (.iconst 1, 1) := by decide +kernel
theorem dX7_brokenAt_38 : decode cX7_brokenAt 38 = .ok (.goto 4, 3) := by decide +kernel
theorem dX7_brokenAt_41 : decode cX7_brokenAt 41 = .ok (.iconst 0, 1) := by decide +kernel
theorem dX7_brokenAt_42 : decode cX7_brokenAt 42 = .ok (.iadd, 1) := by decide +kernel
theorem dX7_brokenAt_43 : decode cX7_brokenAt 43 = .ok (.istore_n 3, 1) := by decide +kernel
theorem dX7_brokenAt_44 : decode cX7_brokenAt 44 = .ok (.iinc 4 1, 3) := by decide +kernel
theorem dX7_brokenAt_47 : decode cX7_brokenAt 47 = .ok (.goto (-42), 3) := by decide +kernel
theorem dX7_brokenAt_50 : decode cX7_brokenAt 50 = .ok (.iload_n 3, 1) := by decide +kernel
theorem dX7_brokenAt_51 : decode cX7_brokenAt 51 = .ok (.ireturn, 1) := by decide +kernel
theorem dX7_goes_0 : decode cX7_goes 0 = .ok (.aload_n 0, 1) := by decide +kernel
theorem dX7_goes_1 : decode cX7_goes 1 = .ok (.getfield 7, 3) := by decide +kernel
theorem dX7_goes_4 : decode cX7_goes 4 = .ok (.iconst 1, 1) := by decide +kernel
theorem dX7_goes_5 : decode cX7_goes 5 = .ok (.iload_n 1, 1) := by decide +kernel
theorem dX7_goes_6 : decode cX7_goes 6 = .ok (.iadd, 1) := by decide +kernel
theorem dX7_goes_7 : decode cX7_goes 7 = .ok (.iload_n 2, 1) := by decide +kernel
theorem dX7_goes_8 : decode cX7_goes 8 = .ok (.iastore, 1) := by decide +kernel
theorem dX7_goes_9 : decode cX7_goes 9 = .ok (.aload_n 0, 1) := by decide +kernel
theorem dX7_goes_10 : decode cX7_goes 10 = .ok (.getfield 7, 3) := by decide +kernel
theorem dX7_goes_13 : decode cX7_goes 13 = .ok (.bipush 61, 2) := by decide +kernel
theorem dX7_goes_15 : decode cX7_goes 15 = .ok (.iload_n 1, 1) := by decide +kernel
theorem dX7_goes_16 : decode cX7_goes 16 = .ok (.iadd, 1) := by decide +kernel
theorem dX7_goes_17 : decode cX7_goes 17 = .ok (.iload_n 3, 1) := by decide +kernel
theorem dX7_goes_18 : decode cX7_goes 18 = .ok (.iastore, 1) := by decide +kernel
theorem dX7_goes_19 : decode cX7_goes 19 = .ok (.return_, 1) := by decide +kernel
theorem dX7_bestOf_0 : decode cX7_bestOf 0 = .ok (.iconst (-1), 1) := by decide +kernel
theorem dX7_bestOf_1 : decode cX7_bestOf 1 = .ok (.istore_n 2, 1) := by decide +kernel
theorem dX7_bestOf_2 : decode cX7_bestOf 2 = .ok (.iconst 0, 1) := by decide +kernel
theorem dX7_bestOf_3 : decode cX7_bestOf 3 = .ok (.istore_n 3, 1) := by decide +kernel
theorem dX7_bestOf_4 : decode cX7_bestOf 4 = .ok (.iload_n 3, 1) := by decide +kernel
theorem dX7_bestOf_5 : decode cX7_bestOf 5 = .ok (.aload_n 0, 1) := by decide +kernel
theorem dX7_bestOf_6 : decode cX7_bestOf 6 = .ok (.getfield 7, 3) := by decide +kernel
theorem dX7_bestOf_9 : decode cX7_bestOf 9 = .ok (.iconst 0, 1) := by decide +kernel
theorem dX7_bestOf_10 : decode cX7_bestOf 10 = .ok (.iaload, 1) := by decide +kernel
theorem dX7_bestOf_11 : decode cX7_bestOf 11 = .ok (.if_icmp .ge 70, 3) := by decide +kernel
theorem dX7_bestOf_14 : decode cX7_bestOf 14 = .ok (.aload_n 0, 1) := by decide +kernel
theorem dX7_bestOf_15 : decode cX7_bestOf 15 = .ok (.iload_n 3, 1) := by decide +kernel
theorem dX7_bestOf_16 : decode cX7_bestOf 16 = .ok (.iconst 0, 1) := by decide +kernel
theorem dX7_bestOf_17 : decode cX7_bestOf 17 = .ok (.iload_n 1, 1) := by decide +kernel
theorem dX7_bestOf_18 : decode cX7_bestOf 18 = .ok (.invokevirtual 30, 3) := by decide +kernel
theorem dX7_bestOf_21 : decode cX7_bestOf 21 = .ok (.ifCond .eq 40, 3) := by decide +kernel
theorem dX7_bestOf_24 : decode cX7_bestOf 24 = .ok (.aload_n 0, 1) := by decide +kernel
theorem dX7_bestOf_25 : decode cX7_bestOf 25 = .ok (.iload_n 3, 1) := by decide +kernel
theorem dX7_bestOf_26 : decode cX7_bestOf 26 = .ok (.invokevirtual 33, 3) := by decide +kernel
theorem dX7_bestOf_29 : decode cX7_bestOf 29 = .ok (.ifCond .ne 32, 3) := by decide +kernel
theorem dX7_bestOf_32 : decode cX7_bestOf 32 = .ok (.iload_n 2, 1) := by decide +kernel
theorem dX7_bestOf_33 : decode cX7_bestOf 33 = .ok (.ifCond .lt 24, 3) := by decide +kernel
theorem dX7_bestOf_36 : decode cX7_bestOf 36 = .ok (.aload_n 0, 1) := by decide +kernel
theorem dX7_bestOf_37 : decode cX7_bestOf 37 = .ok (.getfield 7, 3) := by decide +kernel
theorem dX7_bestOf_40 : decode cX7_bestOf 40 = .ok (.bipush 121, 2) := by decide +kernel
theorem dX7_bestOf_42 : decode cX7_bestOf 42 = .ok (.iload_n 3, 1) := by decide +kernel
theorem dX7_bestOf_43 : decode cX7_bestOf 43 = .ok (.iadd, 1) := by decide +kernel
theorem dX7_bestOf_44 : decode cX7_bestOf 44 = .ok (.iaload, 1) := by decide +kernel
theorem dX7_bestOf_45 : decode cX7_bestOf 45 = .ok (.aload_n 0, 1) := by decide +kernel
theorem dX7_bestOf_46 : decode cX7_bestOf 46 = .ok (.getfield 7, 3) := by decide +kernel
theorem dX7_bestOf_49 : decode cX7_bestOf 49 = .ok (.bipush 121, 2) := by decide +kernel
theorem dX7_bestOf_51 : decode cX7_bestOf 51 = .ok (.iload_n 2, 1) := by decide +kernel
theorem dX7_bestOf_52 : decode cX7_bestOf 52 = .ok (.iadd, 1) := by decide +kernel
theorem dX7_bestOf_53 : decode cX7_bestOf 53 = .ok (.iaload, 1) := by decide +kernel
theorem dX7_bestOf_54 : decode cX7_bestOf 54 = .ok (.if_icmp .ge 7, 3) := by decide +kernel
theorem dX7_bestOf_57 : decode cX7_bestOf 57 = .ok (.iconst 1, 1) := by decide +kernel
theorem dX7_bestOf_58 : decode cX7_bestOf 58 = .ok (.goto 4, 3) := by decide +kernel
theorem dX7_bestOf_61 : decode cX7_bestOf 61 = .ok (.iconst 0, 1) := by decide +kernel
theorem dX7_bestOf_62 : decode cX7_bestOf 62 = .ok (.istore 4, 2) := by decide +kernel
theorem dX7_bestOf_64 : decode cX7_bestOf 64 = .ok (.iload 4, 2) := by decide +kernel
theorem dX7_bestOf_66 : decode cX7_bestOf 66 = .ok (.ifCond .eq 7, 3) := by decide +kernel
theorem dX7_bestOf_69 : decode cX7_bestOf 69 = .ok (.iload_n 3, 1) := by decide +kernel
theorem dX7_bestOf_70 : decode cX7_bestOf 70 = .ok (.goto 4, 3) := by decide +kernel
theorem dX7_bestOf_73 : decode cX7_bestOf 73 = .ok (.iload_n 2, 1) := by decide +kernel
theorem dX7_bestOf_74 : decode cX7_bestOf 74 = .ok (.istore_n 2, 1) := by decide +kernel
theorem dX7_bestOf_75 : decode cX7_bestOf 75 = .ok (.iinc 3 1, 3) := by decide +kernel
theorem dX7_bestOf_78 : decode cX7_bestOf 78 = .ok (.goto (-74), 3) := by decide +kernel
theorem dX7_bestOf_81 : decode cX7_bestOf 81 = .ok (.iload_n 2, 1) := by decide +kernel
theorem dX7_bestOf_82 : decode cX7_bestOf 82 = .ok (.ireturn, 1) := by decide +kernel
theorem dX7_worstOf_0 : decode cX7_worstOf 0 = .ok (.iconst (-1), 1) := by decide +kernel
theorem dX7_worstOf_1 : decode cX7_worstOf 1 = .ok (.istore_n 2, 1) := by decide +kernel
theorem dX7_worstOf_2 : decode cX7_worstOf 2 = .ok (.iconst 0, 1) := by decide +kernel
theorem dX7_worstOf_3 : decode cX7_worstOf 3 = .ok (.istore_n 3, 1) := by decide +kernel
theorem dX7_worstOf_4 : decode cX7_worstOf 4 = .ok (.iload_n 3, 1) := by decide +kernel
theorem dX7_worstOf_5 : decode cX7_worstOf 5 = .ok (.aload_n 0, 1) := by decide +kernel
theorem dX7_worstOf_6 : decode cX7_worstOf 6 = .ok (.getfield 7, 3) := by decide +kernel
theorem dX7_worstOf_9 : decode cX7_worstOf 9 = .ok (.iconst 0, 1) := by decide +kernel
theorem dX7_worstOf_10 : decode cX7_worstOf 10 = .ok (.iaload, 1) := by decide +kernel
theorem dX7_worstOf_11 : decode cX7_worstOf 11 = .ok (.if_icmp .ge 62, 3) := by decide +kernel
theorem dX7_worstOf_14 : decode cX7_worstOf 14 = .ok (.aload_n 0, 1) := by decide +kernel
theorem dX7_worstOf_15 : decode cX7_worstOf 15 = .ok (.iload_n 3, 1) := by decide +kernel
theorem dX7_worstOf_16 : decode cX7_worstOf 16 = .ok (.iconst 0, 1) := by decide +kernel
theorem dX7_worstOf_17 : decode cX7_worstOf 17 = .ok (.iload_n 1, 1) := by decide +kernel
theorem dX7_worstOf_18 : decode cX7_worstOf 18 = .ok (.invokevirtual 30, 3) := by decide +kernel
theorem dX7_worstOf_21 : decode cX7_worstOf 21 = .ok (.ifCond .eq 32, 3) := by decide +kernel
theorem dX7_worstOf_24 : decode cX7_worstOf 24 = .ok (.iload_n 2, 1) := by decide +kernel
theorem dX7_worstOf_25 : decode cX7_worstOf 25 = .ok (.ifCond .lt 24, 3) := by decide +kernel
theorem dX7_worstOf_28 : decode cX7_worstOf 28 = .ok (.aload_n 0, 1) := by decide +kernel
theorem dX7_worstOf_29 : decode cX7_worstOf 29 = .ok (.getfield 7, 3) := by decide +kernel
theorem dX7_worstOf_32 : decode cX7_worstOf 32 = .ok (.bipush 121, 2) := by decide +kernel
theorem dX7_worstOf_34 : decode cX7_worstOf 34 = .ok (.iload_n 3, 1) := by decide +kernel
theorem dX7_worstOf_35 : decode cX7_worstOf 35 = .ok (.iadd, 1) := by decide +kernel
theorem dX7_worstOf_36 : decode cX7_worstOf 36 = .ok (.iaload, 1) := by decide +kernel
theorem dX7_worstOf_37 : decode cX7_worstOf 37 = .ok (.aload_n 0, 1) := by decide +kernel
theorem dX7_worstOf_38 : decode cX7_worstOf 38 = .ok (.getfield 7, 3) := by decide +kernel
theorem dX7_worstOf_41 : decode cX7_worstOf 41 = .ok (.bipush 121, 2) := by decide +kernel
theorem dX7_worstOf_43 : decode cX7_worstOf 43 = .ok (.iload_n 2, 1) := by decide +kernel
theorem dX7_worstOf_44 : decode cX7_worstOf 44 = .ok (.iadd, 1) := by decide +kernel
theorem dX7_worstOf_45 : decode cX7_worstOf 45 = .ok (.iaload, 1) := by decide +kernel
theorem dX7_worstOf_46 : decode cX7_worstOf 46 = .ok (.if_icmp .le 7, 3) := by decide +kernel
theorem dX7_worstOf_49 : decode cX7_worstOf 49 = .ok (.iconst 1, 1) := by decide +kernel
theorem dX7_worstOf_50 : decode cX7_worstOf 50 = .ok (.goto 4, 3) := by decide +kernel
theorem dX7_worstOf_53 : decode cX7_worstOf 53 = .ok (.iconst 0, 1) := by decide +kernel
theorem dX7_worstOf_54 : decode cX7_worstOf 54 = .ok (.istore 4, 2) := by decide +kernel
theorem dX7_worstOf_56 : decode cX7_worstOf 56 = .ok (.iload 4, 2) := by decide +kernel
theorem dX7_worstOf_58 : decode cX7_worstOf 58 = .ok (.ifCond .eq 7, 3) := by decide +kernel
theorem dX7_worstOf_61 : decode cX7_worstOf 61 = .ok (.iload_n 3, 1) := by decide +kernel
theorem dX7_worstOf_62 : decode cX7_worstOf 62 = .ok (.goto 4, 3) := by decide +kernel
theorem dX7_worstOf_65 : decode cX7_worstOf 65 = .ok (.iload_n 2, 1) := by decide +kernel
theorem dX7_worstOf_66 : decode cX7_worstOf 66 = .ok (.istore_n 2, 1) := by decide +kernel
theorem dX7_worstOf_67 : decode cX7_worstOf 67 = .ok (.iinc 3 1, 3) := by decide +kernel
theorem dX7_worstOf_70 : decode cX7_worstOf 70 = .ok (.goto (-66), 3) := by decide +kernel
theorem dX7_worstOf_73 : decode cX7_worstOf 73 = .ok (.iload_n 2, 1) := by decide +kernel
theorem dX7_worstOf_74 : decode cX7_worstOf 74 = .ok (.ireturn, 1) := by decide +kernel
theorem dX7_roomOf_0 : decode cX7_roomOf 0 = .ok (.aload_n 0, 1) := by decide +kernel
theorem dX7_roomOf_1 : decode cX7_roomOf 1 = .ok (.getfield 7, 3) := by decide +kernel
theorem dX7_roomOf_4 : decode cX7_roomOf 4 = .ok (.sipush 241, 3) := by decide +kernel
theorem dX7_roomOf_7 : decode cX7_roomOf 7 = .ok (.iload_n 1, 1) := by decide +kernel
theorem dX7_roomOf_8 : decode cX7_roomOf 8 = .ok (.iadd, 1) := by decide +kernel
theorem dX7_roomOf_9 : decode cX7_roomOf 9 = .ok (.iaload, 1) := by decide +kernel
theorem dX7_roomOf_10 : decode cX7_roomOf 10 = .ok (.aload_n 0, 1) := by decide +kernel
theorem dX7_roomOf_11 : decode cX7_roomOf 11 = .ok (.iconst 0, 1) := by decide +kernel
theorem dX7_roomOf_12 : decode cX7_roomOf 12 = .ok (.iload_n 1, 1) := by decide +kernel
theorem dX7_roomOf_13 : decode cX7_roomOf 13 = .ok (.invokevirtual 37, 3) := by decide +kernel
theorem dX7_roomOf_16 : decode cX7_roomOf 16 = .ok (.isub, 1) := by decide +kernel
theorem dX7_roomOf_17 : decode cX7_roomOf 17 = .ok (.ireturn, 1) := by decide +kernel
theorem dX7_canSpend_0 : decode cX7_canSpend 0 = .ok (.aload_n 0, 1) := by decide +kernel
theorem dX7_canSpend_1 : decode cX7_canSpend 1 = .ok (.getfield 7, 3) := by decide +kernel
theorem dX7_canSpend_4 : decode cX7_canSpend 4 = .ok (.sipush 321, 3) := by decide +kernel
theorem dX7_canSpend_7 : decode cX7_canSpend 7 = .ok (.iaload, 1) := by decide +kernel
theorem dX7_canSpend_8 : decode cX7_canSpend 8 = .ok (.bipush 10, 2) := by decide +kernel
theorem dX7_canSpend_10 : decode cX7_canSpend 10 = .ok (.aload_n 0, 1) := by decide +kernel
theorem dX7_canSpend_11 : decode cX7_canSpend 11 = .ok (.iconst 1, 1) := by decide +kernel
theorem dX7_canSpend_12 : decode cX7_canSpend 12 = .ok (.invokevirtual 41, 3) := by decide +kernel
theorem dX7_canSpend_15 : decode cX7_canSpend 15 = .ok (.imul, 1) := by decide +kernel
theorem dX7_canSpend_16 : decode cX7_canSpend 16 = .ok (.isub, 1) := by decide +kernel
theorem dX7_canSpend_17 : decode cX7_canSpend 17 = .ok (.iload_n 1, 1) := by decide +kernel
theorem dX7_canSpend_18 : decode cX7_canSpend 18 = .ok (.if_icmp .lt 7, 3) := by decide +kernel
theorem dX7_canSpend_21 : decode cX7_canSpend 21 = .ok (.iconst 1, 1) := by decide +kernel
theorem dX7_canSpend_22 : decode cX7_canSpend 22 = .ok (.goto 4, 3) := by decide +kernel
theorem dX7_canSpend_25 : decode cX7_canSpend 25 = .ok (.iconst 0, 1) := by decide +kernel
theorem dX7_canSpend_26 : decode cX7_canSpend 26 = .ok (.ireturn, 1) := by decide +kernel
theorem dX7_spends_0 : decode cX7_spends 0 = .ok (.aload_n 0, 1) := by decide +kernel
theorem dX7_spends_1 : decode cX7_spends 1 = .ok (.getfield 7, 3) := by decide +kernel
theorem dX7_spends_4 : decode cX7_spends 4 = .ok (.sipush 321, 3) := by decide +kernel
theorem dX7_spends_7 : decode cX7_spends 7 = .ok (.dup2, 1) := by decide +kernel
theorem dX7_spends_8 : decode cX7_spends 8 = .ok (.iaload, 1) := by decide +kernel
theorem dX7_spends_9 : decode cX7_spends 9 = .ok (.iload_n 1, 1) := by decide +kernel
theorem dX7_spends_10 : decode cX7_spends 10 = .ok (.isub, 1) := by decide +kernel
theorem dX7_spends_11 : decode cX7_spends 11 = .ok (.iastore, 1) := by decide +kernel
theorem dX7_spends_12 : decode cX7_spends 12 = .ok (.aload_n 0, 1) := by decide +kernel
theorem dX7_spends_13 : decode cX7_spends 13 = .ok (.getfield 7, 3) := by decide +kernel
theorem dX7_spends_16 : decode cX7_spends 16 = .ok (.sipush 323, 3) := by decide +kernel
theorem dX7_spends_19 : decode cX7_spends 19 = .ok (.dup2, 1) := by decide +kernel
theorem dX7_spends_20 : decode cX7_spends 20 = .ok (.iaload, 1) := by decide +kernel
theorem dX7_spends_21 : decode cX7_spends 21 = .ok (.iload_n 1, 1) := by decide +kernel
theorem dX7_spends_22 : decode cX7_spends 22 = .ok (.iadd, 1) := by decide +kernel
theorem dX7_spends_23 : decode cX7_spends 23 = .ok (.iastore, 1) := by decide +kernel
theorem dX7_spends_24 : decode cX7_spends 24 = .ok (.return_, 1) := by decide +kernel
theorem dX7_buy_0 : decode cX7_buy 0 = .ok (.iload_n 1, 1) := by decide +kernel
theorem dX7_buy_1 : decode cX7_buy 1 = .ok (.invokestatic 45, 3) := by decide +kernel
theorem dX7_buy_4 : decode cX7_buy 4 = .ok (.ifCond .eq 13, 3) := by decide +kernel
theorem dX7_buy_7 : decode cX7_buy 7 = .ok (.iload_n 2, 1) := by decide +kernel
theorem dX7_buy_8 : decode cX7_buy 8 = .ok (.iconst 1, 1) := by decide +kernel
theorem dX7_buy_9 : decode cX7_buy 9 = .ok (.bipush 20, 2) := by decide +kernel
theorem dX7_buy_11 : decode cX7_buy 11 = .ok (.invokestatic 22, 3) := by decide +kernel
theorem dX7_buy_14 : decode cX7_buy 14 = .ok (.ifCond .ne 5, 3) := by decide +kernel
theorem dX7_buy_17 : decode cX7_buy 17 = .ok (.iconst (-1), 1) := by decide +kernel
theorem dX7_buy_18 : decode cX7_buy 18 = .ok (.ireturn, 1) := by decide +kernel
theorem dX7_buy_19 : decode cX7_buy 19 = .ok (.aload_n 0, 1) := by decide +kernel
theorem dX7_buy_20 : decode cX7_buy 20 = .ok (.iconst 5, 1) := by decide +kernel
theorem dX7_buy_21 : decode cX7_buy 21 = .ok (.iload_n 2, 1) := by decide +kernel
theorem dX7_buy_22 : decode cX7_buy 22 = .ok (.imul, 1) := by decide +kernel
theorem dX7_buy_23 : decode cX7_buy 23 = .ok (.invokevirtual 48, 3) := by decide +kernel
theorem dX7_buy_26 : decode cX7_buy 26 = .ok (.ifCond .ne 6, 3) := by decide +kernel
theorem dX7_buy_29 : decode cX7_buy 29 = .ok (.bipush (-2), 2) := by decide +kernel
theorem dX7_buy_31 : decode cX7_buy 31 = .ok (.ireturn, 1) := by decide +kernel
theorem dX7_buy_32 : decode cX7_buy 32 = .ok (.aload_n 0, 1) := by decide +kernel
theorem dX7_buy_33 : decode cX7_buy 33 = .ok (.getfield 7, 3) := by decide +kernel
theorem dX7_buy_36 : decode cX7_buy 36 = .ok (.iconst 0, 1) := by decide +kernel
theorem dX7_buy_37 : decode cX7_buy 37 = .ok (.iaload, 1) := by decide +kernel
theorem dX7_buy_38 : decode cX7_buy 38 = .ok (.iload_n 2, 1) := by decide +kernel
theorem dX7_buy_39 : decode cX7_buy 39 = .ok (.iadd, 1) := by decide +kernel
theorem dX7_buy_40 : decode cX7_buy 40 = .ok (.bipush 60, 2) := by decide +kernel
theorem dX7_buy_42 : decode cX7_buy 42 = .ok (.if_icmp .gt 12, 3) := by decide +kernel
theorem dX7_buy_45 : decode cX7_buy 45 = .ok (.iload_n 2, 1) := by decide +kernel
theorem dX7_buy_46 : decode cX7_buy 46 = .ok (.aload_n 0, 1) := by decide +kernel
theorem dX7_buy_47 : decode cX7_buy 47 = .ok (.iload_n 1, 1) := by decide +kernel
theorem dX7_buy_48 : decode cX7_buy 48 = .ok (.invokevirtual 51, 3) := by decide +kernel
theorem dX7_buy_51 : decode cX7_buy 51 = .ok (.if_icmp .le 6, 3) := by decide +kernel
theorem dX7_buy_54 : decode cX7_buy 54 = .ok (.bipush (-3), 2) := by decide +kernel
theorem dX7_buy_56 : decode cX7_buy 56 = .ok (.ireturn, 1) := by decide +kernel
theorem dX7_buy_57 : decode cX7_buy 57 = .ok (.aload_n 0, 1) := by decide +kernel
theorem dX7_buy_58 : decode cX7_buy 58 = .ok (.invokevirtual 54, 3) := by decide +kernel
theorem dX7_buy_61 : decode cX7_buy 61 = .ok (.aload_n 0, 1) := by decide +kernel
theorem dX7_buy_62 : decode cX7_buy 62 = .ok (.getfield 7, 3) := by decide +kernel
theorem dX7_buy_65 : decode cX7_buy 65 = .ok (.iconst 0, 1) := by decide +kernel
theorem dX7_buy_66 : decode cX7_buy 66 = .ok (.iaload, 1) := by decide +kernel
theorem dX7_buy_67 : decode cX7_buy 67 = .ok (.istore_n 3, 1) := by decide +kernel
theorem dX7_buy_68 : decode cX7_buy 68 = .ok (.iload_n 3, 1) := by decide +kernel
theorem dX7_buy_69 : decode cX7_buy 69 = .ok (.istore 4, 2) := by decide +kernel
theorem dX7_buy_71 : decode cX7_buy 71 = .ok (.iload 4, 2) := by decide +kernel
theorem dX7_buy_73 : decode cX7_buy 73 = .ok (.iload_n 3, 1) := by decide +kernel
theorem dX7_buy_74 : decode cX7_buy 74 = .ok (.iload_n 2, 1) := by decide +kernel
theorem dX7_buy_75 : decode cX7_buy 75 = .ok (.iadd, 1) := by decide +kernel
theorem dX7_buy_76 : decode cX7_buy 76 = .ok (.if_icmp .ge 40, 3) := by decide +kernel
theorem dX7_buy_79 : decode cX7_buy 79 = .ok (.aload_n 0, 1) := by decide +kernel
theorem dX7_buy_80 : decode cX7_buy 80 = .ok (.iload 4, 2) := by decide +kernel
theorem dX7_buy_82 : decode cX7_buy 82 = .ok (.iconst 0, 1) := by decide +kernel
theorem dX7_buy_83 : decode cX7_buy 83 = .ok (.iload_n 1, 1) := by decide +kernel
theorem dX7_buy_84 : decode cX7_buy 84 = .ok (.invokevirtual 57, 3) := by decide +kernel
theorem dX7_buy_87 : decode cX7_buy 87 = .ok (.aload_n 0, 1) := by decide +kernel
theorem dX7_buy_88 : decode cX7_buy 88 = .ok (.getfield 7, 3) := by decide +kernel
theorem dX7_buy_91 : decode cX7_buy 91 = .ok (.bipush 121, 2) := by decide +kernel
theorem dX7_buy_93 : decode cX7_buy 93 = .ok (.iload 4, 2) := by decide +kernel
theorem dX7_buy_95 : decode cX7_buy 95 = .ok (.iadd, 1) := by decide +kernel
theorem dX7_buy_96 : decode cX7_buy 96 = .ok (.iconst 0, 1) := by decide +kernel
theorem dX7_buy_97 : decode cX7_buy 97 = .ok (.iastore, 1) := by decide +kernel
theorem dX7_buy_98 : decode cX7_buy 98 = .ok (.aload_n 0, 1) := by decide +kernel
theorem dX7_buy_99 : decode cX7_buy 99 = .ok (.getfield 7, 3) := by decide +kernel
theorem dX7_buy_102 : decode cX7_buy 102 = .ok (.sipush 181, 3) := by decide +kernel
theorem dX7_buy_105 : decode cX7_buy 105 = .ok (.iload 4, 2) := by decide +kernel
theorem dX7_buy_107 : decode cX7_buy 107 = .ok (.iadd, 1) := by decide +kernel
theorem dX7_buy_108 : decode cX7_buy 108 = .ok (.iconst 0, 1) := by decide +kernel
theorem dX7_buy_109 : decode cX7_buy 109 = .ok (.iastore, 1) := by decide +kernel
theorem dX7_buy_110 : decode cX7_buy 110 = .ok (.iinc 4 1, 3) := by decide +kernel
theorem dX7_buy_113 : decode cX7_buy 113 = .ok (.goto (-42), 3) := by decide +kernel
theorem dX7_buy_116 : decode cX7_buy 116 = .ok (.aload_n 0, 1) := by decide +kernel
theorem dX7_buy_117 : decode cX7_buy 117 = .ok (.getfield 7, 3) := by decide +kernel
theorem dX7_buy_120 : decode cX7_buy 120 = .ok (.iconst 0, 1) := by decide +kernel
theorem dX7_buy_121 : decode cX7_buy 121 = .ok (.dup2, 1) := by decide +kernel
theorem dX7_buy_122 : decode cX7_buy 122 = .ok (.iaload, 1) := by decide +kernel
theorem dX7_buy_123 : decode cX7_buy 123 = .ok (.iload_n 2, 1) := by decide +kernel
theorem dX7_buy_124 : decode cX7_buy 124 = .ok (.iadd, 1) := by decide +kernel
theorem dX7_buy_125 : decode cX7_buy 125 = .ok (.iastore, 1) := by decide +kernel
theorem dX7_buy_126 : decode cX7_buy 126 = .ok (.aload_n 0, 1) := by decide +kernel
theorem dX7_buy_127 : decode cX7_buy 127 = .ok (.iconst 5, 1) := by decide +kernel
theorem dX7_buy_128 : decode cX7_buy 128 = .ok (.iload_n 2, 1) := by decide +kernel
theorem dX7_buy_129 : decode cX7_buy 129 = .ok (.imul, 1) := by decide +kernel
theorem dX7_buy_130 : decode cX7_buy 130 = .ok (.invokevirtual 61, 3) := by decide +kernel
theorem dX7_buy_133 : decode cX7_buy 133 = .ok (.iload_n 3, 1) := by decide +kernel
theorem dX7_buy_134 : decode cX7_buy 134 = .ok (.ireturn, 1) := by decide +kernel
theorem dX7_set_0 : decode cX7_set 0 = .ok (.iload_n 1, 1) := by decide +kernel
theorem dX7_set_1 : decode cX7_set 1 = .ok (.iconst 0, 1) := by decide +kernel
theorem dX7_set_2 : decode cX7_set 2 = .ok (.bipush 8, 2) := by decide +kernel
theorem dX7_set_4 : decode cX7_set 4 = .ok (.invokestatic 22, 3) := by decide +kernel
theorem dX7_set_7 : decode cX7_set 7 = .ok (.ifCond .eq 33, 3) := by decide +kernel
theorem dX7_set_10 : decode cX7_set 10 = .ok (.iload_n 2, 1) := by decide +kernel
theorem dX7_set_11 : decode cX7_set 11 = .ok (.iload_n 1, 1) := by decide +kernel
theorem dX7_set_12 : decode cX7_set 12 = .ok (.bipush 8, 2) := by decide +kernel
theorem dX7_set_14 : decode cX7_set 14 = .ok (.if_icmp .ne 7, 3) := by decide +kernel
theorem dX7_set_17 : decode cX7_set 17 = .ok (.iconst 0, 1) := by decide +kernel
theorem dX7_set_18 : decode cX7_set 18 = .ok (.goto 4, 3) := by decide +kernel
theorem dX7_set_21 : decode cX7_set 21 = .ok (.iconst 1, 1) := by decide +kernel
theorem dX7_set_22 : decode cX7_set 22 = .ok (.iload_n 1, 1) := by decide +kernel
theorem dX7_set_23 : decode cX7_set 23 = .ok (.bipush 8, 2) := by decide +kernel
theorem dX7_set_25 : decode cX7_set 25 = .ok (.if_icmp .ne 7, 3) := by decide +kernel
theorem dX7_set_28 : decode cX7_set 28 = .ok (.iconst 5, 1) := by decide +kernel
theorem dX7_set_29 : decode cX7_set 29 = .ok (.goto 5, 3) := by decide +kernel
theorem dX7_set_32 : decode cX7_set 32 = .ok (.bipush 20, 2) := by decide +kernel
theorem dX7_set_34 : decode cX7_set 34 = .ok (.invokestatic 22, 3) := by decide +kernel
theorem dX7_set_37 : decode cX7_set 37 = .ok (.ifCond .ne 5, 3) := by decide +kernel
theorem dX7_set_40 : decode cX7_set 40 = .ok (.iconst (-1), 1) := by decide +kernel
theorem dX7_set_41 : decode cX7_set 41 = .ok (.ireturn, 1) := by decide +kernel
theorem dX7_set_42 : decode cX7_set 42 = .ok (.iload_n 1, 1) := by decide +kernel
theorem dX7_set_43 : decode cX7_set 43 = .ok (.bipush 8, 2) := by decide +kernel
theorem dX7_set_45 : decode cX7_set 45 = .ok (.if_icmp .ge 16, 3) := by decide +kernel
theorem dX7_set_48 : decode cX7_set 48 = .ok (.aload_n 0, 1) := by decide +kernel
theorem dX7_set_49 : decode cX7_set 49 = .ok (.iconst 0, 1) := by decide +kernel
theorem dX7_set_50 : decode cX7_set 50 = .ok (.iload_n 1, 1) := by decide +kernel
theorem dX7_set_51 : decode cX7_set 51 = .ok (.invokevirtual 37, 3) := by decide +kernel
theorem dX7_set_54 : decode cX7_set 54 = .ok (.iload_n 2, 1) := by decide +kernel
theorem dX7_set_55 : decode cX7_set 55 = .ok (.if_icmp .le 6, 3) := by decide +kernel
theorem dX7_set_58 : decode cX7_set 58 = .ok (.bipush (-2), 2) := by decide +kernel
theorem dX7_set_60 : decode cX7_set 60 = .ok (.ireturn, 1) := by decide +kernel
theorem dX7_set_61 : decode cX7_set 61 = .ok (.aload_n 0, 1) := by decide +kernel
theorem dX7_set_62 : decode cX7_set 62 = .ok (.invokevirtual 54, 3) := by decide +kernel
theorem dX7_set_65 : decode cX7_set 65 = .ok (.iload_n 1, 1) := by decide +kernel
theorem dX7_set_66 : decode cX7_set 66 = .ok (.bipush 8, 2) := by decide +kernel
theorem dX7_set_68 : decode cX7_set 68 = .ok (.if_icmp .ne 9, 3) := by decide +kernel
theorem dX7_set_71 : decode cX7_set 71 = .ok (.sipush 327, 3) := by decide +kernel
theorem dX7_set_74 : decode cX7_set 74 = .ok (.goto 8, 3) := by decide +kernel
theorem dX7_set_77 : decode cX7_set 77 = .ok (.sipush 241, 3) := by decide +kernel
theorem dX7_set_80 : decode cX7_set 80 = .ok (.iload_n 1, 1) := by decide +kernel
theorem dX7_set_81 : decode cX7_set 81 = .ok (.iadd, 1) := by decide +kernel
theorem dX7_set_82 : decode cX7_set 82 = .ok (.istore_n 3, 1) := by decide +kernel
theorem dX7_set_83 : decode cX7_set 83 = .ok (.aload_n 0, 1) := by decide +kernel
theorem dX7_set_84 : decode cX7_set 84 = .ok (.getfield 7, 3) := by decide +kernel
theorem dX7_set_87 : decode cX7_set 87 = .ok (.iload_n 3, 1) := by decide +kernel
theorem dX7_set_88 : decode cX7_set 88 = .ok (.iaload, 1) := by decide +kernel
theorem dX7_set_89 : decode cX7_set 89 = .ok (.istore 4, 2) := by decide +kernel
theorem dX7_set_91 : decode cX7_set 91 = .ok (.aload_n 0, 1) := by decide +kernel
theorem dX7_set_92 : decode cX7_set 92 = .ok (.getfield 7, 3) := by decide +kernel
theorem dX7_set_95 : decode cX7_set 95 = .ok (.iload_n 3, 1) := by decide +kernel
theorem dX7_set_96 : decode cX7_set 96 = .ok (.iload_n 2, 1) := by decide +kernel
theorem dX7_set_97 : decode cX7_set 97 = .ok (.iastore, 1) := by decide +kernel
theorem dX7_set_98 : decode cX7_set 98 = .ok (.iload 4, 2) := by decide +kernel
theorem dX7_set_100 : decode cX7_set 100 = .ok (.ireturn, 1) := by decide +kernel
theorem dX7_canBorrow_0 : decode cX7_canBorrow 0 = .ok (.aload_n 0, 1) := by decide +kernel
theorem dX7_canBorrow_1 : decode cX7_canBorrow 1 = .ok (.getfield 7, 3) := by decide +kernel
theorem dX7_canBorrow_4 : decode cX7_canBorrow 4 = .ok (.sipush 261, 3) := by decide +kernel
theorem dX7_canBorrow_7 : decode cX7_canBorrow 7 = .ok (.iload_n 1, 1) := by decide +kernel
theorem dX7_canBorrow_8 : decode cX7_canBorrow 8 = .ok (.iadd, 1) := by decide +kernel
theorem dX7_canBorrow_9 : decode cX7_canBorrow 9 = .ok (.iaload, 1) := by decide +kernel
theorem dX7_canBorrow_10 : decode cX7_canBorrow 10 = .ok (.ifCond .ge 22, 3) := by decide +kernel
theorem dX7_canBorrow_13 : decode cX7_canBorrow 13 = .ok (.aload_n 0, 1) := by decide +kernel
theorem dX7_canBorrow_14 : decode cX7_canBorrow 14 = .ok (.getfield 7, 3) := by decide +kernel
theorem dX7_canBorrow_17 : decode cX7_canBorrow 17 = .ok (.sipush 249, 3) := by decide +kernel
theorem dX7_canBorrow_20 : decode cX7_canBorrow 20 = .ok (.iload_n 1, 1) := by decide +kernel
theorem dX7_canBorrow_21 : decode cX7_canBorrow 21 = .ok (.iadd, 1) := by decide +kernel
theorem dX7_canBorrow_22 : decode cX7_canBorrow 22 = .ok (.iaload, 1) := by decide +kernel
theorem dX7_canBorrow_23 : decode cX7_canBorrow 23 = .ok (.bipush 10, 2) := by decide +kernel
theorem dX7_canBorrow_25 : decode cX7_canBorrow 25 = .ok (.if_icmp .lt 7, 3) := by decide +kernel
theorem dX7_canBorrow_28 : decode cX7_canBorrow 28 = .ok (.iconst 1, 1) := by decide +kernel
theorem dX7_canBorrow_29 : decode cX7_canBorrow 29 = .ok (.goto 4, 3) := by decide +kernel
theorem dX7_canBorrow_32 : decode cX7_canBorrow 32 = .ok (.iconst 0, 1) := by decide +kernel
theorem dX7_canBorrow_33 : decode cX7_canBorrow 33 = .ok (.ireturn, 1) := by decide +kernel
theorem dX7_whyBorrow_0 : decode cX7_whyBorrow 0 = .ok (.iload_n 1, 1) := by decide +kernel
theorem dX7_whyBorrow_1 : decode cX7_whyBorrow 1 = .ok (.invokestatic 65, 3) := by decide +kernel
theorem dX7_whyBorrow_4 : decode cX7_whyBorrow 4 = .ok (.ifCond .eq 10, 3) := by decide +kernel
theorem dX7_whyBorrow_7 : decode cX7_whyBorrow 7 = .ok (.iload_n 2, 1) := by decide +kernel
theorem dX7_whyBorrow_8 : decode cX7_whyBorrow 8 = .ok (.invokestatic 45, 3) := by decide +kernel
theorem dX7_whyBorrow_11 : decode cX7_whyBorrow 11 = .ok (.ifCond .ne 5, 3) := by decide +kernel
theorem dX7_whyBorrow_14 : decode cX7_whyBorrow 14 = .ok (.iconst (-1), 1) := by decide +kernel
theorem dX7_whyBorrow_15 : decode cX7_whyBorrow 15 = .ok (.ireturn, 1) := by decide +kernel
theorem dX7_whyBorrow_16 : decode cX7_whyBorrow 16 = .ok (.aload_n 0, 1) := by decide +kernel
theorem dX7_whyBorrow_17 : decode cX7_whyBorrow 17 = .ok (.iload_n 1, 1) := by decide +kernel
theorem dX7_whyBorrow_18 : decode cX7_whyBorrow 18 = .ok (.invokevirtual 68, 3) := by decide +kernel
theorem dX7_whyBorrow_21 : decode cX7_whyBorrow 21 = .ok (.ifCond .eq 11, 3) := by decide +kernel
theorem dX7_whyBorrow_24 : decode cX7_whyBorrow 24 = .ok (.aload_n 0, 1) := by decide +kernel
theorem dX7_whyBorrow_25 : decode cX7_whyBorrow 25 = .ok (.iload_n 2, 1) := by decide +kernel
theorem dX7_whyBorrow_26 : decode cX7_whyBorrow 26 = .ok (.invokevirtual 71, 3) := by decide +kernel
theorem dX7_whyBorrow_29 : decode cX7_whyBorrow 29 = .ok (.ifCond .ge 8, 3) := by decide +kernel
theorem dX7_whyBorrow_32 : decode cX7_whyBorrow 32 = .ok (.bipush (-2), 2) := by decide +kernel
theorem dX7_whyBorrow_34 : decode cX7_whyBorrow 34 = .ok (.goto 4, 3) := by decide +kernel
theorem dX7_whyBorrow_37 : decode cX7_whyBorrow 37 = .ok (.iconst 0, 1) := by decide +kernel
theorem dX7_whyBorrow_38 : decode cX7_whyBorrow 38 = .ok (.ireturn, 1) := by decide +kernel
theorem dX7_borrows_0 : decode cX7_borrows 0 = .ok (.aload_n 0, 1) := by decide +kernel
theorem dX7_borrows_1 : decode cX7_borrows 1 = .ok (.iload_n 2, 1) := by decide +kernel
theorem dX7_borrows_2 : decode cX7_borrows 2 = .ok (.invokevirtual 71, 3) := by decide +kernel
theorem dX7_borrows_5 : decode cX7_borrows 5 = .ok (.istore_n 3, 1) := by decide +kernel
theorem dX7_borrows_6 : decode cX7_borrows 6 = .ok (.aload_n 0, 1) := by decide +kernel
theorem dX7_borrows_7 : decode cX7_borrows 7 = .ok (.iload_n 3, 1) := by decide +kernel
theorem dX7_borrows_8 : decode cX7_borrows 8 = .ok (.iconst 1, 1) := by decide +kernel
theorem dX7_borrows_9 : decode cX7_borrows 9 = .ok (.iload_n 1, 1) := by decide +kernel
theorem dX7_borrows_10 : decode cX7_borrows 10 = .ok (.invokevirtual 57, 3) := by decide +kernel
theorem dX7_borrows_13 : decode cX7_borrows 13 = .ok (.aload_n 0, 1) := by decide +kernel
theorem dX7_borrows_14 : decode cX7_borrows 14 = .ok (.getfield 7, 3) := by decide +kernel
theorem dX7_borrows_17 : decode cX7_borrows 17 = .ok (.sipush 181, 3) := by decide +kernel
theorem dX7_borrows_20 : decode cX7_borrows 20 = .ok (.iload_n 3, 1) := by decide +kernel
theorem dX7_borrows_21 : decode cX7_borrows 21 = .ok (.iadd, 1) := by decide +kernel
theorem dX7_borrows_22 : decode cX7_borrows 22 = .ok (.dup2, 1) := by decide +kernel
theorem dX7_borrows_23 : decode cX7_borrows 23 = .ok (.iaload, 1) := by decide +kernel
theorem dX7_borrows_24 : decode cX7_borrows 24 = .ok (.iconst 1, 1) := by decide +kernel
theorem dX7_borrows_25 : decode cX7_borrows 25 = .ok (.iadd, 1) := by decide +kernel
theorem dX7_borrows_26 : decode cX7_borrows 26 = .ok (.iastore, 1) := by decide +kernel
theorem dX7_borrows_27 : decode cX7_borrows 27 = .ok (.aload_n 0, 1) := by decide +kernel
theorem dX7_borrows_28 : decode cX7_borrows 28 = .ok (.getfield 7, 3) := by decide +kernel
theorem dX7_borrows_31 : decode cX7_borrows 31 = .ok (.sipush 261, 3) := by decide +kernel
theorem dX7_borrows_34 : decode cX7_borrows 34 = .ok (.iload_n 1, 1) := by decide +kernel
theorem dX7_borrows_35 : decode cX7_borrows 35 = .ok (.iadd, 1) := by decide +kernel
theorem dX7_borrows_36 : decode cX7_borrows 36 = .ok (.iload_n 3, 1) := by decide +kernel
theorem dX7_borrows_37 : decode cX7_borrows 37 = .ok (.iastore, 1) := by decide +kernel
theorem dX7_borrows_38 : decode cX7_borrows 38 = .ok (.aload_n 0, 1) := by decide +kernel
theorem dX7_borrows_39 : decode cX7_borrows 39 = .ok (.getfield 7, 3) := by decide +kernel
theorem dX7_borrows_42 : decode cX7_borrows 42 = .ok (.sipush 249, 3) := by decide +kernel
theorem dX7_borrows_45 : decode cX7_borrows 45 = .ok (.iload_n 1, 1) := by decide +kernel
theorem dX7_borrows_46 : decode cX7_borrows 46 = .ok (.iadd, 1) := by decide +kernel
theorem dX7_borrows_47 : decode cX7_borrows 47 = .ok (.dup2, 1) := by decide +kernel
theorem dX7_borrows_48 : decode cX7_borrows 48 = .ok (.iaload, 1) := by decide +kernel
theorem dX7_borrows_49 : decode cX7_borrows 49 = .ok (.bipush 10, 2) := by decide +kernel
theorem dX7_borrows_51 : decode cX7_borrows 51 = .ok (.isub, 1) := by decide +kernel
theorem dX7_borrows_52 : decode cX7_borrows 52 = .ok (.iastore, 1) := by decide +kernel
theorem dX7_borrows_53 : decode cX7_borrows 53 = .ok (.aload_n 0, 1) := by decide +kernel
theorem dX7_borrows_54 : decode cX7_borrows 54 = .ok (.getfield 7, 3) := by decide +kernel
theorem dX7_borrows_57 : decode cX7_borrows 57 = .ok (.sipush 321, 3) := by decide +kernel
theorem dX7_borrows_60 : decode cX7_borrows 60 = .ok (.dup2, 1) := by decide +kernel
theorem dX7_borrows_61 : decode cX7_borrows 61 = .ok (.iaload, 1) := by decide +kernel
theorem dX7_borrows_62 : decode cX7_borrows 62 = .ok (.bipush 10, 2) := by decide +kernel
theorem dX7_borrows_64 : decode cX7_borrows 64 = .ok (.iadd, 1) := by decide +kernel
theorem dX7_borrows_65 : decode cX7_borrows 65 = .ok (.iastore, 1) := by decide +kernel
theorem dX7_borrows_66 : decode cX7_borrows 66 = .ok (.aload_n 0, 1) := by decide +kernel
theorem dX7_borrows_67 : decode cX7_borrows 67 = .ok (.getfield 7, 3) := by decide +kernel
theorem dX7_borrows_70 : decode cX7_borrows 70 = .ok (.sipush 273, 3) := by decide +kernel
theorem dX7_borrows_73 : decode cX7_borrows 73 = .ok (.iload_n 1, 1) := by decide +kernel
theorem dX7_borrows_74 : decode cX7_borrows 74 = .ok (.iadd, 1) := by decide +kernel
theorem dX7_borrows_75 : decode cX7_borrows 75 = .ok (.iconst 0, 1) := by decide +kernel
theorem dX7_borrows_76 : decode cX7_borrows 76 = .ok (.iastore, 1) := by decide +kernel
theorem dX7_borrows_77 : decode cX7_borrows 77 = .ok (.aload_n 0, 1) := by decide +kernel
theorem dX7_borrows_78 : decode cX7_borrows 78 = .ok (.getfield 7, 3) := by decide +kernel
theorem dX7_borrows_81 : decode cX7_borrows 81 = .ok (.sipush 285, 3) := by decide +kernel
theorem dX7_borrows_84 : decode cX7_borrows 84 = .ok (.iload_n 1, 1) := by decide +kernel
theorem dX7_borrows_85 : decode cX7_borrows 85 = .ok (.iadd, 1) := by decide +kernel
theorem dX7_borrows_86 : decode cX7_borrows 86 = .ok (.iconst 0, 1) := by decide +kernel
theorem dX7_borrows_87 : decode cX7_borrows 87 = .ok (.iastore, 1) := by decide +kernel
theorem dX7_borrows_88 : decode cX7_borrows 88 = .ok (.aload_n 0, 1) := by decide +kernel
theorem dX7_borrows_89 : decode cX7_borrows 89 = .ok (.getfield 7, 3) := by decide +kernel
theorem dX7_borrows_92 : decode cX7_borrows 92 = .ok (.sipush 325, 3) := by decide +kernel
theorem dX7_borrows_95 : decode cX7_borrows 95 = .ok (.dup2, 1) := by decide +kernel
theorem dX7_borrows_96 : decode cX7_borrows 96 = .ok (.iaload, 1) := by decide +kernel
theorem dX7_borrows_97 : decode cX7_borrows 97 = .ok (.iconst 1, 1) := by decide +kernel
theorem dX7_borrows_98 : decode cX7_borrows 98 = .ok (.iadd, 1) := by decide +kernel
theorem dX7_borrows_99 : decode cX7_borrows 99 = .ok (.iastore, 1) := by decide +kernel
theorem dX7_borrows_100 : decode cX7_borrows 100 = .ok (.iload_n 3, 1) := by decide +kernel
theorem dX7_borrows_101 : decode cX7_borrows 101 = .ok (.ireturn, 1) := by decide +kernel
theorem dX7_borrow_0 : decode cX7_borrow 0 = .ok (.aload_n 0, 1) := by decide +kernel
theorem dX7_borrow_1 : decode cX7_borrow 1 = .ok (.iload_n 1, 1) := by decide +kernel
theorem dX7_borrow_2 : decode cX7_borrow 2 = .ok (.iload_n 2, 1) := by decide +kernel
theorem dX7_borrow_3 : decode cX7_borrow 3 = .ok (.invokevirtual 74, 3) := by decide +kernel
theorem dX7_borrow_6 : decode cX7_borrow 6 = .ok (.istore_n 3, 1) := by decide +kernel
theorem dX7_borrow_7 : decode cX7_borrow 7 = .ok (.iload_n 3, 1) := by decide +kernel
theorem dX7_borrow_8 : decode cX7_borrow 8 = .ok (.ifCond .ge 5, 3) := by decide +kernel
theorem dX7_borrow_11 : decode cX7_borrow 11 = .ok (.iload_n 3, 1) := by decide +kernel
theorem dX7_borrow_12 : decode cX7_borrow 12 = .ok (.ireturn, 1) := by decide +kernel
theorem dX7_borrow_13 : decode cX7_borrow 13 = .ok (.aload_n 0, 1) := by decide +kernel
theorem dX7_borrow_14 : decode cX7_borrow 14 = .ok (.invokevirtual 54, 3) := by decide +kernel
theorem dX7_borrow_17 : decode cX7_borrow 17 = .ok (.aload_n 0, 1) := by decide +kernel
theorem dX7_borrow_18 : decode cX7_borrow 18 = .ok (.iload_n 1, 1) := by decide +kernel
theorem dX7_borrow_19 : decode cX7_borrow 19 = .ok (.iload_n 2, 1) := by decide +kernel
theorem dX7_borrow_20 : decode cX7_borrow 20 = .ok (.invokevirtual 77, 3) := by decide +kernel
theorem dX7_borrow_23 : decode cX7_borrow 23 = .ok (.ireturn, 1) := by decide +kernel
theorem dX7_fee_0 : decode cX7_fee 0 = .ok (.aload_n 0, 1) := by decide +kernel
theorem dX7_fee_1 : decode cX7_fee 1 = .ok (.getfield 7, 3) := by decide +kernel
theorem dX7_fee_4 : decode cX7_fee 4 = .ok (.sipush 327, 3) := by decide +kernel
theorem dX7_fee_7 : decode cX7_fee 7 = .ok (.iaload, 1) := by decide +kernel
theorem dX7_fee_8 : decode cX7_fee 8 = .ok (.iload_n 1, 1) := by decide +kernel
theorem dX7_fee_9 : decode cX7_fee 9 = .ok (.imul, 1) := by decide +kernel
theorem dX7_fee_10 : decode cX7_fee 10 = .ok (.iload_n 2, 1) := by decide +kernel
theorem dX7_fee_11 : decode cX7_fee 11 = .ok (.ifCond .eq 7, 3) := by decide +kernel
theorem dX7_fee_14 : decode cX7_fee 14 = .ok (.iconst 4, 1) := by decide +kernel
theorem dX7_fee_15 : decode cX7_fee 15 = .ok (.goto 4, 3) := by decide +kernel
theorem dX7_fee_18 : decode cX7_fee 18 = .ok (.iconst 0, 1) := by decide +kernel
theorem dX7_fee_19 : decode cX7_fee 19 = .ok (.iadd, 1) := by decide +kernel
theorem dX7_fee_20 : decode cX7_fee 20 = .ok (.istore_n 3, 1) := by decide +kernel
theorem dX7_fee_21 : decode cX7_fee 21 = .ok (.iload_n 3, 1) := by decide +kernel
theorem dX7_fee_22 : decode cX7_fee 22 = .ok (.bipush 10, 2) := by decide +kernel
theorem dX7_fee_24 : decode cX7_fee 24 = .ok (.if_icmp .le 8, 3) := by decide +kernel
theorem dX7_fee_27 : decode cX7_fee 27 = .ok (.bipush 10, 2) := by decide +kernel
theorem dX7_fee_29 : decode cX7_fee 29 = .ok (.goto 4, 3) := by decide +kernel
theorem dX7_fee_32 : decode cX7_fee 32 = .ok (.iload_n 3, 1) := by decide +kernel
theorem dX7_fee_33 : decode cX7_fee 33 = .ok (.ireturn, 1) := by decide +kernel
theorem dX7_whyBring_0 : decode cX7_whyBring 0 = .ok (.iload_n 1, 1) := by decide +kernel
theorem dX7_whyBring_1 : decode cX7_whyBring 1 = .ok (.invokestatic 65, 3) := by decide +kernel
theorem dX7_whyBring_4 : decode cX7_whyBring 4 = .ok (.ifCond .eq 10, 3) := by decide +kernel
theorem dX7_whyBring_7 : decode cX7_whyBring 7 = .ok (.iload_n 2, 1) := by decide +kernel
theorem dX7_whyBring_8 : decode cX7_whyBring 8 = .ok (.invokestatic 45, 3) := by decide +kernel
theorem dX7_whyBring_11 : decode cX7_whyBring 11 = .ok (.ifCond .ne 5, 3) := by decide +kernel
theorem dX7_whyBring_14 : decode cX7_whyBring 14 = .ok (.iconst (-1), 1) := by decide +kernel
theorem dX7_whyBring_15 : decode cX7_whyBring 15 = .ok (.ireturn, 1) := by decide +kernel
theorem dX7_whyBring_16 : decode cX7_whyBring 16 = .ok (.aload_n 0, 1) := by decide +kernel
theorem dX7_whyBring_17 : decode cX7_whyBring 17 = .ok (.getfield 7, 3) := by decide +kernel
theorem dX7_whyBring_20 : decode cX7_whyBring 20 = .ok (.sipush 261, 3) := by decide +kernel
theorem dX7_whyBring_23 : decode cX7_whyBring 23 = .ok (.iload_n 1, 1) := by decide +kernel
theorem dX7_whyBring_24 : decode cX7_whyBring 24 = .ok (.iadd, 1) := by decide +kernel
theorem dX7_whyBring_25 : decode cX7_whyBring 25 = .ok (.iaload, 1) := by decide +kernel
theorem dX7_whyBring_26 : decode cX7_whyBring 26 = .ok (.ifCond .ge 8, 3) := by decide +kernel
theorem dX7_whyBring_29 : decode cX7_whyBring 29 = .ok (.bipush (-2), 2) := by decide +kernel
theorem dX7_whyBring_31 : decode cX7_whyBring 31 = .ok (.goto 17, 3) := by decide +kernel
theorem dX7_whyBring_34 : decode cX7_whyBring 34 = .ok (.aload_n 0, 1) := by decide +kernel
theorem dX7_whyBring_35 : decode cX7_whyBring 35 = .ok (.iload_n 2, 1) := by decide +kernel
theorem dX7_whyBring_36 : decode cX7_whyBring 36 = .ok (.invokevirtual 51, 3) := by decide +kernel
theorem dX7_whyBring_39 : decode cX7_whyBring 39 = .ok (.ifCond .gt 8, 3) := by decide +kernel
theorem dX7_whyBring_42 : decode cX7_whyBring 42 = .ok (.bipush (-3), 2) := by decide +kernel
theorem dX7_whyBring_44 : decode cX7_whyBring 44 = .ok (.goto 4, 3) := by decide +kernel
theorem dX7_whyBring_47 : decode cX7_whyBring 47 = .ok (.iconst 0, 1) := by decide +kernel
theorem dX7_whyBring_48 : decode cX7_whyBring 48 = .ok (.ireturn, 1) := by decide +kernel
theorem dX7_brings_0 : decode cX7_brings 0 = .ok (.aload_n 0, 1) := by decide +kernel
theorem dX7_brings_1 : decode cX7_brings 1 = .ok (.aload_n 0, 1) := by decide +kernel
theorem dX7_brings_2 : decode cX7_brings 2 = .ok (.getfield 7, 3) := by decide +kernel
theorem dX7_brings_5 : decode cX7_brings 5 = .ok (.sipush 273, 3) := by decide +kernel
theorem dX7_brings_8 : decode cX7_brings 8 = .ok (.iload_n 1, 1) := by decide +kernel
theorem dX7_brings_9 : decode cX7_brings 9 = .ok (.iadd, 1) := by decide +kernel
theorem dX7_brings_10 : decode cX7_brings 10 = .ok (.iaload, 1) := by decide +kernel
theorem dX7_brings_11 : decode cX7_brings 11 = .ok (.aload_n 0, 1) := by decide +kernel
theorem dX7_brings_12 : decode cX7_brings 12 = .ok (.getfield 7, 3) := by decide +kernel
theorem dX7_brings_15 : decode cX7_brings 15 = .ok (.sipush 285, 3) := by decide +kernel
theorem dX7_brings_18 : decode cX7_brings 18 = .ok (.iload_n 1, 1) := by decide +kernel
theorem dX7_brings_19 : decode cX7_brings 19 = .ok (.iadd, 1) := by decide +kernel
theorem dX7_brings_20 : decode cX7_brings 20 = .ok (.iaload, 1) := by decide +kernel
theorem dX7_brings_21 : decode cX7_brings 21 = .ok (.iconst 1, 1) := by decide +kernel
theorem dX7_brings_22 : decode cX7_brings 22 = .ok (.if_icmp .ne 7, 3) := by decide +kernel
theorem dX7_brings_25 : decode cX7_brings 25 = .ok (.iconst 1, 1) := by decide +kernel
theorem dX7_brings_26 : decode cX7_brings 26 = .ok (.goto 4, 3) := by decide +kernel
theorem dX7_brings_29 : decode cX7_brings 29 = .ok (.iconst 0, 1) := by decide +kernel
theorem dX7_brings_30 : decode cX7_brings 30 = .ok (.invokevirtual 80, 3) := by decide +kernel
theorem dX7_brings_33 : decode cX7_brings 33 = .ok (.istore_n 3, 1) := by decide +kernel
theorem dX7_brings_34 : decode cX7_brings 34 = .ok (.aload_n 0, 1) := by decide +kernel
theorem dX7_brings_35 : decode cX7_brings 35 = .ok (.aload_n 0, 1) := by decide +kernel
theorem dX7_brings_36 : decode cX7_brings 36 = .ok (.getfield 7, 3) := by decide +kernel
theorem dX7_brings_39 : decode cX7_brings 39 = .ok (.sipush 261, 3) := by decide +kernel
theorem dX7_brings_42 : decode cX7_brings 42 = .ok (.iload_n 1, 1) := by decide +kernel
theorem dX7_brings_43 : decode cX7_brings 43 = .ok (.iadd, 1) := by decide +kernel
theorem dX7_brings_44 : decode cX7_brings 44 = .ok (.iaload, 1) := by decide +kernel
theorem dX7_brings_45 : decode cX7_brings 45 = .ok (.iconst 0, 1) := by decide +kernel
theorem dX7_brings_46 : decode cX7_brings 46 = .ok (.iload_n 2, 1) := by decide +kernel
theorem dX7_brings_47 : decode cX7_brings 47 = .ok (.invokevirtual 57, 3) := by decide +kernel
theorem dX7_brings_50 : decode cX7_brings 50 = .ok (.aload_n 0, 1) := by decide +kernel
theorem dX7_brings_51 : decode cX7_brings 51 = .ok (.getfield 7, 3) := by decide +kernel
theorem dX7_brings_54 : decode cX7_brings 54 = .ok (.sipush 261, 3) := by decide +kernel
theorem dX7_brings_57 : decode cX7_brings 57 = .ok (.iload_n 1, 1) := by decide +kernel
theorem dX7_brings_58 : decode cX7_brings 58 = .ok (.iadd, 1) := by decide +kernel
theorem dX7_brings_59 : decode cX7_brings 59 = .ok (.iconst (-1), 1) := by decide +kernel
theorem dX7_brings_60 : decode cX7_brings 60 = .ok (.iastore, 1) := by decide +kernel
theorem dX7_brings_61 : decode cX7_brings 61 = .ok (.aload_n 0, 1) := by decide +kernel
theorem dX7_brings_62 : decode cX7_brings 62 = .ok (.getfield 7, 3) := by decide +kernel
theorem dX7_brings_65 : decode cX7_brings 65 = .ok (.sipush 273, 3) := by decide +kernel
theorem dX7_brings_68 : decode cX7_brings 68 = .ok (.iload_n 1, 1) := by decide +kernel
theorem dX7_brings_69 : decode cX7_brings 69 = .ok (.iadd, 1) := by decide +kernel
theorem dX7_brings_70 : decode cX7_brings 70 = .ok (.iconst 0, 1) := by decide +kernel
theorem dX7_brings_71 : decode cX7_brings 71 = .ok (.iastore, 1) := by decide +kernel
theorem dX7_brings_72 : decode cX7_brings 72 = .ok (.aload_n 0, 1) := by decide +kernel
theorem dX7_brings_73 : decode cX7_brings 73 = .ok (.getfield 7, 3) := by decide +kernel
theorem dX7_brings_76 : decode cX7_brings 76 = .ok (.sipush 285, 3) := by decide +kernel
theorem dX7_brings_79 : decode cX7_brings 79 = .ok (.iload_n 1, 1) := by decide +kernel
theorem dX7_brings_80 : decode cX7_brings 80 = .ok (.iadd, 1) := by decide +kernel
theorem dX7_brings_81 : decode cX7_brings 81 = .ok (.iconst 0, 1) := by decide +kernel
theorem dX7_brings_82 : decode cX7_brings 82 = .ok (.iastore, 1) := by decide +kernel
theorem dX7_brings_83 : decode cX7_brings 83 = .ok (.aload_n 0, 1) := by decide +kernel
theorem dX7_brings_84 : decode cX7_brings 84 = .ok (.getfield 7, 3) := by decide +kernel
theorem dX7_brings_87 : decode cX7_brings 87 = .ok (.sipush 297, 3) := by decide +kernel
theorem dX7_brings_90 : decode cX7_brings 90 = .ok (.iload_n 1, 1) := by decide +kernel
theorem dX7_brings_91 : decode cX7_brings 91 = .ok (.iadd, 1) := by decide +kernel
theorem dX7_brings_92 : decode cX7_brings 92 = .ok (.iload_n 2, 1) := by decide +kernel
theorem dX7_brings_93 : decode cX7_brings 93 = .ok (.iastore, 1) := by decide +kernel
theorem dX7_brings_94 : decode cX7_brings 94 = .ok (.aload_n 0, 1) := by decide +kernel
theorem dX7_brings_95 : decode cX7_brings 95 = .ok (.getfield 7, 3) := by decide +kernel
theorem dX7_brings_98 : decode cX7_brings 98 = .ok (.sipush 249, 3) := by decide +kernel
theorem dX7_brings_101 : decode cX7_brings 101 = .ok (.iload_n 1, 1) := by decide +kernel
theorem dX7_brings_102 : decode cX7_brings 102 = .ok (.iadd, 1) := by decide +kernel
theorem dX7_brings_103 : decode cX7_brings 103 = .ok (.dup2, 1) := by decide +kernel
theorem dX7_brings_104 : decode cX7_brings 104 = .ok (.iaload, 1) := by decide +kernel
theorem dX7_brings_105 : decode cX7_brings 105 = .ok (.bipush 10, 2) := by decide +kernel
theorem dX7_brings_107 : decode cX7_brings 107 = .ok (.iload_n 3, 1) := by decide +kernel
theorem dX7_brings_108 : decode cX7_brings 108 = .ok (.isub, 1) := by decide +kernel
theorem dX7_brings_109 : decode cX7_brings 109 = .ok (.iadd, 1) := by decide +kernel
theorem dX7_brings_110 : decode cX7_brings 110 = .ok (.iastore, 1) := by decide +kernel
theorem dX7_brings_111 : decode cX7_brings 111 = .ok (.aload_n 0, 1) := by decide +kernel
theorem dX7_brings_112 : decode cX7_brings 112 = .ok (.getfield 7, 3) := by decide +kernel
theorem dX7_brings_115 : decode cX7_brings 115 = .ok (.sipush 321, 3) := by decide +kernel
theorem dX7_brings_118 : decode cX7_brings 118 = .ok (.dup2, 1) := by decide +kernel
theorem dX7_brings_119 : decode cX7_brings 119 = .ok (.iaload, 1) := by decide +kernel
theorem dX7_brings_120 : decode cX7_brings 120 = .ok (.bipush 10, 2) := by decide +kernel
theorem dX7_brings_122 : decode cX7_brings 122 = .ok (.iload_n 3, 1) := by decide +kernel
theorem dX7_brings_123 : decode cX7_brings 123 = .ok (.isub, 1) := by decide +kernel
theorem dX7_brings_124 : decode cX7_brings 124 = .ok (.isub, 1) := by decide +kernel
theorem dX7_brings_125 : decode cX7_brings 125 = .ok (.iastore, 1) := by decide +kernel
theorem dX7_brings_126 : decode cX7_brings 126 = .ok (.aload_n 0, 1) := by decide +kernel
theorem dX7_brings_127 : decode cX7_brings 127 = .ok (.getfield 7, 3) := by decide +kernel
theorem dX7_brings_130 : decode cX7_brings 130 = .ok (.sipush 309, 3) := by decide +kernel
theorem dX7_brings_133 : decode cX7_brings 133 = .ok (.iload_n 1, 1) := by decide +kernel
theorem dX7_brings_134 : decode cX7_brings 134 = .ok (.iadd, 1) := by decide +kernel
theorem dX7_brings_135 : decode cX7_brings 135 = .ok (.dup2, 1) := by decide +kernel
theorem dX7_brings_136 : decode cX7_brings 136 = .ok (.iaload, 1) := by decide +kernel
theorem dX7_brings_137 : decode cX7_brings 137 = .ok (.iload_n 3, 1) := by decide +kernel
theorem dX7_brings_138 : decode cX7_brings 138 = .ok (.iadd, 1) := by decide +kernel
theorem dX7_brings_139 : decode cX7_brings 139 = .ok (.iastore, 1) := by decide +kernel
theorem dX7_brings_140 : decode cX7_brings 140 = .ok (.aload_n 0, 1) := by decide +kernel
theorem dX7_brings_141 : decode cX7_brings 141 = .ok (.getfield 7, 3) := by decide +kernel
theorem dX7_brings_144 : decode cX7_brings 144 = .ok (.sipush 324, 3) := by decide +kernel
theorem dX7_brings_147 : decode cX7_brings 147 = .ok (.dup2, 1) := by decide +kernel
theorem dX7_brings_148 : decode cX7_brings 148 = .ok (.iaload, 1) := by decide +kernel
theorem dX7_brings_149 : decode cX7_brings 149 = .ok (.iload_n 3, 1) := by decide +kernel
theorem dX7_brings_150 : decode cX7_brings 150 = .ok (.iadd, 1) := by decide +kernel
theorem dX7_brings_151 : decode cX7_brings 151 = .ok (.iastore, 1) := by decide +kernel
theorem dX7_brings_152 : decode cX7_brings 152 = .ok (.iload_n 3, 1) := by decide +kernel
theorem dX7_brings_153 : decode cX7_brings 153 = .ok (.ireturn, 1) := by decide +kernel
theorem dX7_bringBack_0 : decode cX7_bringBack 0 = .ok (.aload_n 0, 1) := by decide +kernel
theorem dX7_bringBack_1 : decode cX7_bringBack 1 = .ok (.iload_n 1, 1) := by decide +kernel
theorem dX7_bringBack_2 : decode cX7_bringBack 2 = .ok (.iload_n 2, 1) := by decide +kernel
theorem dX7_bringBack_3 : decode cX7_bringBack 3 = .ok (.invokevirtual 84, 3) := by decide +kernel
theorem dX7_bringBack_6 : decode cX7_bringBack 6 = .ok (.istore_n 3, 1) := by decide +kernel
theorem dX7_bringBack_7 : decode cX7_bringBack 7 = .ok (.iload_n 3, 1) := by decide +kernel
theorem dX7_bringBack_8 : decode cX7_bringBack 8 = .ok (.ifCond .ge 5, 3) := by decide +kernel
theorem dX7_bringBack_11 : decode cX7_bringBack 11 = .ok (.iload_n 3, 1) := by decide +kernel
theorem dX7_bringBack_12 : decode cX7_bringBack 12 = .ok (.ireturn, 1) := by decide +kernel
theorem dX7_bringBack_13 : decode cX7_bringBack 13 = .ok (.aload_n 0, 1) := by decide +kernel
theorem dX7_bringBack_14 : decode cX7_bringBack 14 = .ok (.invokevirtual 54, 3) := by decide +kernel
theorem dX7_bringBack_17 : decode cX7_bringBack 17 = .ok (.aload_n 0, 1) := by decide +kernel
theorem dX7_bringBack_18 : decode cX7_bringBack 18 = .ok (.iload_n 1, 1) := by decide +kernel
theorem dX7_bringBack_19 : decode cX7_bringBack 19 = .ok (.iload_n 2, 1) := by decide +kernel
theorem dX7_bringBack_20 : decode cX7_bringBack 20 = .ok (.invokevirtual 87, 3) := by decide +kernel
theorem dX7_bringBack_23 : decode cX7_bringBack 23 = .ok (.ireturn, 1) := by decide +kernel
theorem dX7_worn_0 : decode cX7_worn 0 = .ok (.iload_n 0, 1) := by decide +kernel
theorem dX7_worn_1 : decode cX7_worn 1 = .ok (.iload_n 0, 1) := by decide +kernel
theorem dX7_worn_2 : decode cX7_worn 2 = .ok (.bipush 16, 2) := by decide +kernel
theorem dX7_worn_4 : decode cX7_worn 4 = .ok (.if_icmp .ge 7, 3) := by decide +kernel
theorem dX7_worn_7 : decode cX7_worn 7 = .ok (.iconst 1, 1) := by decide +kernel
theorem dX7_worn_8 : decode cX7_worn 8 = .ok (.goto 4, 3) := by decide +kernel
theorem dX7_worn_11 : decode cX7_worn 11 = .ok (.iconst 2, 1) := by decide +kernel
theorem dX7_worn_12 : decode cX7_worn 12 = .ok (.iload_n 1, 1) := by decide +kernel
theorem dX7_worn_13 : decode cX7_worn 13 = .ok (.imul, 1) := by decide +kernel
theorem dX7_worn_14 : decode cX7_worn 14 = .ok (.iadd, 1) := by decide +kernel
theorem dX7_worn_15 : decode cX7_worn 15 = .ok (.iconst 2, 1) := by decide +kernel
theorem dX7_worn_16 : decode cX7_worn 16 = .ok (.iload_n 2, 1) := by decide +kernel
theorem dX7_worn_17 : decode cX7_worn 17 = .ok (.imul, 1) := by decide +kernel
theorem dX7_worn_18 : decode cX7_worn 18 = .ok (.iadd, 1) := by decide +kernel
theorem dX7_worn_19 : decode cX7_worn 19 = .ok (.istore_n 3, 1) := by decide +kernel
theorem dX7_worn_20 : decode cX7_worn 20 = .ok (.iload_n 3, 1) := by decide +kernel
theorem dX7_worn_21 : decode cX7_worn 21 = .ok (.bipush 64, 2) := by decide +kernel
theorem dX7_worn_23 : decode cX7_worn 23 = .ok (.if_icmp .le 8, 3) := by decide +kernel
theorem dX7_worn_26 : decode cX7_worn 26 = .ok (.bipush 64, 2) := by decide +kernel
theorem dX7_worn_28 : decode cX7_worn 28 = .ok (.goto 4, 3) := by decide +kernel
theorem dX7_worn_31 : decode cX7_worn 31 = .ok (.iload_n 3, 1) := by decide +kernel
theorem dX7_worn_32 : decode cX7_worn 32 = .ok (.ireturn, 1) := by decide +kernel
theorem dX7_passes_0 : decode cX7_passes 0 = .ok (.iconst 0, 1) := by decide +kernel
theorem dX7_passes_1 : decode cX7_passes 1 = .ok (.istore_n 3, 1) := by decide +kernel
theorem dX7_passes_2 : decode cX7_passes 2 = .ok (.aload_n 0, 1) := by decide +kernel
theorem dX7_passes_3 : decode cX7_passes 3 = .ok (.getfield 7, 3) := by decide +kernel
theorem dX7_passes_6 : decode cX7_passes 6 = .ok (.sipush 322, 3) := by decide +kernel
theorem dX7_passes_9 : decode cX7_passes 9 = .ok (.dup2, 1) := by decide +kernel
theorem dX7_passes_10 : decode cX7_passes 10 = .ok (.iaload, 1) := by decide +kernel
theorem dX7_passes_11 : decode cX7_passes 11 = .ok (.iconst 1, 1) := by decide +kernel
theorem dX7_passes_12 : decode cX7_passes 12 = .ok (.iadd, 1) := by decide +kernel
theorem dX7_passes_13 : decode cX7_passes 13 = .ok (.iastore, 1) := by decide +kernel
theorem dX7_passes_14 : decode cX7_passes 14 = .ok (.iconst 0, 1) := by decide +kernel
theorem dX7_passes_15 : decode cX7_passes 15 = .ok (.istore 4, 2) := by decide +kernel
theorem dX7_passes_17 : decode cX7_passes 17 = .ok (.iload 4, 2) := by decide +kernel
theorem dX7_passes_19 : decode cX7_passes 19 = .ok (.bipush 12, 2) := by decide +kernel
theorem dX7_passes_21 : decode cX7_passes 21 = .ok (.if_icmp .ge 158, 3) := by decide +kernel
theorem dX7_passes_24 : decode cX7_passes 24 = .ok (.aload_n 0, 1) := by decide +kernel
theorem dX7_passes_25 : decode cX7_passes 25 = .ok (.getfield 7, 3) := by decide +kernel
theorem dX7_passes_28 : decode cX7_passes 28 = .ok (.sipush 261, 3) := by decide +kernel
theorem dX7_passes_31 : decode cX7_passes 31 = .ok (.iload 4, 2) := by decide +kernel
theorem dX7_passes_33 : decode cX7_passes 33 = .ok (.iadd, 1) := by decide +kernel
theorem dX7_passes_34 : decode cX7_passes 34 = .ok (.iaload, 1) := by decide +kernel
theorem dX7_passes_35 : decode cX7_passes 35 = .ok (.ifCond .lt 138, 3) := by decide +kernel
theorem dX7_passes_38 : decode cX7_passes 38 = .ok (.aload_n 0, 1) := by decide +kernel
theorem dX7_passes_39 : decode cX7_passes 39 = .ok (.getfield 7, 3) := by decide +kernel
theorem dX7_passes_42 : decode cX7_passes 42 = .ok (.sipush 261, 3) := by decide +kernel
theorem dX7_passes_45 : decode cX7_passes 45 = .ok (.iload 4, 2) := by decide +kernel
theorem dX7_passes_47 : decode cX7_passes 47 = .ok (.iadd, 1) := by decide +kernel
theorem dX7_passes_48 : decode cX7_passes 48 = .ok (.iaload, 1) := by decide +kernel
theorem dX7_passes_49 : decode cX7_passes 49 = .ok (.istore 5, 2) := by decide +kernel
theorem dX7_passes_51 : decode cX7_passes 51 = .ok (.aload_n 0, 1) := by decide +kernel
theorem dX7_passes_52 : decode cX7_passes 52 = .ok (.iload 5, 2) := by decide +kernel
theorem dX7_passes_54 : decode cX7_passes 54 = .ok (.invokevirtual 33, 3) := by decide +kernel
theorem dX7_passes_57 : decode cX7_passes 57 = .ok (.istore 6, 2) := by decide +kernel
theorem dX7_passes_59 : decode cX7_passes 59 = .ok (.aload_n 0, 1) := by decide +kernel
theorem dX7_passes_60 : decode cX7_passes 60 = .ok (.getfield 7, 3) := by decide +kernel
theorem dX7_passes_63 : decode cX7_passes 63 = .ok (.bipush 121, 2) := by decide +kernel
theorem dX7_passes_65 : decode cX7_passes 65 = .ok (.iload 5, 2) := by decide +kernel
theorem dX7_passes_67 : decode cX7_passes 67 = .ok (.iadd, 1) := by decide +kernel
theorem dX7_passes_68 : decode cX7_passes 68 = .ok (.aload_n 0, 1) := by decide +kernel
theorem dX7_passes_69 : decode cX7_passes 69 = .ok (.getfield 7, 3) := by decide +kernel
theorem dX7_passes_72 : decode cX7_passes 72 = .ok (.bipush 121, 2) := by decide +kernel
theorem dX7_passes_74 : decode cX7_passes 74 = .ok (.iload 5, 2) := by decide +kernel
theorem dX7_passes_76 : decode cX7_passes 76 = .ok (.iadd, 1) := by decide +kernel
theorem dX7_passes_77 : decode cX7_passes 77 = .ok (.iaload, 1) := by decide +kernel
theorem dX7_passes_78 : decode cX7_passes 78 = .ok (.iload_n 1, 1) := by decide +kernel
theorem dX7_passes_79 : decode cX7_passes 79 = .ok (.iload_n 2, 1) := by decide +kernel
theorem dX7_passes_80 : decode cX7_passes 80 = .ok (.invokestatic 90, 3) := by decide +kernel
theorem dX7_passes_83 : decode cX7_passes 83 = .ok (.iastore, 1) := by decide +kernel
theorem dX7_passes_84 : decode cX7_passes 84 = .ok (.aload_n 0, 1) := by decide +kernel
theorem dX7_passes_85 : decode cX7_passes 85 = .ok (.getfield 7, 3) := by decide +kernel
theorem dX7_passes_88 : decode cX7_passes 88 = .ok (.sipush 273, 3) := by decide +kernel
theorem dX7_passes_91 : decode cX7_passes 91 = .ok (.iload 4, 2) := by decide +kernel
theorem dX7_passes_93 : decode cX7_passes 93 = .ok (.iadd, 1) := by decide +kernel
theorem dX7_passes_94 : decode cX7_passes 94 = .ok (.dup2, 1) := by decide +kernel
theorem dX7_passes_95 : decode cX7_passes 95 = .ok (.iaload, 1) := by decide +kernel
theorem dX7_passes_96 : decode cX7_passes 96 = .ok (.iload_n 1, 1) := by decide +kernel
theorem dX7_passes_97 : decode cX7_passes 97 = .ok (.iconst 2, 1) := by decide +kernel
theorem dX7_passes_98 : decode cX7_passes 98 = .ok (.if_icmp .lt 7, 3) := by decide +kernel
theorem dX7_passes_101 : decode cX7_passes 101 = .ok (.iconst 1, 1) := by decide +kernel
theorem dX7_passes_102 : decode cX7_passes 102 = .ok (.goto 4, 3) := by decide +kernel
theorem dX7_passes_105 : decode cX7_passes 105 = .ok (.iconst 0, 1) := by decide +kernel
theorem dX7_passes_106 : decode cX7_passes 106 = .ok (.iadd, 1) := by decide +kernel
theorem dX7_passes_107 : decode cX7_passes 107 = .ok (.iastore, 1) := by decide +kernel
theorem dX7_passes_108 : decode cX7_passes 108 = .ok (.iload 6, 2) := by decide +kernel
theorem dX7_passes_110 : decode cX7_passes 110 = .ok (.ifCond .ne 16, 3) := by decide +kernel
theorem dX7_passes_113 : decode cX7_passes 113 = .ok (.aload_n 0, 1) := by decide +kernel
theorem dX7_passes_114 : decode cX7_passes 114 = .ok (.iload 5, 2) := by decide +kernel
theorem dX7_passes_116 : decode cX7_passes 116 = .ok (.invokevirtual 33, 3) := by decide +kernel
theorem dX7_passes_119 : decode cX7_passes 119 = .ok (.ifCond .eq 7, 3) := by decide +kernel
theorem dX7_passes_122 : decode cX7_passes 122 = .ok (.iconst 1, 1) := by decide +kernel
theorem dX7_passes_123 : decode cX7_passes 123 = .ok (.goto 4, 3) := by decide +kernel
theorem dX7_passes_126 : decode cX7_passes 126 = .ok (.iconst 0, 1) := by decide +kernel
theorem dX7_passes_127 : decode cX7_passes 127 = .ok (.istore 7, 2) := by decide +kernel
theorem dX7_passes_129 : decode cX7_passes 129 = .ok (.aload_n 0, 1) := by decide +kernel
theorem dX7_passes_130 : decode cX7_passes 130 = .ok (.getfield 7, 3) := by decide +kernel
theorem dX7_passes_133 : decode cX7_passes 133 = .ok (.sipush 285, 3) := by decide +kernel
theorem dX7_passes_136 : decode cX7_passes 136 = .ok (.iload 4, 2) := by decide +kernel
theorem dX7_passes_138 : decode cX7_passes 138 = .ok (.iadd, 1) := by decide +kernel
theorem dX7_passes_139 : decode cX7_passes 139 = .ok (.iload 7, 2) := by decide +kernel
theorem dX7_passes_141 : decode cX7_passes 141 = .ok (.ifCond .eq 7, 3) := by decide +kernel
theorem dX7_passes_144 : decode cX7_passes 144 = .ok (.iconst 1, 1) := by decide +kernel
theorem dX7_passes_145 : decode cX7_passes 145 = .ok (.goto 14, 3) := by decide +kernel
theorem dX7_passes_148 : decode cX7_passes 148 = .ok (.aload_n 0, 1) := by decide +kernel
theorem dX7_passes_149 : decode cX7_passes 149 = .ok (.getfield 7, 3) := by decide +kernel
theorem dX7_passes_152 : decode cX7_passes 152 = .ok (.sipush 285, 3) := by decide +kernel
theorem dX7_passes_155 : decode cX7_passes 155 = .ok (.iload 4, 2) := by decide +kernel
theorem dX7_passes_157 : decode cX7_passes 157 = .ok (.iadd, 1) := by decide +kernel
theorem dX7_passes_158 : decode cX7_passes 158 = .ok (.iaload, 1) := by decide +kernel
theorem dX7_passes_159 : decode cX7_passes 159 = .ok (.iastore, 1) := by decide +kernel
theorem dX7_passes_160 : decode cX7_passes 160 = .ok (.iload_n 3, 1) := by decide +kernel
theorem dX7_passes_161 : decode cX7_passes 161 = .ok (.iload 7, 2) := by decide +kernel
theorem dX7_passes_163 : decode cX7_passes 163 = .ok (.ifCond .eq 7, 3) := by decide +kernel
theorem dX7_passes_166 : decode cX7_passes 166 = .ok (.iconst 1, 1) := by decide +kernel
theorem dX7_passes_167 : decode cX7_passes 167 = .ok (.goto 4, 3) := by decide +kernel
theorem dX7_passes_170 : decode cX7_passes 170 = .ok (.iconst 0, 1) := by decide +kernel
theorem dX7_passes_171 : decode cX7_passes 171 = .ok (.iadd, 1) := by decide +kernel
theorem dX7_passes_172 : decode cX7_passes 172 = .ok (.istore_n 3, 1) := by decide +kernel
theorem dX7_passes_173 : decode cX7_passes 173 = .ok (.iinc 4 1, 3) := by decide +kernel
theorem dX7_passes_176 : decode cX7_passes 176 = .ok (.goto (-159), 3) := by decide +kernel
theorem dX7_passes_179 : decode cX7_passes 179 = .ok (.iload_n 1, 1) := by decide +kernel
theorem dX7_passes_180 : decode cX7_passes 180 = .ok (.iconst 5, 1) := by decide +kernel
theorem dX7_passes_181 : decode cX7_passes 181 = .ok (.if_icmp .lt 77, 3) := by decide +kernel
theorem dX7_passes_184 : decode cX7_passes 184 = .ok (.aload_n 0, 1) := by decide +kernel
theorem dX7_passes_185 : decode cX7_passes 185 = .ok (.getfield 7, 3) := by decide +kernel
theorem dX7_passes_188 : decode cX7_passes 188 = .ok (.sipush 326, 3) := by decide +kernel
theorem dX7_passes_191 : decode cX7_passes 191 = .ok (.dup2, 1) := by decide +kernel
theorem dX7_passes_192 : decode cX7_passes 192 = .ok (.iaload, 1) := by decide +kernel
theorem dX7_passes_193 : decode cX7_passes 193 = .ok (.iconst 1, 1) := by decide +kernel
theorem dX7_passes_194 : decode cX7_passes 194 = .ok (.iadd, 1) := by decide +kernel
theorem dX7_passes_195 : decode cX7_passes 195 = .ok (.iastore, 1) := by decide +kernel
theorem dX7_passes_196 : decode cX7_passes 196 = .ok (.iconst 0, 1) := by decide +kernel
theorem dX7_passes_197 : decode cX7_passes 197 = .ok (.istore 4, 2) := by decide +kernel
theorem dX7_passes_199 : decode cX7_passes 199 = .ok (.iload 4, 2) := by decide +kernel
theorem dX7_passes_201 : decode cX7_passes 201 = .ok (.bipush 12, 2) := by decide +kernel
theorem dX7_passes_203 : decode cX7_passes 203 = .ok (.if_icmp .ge 55, 3) := by decide +kernel
theorem dX7_passes_206 : decode cX7_passes 206 = .ok (.aload_n 0, 1) := by decide +kernel
theorem dX7_passes_207 : decode cX7_passes 207 = .ok (.iload 4, 2) := by decide +kernel
theorem dX7_passes_209 : decode cX7_passes 209 = .ok (.invokevirtual 68, 3) := by decide +kernel
theorem dX7_passes_212 : decode cX7_passes 212 = .ok (.ifCond .eq 40, 3) := by decide +kernel
theorem dX7_passes_215 : decode cX7_passes 215 = .ok (.aload_n 0, 1) := by decide +kernel
theorem dX7_passes_216 : decode cX7_passes 216 = .ok (.aload_n 0, 1) := by decide +kernel
theorem dX7_passes_217 : decode cX7_passes 217 = .ok (.getfield 7, 3) := by decide +kernel
theorem dX7_passes_220 : decode cX7_passes 220 = .ok (.sipush 297, 3) := by decide +kernel
theorem dX7_passes_223 : decode cX7_passes 223 = .ok (.iload 4, 2) := by decide +kernel
theorem dX7_passes_225 : decode cX7_passes 225 = .ok (.iadd, 1) := by decide +kernel
theorem dX7_passes_226 : decode cX7_passes 226 = .ok (.iaload, 1) := by decide +kernel
theorem dX7_passes_227 : decode cX7_passes 227 = .ok (.invokevirtual 71, 3) := by decide +kernel
theorem dX7_passes_230 : decode cX7_passes 230 = .ok (.ifCond .lt 22, 3) := by decide +kernel
theorem dX7_passes_233 : decode cX7_passes 233 = .ok (.aload_n 0, 1) := by decide +kernel
theorem dX7_passes_234 : decode cX7_passes 234 = .ok (.iload 4, 2) := by decide +kernel
theorem dX7_passes_236 : decode cX7_passes 236 = .ok (.aload_n 0, 1) := by decide +kernel
theorem dX7_passes_237 : decode cX7_passes 237 = .ok (.getfield 7, 3) := by decide +kernel
theorem dX7_passes_240 : decode cX7_passes 240 = .ok (.sipush 297, 3) := by decide +kernel
theorem dX7_passes_243 : decode cX7_passes 243 = .ok (.iload 4, 2) := by decide +kernel
theorem dX7_passes_245 : decode cX7_passes 245 = .ok (.iadd, 1) := by decide +kernel
theorem dX7_passes_246 : decode cX7_passes 246 = .ok (.iaload, 1) := by decide +kernel
theorem dX7_passes_247 : decode cX7_passes 247 = .ok (.invokevirtual 77, 3) := by decide +kernel
theorem dX7_passes_250 : decode cX7_passes 250 = .ok (.istore 5, 2) := by decide +kernel
theorem dX7_passes_252 : decode cX7_passes 252 = .ok (.iinc 4 1, 3) := by decide +kernel
theorem dX7_passes_255 : decode cX7_passes 255 = .ok (.goto (-56), 3) := by decide +kernel
theorem dX7_passes_258 : decode cX7_passes 258 = .ok (.iload_n 3, 1) := by decide +kernel
theorem dX7_passes_259 : decode cX7_passes 259 = .ok (.ireturn, 1) := by decide +kernel
theorem dX7_whyHour_0 : decode cX7_whyHour 0 = .ok (.iload_n 1, 1) := by decide +kernel
theorem dX7_whyHour_1 : decode cX7_whyHour 1 = .ok (.iconst 0, 1) := by decide +kernel
theorem dX7_whyHour_2 : decode cX7_whyHour 2 = .ok (.bipush 9, 2) := by decide +kernel
theorem dX7_whyHour_4 : decode cX7_whyHour 4 = .ok (.invokestatic 22, 3) := by decide +kernel
theorem dX7_whyHour_7 : decode cX7_whyHour 7 = .ok (.ifCond .eq 12, 3) := by decide +kernel
theorem dX7_whyHour_10 : decode cX7_whyHour 10 = .ok (.iload_n 2, 1) := by decide +kernel
theorem dX7_whyHour_11 : decode cX7_whyHour 11 = .ok (.iconst 0, 1) := by decide +kernel
theorem dX7_whyHour_12 : decode cX7_whyHour 12 = .ok (.iconst 3, 1) := by decide +kernel
theorem dX7_whyHour_13 : decode cX7_whyHour 13 = .ok (.invokestatic 22, 3) := by decide +kernel
theorem dX7_whyHour_16 : decode cX7_whyHour 16 = .ok (.ifCond .ne 7, 3) := by decide +kernel
theorem dX7_whyHour_19 : decode cX7_whyHour 19 = .ok (.iconst (-1), 1) := by decide +kernel
theorem dX7_whyHour_20 : decode cX7_whyHour 20 = .ok (.goto 23, 3) := by decide +kernel
theorem dX7_whyHour_23 : decode cX7_whyHour 23 = .ok (.aload_n 0, 1) := by decide +kernel
theorem dX7_whyHour_24 : decode cX7_whyHour 24 = .ok (.getfield 7, 3) := by decide +kernel
theorem dX7_whyHour_27 : decode cX7_whyHour 27 = .ok (.sipush 322, 3) := by decide +kernel
theorem dX7_whyHour_30 : decode cX7_whyHour 30 = .ok (.iaload, 1) := by decide +kernel
theorem dX7_whyHour_31 : decode cX7_whyHour 31 = .ok (.sipush 500, 3) := by decide +kernel
theorem dX7_whyHour_34 : decode cX7_whyHour 34 = .ok (.if_icmp .ne 8, 3) := by decide +kernel
theorem dX7_whyHour_37 : decode cX7_whyHour 37 = .ok (.bipush (-3), 2) := by decide +kernel
theorem dX7_whyHour_39 : decode cX7_whyHour 39 = .ok (.goto 4, 3) := by decide +kernel
theorem dX7_whyHour_42 : decode cX7_whyHour 42 = .ok (.iconst 0, 1) := by decide +kernel
theorem dX7_whyHour_43 : decode cX7_whyHour 43 = .ok (.ireturn, 1) := by decide +kernel
theorem dX7_hour_0 : decode cX7_hour 0 = .ok (.aload_n 0, 1) := by decide +kernel
theorem dX7_hour_1 : decode cX7_hour 1 = .ok (.iload_n 1, 1) := by decide +kernel
theorem dX7_hour_2 : decode cX7_hour 2 = .ok (.iload_n 2, 1) := by decide +kernel
theorem dX7_hour_3 : decode cX7_hour 3 = .ok (.invokevirtual 94, 3) := by decide +kernel
theorem dX7_hour_6 : decode cX7_hour 6 = .ok (.istore_n 3, 1) := by decide +kernel
theorem dX7_hour_7 : decode cX7_hour 7 = .ok (.iload_n 3, 1) := by decide +kernel
theorem dX7_hour_8 : decode cX7_hour 8 = .ok (.ifCond .ge 5, 3) := by decide +kernel
theorem dX7_hour_11 : decode cX7_hour 11 = .ok (.iload_n 3, 1) := by decide +kernel
theorem dX7_hour_12 : decode cX7_hour 12 = .ok (.ireturn, 1) := by decide +kernel
theorem dX7_hour_13 : decode cX7_hour 13 = .ok (.aload_n 0, 1) := by decide +kernel
theorem dX7_hour_14 : decode cX7_hour 14 = .ok (.invokevirtual 54, 3) := by decide +kernel
theorem dX7_hour_17 : decode cX7_hour 17 = .ok (.aload_n 0, 1) := by decide +kernel
theorem dX7_hour_18 : decode cX7_hour 18 = .ok (.iload_n 1, 1) := by decide +kernel
theorem dX7_hour_19 : decode cX7_hour 19 = .ok (.iload_n 2, 1) := by decide +kernel
theorem dX7_hour_20 : decode cX7_hour 20 = .ok (.invokevirtual 97, 3) := by decide +kernel
theorem dX7_hour_23 : decode cX7_hour 23 = .ok (.ireturn, 1) := by decide +kernel
theorem dX7_isLoad_0 : decode cX7_isLoad 0 = .ok (.iload_n 0, 1) := by decide +kernel
theorem dX7_isLoad_1 : decode cX7_isLoad 1 = .ok (.iconst 0, 1) := by decide +kernel
theorem dX7_isLoad_2 : decode cX7_isLoad 2 = .ok (.iconst 1, 1) := by decide +kernel
theorem dX7_isLoad_3 : decode cX7_isLoad 3 = .ok (.invokestatic 22, 3) := by decide +kernel
theorem dX7_isLoad_6 : decode cX7_isLoad 6 = .ok (.ifCond .eq 24, 3) := by decide +kernel
theorem dX7_isLoad_9 : decode cX7_isLoad 9 = .ok (.iload_n 1, 1) := by decide +kernel
theorem dX7_isLoad_10 : decode cX7_isLoad 10 = .ok (.invokestatic 45, 3) := by decide +kernel
theorem dX7_isLoad_13 : decode cX7_isLoad 13 = .ok (.ifCond .eq 17, 3) := by decide +kernel
theorem dX7_isLoad_16 : decode cX7_isLoad 16 = .ok (.iload_n 2, 1) := by decide +kernel
theorem dX7_isLoad_17 : decode cX7_isLoad 17 = .ok (.iconst 1, 1) := by decide +kernel
theorem dX7_isLoad_18 : decode cX7_isLoad 18 = .ok (.bipush 10, 2) := by decide +kernel
theorem dX7_isLoad_20 : decode cX7_isLoad 20 = .ok (.invokestatic 22, 3) := by decide +kernel
theorem dX7_isLoad_23 : decode cX7_isLoad 23 = .ok (.ifCond .eq 7, 3) := by decide +kernel
theorem dX7_isLoad_26 : decode cX7_isLoad 26 = .ok (.iconst 1, 1) := by decide +kernel
theorem dX7_isLoad_27 : decode cX7_isLoad 27 = .ok (.goto 4, 3) := by decide +kernel
theorem dX7_isLoad_30 : decode cX7_isLoad 30 = .ok (.iconst 0, 1) := by decide +kernel
theorem dX7_isLoad_31 : decode cX7_isLoad 31 = .ok (.ireturn, 1) := by decide +kernel
theorem dX7_load_0 : decode cX7_load 0 = .ok (.iload_n 1, 1) := by decide +kernel
theorem dX7_load_1 : decode cX7_load 1 = .ok (.iload_n 2, 1) := by decide +kernel
theorem dX7_load_2 : decode cX7_load 2 = .ok (.iload_n 3, 1) := by decide +kernel
theorem dX7_load_3 : decode cX7_load 3 = .ok (.invokestatic 100, 3) := by decide +kernel
theorem dX7_load_6 : decode cX7_load 6 = .ok (.ifCond .ne 5, 3) := by decide +kernel
theorem dX7_load_9 : decode cX7_load 9 = .ok (.iconst (-1), 1) := by decide +kernel
theorem dX7_load_10 : decode cX7_load 10 = .ok (.ireturn, 1) := by decide +kernel
theorem dX7_load_11 : decode cX7_load 11 = .ok (.aload_n 0, 1) := by decide +kernel
theorem dX7_load_12 : decode cX7_load 12 = .ok (.iconst 0, 1) := by decide +kernel
theorem dX7_load_13 : decode cX7_load 13 = .ok (.iload_n 2, 1) := by decide +kernel
theorem dX7_load_14 : decode cX7_load 14 = .ok (.invokevirtual 37, 3) := by decide +kernel
theorem dX7_load_17 : decode cX7_load 17 = .ok (.iload_n 3, 1) := by decide +kernel
theorem dX7_load_18 : decode cX7_load 18 = .ok (.if_icmp .ge 6, 3) := by decide +kernel
theorem dX7_load_21 : decode cX7_load 21 = .ok (.bipush (-2), 2) := by decide +kernel
theorem dX7_load_23 : decode cX7_load 23 = .ok (.ireturn, 1) := by decide +kernel
theorem dX7_load_24 : decode cX7_load 24 = .ok (.aload_n 0, 1) := by decide +kernel
theorem dX7_load_25 : decode cX7_load 25 = .ok (.iconst 2, 1) := by decide +kernel
theorem dX7_load_26 : decode cX7_load 26 = .ok (.iload_n 1, 1) := by decide +kernel
theorem dX7_load_27 : decode cX7_load 27 = .ok (.invokevirtual 37, 3) := by decide +kernel
theorem dX7_load_30 : decode cX7_load 30 = .ok (.iload_n 3, 1) := by decide +kernel
theorem dX7_load_31 : decode cX7_load 31 = .ok (.iadd, 1) := by decide +kernel
theorem dX7_load_32 : decode cX7_load 32 = .ok (.bipush 10, 2) := by decide +kernel
theorem dX7_load_34 : decode cX7_load 34 = .ok (.if_icmp .le 6, 3) := by decide +kernel
theorem dX7_load_37 : decode cX7_load 37 = .ok (.bipush (-3), 2) := by decide +kernel
theorem dX7_load_39 : decode cX7_load 39 = .ok (.ireturn, 1) := by decide +kernel
theorem dX7_load_40 : decode cX7_load 40 = .ok (.aload_n 0, 1) := by decide +kernel
theorem dX7_load_41 : decode cX7_load 41 = .ok (.invokevirtual 54, 3) := by decide +kernel
theorem dX7_load_44 : decode cX7_load 44 = .ok (.iconst 0, 1) := by decide +kernel
theorem dX7_load_45 : decode cX7_load 45 = .ok (.istore 4, 2) := by decide +kernel
theorem dX7_load_47 : decode cX7_load 47 = .ok (.iconst 0, 1) := by decide +kernel
theorem dX7_load_48 : decode cX7_load 48 = .ok (.istore 5, 2) := by decide +kernel
theorem dX7_load_50 : decode cX7_load 50 = .ok (.iload 5, 2) := by decide +kernel
theorem dX7_load_52 : decode cX7_load 52 = .ok (.iload_n 3, 1) := by decide +kernel
theorem dX7_load_53 : decode cX7_load 53 = .ok (.if_icmp .ge 43, 3) := by decide +kernel
theorem dX7_load_56 : decode cX7_load 56 = .ok (.aload_n 0, 1) := by decide +kernel
theorem dX7_load_57 : decode cX7_load 57 = .ok (.iload_n 2, 1) := by decide +kernel
theorem dX7_load_58 : decode cX7_load 58 = .ok (.invokevirtual 103, 3) := by decide +kernel
theorem dX7_load_61 : decode cX7_load 61 = .ok (.istore 6, 2) := by decide +kernel
theorem dX7_load_63 : decode cX7_load 63 = .ok (.aload_n 0, 1) := by decide +kernel
theorem dX7_load_64 : decode cX7_load 64 = .ok (.iload 6, 2) := by decide +kernel
theorem dX7_load_66 : decode cX7_load 66 = .ok (.iconst 2, 1) := by decide +kernel
theorem dX7_load_67 : decode cX7_load 67 = .ok (.iload_n 1, 1) := by decide +kernel
theorem dX7_load_68 : decode cX7_load 68 = .ok (.invokevirtual 57, 3) := by decide +kernel
theorem dX7_load_71 : decode cX7_load 71 = .ok (.iload 4, 2) := by decide +kernel
theorem dX7_load_73 : decode cX7_load 73 = .ok (.aload_n 0, 1) := by decide +kernel
theorem dX7_load_74 : decode cX7_load 74 = .ok (.iload 6, 2) := by decide +kernel
theorem dX7_load_76 : decode cX7_load 76 = .ok (.invokevirtual 33, 3) := by decide +kernel
theorem dX7_load_79 : decode cX7_load 79 = .ok (.ifCond .eq 7, 3) := by decide +kernel
theorem dX7_load_82 : decode cX7_load 82 = .ok (.iconst 1, 1) := by decide +kernel
theorem dX7_load_83 : decode cX7_load 83 = .ok (.goto 4, 3) := by decide +kernel
theorem dX7_load_86 : decode cX7_load 86 = .ok (.iconst 0, 1) := by decide +kernel
theorem dX7_load_87 : decode cX7_load 87 = .ok (.iadd, 1) := by decide +kernel
theorem dX7_load_88 : decode cX7_load 88 = .ok (.istore 4, 2) := by decide +kernel
theorem dX7_load_90 : decode cX7_load 90 = .ok (.iinc 5 1, 3) := by decide +kernel
theorem dX7_load_93 : decode cX7_load 93 = .ok (.goto (-43), 3) := by decide +kernel
theorem dX7_load_96 : decode cX7_load 96 = .ok (.iload 4, 2) := by decide +kernel
theorem dX7_load_98 : decode cX7_load 98 = .ok (.ireturn, 1) := by decide +kernel
theorem dX7_unload_0 : decode cX7_unload 0 = .ok (.iload_n 1, 1) := by decide +kernel
theorem dX7_unload_1 : decode cX7_unload 1 = .ok (.iload_n 2, 1) := by decide +kernel
theorem dX7_unload_2 : decode cX7_unload 2 = .ok (.iload_n 3, 1) := by decide +kernel
theorem dX7_unload_3 : decode cX7_unload 3 = .ok (.invokestatic 100, 3) := by decide +kernel
theorem dX7_unload_6 : decode cX7_unload 6 = .ok (.ifCond .ne 5, 3) := by decide +kernel
theorem dX7_unload_9 : decode cX7_unload 9 = .ok (.iconst (-1), 1) := by decide +kernel
theorem dX7_unload_10 : decode cX7_unload 10 = .ok (.ireturn, 1) := by decide +kernel
theorem dX7_unload_11 : decode cX7_unload 11 = .ok (.aload_n 0, 1) := by decide +kernel
theorem dX7_unload_12 : decode cX7_unload 12 = .ok (.iconst 2, 1) := by decide +kernel
theorem dX7_unload_13 : decode cX7_unload 13 = .ok (.iload_n 1, 1) := by decide +kernel
theorem dX7_unload_14 : decode cX7_unload 14 = .ok (.invokevirtual 37, 3) := by decide +kernel
theorem dX7_unload_17 : decode cX7_unload 17 = .ok (.aload_n 0, 1) := by decide +kernel
theorem dX7_unload_18 : decode cX7_unload 18 = .ok (.iconst 2, 1) := by decide +kernel
theorem dX7_unload_19 : decode cX7_unload 19 = .ok (.iload_n 1, 1) := by decide +kernel
theorem dX7_unload_20 : decode cX7_unload 20 = .ok (.invokevirtual 106, 3) := by decide +kernel
theorem dX7_unload_23 : decode cX7_unload 23 = .ok (.isub, 1) := by decide +kernel
theorem dX7_unload_24 : decode cX7_unload 24 = .ok (.iload_n 3, 1) := by decide +kernel
theorem dX7_unload_25 : decode cX7_unload 25 = .ok (.if_icmp .ge 6, 3) := by decide +kernel
theorem dX7_unload_28 : decode cX7_unload 28 = .ok (.bipush (-2), 2) := by decide +kernel
theorem dX7_unload_30 : decode cX7_unload 30 = .ok (.ireturn, 1) := by decide +kernel
theorem dX7_unload_31 : decode cX7_unload 31 = .ok (.aload_n 0, 1) := by decide +kernel
theorem dX7_unload_32 : decode cX7_unload 32 = .ok (.iload_n 2, 1) := by decide +kernel
theorem dX7_unload_33 : decode cX7_unload 33 = .ok (.invokevirtual 51, 3) := by decide +kernel
theorem dX7_unload_36 : decode cX7_unload 36 = .ok (.iload_n 3, 1) := by decide +kernel
theorem dX7_unload_37 : decode cX7_unload 37 = .ok (.if_icmp .ge 6, 3) := by decide +kernel
theorem dX7_unload_40 : decode cX7_unload 40 = .ok (.bipush (-3), 2) := by decide +kernel
theorem dX7_unload_42 : decode cX7_unload 42 = .ok (.ireturn, 1) := by decide +kernel
theorem dX7_unload_43 : decode cX7_unload 43 = .ok (.aload_n 0, 1) := by decide +kernel
theorem dX7_unload_44 : decode cX7_unload 44 = .ok (.invokevirtual 54, 3) := by decide +kernel
theorem dX7_unload_47 : decode cX7_unload 47 = .ok (.iload_n 3, 1) := by decide +kernel
theorem dX7_unload_48 : decode cX7_unload 48 = .ok (.istore 4, 2) := by decide +kernel
theorem dX7_unload_50 : decode cX7_unload 50 = .ok (.iconst 0, 1) := by decide +kernel
theorem dX7_unload_51 : decode cX7_unload 51 = .ok (.istore 5, 2) := by decide +kernel
theorem dX7_unload_53 : decode cX7_unload 53 = .ok (.iload 5, 2) := by decide +kernel
theorem dX7_unload_55 : decode cX7_unload 55 = .ok (.aload_n 0, 1) := by decide +kernel
theorem dX7_unload_56 : decode cX7_unload 56 = .ok (.getfield 7, 3) := by decide +kernel
theorem dX7_unload_59 : decode cX7_unload 59 = .ok (.iconst 0, 1) := by decide +kernel
theorem dX7_unload_60 : decode cX7_unload 60 = .ok (.iaload, 1) := by decide +kernel
theorem dX7_unload_61 : decode cX7_unload 61 = .ok (.if_icmp .ge 45, 3) := by decide +kernel
theorem dX7_unload_64 : decode cX7_unload 64 = .ok (.iload 4, 2) := by decide +kernel
theorem dX7_unload_66 : decode cX7_unload 66 = .ok (.ifCond .le 40, 3) := by decide +kernel
theorem dX7_unload_69 : decode cX7_unload 69 = .ok (.aload_n 0, 1) := by decide +kernel
theorem dX7_unload_70 : decode cX7_unload 70 = .ok (.iload 5, 2) := by decide +kernel
theorem dX7_unload_72 : decode cX7_unload 72 = .ok (.iconst 2, 1) := by decide +kernel
theorem dX7_unload_73 : decode cX7_unload 73 = .ok (.iload_n 1, 1) := by decide +kernel
theorem dX7_unload_74 : decode cX7_unload 74 = .ok (.invokevirtual 30, 3) := by decide +kernel
theorem dX7_unload_77 : decode cX7_unload 77 = .ok (.ifCond .eq 23, 3) := by decide +kernel
theorem dX7_unload_80 : decode cX7_unload 80 = .ok (.aload_n 0, 1) := by decide +kernel
theorem dX7_unload_81 : decode cX7_unload 81 = .ok (.iload 5, 2) := by decide +kernel
theorem dX7_unload_83 : decode cX7_unload 83 = .ok (.invokevirtual 33, 3) := by decide +kernel
theorem dX7_unload_86 : decode cX7_unload 86 = .ok (.ifCond .ne 14, 3) := by decide +kernel
theorem dX7_unload_89 : decode cX7_unload 89 = .ok (.aload_n 0, 1) := by decide +kernel
theorem dX7_unload_90 : decode cX7_unload 90 = .ok (.iload 5, 2) := by decide +kernel
theorem dX7_unload_92 : decode cX7_unload 92 = .ok (.iconst 0, 1) := by decide +kernel
theorem dX7_unload_93 : decode cX7_unload 93 = .ok (.iload_n 2, 1) := by decide +kernel
theorem dX7_unload_94 : decode cX7_unload 94 = .ok (.invokevirtual 57, 3) := by decide +kernel
theorem dX7_unload_97 : decode cX7_unload 97 = .ok (.iinc 4 (-1), 3) := by decide +kernel
theorem dX7_unload_100 : decode cX7_unload 100 = .ok (.iinc 5 1, 3) := by decide +kernel
theorem dX7_unload_103 : decode cX7_unload 103 = .ok (.goto (-50), 3) := by decide +kernel
theorem dX7_unload_106 : decode cX7_unload 106 = .ok (.aload_n 0, 1) := by decide +kernel
theorem dX7_unload_107 : decode cX7_unload 107 = .ok (.iconst 2, 1) := by decide +kernel
theorem dX7_unload_108 : decode cX7_unload 108 = .ok (.iload_n 1, 1) := by decide +kernel
theorem dX7_unload_109 : decode cX7_unload 109 = .ok (.invokevirtual 37, 3) := by decide +kernel
theorem dX7_unload_112 : decode cX7_unload 112 = .ok (.ireturn, 1) := by decide +kernel
theorem dX7_toWorkshop_0 : decode cX7_toWorkshop 0 = .ok (.iload_n 1, 1) := by decide +kernel
theorem dX7_toWorkshop_1 : decode cX7_toWorkshop 1 = .ok (.iconst 0, 1) := by decide +kernel
theorem dX7_toWorkshop_2 : decode cX7_toWorkshop 2 = .ok (.iconst 1, 1) := by decide +kernel
theorem dX7_toWorkshop_3 : decode cX7_toWorkshop 3 = .ok (.invokestatic 22, 3) := by decide +kernel
theorem dX7_toWorkshop_6 : decode cX7_toWorkshop 6 = .ok (.ifCond .ne 5, 3) := by decide +kernel
theorem dX7_toWorkshop_9 : decode cX7_toWorkshop 9 = .ok (.iconst (-1), 1) := by decide +kernel
theorem dX7_toWorkshop_10 : decode cX7_toWorkshop 10 = .ok (.ireturn, 1) := by decide +kernel
theorem dX7_toWorkshop_11 : decode cX7_toWorkshop 11 = .ok (.aload_n 0, 1) := by decide +kernel
theorem dX7_toWorkshop_12 : decode cX7_toWorkshop 12 = .ok (.iconst 2, 1) := by decide +kernel
theorem dX7_toWorkshop_13 : decode cX7_toWorkshop 13 = .ok (.iload_n 1, 1) := by decide +kernel
theorem dX7_toWorkshop_14 : decode cX7_toWorkshop 14 = .ok (.invokevirtual 106, 3) := by decide +kernel
theorem dX7_toWorkshop_17 : decode cX7_toWorkshop 17 = .ok (.istore_n 2, 1) := by decide +kernel
theorem dX7_toWorkshop_18 : decode cX7_toWorkshop 18 = .ok (.iload_n 2, 1) := by decide +kernel
theorem dX7_toWorkshop_19 : decode cX7_toWorkshop 19 = .ok (.ifCond .ne 6, 3) := by decide +kernel
theorem dX7_toWorkshop_22 : decode cX7_toWorkshop 22 = .ok (.bipush (-2), 2) := by decide +kernel
theorem dX7_toWorkshop_24 : decode cX7_toWorkshop 24 = .ok (.ireturn, 1) := by decide +kernel
theorem dX7_toWorkshop_25 : decode cX7_toWorkshop 25 = .ok (.aload_n 0, 1) := by decide +kernel
theorem dX7_toWorkshop_26 : decode cX7_toWorkshop 26 = .ok (.invokevirtual 54, 3) := by decide +kernel
theorem dX7_toWorkshop_29 : decode cX7_toWorkshop 29 = .ok (.iconst 0, 1) := by decide +kernel
theorem dX7_toWorkshop_30 : decode cX7_toWorkshop 30 = .ok (.istore_n 3, 1) := by decide +kernel
theorem dX7_toWorkshop_31 : decode cX7_toWorkshop 31 = .ok (.iload_n 3, 1) := by decide +kernel
theorem dX7_toWorkshop_32 : decode cX7_toWorkshop 32 = .ok (.aload_n 0, 1) := by decide +kernel
theorem dX7_toWorkshop_33 : decode cX7_toWorkshop 33 = .ok (.getfield 7, 3) := by decide +kernel
theorem dX7_toWorkshop_36 : decode cX7_toWorkshop 36 = .ok (.iconst 0, 1) := by decide +kernel
theorem dX7_toWorkshop_37 : decode cX7_toWorkshop 37 = .ok (.iaload, 1) := by decide +kernel
theorem dX7_toWorkshop_38 : decode cX7_toWorkshop 38 = .ok (.if_icmp .ge 34, 3) := by decide +kernel
theorem dX7_toWorkshop_41 : decode cX7_toWorkshop 41 = .ok (.aload_n 0, 1) := by decide +kernel
theorem dX7_toWorkshop_42 : decode cX7_toWorkshop 42 = .ok (.iload_n 3, 1) := by decide +kernel
theorem dX7_toWorkshop_43 : decode cX7_toWorkshop 43 = .ok (.iconst 2, 1) := by decide +kernel
theorem dX7_toWorkshop_44 : decode cX7_toWorkshop 44 = .ok (.iload_n 1, 1) := by decide +kernel
theorem dX7_toWorkshop_45 : decode cX7_toWorkshop 45 = .ok (.invokevirtual 30, 3) := by decide +kernel
theorem dX7_toWorkshop_48 : decode cX7_toWorkshop 48 = .ok (.ifCond .eq 18, 3) := by decide +kernel
theorem dX7_toWorkshop_51 : decode cX7_toWorkshop 51 = .ok (.aload_n 0, 1) := by decide +kernel
theorem dX7_toWorkshop_52 : decode cX7_toWorkshop 52 = .ok (.iload_n 3, 1) := by decide +kernel
theorem dX7_toWorkshop_53 : decode cX7_toWorkshop 53 = .ok (.invokevirtual 33, 3) := by decide +kernel
theorem dX7_toWorkshop_56 : decode cX7_toWorkshop 56 = .ok (.ifCond .eq 10, 3) := by decide +kernel
theorem dX7_toWorkshop_59 : decode cX7_toWorkshop 59 = .ok (.aload_n 0, 1) := by decide +kernel
theorem dX7_toWorkshop_60 : decode cX7_toWorkshop 60 = .ok (.iload_n 3, 1) := by decide +kernel
theorem dX7_toWorkshop_61 : decode cX7_toWorkshop 61 = .ok (.iconst 3, 1) := by decide +kernel
theorem dX7_toWorkshop_62 : decode cX7_toWorkshop 62 = .ok (.iconst 0, 1) := by decide +kernel
theorem dX7_toWorkshop_63 : decode cX7_toWorkshop 63 = .ok (.invokevirtual 57, 3) := by decide +kernel
theorem dX7_toWorkshop_66 : decode cX7_toWorkshop 66 = .ok (.iinc 3 1, 3) := by decide +kernel
theorem dX7_toWorkshop_69 : decode cX7_toWorkshop 69 = .ok (.goto (-38), 3) := by decide +kernel
theorem dX7_toWorkshop_72 : decode cX7_toWorkshop 72 = .ok (.iload_n 2, 1) := by decide +kernel
theorem dX7_toWorkshop_73 : decode cX7_toWorkshop 73 = .ok (.ireturn, 1) := by decide +kernel
theorem dX7_leastInShop_0 : decode cX7_leastInShop 0 = .ok (.iconst (-1), 1) := by decide +kernel
theorem dX7_leastInShop_1 : decode cX7_leastInShop 1 = .ok (.istore_n 2, 1) := by decide +kernel
theorem dX7_leastInShop_2 : decode cX7_leastInShop 2 = .ok (.iconst 0, 1) := by decide +kernel
theorem dX7_leastInShop_3 : decode cX7_leastInShop 3 = .ok (.istore_n 3, 1) := by decide +kernel
theorem dX7_leastInShop_4 : decode cX7_leastInShop 4 = .ok (.iload_n 3, 1) := by decide +kernel
theorem dX7_leastInShop_5 : decode cX7_leastInShop 5 = .ok (.aload_n 0, 1) := by decide +kernel
theorem dX7_leastInShop_6 : decode cX7_leastInShop 6 = .ok (.getfield 7, 3) := by decide +kernel
theorem dX7_leastInShop_9 : decode cX7_leastInShop 9 = .ok (.iconst 0, 1) := by decide +kernel
theorem dX7_leastInShop_10 : decode cX7_leastInShop 10 = .ok (.iaload, 1) := by decide +kernel
theorem dX7_leastInShop_11 : decode cX7_leastInShop 11 = .ok (.if_icmp .ge 69, 3) := by decide +kernel
theorem dX7_leastInShop_14 : decode cX7_leastInShop 14 = .ok (.aload_n 0, 1) := by decide +kernel
theorem dX7_leastInShop_15 : decode cX7_leastInShop 15 = .ok (.getfield 7, 3) := by decide +kernel
theorem dX7_leastInShop_18 : decode cX7_leastInShop 18 = .ok (.iconst 1, 1) := by decide +kernel
theorem dX7_leastInShop_19 : decode cX7_leastInShop 19 = .ok (.iload_n 3, 1) := by decide +kernel
theorem dX7_leastInShop_20 : decode cX7_leastInShop 20 = .ok (.iadd, 1) := by decide +kernel
theorem dX7_leastInShop_21 : decode cX7_leastInShop 21 = .ok (.iaload, 1) := by decide +kernel
theorem dX7_leastInShop_22 : decode cX7_leastInShop 22 = .ok (.iconst 3, 1) := by decide +kernel
theorem dX7_leastInShop_23 : decode cX7_leastInShop 23 = .ok (.if_icmp .ne 37, 3) := by decide +kernel
theorem dX7_leastInShop_26 : decode cX7_leastInShop 26 = .ok (.iload_n 3, 1) := by decide +kernel
theorem dX7_leastInShop_27 : decode cX7_leastInShop 27 = .ok (.iload_n 1, 1) := by decide +kernel
theorem dX7_leastInShop_28 : decode cX7_leastInShop 28 = .ok (.if_icmp .eq 32, 3) := by decide +kernel
theorem dX7_leastInShop_31 : decode cX7_leastInShop 31 = .ok (.iload_n 2, 1) := by decide +kernel
theorem dX7_leastInShop_32 : decode cX7_leastInShop 32 = .ok (.ifCond .lt 24, 3) := by decide +kernel
theorem dX7_leastInShop_35 : decode cX7_leastInShop 35 = .ok (.aload_n 0, 1) := by decide +kernel
theorem dX7_leastInShop_36 : decode cX7_leastInShop 36 = .ok (.getfield 7, 3) := by decide +kernel
theorem dX7_leastInShop_39 : decode cX7_leastInShop 39 = .ok (.bipush 121, 2) := by decide +kernel
theorem dX7_leastInShop_41 : decode cX7_leastInShop 41 = .ok (.iload_n 3, 1) := by decide +kernel
theorem dX7_leastInShop_42 : decode cX7_leastInShop 42 = .ok (.iadd, 1) := by decide +kernel
theorem dX7_leastInShop_43 : decode cX7_leastInShop 43 = .ok (.iaload, 1) := by decide +kernel
theorem dX7_leastInShop_44 : decode cX7_leastInShop 44 = .ok (.aload_n 0, 1) := by decide +kernel
theorem dX7_leastInShop_45 : decode cX7_leastInShop 45 = .ok (.getfield 7, 3) := by decide +kernel
theorem dX7_leastInShop_48 : decode cX7_leastInShop 48 = .ok (.bipush 121, 2) := by decide +kernel
theorem dX7_leastInShop_50 : decode cX7_leastInShop 50 = .ok (.iload_n 2, 1) := by decide +kernel
theorem dX7_leastInShop_51 : decode cX7_leastInShop 51 = .ok (.iadd, 1) := by decide +kernel
theorem dX7_leastInShop_52 : decode cX7_leastInShop 52 = .ok (.iaload, 1) := by decide +kernel
theorem dX7_leastInShop_53 : decode cX7_leastInShop 53 = .ok (.if_icmp .ge 7, 3) := by decide +kernel
theorem dX7_leastInShop_56 : decode cX7_leastInShop 56 = .ok (.iconst 1, 1) := by decide +kernel
theorem dX7_leastInShop_57 : decode cX7_leastInShop 57 = .ok (.goto 4, 3) := by decide +kernel
theorem dX7_leastInShop_60 : decode cX7_leastInShop 60 = .ok (.iconst 0, 1) := by decide +kernel
theorem dX7_leastInShop_61 : decode cX7_leastInShop 61 = .ok (.istore 4, 2) := by decide +kernel
theorem dX7_leastInShop_63 : decode cX7_leastInShop 63 = .ok (.iload 4, 2) := by decide +kernel
theorem dX7_leastInShop_65 : decode cX7_leastInShop 65 = .ok (.ifCond .eq 7, 3) := by decide +kernel
theorem dX7_leastInShop_68 : decode cX7_leastInShop 68 = .ok (.iload_n 3, 1) := by decide +kernel
theorem dX7_leastInShop_69 : decode cX7_leastInShop 69 = .ok (.goto 4, 3) := by decide +kernel
theorem dX7_leastInShop_72 : decode cX7_leastInShop 72 = .ok (.iload_n 2, 1) := by decide +kernel
theorem dX7_leastInShop_73 : decode cX7_leastInShop 73 = .ok (.istore_n 2, 1) := by decide +kernel
theorem dX7_leastInShop_74 : decode cX7_leastInShop 74 = .ok (.iinc 3 1, 3) := by decide +kernel
theorem dX7_leastInShop_77 : decode cX7_leastInShop 77 = .ok (.goto (-73), 3) := by decide +kernel
theorem dX7_leastInShop_80 : decode cX7_leastInShop 80 = .ok (.iload_n 2, 1) := by decide +kernel
theorem dX7_leastInShop_81 : decode cX7_leastInShop 81 = .ok (.ireturn, 1) := by decide +kernel
theorem dX7_mend_0 : decode cX7_mend 0 = .ok (.iload_n 1, 1) := by decide +kernel
theorem dX7_mend_1 : decode cX7_mend 1 = .ok (.invokestatic 45, 3) := by decide +kernel
theorem dX7_mend_4 : decode cX7_mend 4 = .ok (.ifCond .ne 5, 3) := by decide +kernel
theorem dX7_mend_7 : decode cX7_mend 7 = .ok (.iconst (-1), 1) := by decide +kernel
theorem dX7_mend_8 : decode cX7_mend 8 = .ok (.ireturn, 1) := by decide +kernel
theorem dX7_mend_9 : decode cX7_mend 9 = .ok (.aload_n 0, 1) := by decide +kernel
theorem dX7_mend_10 : decode cX7_mend 10 = .ok (.iconst 3, 1) := by decide +kernel
theorem dX7_mend_11 : decode cX7_mend 11 = .ok (.invokevirtual 41, 3) := by decide +kernel
theorem dX7_mend_14 : decode cX7_mend 14 = .ok (.iconst 2, 1) := by decide +kernel
theorem dX7_mend_15 : decode cX7_mend 15 = .ok (.if_icmp .lt 11, 3) := by decide +kernel
theorem dX7_mend_18 : decode cX7_mend 18 = .ok (.aload_n 0, 1) := by decide +kernel
theorem dX7_mend_19 : decode cX7_mend 19 = .ok (.iconst 3, 1) := by decide +kernel
theorem dX7_mend_20 : decode cX7_mend 20 = .ok (.invokevirtual 48, 3) := by decide +kernel
theorem dX7_mend_23 : decode cX7_mend 23 = .ok (.ifCond .ne 6, 3) := by decide +kernel
theorem dX7_mend_26 : decode cX7_mend 26 = .ok (.bipush (-2), 2) := by decide +kernel
theorem dX7_mend_28 : decode cX7_mend 28 = .ok (.ireturn, 1) := by decide +kernel
theorem dX7_mend_29 : decode cX7_mend 29 = .ok (.aload_n 0, 1) := by decide +kernel
theorem dX7_mend_30 : decode cX7_mend 30 = .ok (.iload_n 1, 1) := by decide +kernel
theorem dX7_mend_31 : decode cX7_mend 31 = .ok (.invokevirtual 51, 3) := by decide +kernel
theorem dX7_mend_34 : decode cX7_mend 34 = .ok (.ifCond .gt 6, 3) := by decide +kernel
theorem dX7_mend_37 : decode cX7_mend 37 = .ok (.bipush (-3), 2) := by decide +kernel
theorem dX7_mend_39 : decode cX7_mend 39 = .ok (.ireturn, 1) := by decide +kernel
theorem dX7_mend_40 : decode cX7_mend 40 = .ok (.aload_n 0, 1) := by decide +kernel
theorem dX7_mend_41 : decode cX7_mend 41 = .ok (.invokevirtual 54, 3) := by decide +kernel
theorem dX7_mend_44 : decode cX7_mend 44 = .ok (.aload_n 0, 1) := by decide +kernel
theorem dX7_mend_45 : decode cX7_mend 45 = .ok (.iconst (-1), 1) := by decide +kernel
theorem dX7_mend_46 : decode cX7_mend 46 = .ok (.invokevirtual 109, 3) := by decide +kernel
theorem dX7_mend_49 : decode cX7_mend 49 = .ok (.istore_n 2, 1) := by decide +kernel
theorem dX7_mend_50 : decode cX7_mend 50 = .ok (.aload_n 0, 1) := by decide +kernel
theorem dX7_mend_51 : decode cX7_mend 51 = .ok (.iload_n 2, 1) := by decide +kernel
theorem dX7_mend_52 : decode cX7_mend 52 = .ok (.invokevirtual 109, 3) := by decide +kernel
theorem dX7_mend_55 : decode cX7_mend 55 = .ok (.istore_n 3, 1) := by decide +kernel
theorem dX7_mend_56 : decode cX7_mend 56 = .ok (.iload_n 2, 1) := by decide +kernel
theorem dX7_mend_57 : decode cX7_mend 57 = .ok (.iload_n 3, 1) := by decide +kernel
theorem dX7_mend_58 : decode cX7_mend 58 = .ok (.if_icmp .ge 7, 3) := by decide +kernel
theorem dX7_mend_61 : decode cX7_mend 61 = .ok (.iload_n 2, 1) := by decide +kernel
theorem dX7_mend_62 : decode cX7_mend 62 = .ok (.goto 4, 3) := by decide +kernel
theorem dX7_mend_65 : decode cX7_mend 65 = .ok (.iload_n 3, 1) := by decide +kernel
theorem dX7_mend_66 : decode cX7_mend 66 = .ok (.istore 4, 2) := by decide +kernel
theorem dX7_mend_68 : decode cX7_mend 68 = .ok (.aload_n 0, 1) := by decide +kernel
theorem dX7_mend_69 : decode cX7_mend 69 = .ok (.getfield 7, 3) := by decide +kernel
theorem dX7_mend_72 : decode cX7_mend 72 = .ok (.bipush 121, 2) := by decide +kernel
theorem dX7_mend_74 : decode cX7_mend 74 = .ok (.iload_n 2, 1) := by decide +kernel
theorem dX7_mend_75 : decode cX7_mend 75 = .ok (.iadd, 1) := by decide +kernel
theorem dX7_mend_76 : decode cX7_mend 76 = .ok (.iaload, 1) := by decide +kernel
theorem dX7_mend_77 : decode cX7_mend 77 = .ok (.iconst 4, 1) := by decide +kernel
theorem dX7_mend_78 : decode cX7_mend 78 = .ok (.idiv, 1) := by decide +kernel
theorem dX7_mend_79 : decode cX7_mend 79 = .ok (.istore 5, 2) := by decide +kernel
theorem dX7_mend_81 : decode cX7_mend 81 = .ok (.aload_n 0, 1) := by decide +kernel
theorem dX7_mend_82 : decode cX7_mend 82 = .ok (.iload_n 2, 1) := by decide +kernel
theorem dX7_mend_83 : decode cX7_mend 83 = .ok (.iload_n 3, 1) := by decide +kernel
theorem dX7_mend_84 : decode cX7_mend 84 = .ok (.iadd, 1) := by decide +kernel
theorem dX7_mend_85 : decode cX7_mend 85 = .ok (.iload 4, 2) := by decide +kernel
theorem dX7_mend_87 : decode cX7_mend 87 = .ok (.isub, 1) := by decide +kernel
theorem dX7_mend_88 : decode cX7_mend 88 = .ok (.iconst 4, 1) := by decide +kernel
theorem dX7_mend_89 : decode cX7_mend 89 = .ok (.iconst 0, 1) := by decide +kernel
theorem dX7_mend_90 : decode cX7_mend 90 = .ok (.invokevirtual 57, 3) := by decide +kernel
theorem dX7_mend_93 : decode cX7_mend 93 = .ok (.aload_n 0, 1) := by decide +kernel
theorem dX7_mend_94 : decode cX7_mend 94 = .ok (.iload 4, 2) := by decide +kernel
theorem dX7_mend_96 : decode cX7_mend 96 = .ok (.iconst 0, 1) := by decide +kernel
theorem dX7_mend_97 : decode cX7_mend 97 = .ok (.iload_n 1, 1) := by decide +kernel
theorem dX7_mend_98 : decode cX7_mend 98 = .ok (.invokevirtual 57, 3) := by decide +kernel
theorem dX7_mend_101 : decode cX7_mend 101 = .ok (.aload_n 0, 1) := by decide +kernel
theorem dX7_mend_102 : decode cX7_mend 102 = .ok (.getfield 7, 3) := by decide +kernel
theorem dX7_mend_105 : decode cX7_mend 105 = .ok (.bipush 121, 2) := by decide +kernel
theorem dX7_mend_107 : decode cX7_mend 107 = .ok (.iload 4, 2) := by decide +kernel
theorem dX7_mend_109 : decode cX7_mend 109 = .ok (.iadd, 1) := by decide +kernel
theorem dX7_mend_110 : decode cX7_mend 110 = .ok (.iload 5, 2) := by decide +kernel
theorem dX7_mend_112 : decode cX7_mend 112 = .ok (.iastore, 1) := by decide +kernel
theorem dX7_mend_113 : decode cX7_mend 113 = .ok (.aload_n 0, 1) := by decide +kernel
theorem dX7_mend_114 : decode cX7_mend 114 = .ok (.iconst 3, 1) := by decide +kernel
theorem dX7_mend_115 : decode cX7_mend 115 = .ok (.invokevirtual 61, 3) := by decide +kernel
theorem dX7_mend_118 : decode cX7_mend 118 = .ok (.iload 4, 2) := by decide +kernel
theorem dX7_mend_120 : decode cX7_mend 120 = .ok (.ireturn, 1) := by decide +kernel
theorem dX7_levels_0 : decode cX7_levels 0 = .ok (.iconst 0, 1) := by decide +kernel
theorem dX7_levels_1 : decode cX7_levels 1 = .ok (.istore_n 1, 1) := by decide +kernel
theorem dX7_levels_2 : decode cX7_levels 2 = .ok (.iconst 1, 1) := by decide +kernel
theorem dX7_levels_3 : decode cX7_levels 3 = .ok (.istore_n 2, 1) := by decide +kernel
theorem dX7_levels_4 : decode cX7_levels 4 = .ok (.iload_n 2, 1) := by decide +kernel
theorem dX7_levels_5 : decode cX7_levels 5 = .ok (.ifCond .eq 158, 3) := by decide +kernel
theorem dX7_levels_8 : decode cX7_levels 8 = .ok (.iconst 0, 1) := by decide +kernel
theorem dX7_levels_9 : decode cX7_levels 9 = .ok (.istore_n 3, 1) := by decide +kernel
theorem dX7_levels_10 : decode cX7_levels 10 = .ok (.iconst (-1), 1) := by decide +kernel
theorem dX7_levels_11 : decode cX7_levels 11 = .ok (.istore 4, 2) := by decide +kernel
theorem dX7_levels_13 : decode cX7_levels 13 = .ok (.iconst 0, 1) := by decide +kernel
theorem dX7_levels_14 : decode cX7_levels 14 = .ok (.istore 5, 2) := by decide +kernel
theorem dX7_levels_16 : decode cX7_levels 16 = .ok (.iload 5, 2) := by decide +kernel
theorem dX7_levels_18 : decode cX7_levels 18 = .ok (.bipush 8, 2) := by decide +kernel
theorem dX7_levels_20 : decode cX7_levels 20 = .ok (.if_icmp .ge 84, 3) := by decide +kernel
theorem dX7_levels_23 : decode cX7_levels 23 = .ok (.aload_n 0, 1) := by decide +kernel
theorem dX7_levels_24 : decode cX7_levels 24 = .ok (.iconst 0, 1) := by decide +kernel
theorem dX7_levels_25 : decode cX7_levels 25 = .ok (.iload 5, 2) := by decide +kernel
theorem dX7_levels_27 : decode cX7_levels 27 = .ok (.invokevirtual 37, 3) := by decide +kernel
theorem dX7_levels_30 : decode cX7_levels 30 = .ok (.aload_n 0, 1) := by decide +kernel
theorem dX7_levels_31 : decode cX7_levels 31 = .ok (.iconst 0, 1) := by decide +kernel
theorem dX7_levels_32 : decode cX7_levels 32 = .ok (.iload_n 3, 1) := by decide +kernel
theorem dX7_levels_33 : decode cX7_levels 33 = .ok (.invokevirtual 37, 3) := by decide +kernel
theorem dX7_levels_36 : decode cX7_levels 36 = .ok (.if_icmp .le 8, 3) := by decide +kernel
theorem dX7_levels_39 : decode cX7_levels 39 = .ok (.iload 5, 2) := by decide +kernel
theorem dX7_levels_41 : decode cX7_levels 41 = .ok (.goto 4, 3) := by decide +kernel
theorem dX7_levels_44 : decode cX7_levels 44 = .ok (.iload_n 3, 1) := by decide +kernel
theorem dX7_levels_45 : decode cX7_levels 45 = .ok (.istore_n 3, 1) := by decide +kernel
theorem dX7_levels_46 : decode cX7_levels 46 = .ok (.aload_n 0, 1) := by decide +kernel
theorem dX7_levels_47 : decode cX7_levels 47 = .ok (.iload 5, 2) := by decide +kernel
theorem dX7_levels_49 : decode cX7_levels 49 = .ok (.invokevirtual 51, 3) := by decide +kernel
theorem dX7_levels_52 : decode cX7_levels 52 = .ok (.ifCond .le 29, 3) := by decide +kernel
theorem dX7_levels_55 : decode cX7_levels 55 = .ok (.iload 4, 2) := by decide +kernel
theorem dX7_levels_57 : decode cX7_levels 57 = .ok (.ifCond .lt 20, 3) := by decide +kernel
theorem dX7_levels_60 : decode cX7_levels 60 = .ok (.aload_n 0, 1) := by decide +kernel
theorem dX7_levels_61 : decode cX7_levels 61 = .ok (.iconst 0, 1) := by decide +kernel
theorem dX7_levels_62 : decode cX7_levels 62 = .ok (.iload 5, 2) := by decide +kernel
theorem dX7_levels_64 : decode cX7_levels 64 = .ok (.invokevirtual 37, 3) := by decide +kernel
theorem dX7_levels_67 : decode cX7_levels 67 = .ok (.aload_n 0, 1) := by decide +kernel
theorem dX7_levels_68 : decode cX7_levels 68 = .ok (.iconst 0, 1) := by decide +kernel
theorem dX7_levels_69 : decode cX7_levels 69 = .ok (.iload 4, 2) := by decide +kernel
theorem dX7_levels_71 : decode cX7_levels 71 = .ok (.invokevirtual 37, 3) := by decide +kernel
theorem dX7_levels_74 : decode cX7_levels 74 = .ok (.if_icmp .ge 7, 3) := by decide +kernel
theorem dX7_levels_77 : decode cX7_levels 77 = .ok (.iconst 1, 1) := by decide +kernel
theorem dX7_levels_78 : decode cX7_levels 78 = .ok (.goto 4, 3) := by decide +kernel
theorem dX7_levels_81 : decode cX7_levels 81 = .ok (.iconst 0, 1) := by decide +kernel
theorem dX7_levels_82 : decode cX7_levels 82 = .ok (.istore 6, 2) := by decide +kernel
theorem dX7_levels_84 : decode cX7_levels 84 = .ok (.iload 6, 2) := by decide +kernel
theorem dX7_levels_86 : decode cX7_levels 86 = .ok (.ifCond .eq 8, 3) := by decide +kernel
theorem dX7_levels_89 : decode cX7_levels 89 = .ok (.iload 5, 2) := by decide +kernel
theorem dX7_levels_91 : decode cX7_levels 91 = .ok (.goto 5, 3) := by decide +kernel
theorem dX7_levels_94 : decode cX7_levels 94 = .ok (.iload 4, 2) := by decide +kernel
theorem dX7_levels_96 : decode cX7_levels 96 = .ok (.istore 4, 2) := by decide +kernel
theorem dX7_levels_98 : decode cX7_levels 98 = .ok (.iinc 5 1, 3) := by decide +kernel
theorem dX7_levels_101 : decode cX7_levels 101 = .ok (.goto (-85), 3) := by decide +kernel
theorem dX7_levels_104 : decode cX7_levels 104 = .ok (.iload 4, 2) := by decide +kernel
theorem dX7_levels_106 : decode cX7_levels 106 = .ok (.ifCond .lt 33, 3) := by decide +kernel
theorem dX7_levels_109 : decode cX7_levels 109 = .ok (.aload_n 0, 1) := by decide +kernel
theorem dX7_levels_110 : decode cX7_levels 110 = .ok (.iconst 0, 1) := by decide +kernel
theorem dX7_levels_111 : decode cX7_levels 111 = .ok (.iload_n 3, 1) := by decide +kernel
theorem dX7_levels_112 : decode cX7_levels 112 = .ok (.invokevirtual 37, 3) := by decide +kernel
theorem dX7_levels_115 : decode cX7_levels 115 = .ok (.aload_n 0, 1) := by decide +kernel
theorem dX7_levels_116 : decode cX7_levels 116 = .ok (.iconst 0, 1) := by decide +kernel
theorem dX7_levels_117 : decode cX7_levels 117 = .ok (.iload 4, 2) := by decide +kernel
theorem dX7_levels_119 : decode cX7_levels 119 = .ok (.invokevirtual 37, 3) := by decide +kernel
theorem dX7_levels_122 : decode cX7_levels 122 = .ok (.iconst 2, 1) := by decide +kernel
theorem dX7_levels_123 : decode cX7_levels 123 = .ok (.iadd, 1) := by decide +kernel
theorem dX7_levels_124 : decode cX7_levels 124 = .ok (.if_icmp .lt 15, 3) := by decide +kernel
theorem dX7_levels_127 : decode cX7_levels 127 = .ok (.aload_n 0, 1) := by decide +kernel
theorem dX7_levels_128 : decode cX7_levels 128 = .ok (.iload_n 3, 1) := by decide +kernel
theorem dX7_levels_129 : decode cX7_levels 129 = .ok (.invokevirtual 71, 3) := by decide +kernel
theorem dX7_levels_132 : decode cX7_levels 132 = .ok (.ifCond .lt 7, 3) := by decide +kernel
theorem dX7_levels_135 : decode cX7_levels 135 = .ok (.iconst 1, 1) := by decide +kernel
theorem dX7_levels_136 : decode cX7_levels 136 = .ok (.goto 4, 3) := by decide +kernel
theorem dX7_levels_139 : decode cX7_levels 139 = .ok (.iconst 0, 1) := by decide +kernel
theorem dX7_levels_140 : decode cX7_levels 140 = .ok (.istore_n 2, 1) := by decide +kernel
theorem dX7_levels_141 : decode cX7_levels 141 = .ok (.iload_n 2, 1) := by decide +kernel
theorem dX7_levels_142 : decode cX7_levels 142 = .ok (.ifCond .eq 18, 3) := by decide +kernel
theorem dX7_levels_145 : decode cX7_levels 145 = .ok (.aload_n 0, 1) := by decide +kernel
theorem dX7_levels_146 : decode cX7_levels 146 = .ok (.aload_n 0, 1) := by decide +kernel
theorem dX7_levels_147 : decode cX7_levels 147 = .ok (.iload_n 3, 1) := by decide +kernel
theorem dX7_levels_148 : decode cX7_levels 148 = .ok (.invokevirtual 71, 3) := by decide +kernel
theorem dX7_levels_151 : decode cX7_levels 151 = .ok (.iconst 0, 1) := by decide +kernel
theorem dX7_levels_152 : decode cX7_levels 152 = .ok (.iload 4, 2) := by decide +kernel
theorem dX7_levels_154 : decode cX7_levels 154 = .ok (.invokevirtual 57, 3) := by decide +kernel
theorem dX7_levels_157 : decode cX7_levels 157 = .ok (.iinc 1 1, 3) := by decide +kernel
theorem dX7_levels_160 : decode cX7_levels 160 = .ok (.goto (-156), 3) := by decide +kernel
theorem dX7_levels_163 : decode cX7_levels 163 = .ok (.iload_n 1, 1) := by decide +kernel
theorem dX7_levels_164 : decode cX7_levels 164 = .ok (.ireturn, 1) := by decide +kernel
theorem dX7_level_0 : decode cX7_level 0 = .ok (.aload_n 0, 1) := by decide +kernel
theorem dX7_level_1 : decode cX7_level 1 = .ok (.invokevirtual 54, 3) := by decide +kernel
theorem dX7_level_4 : decode cX7_level 4 = .ok (.aload_n 0, 1) := by decide +kernel
theorem dX7_level_5 : decode cX7_level 5 = .ok (.invokevirtual 112, 3) := by decide +kernel
theorem dX7_level_8 : decode cX7_level 8 = .ok (.ireturn, 1) := by decide +kernel
theorem dX7_take_0 : decode cX7_take 0 = .ok (.iload_n 1, 1) := by decide +kernel
theorem dX7_take_1 : decode cX7_take 1 = .ok (.iconst 0, 1) := by decide +kernel
theorem dX7_take_2 : decode cX7_take 2 = .ok (.iconst 1, 1) := by decide +kernel
theorem dX7_take_3 : decode cX7_take 3 = .ok (.invokestatic 22, 3) := by decide +kernel
theorem dX7_take_6 : decode cX7_take 6 = .ok (.ifCond .ne 5, 3) := by decide +kernel
theorem dX7_take_9 : decode cX7_take 9 = .ok (.iconst (-1), 1) := by decide +kernel
theorem dX7_take_10 : decode cX7_take 10 = .ok (.ireturn, 1) := by decide +kernel
theorem dX7_take_11 : decode cX7_take 11 = .ok (.aload_n 0, 1) := by decide +kernel
theorem dX7_take_12 : decode cX7_take 12 = .ok (.invokevirtual 54, 3) := by decide +kernel
theorem dX7_take_15 : decode cX7_take 15 = .ok (.sipush 328, 3) := by decide +kernel
theorem dX7_take_18 : decode cX7_take 18 = .ok (.sipush 329, 3) := by decide +kernel
theorem dX7_take_21 : decode cX7_take 21 = .ok (.iload_n 1, 1) := by decide +kernel
theorem dX7_take_22 : decode cX7_take 22 = .ok (.imul, 1) := by decide +kernel
theorem dX7_take_23 : decode cX7_take 23 = .ok (.iadd, 1) := by decide +kernel
theorem dX7_take_24 : decode cX7_take 24 = .ok (.istore_n 2, 1) := by decide +kernel
theorem dX7_take_25 : decode cX7_take 25 = .ok (.aload_n 0, 1) := by decide +kernel
theorem dX7_take_26 : decode cX7_take 26 = .ok (.getfield 7, 3) := by decide +kernel
theorem dX7_take_29 : decode cX7_take 29 = .ok (.iload_n 2, 1) := by decide +kernel
theorem dX7_take_30 : decode cX7_take 30 = .ok (.iconst 1, 1) := by decide +kernel
theorem dX7_take_31 : decode cX7_take 31 = .ok (.iastore, 1) := by decide +kernel
theorem dX7_take_32 : decode cX7_take 32 = .ok (.iconst 0, 1) := by decide +kernel
theorem dX7_take_33 : decode cX7_take 33 = .ok (.istore_n 3, 1) := by decide +kernel
theorem dX7_take_34 : decode cX7_take 34 = .ok (.iload_n 3, 1) := by decide +kernel
theorem dX7_take_35 : decode cX7_take 35 = .ok (.sipush 328, 3) := by decide +kernel
theorem dX7_take_38 : decode cX7_take 38 = .ok (.if_icmp .ge 25, 3) := by decide +kernel
theorem dX7_take_41 : decode cX7_take 41 = .ok (.aload_n 0, 1) := by decide +kernel
theorem dX7_take_42 : decode cX7_take 42 = .ok (.getfield 7, 3) := by decide +kernel
theorem dX7_take_45 : decode cX7_take 45 = .ok (.iload_n 2, 1) := by decide +kernel
theorem dX7_take_46 : decode cX7_take 46 = .ok (.iconst 1, 1) := by decide +kernel
theorem dX7_take_47 : decode cX7_take 47 = .ok (.iadd, 1) := by decide +kernel
theorem dX7_take_48 : decode cX7_take 48 = .ok (.iload_n 3, 1) := by decide +kernel
theorem dX7_take_49 : decode cX7_take 49 = .ok (.iadd, 1) := by decide +kernel
theorem dX7_take_50 : decode cX7_take 50 = .ok (.aload_n 0, 1) := by decide +kernel
theorem dX7_take_51 : decode cX7_take 51 = .ok (.getfield 7, 3) := by decide +kernel
theorem dX7_take_54 : decode cX7_take 54 = .ok (.iload_n 3, 1) := by decide +kernel
theorem dX7_take_55 : decode cX7_take 55 = .ok (.iaload, 1) := by decide +kernel
theorem dX7_take_56 : decode cX7_take 56 = .ok (.iastore, 1) := by decide +kernel
theorem dX7_take_57 : decode cX7_take 57 = .ok (.iinc 3 1, 3) := by decide +kernel
theorem dX7_take_60 : decode cX7_take 60 = .ok (.goto (-26), 3) := by decide +kernel
theorem dX7_take_63 : decode cX7_take 63 = .ok (.aload_n 0, 1) := by decide +kernel
theorem dX7_take_64 : decode cX7_take 64 = .ok (.getfield 7, 3) := by decide +kernel
theorem dX7_take_67 : decode cX7_take 67 = .ok (.sipush 322, 3) := by decide +kernel
theorem dX7_take_70 : decode cX7_take 70 = .ok (.iaload, 1) := by decide +kernel
theorem dX7_take_71 : decode cX7_take 71 = .ok (.ireturn, 1) := by decide +kernel
theorem dX7_restore_0 : decode cX7_restore 0 = .ok (.iload_n 1, 1) := by decide +kernel
theorem dX7_restore_1 : decode cX7_restore 1 = .ok (.iconst 0, 1) := by decide +kernel
theorem dX7_restore_2 : decode cX7_restore 2 = .ok (.iconst 1, 1) := by decide +kernel
theorem dX7_restore_3 : decode cX7_restore 3 = .ok (.invokestatic 22, 3) := by decide +kernel
theorem dX7_restore_6 : decode cX7_restore 6 = .ok (.ifCond .ne 5, 3) := by decide +kernel
theorem dX7_restore_9 : decode cX7_restore 9 = .ok (.iconst (-1), 1) := by decide +kernel
theorem dX7_restore_10 : decode cX7_restore 10 = .ok (.ireturn, 1) := by decide +kernel
theorem dX7_restore_11 : decode cX7_restore 11 = .ok (.sipush 328, 3) := by decide +kernel
theorem dX7_restore_14 : decode cX7_restore 14 = .ok (.sipush 329, 3) := by decide +kernel
theorem dX7_restore_17 : decode cX7_restore 17 = .ok (.iload_n 1, 1) := by decide +kernel
theorem dX7_restore_18 : decode cX7_restore 18 = .ok (.imul, 1) := by decide +kernel
theorem dX7_restore_19 : decode cX7_restore 19 = .ok (.iadd, 1) := by decide +kernel
theorem dX7_restore_20 : decode cX7_restore 20 = .ok (.istore_n 2, 1) := by decide +kernel
theorem dX7_restore_21 : decode cX7_restore 21 = .ok (.aload_n 0, 1) := by decide +kernel
theorem dX7_restore_22 : decode cX7_restore 22 = .ok (.getfield 7, 3) := by decide +kernel
theorem dX7_restore_25 : decode cX7_restore 25 = .ok (.iload_n 2, 1) := by decide +kernel
theorem dX7_restore_26 : decode cX7_restore 26 = .ok (.iaload, 1) := by decide +kernel
theorem dX7_restore_27 : decode cX7_restore 27 = .ok (.ifCond .ne 6, 3) := by decide +kernel
theorem dX7_restore_30 : decode cX7_restore 30 = .ok (.bipush (-2), 2) := by decide +kernel
theorem dX7_restore_32 : decode cX7_restore 32 = .ok (.ireturn, 1) := by decide +kernel
theorem dX7_restore_33 : decode cX7_restore 33 = .ok (.aload_n 0, 1) := by decide +kernel
theorem dX7_restore_34 : decode cX7_restore 34 = .ok (.invokevirtual 54, 3) := by decide +kernel
theorem dX7_restore_37 : decode cX7_restore 37 = .ok (.iconst 0, 1) := by decide +kernel
theorem dX7_restore_38 : decode cX7_restore 38 = .ok (.istore_n 3, 1) := by decide +kernel
theorem dX7_restore_39 : decode cX7_restore 39 = .ok (.iload_n 3, 1) := by decide +kernel
theorem dX7_restore_40 : decode cX7_restore 40 = .ok (.sipush 328, 3) := by decide +kernel
theorem dX7_restore_43 : decode cX7_restore 43 = .ok (.if_icmp .ge 25, 3) := by decide +kernel
theorem dX7_restore_46 : decode cX7_restore 46 = .ok (.aload_n 0, 1) := by decide +kernel
theorem dX7_restore_47 : decode cX7_restore 47 = .ok (.getfield 7, 3) := by decide +kernel
theorem dX7_restore_50 : decode cX7_restore 50 = .ok (.iload_n 3, 1) := by decide +kernel
theorem dX7_restore_51 : decode cX7_restore 51 = .ok (.aload_n 0, 1) := by decide +kernel
theorem dX7_restore_52 : decode cX7_restore 52 = .ok (.getfield 7, 3) := by decide +kernel
theorem dX7_restore_55 : decode cX7_restore 55 = .ok (.iload_n 2, 1) := by decide +kernel
theorem dX7_restore_56 : decode cX7_restore 56 = .ok (.iconst 1, 1) := by decide +kernel
theorem dX7_restore_57 : decode cX7_restore 57 = .ok (.iadd, 1) := by decide +kernel
theorem dX7_restore_58 : decode cX7_restore 58 = .ok (.iload_n 3, 1) := by decide +kernel
theorem dX7_restore_59 : decode cX7_restore 59 = .ok (.iadd, 1) := by decide +kernel
theorem dX7_restore_60 : decode cX7_restore 60 = .ok (.iaload, 1) := by decide +kernel
theorem dX7_restore_61 : decode cX7_restore 61 = .ok (.iastore, 1) := by decide +kernel
theorem dX7_restore_62 : decode cX7_restore 62 = .ok (.iinc 3 1, 3) := by decide +kernel
theorem dX7_restore_65 : decode cX7_restore 65 = .ok (.goto (-26), 3) := by decide +kernel
theorem dX7_restore_68 : decode cX7_restore 68 = .ok (.aload_n 0, 1) := by decide +kernel
theorem dX7_restore_69 : decode cX7_restore 69 = .ok (.getfield 7, 3) := by decide +kernel
theorem dX7_restore_72 : decode cX7_restore 72 = .ok (.sipush 322, 3) := by decide +kernel
theorem dX7_restore_75 : decode cX7_restore 75 = .ok (.iaload, 1) := by decide +kernel
theorem dX7_restore_76 : decode cX7_restore 76 = .ok (.ireturn, 1) := by decide +kernel
theorem dX7_undo_0 : decode cX7_undo 0 = .ok (.aload_n 0, 1) := by decide +kernel
theorem dX7_undo_1 : decode cX7_undo 1 = .ok (.getfield 26, 3) := by decide +kernel
theorem dX7_undo_4 : decode cX7_undo 4 = .ok (.ifCond .ne 6, 3) := by decide +kernel
theorem dX7_undo_7 : decode cX7_undo 7 = .ok (.bipush (-2), 2) := by decide +kernel
theorem dX7_undo_9 : decode cX7_undo 9 = .ok (.ireturn, 1) := by decide +kernel
theorem dX7_undo_10 : decode cX7_undo 10 = .ok (.aload_n 0, 1) := by decide +kernel
theorem dX7_undo_11 : decode cX7_undo 11 = .ok (.dup, 1) := by decide +kernel
theorem dX7_undo_12 : decode cX7_undo 12 = .ok (.getfield 26, 3) := by decide +kernel
theorem dX7_undo_15 : decode cX7_undo 15 = .ok (.iconst 1, 1) := by decide +kernel
theorem dX7_undo_16 : decode cX7_undo 16 = .ok (.isub, 1) := by decide +kernel
theorem dX7_undo_17 : decode cX7_undo 17 = .ok (.putfield 26, 3) := by decide +kernel
theorem dX7_undo_20 : decode cX7_undo 20 = .ok (.iconst 0, 1) := by decide +kernel
theorem dX7_undo_21 : decode cX7_undo 21 = .ok (.istore_n 1, 1) := by decide +kernel
theorem dX7_undo_22 : decode cX7_undo 22 = .ok (.iload_n 1, 1) := by decide +kernel
theorem dX7_undo_23 : decode cX7_undo 23 = .ok (.sipush 986, 3) := by decide +kernel
theorem dX7_undo_26 : decode cX7_undo 26 = .ok (.if_icmp .ge 30, 3) := by decide +kernel
theorem dX7_undo_29 : decode cX7_undo 29 = .ok (.aload_n 0, 1) := by decide +kernel
theorem dX7_undo_30 : decode cX7_undo 30 = .ok (.getfield 7, 3) := by decide +kernel
theorem dX7_undo_33 : decode cX7_undo 33 = .ok (.iload_n 1, 1) := by decide +kernel
theorem dX7_undo_34 : decode cX7_undo 34 = .ok (.aload_n 0, 1) := by decide +kernel
theorem dX7_undo_35 : decode cX7_undo 35 = .ok (.getfield 13, 3) := by decide +kernel
theorem dX7_undo_38 : decode cX7_undo 38 = .ok (.sipush 986, 3) := by decide +kernel
theorem dX7_undo_41 : decode cX7_undo 41 = .ok (.aload_n 0, 1) := by decide +kernel
theorem dX7_undo_42 : decode cX7_undo 42 = .ok (.getfield 26, 3) := by decide +kernel
theorem dX7_undo_45 : decode cX7_undo 45 = .ok (.imul, 1) := by decide +kernel
theorem dX7_undo_46 : decode cX7_undo 46 = .ok (.iload_n 1, 1) := by decide +kernel
theorem dX7_undo_47 : decode cX7_undo 47 = .ok (.iadd, 1) := by decide +kernel
theorem dX7_undo_48 : decode cX7_undo 48 = .ok (.iaload, 1) := by decide +kernel
theorem dX7_undo_49 : decode cX7_undo 49 = .ok (.iastore, 1) := by decide +kernel
theorem dX7_undo_50 : decode cX7_undo 50 = .ok (.iinc 1 1, 3) := by decide +kernel
theorem dX7_undo_53 : decode cX7_undo 53 = .ok (.goto (-31), 3) := by decide +kernel
theorem dX7_undo_56 : decode cX7_undo 56 = .ok (.aload_n 0, 1) := by decide +kernel
theorem dX7_undo_57 : decode cX7_undo 57 = .ok (.getfield 26, 3) := by decide +kernel
theorem dX7_undo_60 : decode cX7_undo 60 = .ok (.ireturn, 1) := by decide +kernel
theorem dX7_append_0 : decode cX7_append 0 = .ok (.iload_n 1, 1) := by decide +kernel
theorem dX7_append_1 : decode cX7_append 1 = .ok (.iconst 1, 1) := by decide +kernel
theorem dX7_append_2 : decode cX7_append 2 = .ok (.sipush 255, 3) := by decide +kernel
theorem dX7_append_5 : decode cX7_append 5 = .ok (.invokestatic 22, 3) := by decide +kernel
theorem dX7_append_8 : decode cX7_append 8 = .ok (.ifCond .ne 5, 3) := by decide +kernel
theorem dX7_append_11 : decode cX7_append 11 = .ok (.iconst (-1), 1) := by decide +kernel
theorem dX7_append_12 : decode cX7_append 12 = .ok (.ireturn, 1) := by decide +kernel
theorem dX7_append_13 : decode cX7_append 13 = .ok (.aload_n 0, 1) := by decide +kernel
theorem dX7_append_14 : decode cX7_append 14 = .ok (.getfield 116, 3) := by decide +kernel
theorem dX7_append_17 : decode cX7_append 17 = .ok (.bipush 80, 2) := by decide +kernel
theorem dX7_append_19 : decode cX7_append 19 = .ok (.if_icmp .ne 6, 3) := by decide +kernel
theorem dX7_append_22 : decode cX7_append 22 = .ok (.bipush (-3), 2) := by decide +kernel
theorem dX7_append_24 : decode cX7_append 24 = .ok (.ireturn, 1) := by decide +kernel
theorem dX7_append_25 : decode cX7_append 25 = .ok (.aload_n 0, 1) := by decide +kernel
theorem dX7_append_26 : decode cX7_append 26 = .ok (.getfield 19, 3) := by decide +kernel
theorem dX7_append_29 : decode cX7_append 29 = .ok (.aload_n 0, 1) := by decide +kernel
theorem dX7_append_30 : decode cX7_append 30 = .ok (.getfield 116, 3) := by decide +kernel
theorem dX7_append_33 : decode cX7_append 33 = .ok (.iload_n 1, 1) := by decide +kernel
theorem dX7_append_34 : decode cX7_append 34 = .ok (.iastore, 1) := by decide +kernel
theorem dX7_append_35 : decode cX7_append 35 = .ok (.aload_n 0, 1) := by decide +kernel
theorem dX7_append_36 : decode cX7_append 36 = .ok (.dup, 1) := by decide +kernel
theorem dX7_append_37 : decode cX7_append 37 = .ok (.getfield 116, 3) := by decide +kernel
theorem dX7_append_40 : decode cX7_append 40 = .ok (.iconst 1, 1) := by decide +kernel
theorem dX7_append_41 : decode cX7_append 41 = .ok (.iadd, 1) := by decide +kernel
theorem dX7_append_42 : decode cX7_append 42 = .ok (.putfield 116, 3) := by decide +kernel
theorem dX7_append_45 : decode cX7_append 45 = .ok (.aload_n 0, 1) := by decide +kernel
theorem dX7_append_46 : decode cX7_append 46 = .ok (.getfield 116, 3) := by decide +kernel
theorem dX7_append_49 : decode cX7_append 49 = .ok (.ireturn, 1) := by decide +kernel
theorem dX7_clearText_0 : decode cX7_clearText 0 = .ok (.aload_n 0, 1) := by decide +kernel
theorem dX7_clearText_1 : decode cX7_clearText 1 = .ok (.getfield 116, 3) := by decide +kernel
theorem dX7_clearText_4 : decode cX7_clearText 4 = .ok (.istore_n 1, 1) := by decide +kernel
theorem dX7_clearText_5 : decode cX7_clearText 5 = .ok (.aload_n 0, 1) := by decide +kernel
theorem dX7_clearText_6 : decode cX7_clearText 6 = .ok (.iconst 0, 1) := by decide +kernel
theorem dX7_clearText_7 : decode cX7_clearText 7 = .ok (.putfield 116, 3) := by decide +kernel
theorem dX7_clearText_10 : decode cX7_clearText 10 = .ok (.iload_n 1, 1) := by decide +kernel
theorem dX7_clearText_11 : decode cX7_clearText 11 = .ok (.ireturn, 1) := by decide +kernel
theorem dX7_here_0 : decode cX7_here 0 = .ok (.aload_n 0, 1) := by decide +kernel
theorem dX7_here_1 : decode cX7_here 1 = .ok (.getfield 119, 3) := by decide +kernel
theorem dX7_here_4 : decode cX7_here 4 = .ok (.aload_n 0, 1) := by decide +kernel
theorem dX7_here_5 : decode cX7_here 5 = .ok (.getfield 116, 3) := by decide +kernel
theorem dX7_here_8 : decode cX7_here 8 = .ok (.if_icmp .ge 15, 3) := by decide +kernel
theorem dX7_here_11 : decode cX7_here 11 = .ok (.aload_n 0, 1) := by decide +kernel
theorem dX7_here_12 : decode cX7_here 12 = .ok (.getfield 19, 3) := by decide +kernel
theorem dX7_here_15 : decode cX7_here 15 = .ok (.aload_n 0, 1) := by decide +kernel
theorem dX7_here_16 : decode cX7_here 16 = .ok (.getfield 119, 3) := by decide +kernel
theorem dX7_here_19 : decode cX7_here 19 = .ok (.iaload, 1) := by decide +kernel
theorem dX7_here_20 : decode cX7_here 20 = .ok (.goto 4, 3) := by decide +kernel
theorem dX7_here_23 : decode cX7_here 23 = .ok (.iconst (-1), 1) := by decide +kernel
theorem dX7_here_24 : decode cX7_here 24 = .ok (.ireturn, 1) := by decide +kernel
theorem dX7_passes__0 : decode cX7_passes_ 0 = .ok (.aload_n 0, 1) := by decide +kernel
theorem dX7_passes__1 : decode cX7_passes_ 1 = .ok (.invokevirtual 122, 3) := by decide +kernel
theorem dX7_passes__4 : decode cX7_passes_ 4 = .ok (.iload_n 1, 1) := by decide +kernel
theorem dX7_passes__5 : decode cX7_passes_ 5 = .ok (.if_icmp .ne 7, 3) := by decide +kernel
theorem dX7_passes__8 : decode cX7_passes_ 8 = .ok (.iconst 1, 1) := by decide +kernel
theorem dX7_passes__9 : decode cX7_passes_ 9 = .ok (.goto 4, 3) := by decide +kernel
theorem dX7_passes__12 : decode cX7_passes_ 12 = .ok (.iconst 0, 1) := by decide +kernel
theorem dX7_passes__13 : decode cX7_passes_ 13 = .ok (.istore_n 2, 1) := by decide +kernel
theorem dX7_passes__14 : decode cX7_passes_ 14 = .ok (.aload_n 0, 1) := by decide +kernel
theorem dX7_passes__15 : decode cX7_passes_ 15 = .ok (.dup, 1) := by decide +kernel
theorem dX7_passes__16 : decode cX7_passes_ 16 = .ok (.getfield 119, 3) := by decide +kernel
theorem dX7_passes__19 : decode cX7_passes_ 19 = .ok (.iload_n 2, 1) := by decide +kernel
theorem dX7_passes__20 : decode cX7_passes_ 20 = .ok (.ifCond .eq 7, 3) := by decide +kernel
theorem dX7_passes__23 : decode cX7_passes_ 23 = .ok (.iconst 1, 1) := by decide +kernel
theorem dX7_passes__24 : decode cX7_passes_ 24 = .ok (.goto 4, 3) := by decide +kernel
theorem dX7_passes__27 : decode cX7_passes_ 27 = .ok (.iconst 0, 1) := by decide +kernel
theorem dX7_passes__28 : decode cX7_passes_ 28 = .ok (.iadd, 1) := by decide +kernel
theorem dX7_passes__29 : decode cX7_passes_ 29 = .ok (.putfield 119, 3) := by decide +kernel
theorem dX7_passes__32 : decode cX7_passes_ 32 = .ok (.iload_n 2, 1) := by decide +kernel
theorem dX7_passes__33 : decode cX7_passes_ 33 = .ok (.ireturn, 1) := by decide +kernel
theorem dX7_readNumber_0 : decode cX7_readNumber 0 = .ok (.aload_n 0, 1) := by decide +kernel
theorem dX7_readNumber_1 : decode cX7_readNumber 1 = .ok (.invokevirtual 122, 3) := by decide +kernel
theorem dX7_readNumber_4 : decode cX7_readNumber 4 = .ok (.bipush 48, 2) := by decide +kernel
theorem dX7_readNumber_6 : decode cX7_readNumber 6 = .ok (.bipush 57, 2) := by decide +kernel
theorem dX7_readNumber_8 : decode cX7_readNumber 8 = .ok (.invokestatic 22, 3) := by decide +kernel
theorem dX7_readNumber_11 : decode cX7_readNumber 11 = .ok (.ifCond .ne 5, 3) := by decide +kernel
theorem dX7_readNumber_14 : decode cX7_readNumber 14 = .ok (.iconst 0, 1) := by decide +kernel
theorem dX7_readNumber_15 : decode cX7_readNumber 15 = .ok (.ireturn, 1) := by decide +kernel
theorem dX7_readNumber_16 : decode cX7_readNumber 16 = .ok (.aload_n 0, 1) := by decide +kernel
theorem dX7_readNumber_17 : decode cX7_readNumber 17 = .ok (.aload_n 0, 1) := by decide +kernel
theorem dX7_readNumber_18 : decode cX7_readNumber 18 = .ok (.invokevirtual 122, 3) := by decide +kernel
theorem dX7_readNumber_21 : decode cX7_readNumber 21 = .ok (.bipush 48, 2) := by decide +kernel
theorem dX7_readNumber_23 : decode cX7_readNumber 23 = .ok (.isub, 1) := by decide +kernel
theorem dX7_readNumber_24 : decode cX7_readNumber 24 = .ok (.putfield 125, 3) := by decide +kernel
theorem dX7_readNumber_27 : decode cX7_readNumber 27 = .ok (.aload_n 0, 1) := by decide +kernel
theorem dX7_readNumber_28 : decode cX7_readNumber 28 = .ok (.dup, 1) := by decide +kernel
theorem dX7_readNumber_29 : decode cX7_readNumber 29 = .ok (.getfield 119, 3) := by decide +kernel
theorem dX7_readNumber_32 : decode cX7_readNumber 32 = .ok (.iconst 1, 1) := by decide +kernel
theorem dX7_readNumber_33 : decode cX7_readNumber 33 = .ok (.iadd, 1) := by decide +kernel
theorem dX7_readNumber_34 : decode cX7_readNumber 34 = .ok (.putfield 119, 3) := by decide +kernel
theorem dX7_readNumber_37 : decode cX7_readNumber 37 = .ok (.aload_n 0, 1) := by decide +kernel
theorem dX7_readNumber_38 : decode cX7_readNumber 38 = .ok (.getfield 125, 3) := by decide +kernel
theorem dX7_readNumber_41 : decode cX7_readNumber 41 = .ok (.ifCond .le 46, 3) := by decide +kernel
theorem dX7_readNumber_44 : decode cX7_readNumber 44 = .ok (.aload_n 0, 1) := by decide +kernel
theorem dX7_readNumber_45 : decode cX7_readNumber 45 = .ok (.invokevirtual 122, 3) := by decide +kernel
theorem dX7_readNumber_48 : decode cX7_readNumber 48 = .ok (.bipush 48, 2) := by decide +kernel
theorem dX7_readNumber_50 : decode cX7_readNumber 50 = .ok (.bipush 57, 2) := by decide +kernel
theorem dX7_readNumber_52 : decode cX7_readNumber 52 = .ok (.invokestatic 22, 3) := by decide +kernel
theorem dX7_readNumber_55 : decode cX7_readNumber 55 = .ok (.ifCond .eq 32, 3) := by decide +kernel
theorem dX7_readNumber_58 : decode cX7_readNumber 58 = .ok (.aload_n 0, 1) := by decide +kernel
theorem dX7_readNumber_59 : decode cX7_readNumber 59 = .ok (.bipush 10, 2) := by decide +kernel
theorem dX7_readNumber_61 : decode cX7_readNumber 61 = .ok (.aload_n 0, 1) := by decide +kernel
theorem dX7_readNumber_62 : decode cX7_readNumber 62 = .ok (.getfield 125, 3) := by decide +kernel
theorem dX7_readNumber_65 : decode cX7_readNumber 65 = .ok (.imul, 1) := by decide +kernel
theorem dX7_readNumber_66 : decode cX7_readNumber 66 = .ok (.aload_n 0, 1) := by decide +kernel
theorem dX7_readNumber_67 : decode cX7_readNumber 67 = .ok (.invokevirtual 122, 3) := by decide +kernel
theorem dX7_readNumber_70 : decode cX7_readNumber 70 = .ok (.iadd, 1) := by decide +kernel
theorem dX7_readNumber_71 : decode cX7_readNumber 71 = .ok (.bipush 48, 2) := by decide +kernel
theorem dX7_readNumber_73 : decode cX7_readNumber 73 = .ok (.isub, 1) := by decide +kernel
theorem dX7_readNumber_74 : decode cX7_readNumber 74 = .ok (.putfield 125, 3) := by decide +kernel
theorem dX7_readNumber_77 : decode cX7_readNumber 77 = .ok (.aload_n 0, 1) := by decide +kernel
theorem dX7_readNumber_78 : decode cX7_readNumber 78 = .ok (.dup, 1) := by decide +kernel
theorem dX7_readNumber_79 : decode cX7_readNumber 79 = .ok (.getfield 119, 3) := by decide +kernel
theorem dX7_readNumber_82 : decode cX7_readNumber 82 = .ok (.iconst 1, 1) := by decide +kernel
theorem dX7_readNumber_83 : decode cX7_readNumber 83 = .ok (.iadd, 1) := by decide +kernel
theorem dX7_readNumber_84 : decode cX7_readNumber 84 = .ok (.putfield 119, 3) := by decide +kernel
theorem dX7_readNumber_87 : decode cX7_readNumber 87 = .ok (.iconst 1, 1) := by decide +kernel
theorem dX7_readNumber_88 : decode cX7_readNumber 88 = .ok (.ireturn, 1) := by decide +kernel
theorem dX7_readOrder_0 : decode cX7_readOrder 0 = .ok (.aload_n 0, 1) := by decide +kernel
theorem dX7_readOrder_1 : decode cX7_readOrder 1 = .ok (.aload_n 0, 1) := by decide +kernel
theorem dX7_readOrder_2 : decode cX7_readOrder 2 = .ok (.invokevirtual 122, 3) := by decide +kernel
theorem dX7_readOrder_5 : decode cX7_readOrder 5 = .ok (.putfield 128, 3) := by decide +kernel
theorem dX7_readOrder_8 : decode cX7_readOrder 8 = .ok (.aload_n 0, 1) := by decide +kernel
theorem dX7_readOrder_9 : decode cX7_readOrder 9 = .ok (.getfield 128, 3) := by decide +kernel
theorem dX7_readOrder_12 : decode cX7_readOrder 12 = .ok (.bipush 98, 2) := by decide +kernel
theorem dX7_readOrder_14 : decode cX7_readOrder 14 = .ok (.if_icmp .eq 32, 3) := by decide +kernel
theorem dX7_readOrder_17 : decode cX7_readOrder 17 = .ok (.aload_n 0, 1) := by decide +kernel
theorem dX7_readOrder_18 : decode cX7_readOrder 18 = .ok (.getfield 128, 3) := by decide +kernel
theorem dX7_readOrder_21 : decode cX7_readOrder 21 = .ok (.bipush 114, 2) := by decide +kernel
theorem dX7_readOrder_23 : decode cX7_readOrder 23 = .ok (.if_icmp .eq 23, 3) := by decide +kernel
theorem dX7_readOrder_26 : decode cX7_readOrder 26 = .ok (.aload_n 0, 1) := by decide +kernel
theorem dX7_readOrder_27 : decode cX7_readOrder 27 = .ok (.getfield 128, 3) := by decide +kernel
theorem dX7_readOrder_30 : decode cX7_readOrder 30 = .ok (.bipush 104, 2) := by decide +kernel
theorem dX7_readOrder_32 : decode cX7_readOrder 32 = .ok (.if_icmp .eq 14, 3) := by decide +kernel
theorem dX7_readOrder_35 : decode cX7_readOrder 35 = .ok (.aload_n 0, 1) := by decide +kernel
theorem dX7_readOrder_36 : decode cX7_readOrder 36 = .ok (.getfield 128, 3) := by decide +kernel
theorem dX7_readOrder_39 : decode cX7_readOrder 39 = .ok (.bipush 108, 2) := by decide +kernel
theorem dX7_readOrder_41 : decode cX7_readOrder 41 = .ok (.if_icmp .eq 5, 3) := by decide +kernel
theorem dX7_readOrder_44 : decode cX7_readOrder 44 = .ok (.iconst 0, 1) := by decide +kernel
theorem dX7_readOrder_45 : decode cX7_readOrder 45 = .ok (.ireturn, 1) := by decide +kernel
theorem dX7_readOrder_46 : decode cX7_readOrder 46 = .ok (.aload_n 0, 1) := by decide +kernel
theorem dX7_readOrder_47 : decode cX7_readOrder 47 = .ok (.dup, 1) := by decide +kernel
theorem dX7_readOrder_48 : decode cX7_readOrder 48 = .ok (.getfield 119, 3) := by decide +kernel
theorem dX7_readOrder_51 : decode cX7_readOrder 51 = .ok (.iconst 1, 1) := by decide +kernel
theorem dX7_readOrder_52 : decode cX7_readOrder 52 = .ok (.iadd, 1) := by decide +kernel
theorem dX7_readOrder_53 : decode cX7_readOrder 53 = .ok (.putfield 119, 3) := by decide +kernel
theorem dX7_readOrder_56 : decode cX7_readOrder 56 = .ok (.aload_n 0, 1) := by decide +kernel
theorem dX7_readOrder_57 : decode cX7_readOrder 57 = .ok (.getfield 128, 3) := by decide +kernel
theorem dX7_readOrder_60 : decode cX7_readOrder 60 = .ok (.bipush 108, 2) := by decide +kernel
theorem dX7_readOrder_62 : decode cX7_readOrder 62 = .ok (.if_icmp .ne 5, 3) := by decide +kernel
theorem dX7_readOrder_65 : decode cX7_readOrder 65 = .ok (.iconst 1, 1) := by decide +kernel
theorem dX7_readOrder_66 : decode cX7_readOrder 66 = .ok (.ireturn, 1) := by decide +kernel
theorem dX7_readOrder_67 : decode cX7_readOrder 67 = .ok (.aload_n 0, 1) := by decide +kernel
theorem dX7_readOrder_68 : decode cX7_readOrder 68 = .ok (.invokevirtual 131, 3) := by decide +kernel
theorem dX7_readOrder_71 : decode cX7_readOrder 71 = .ok (.ifCond .ne 5, 3) := by decide +kernel
theorem dX7_readOrder_74 : decode cX7_readOrder 74 = .ok (.iconst 0, 1) := by decide +kernel
theorem dX7_readOrder_75 : decode cX7_readOrder 75 = .ok (.ireturn, 1) := by decide +kernel
theorem dX7_readOrder_76 : decode cX7_readOrder 76 = .ok (.aload_n 0, 1) := by decide +kernel
theorem dX7_readOrder_77 : decode cX7_readOrder 77 = .ok (.aload_n 0, 1) := by decide +kernel
theorem dX7_readOrder_78 : decode cX7_readOrder 78 = .ok (.getfield 125, 3) := by decide +kernel
theorem dX7_readOrder_81 : decode cX7_readOrder 81 = .ok (.putfield 135, 3) := by decide +kernel
theorem dX7_readOrder_84 : decode cX7_readOrder 84 = .ok (.aload_n 0, 1) := by decide +kernel
theorem dX7_readOrder_85 : decode cX7_readOrder 85 = .ok (.aload_n 0, 1) := by decide +kernel
theorem dX7_readOrder_86 : decode cX7_readOrder 86 = .ok (.getfield 128, 3) := by decide +kernel
theorem dX7_readOrder_89 : decode cX7_readOrder 89 = .ok (.bipush 104, 2) := by decide +kernel
theorem dX7_readOrder_91 : decode cX7_readOrder 91 = .ok (.if_icmp .ne 8, 3) := by decide +kernel
theorem dX7_readOrder_94 : decode cX7_readOrder 94 = .ok (.bipush 44, 2) := by decide +kernel
theorem dX7_readOrder_96 : decode cX7_readOrder 96 = .ok (.goto 5, 3) := by decide +kernel
theorem dX7_readOrder_99 : decode cX7_readOrder 99 = .ok (.bipush 64, 2) := by decide +kernel
theorem dX7_readOrder_101 : decode cX7_readOrder 101 = .ok (.invokevirtual 138, 3) := by decide +kernel
theorem dX7_readOrder_104 : decode cX7_readOrder 104 = .ok (.ifCond .eq 10, 3) := by decide +kernel
theorem dX7_readOrder_107 : decode cX7_readOrder 107 = .ok (.aload_n 0, 1) := by decide +kernel
theorem dX7_readOrder_108 : decode cX7_readOrder 108 = .ok (.invokevirtual 131, 3) := by decide +kernel
theorem dX7_readOrder_111 : decode cX7_readOrder 111 = .ok (.ifCond .ne 5, 3) := by decide +kernel
theorem dX7_readOrder_114 : decode cX7_readOrder 114 = .ok (.iconst 0, 1) := by decide +kernel
theorem dX7_readOrder_115 : decode cX7_readOrder 115 = .ok (.ireturn, 1) := by decide +kernel
theorem dX7_readOrder_116 : decode cX7_readOrder 116 = .ok (.aload_n 0, 1) := by decide +kernel
theorem dX7_readOrder_117 : decode cX7_readOrder 117 = .ok (.aload_n 0, 1) := by decide +kernel
theorem dX7_readOrder_118 : decode cX7_readOrder 118 = .ok (.getfield 125, 3) := by decide +kernel
theorem dX7_readOrder_121 : decode cX7_readOrder 121 = .ok (.putfield 140, 3) := by decide +kernel
theorem dX7_readOrder_124 : decode cX7_readOrder 124 = .ok (.iconst 1, 1) := by decide +kernel
theorem dX7_readOrder_125 : decode cX7_readOrder 125 = .ok (.ireturn, 1) := by decide +kernel
theorem dX7_faultOf_0 : decode cX7_faultOf 0 = .ok (.aload_n 0, 1) := by decide +kernel
theorem dX7_faultOf_1 : decode cX7_faultOf 1 = .ok (.iconst 0, 1) := by decide +kernel
theorem dX7_faultOf_2 : decode cX7_faultOf 2 = .ok (.putfield 119, 3) := by decide +kernel
theorem dX7_faultOf_5 : decode cX7_faultOf 5 = .ok (.aload_n 0, 1) := by decide +kernel
theorem dX7_faultOf_6 : decode cX7_faultOf 6 = .ok (.invokevirtual 143, 3) := by decide +kernel
theorem dX7_faultOf_9 : decode cX7_faultOf 9 = .ok (.istore_n 1, 1) := by decide +kernel
theorem dX7_faultOf_10 : decode cX7_faultOf 10 = .ok (.iload_n 1, 1) := by decide +kernel
theorem dX7_faultOf_11 : decode cX7_faultOf 11 = .ok (.ifCond .eq 20, 3) := by decide +kernel
theorem dX7_faultOf_14 : decode cX7_faultOf 14 = .ok (.aload_n 0, 1) := by decide +kernel
theorem dX7_faultOf_15 : decode cX7_faultOf 15 = .ok (.bipush 59, 2) := by decide +kernel
theorem dX7_faultOf_17 : decode cX7_faultOf 17 = .ok (.invokevirtual 138, 3) := by decide +kernel
theorem dX7_faultOf_20 : decode cX7_faultOf 20 = .ok (.ifCond .eq 11, 3) := by decide +kernel
theorem dX7_faultOf_23 : decode cX7_faultOf 23 = .ok (.aload_n 0, 1) := by decide +kernel
theorem dX7_faultOf_24 : decode cX7_faultOf 24 = .ok (.invokevirtual 143, 3) := by decide +kernel
theorem dX7_faultOf_27 : decode cX7_faultOf 27 = .ok (.istore_n 1, 1) := by decide +kernel
theorem dX7_faultOf_28 : decode cX7_faultOf 28 = .ok (.goto (-18), 3) := by decide +kernel
theorem dX7_faultOf_31 : decode cX7_faultOf 31 = .ok (.iload_n 1, 1) := by decide +kernel
theorem dX7_faultOf_32 : decode cX7_faultOf 32 = .ok (.ifCond .eq 18, 3) := by decide +kernel
theorem dX7_faultOf_35 : decode cX7_faultOf 35 = .ok (.aload_n 0, 1) := by decide +kernel
theorem dX7_faultOf_36 : decode cX7_faultOf 36 = .ok (.getfield 119, 3) := by decide +kernel
theorem dX7_faultOf_39 : decode cX7_faultOf 39 = .ok (.aload_n 0, 1) := by decide +kernel
theorem dX7_faultOf_40 : decode cX7_faultOf 40 = .ok (.getfield 116, 3) := by decide +kernel
theorem dX7_faultOf_43 : decode cX7_faultOf 43 = .ok (.if_icmp .ne 7, 3) := by decide +kernel
theorem dX7_faultOf_46 : decode cX7_faultOf 46 = .ok (.iconst (-1), 1) := by decide +kernel
theorem dX7_faultOf_47 : decode cX7_faultOf 47 = .ok (.goto 7, 3) := by decide +kernel
theorem dX7_faultOf_50 : decode cX7_faultOf 50 = .ok (.aload_n 0, 1) := by decide +kernel
theorem dX7_faultOf_51 : decode cX7_faultOf 51 = .ok (.getfield 119, 3) := by decide +kernel
theorem dX7_faultOf_54 : decode cX7_faultOf 54 = .ok (.ireturn, 1) := by decide +kernel
theorem dX7_does_0 : decode cX7_does 0 = .ok (.aload_n 0, 1) := by decide +kernel
theorem dX7_does_1 : decode cX7_does 1 = .ok (.getfield 128, 3) := by decide +kernel
theorem dX7_does_4 : decode cX7_does 4 = .ok (.bipush 98, 2) := by decide +kernel
theorem dX7_does_6 : decode cX7_does 6 = .ok (.if_icmp .ne 18, 3) := by decide +kernel
theorem dX7_does_9 : decode cX7_does 9 = .ok (.aload_n 0, 1) := by decide +kernel
theorem dX7_does_10 : decode cX7_does 10 = .ok (.aload_n 0, 1) := by decide +kernel
theorem dX7_does_11 : decode cX7_does 11 = .ok (.getfield 135, 3) := by decide +kernel
theorem dX7_does_14 : decode cX7_does 14 = .ok (.aload_n 0, 1) := by decide +kernel
theorem dX7_does_15 : decode cX7_does 15 = .ok (.getfield 140, 3) := by decide +kernel
theorem dX7_does_18 : decode cX7_does 18 = .ok (.invokevirtual 74, 3) := by decide +kernel
theorem dX7_does_21 : decode cX7_does 21 = .ok (.goto 52, 3) := by decide +kernel
theorem dX7_does_24 : decode cX7_does 24 = .ok (.aload_n 0, 1) := by decide +kernel
theorem dX7_does_25 : decode cX7_does 25 = .ok (.getfield 128, 3) := by decide +kernel
theorem dX7_does_28 : decode cX7_does 28 = .ok (.bipush 114, 2) := by decide +kernel
theorem dX7_does_30 : decode cX7_does 30 = .ok (.if_icmp .ne 18, 3) := by decide +kernel
theorem dX7_does_33 : decode cX7_does 33 = .ok (.aload_n 0, 1) := by decide +kernel
theorem dX7_does_34 : decode cX7_does 34 = .ok (.aload_n 0, 1) := by decide +kernel
theorem dX7_does_35 : decode cX7_does 35 = .ok (.getfield 135, 3) := by decide +kernel
theorem dX7_does_38 : decode cX7_does 38 = .ok (.aload_n 0, 1) := by decide +kernel
theorem dX7_does_39 : decode cX7_does 39 = .ok (.getfield 140, 3) := by decide +kernel
theorem dX7_does_42 : decode cX7_does 42 = .ok (.invokevirtual 84, 3) := by decide +kernel
theorem dX7_does_45 : decode cX7_does 45 = .ok (.goto 28, 3) := by decide +kernel
theorem dX7_does_48 : decode cX7_does 48 = .ok (.aload_n 0, 1) := by decide +kernel
theorem dX7_does_49 : decode cX7_does 49 = .ok (.getfield 128, 3) := by decide +kernel
theorem dX7_does_52 : decode cX7_does 52 = .ok (.bipush 104, 2) := by decide +kernel
theorem dX7_does_54 : decode cX7_does 54 = .ok (.if_icmp .ne 18, 3) := by decide +kernel
theorem dX7_does_57 : decode cX7_does 57 = .ok (.aload_n 0, 1) := by decide +kernel
theorem dX7_does_58 : decode cX7_does 58 = .ok (.aload_n 0, 1) := by decide +kernel
theorem dX7_does_59 : decode cX7_does 59 = .ok (.getfield 135, 3) := by decide +kernel
theorem dX7_does_62 : decode cX7_does 62 = .ok (.aload_n 0, 1) := by decide +kernel
theorem dX7_does_63 : decode cX7_does 63 = .ok (.getfield 140, 3) := by decide +kernel
theorem dX7_does_66 : decode cX7_does 66 = .ok (.invokevirtual 94, 3) := by decide +kernel
theorem dX7_does_69 : decode cX7_does 69 = .ok (.goto 4, 3) := by decide +kernel
theorem dX7_does_72 : decode cX7_does 72 = .ok (.iconst 0, 1) := by decide +kernel
theorem dX7_does_73 : decode cX7_does 73 = .ok (.istore_n 1, 1) := by decide +kernel
theorem dX7_does_74 : decode cX7_does 74 = .ok (.iload_n 1, 1) := by decide +kernel
theorem dX7_does_75 : decode cX7_does 75 = .ok (.ifCond .ge 5, 3) := by decide +kernel
theorem dX7_does_78 : decode cX7_does 78 = .ok (.iconst 0, 1) := by decide +kernel
theorem dX7_does_79 : decode cX7_does 79 = .ok (.ireturn, 1) := by decide +kernel
theorem dX7_does_80 : decode cX7_does 80 = .ok (.aload_n 0, 1) := by decide +kernel
theorem dX7_does_81 : decode cX7_does 81 = .ok (.getfield 128, 3) := by decide +kernel
theorem dX7_does_84 : decode cX7_does 84 = .ok (.bipush 98, 2) := by decide +kernel
theorem dX7_does_86 : decode cX7_does 86 = .ok (.if_icmp .ne 18, 3) := by decide +kernel
theorem dX7_does_89 : decode cX7_does 89 = .ok (.aload_n 0, 1) := by decide +kernel
theorem dX7_does_90 : decode cX7_does 90 = .ok (.aload_n 0, 1) := by decide +kernel
theorem dX7_does_91 : decode cX7_does 91 = .ok (.getfield 135, 3) := by decide +kernel
theorem dX7_does_94 : decode cX7_does 94 = .ok (.aload_n 0, 1) := by decide +kernel
theorem dX7_does_95 : decode cX7_does 95 = .ok (.getfield 140, 3) := by decide +kernel
theorem dX7_does_98 : decode cX7_does 98 = .ok (.invokevirtual 77, 3) := by decide +kernel
theorem dX7_does_101 : decode cX7_does 101 = .ok (.goto 55, 3) := by decide +kernel
theorem dX7_does_104 : decode cX7_does 104 = .ok (.aload_n 0, 1) := by decide +kernel
theorem dX7_does_105 : decode cX7_does 105 = .ok (.getfield 128, 3) := by decide +kernel
theorem dX7_does_108 : decode cX7_does 108 = .ok (.bipush 114, 2) := by decide +kernel
theorem dX7_does_110 : decode cX7_does 110 = .ok (.if_icmp .ne 18, 3) := by decide +kernel
theorem dX7_does_113 : decode cX7_does 113 = .ok (.aload_n 0, 1) := by decide +kernel
theorem dX7_does_114 : decode cX7_does 114 = .ok (.aload_n 0, 1) := by decide +kernel
theorem dX7_does_115 : decode cX7_does 115 = .ok (.getfield 135, 3) := by decide +kernel
theorem dX7_does_118 : decode cX7_does 118 = .ok (.aload_n 0, 1) := by decide +kernel
theorem dX7_does_119 : decode cX7_does 119 = .ok (.getfield 140, 3) := by decide +kernel
theorem dX7_does_122 : decode cX7_does 122 = .ok (.invokevirtual 87, 3) := by decide +kernel
theorem dX7_does_125 : decode cX7_does 125 = .ok (.goto 31, 3) := by decide +kernel
theorem dX7_does_128 : decode cX7_does 128 = .ok (.aload_n 0, 1) := by decide +kernel
theorem dX7_does_129 : decode cX7_does 129 = .ok (.getfield 128, 3) := by decide +kernel
theorem dX7_does_132 : decode cX7_does 132 = .ok (.bipush 104, 2) := by decide +kernel
theorem dX7_does_134 : decode cX7_does 134 = .ok (.if_icmp .ne 18, 3) := by decide +kernel
theorem dX7_does_137 : decode cX7_does 137 = .ok (.aload_n 0, 1) := by decide +kernel
theorem dX7_does_138 : decode cX7_does 138 = .ok (.aload_n 0, 1) := by decide +kernel
theorem dX7_does_139 : decode cX7_does 139 = .ok (.getfield 135, 3) := by decide +kernel
theorem dX7_does_142 : decode cX7_does 142 = .ok (.aload_n 0, 1) := by decide +kernel
theorem dX7_does_143 : decode cX7_does 143 = .ok (.getfield 140, 3) := by decide +kernel
theorem dX7_does_146 : decode cX7_does 146 = .ok (.invokevirtual 97, 3) := by decide +kernel
theorem dX7_does_149 : decode cX7_does 149 = .ok (.goto 7, 3) := by decide +kernel
theorem dX7_does_152 : decode cX7_does 152 = .ok (.aload_n 0, 1) := by decide +kernel
theorem dX7_does_153 : decode cX7_does 153 = .ok (.invokevirtual 112, 3) := by decide +kernel
theorem dX7_does_156 : decode cX7_does 156 = .ok (.istore_n 2, 1) := by decide +kernel
theorem dX7_does_157 : decode cX7_does 157 = .ok (.iconst 1, 1) := by decide +kernel
theorem dX7_does_158 : decode cX7_does 158 = .ok (.ireturn, 1) := by decide +kernel
theorem dX7_carryOut_0 : decode cX7_carryOut 0 = .ok (.aload_n 0, 1) := by decide +kernel
theorem dX7_carryOut_1 : decode cX7_carryOut 1 = .ok (.invokevirtual 146, 3) := by decide +kernel
theorem dX7_carryOut_4 : decode cX7_carryOut 4 = .ok (.istore_n 1, 1) := by decide +kernel
theorem dX7_carryOut_5 : decode cX7_carryOut 5 = .ok (.iload_n 1, 1) := by decide +kernel
theorem dX7_carryOut_6 : decode cX7_carryOut 6 = .ok (.ifCond .lt 9, 3) := by decide +kernel
theorem dX7_carryOut_9 : decode cX7_carryOut 9 = .ok (.sipush (-1000), 3) := by decide +kernel
theorem dX7_carryOut_12 : decode cX7_carryOut 12 = .ok (.iload_n 1, 1) := by decide +kernel
theorem dX7_carryOut_13 : decode cX7_carryOut 13 = .ok (.isub, 1) := by decide +kernel
theorem dX7_carryOut_14 : decode cX7_carryOut 14 = .ok (.ireturn, 1) := by decide +kernel
theorem dX7_carryOut_15 : decode cX7_carryOut 15 = .ok (.aload_n 0, 1) := by decide +kernel
theorem dX7_carryOut_16 : decode cX7_carryOut 16 = .ok (.invokevirtual 54, 3) := by decide +kernel
theorem dX7_carryOut_19 : decode cX7_carryOut 19 = .ok (.aload_n 0, 1) := by decide +kernel
theorem dX7_carryOut_20 : decode cX7_carryOut 20 = .ok (.iconst 0, 1) := by decide +kernel
theorem dX7_carryOut_21 : decode cX7_carryOut 21 = .ok (.putfield 119, 3) := by decide +kernel
theorem dX7_carryOut_24 : decode cX7_carryOut 24 = .ok (.iconst 0, 1) := by decide +kernel
theorem dX7_carryOut_25 : decode cX7_carryOut 25 = .ok (.istore_n 2, 1) := by decide +kernel
theorem dX7_carryOut_26 : decode cX7_carryOut 26 = .ok (.aload_n 0, 1) := by decide +kernel
theorem dX7_carryOut_27 : decode cX7_carryOut 27 = .ok (.invokevirtual 143, 3) := by decide +kernel
theorem dX7_carryOut_30 : decode cX7_carryOut 30 = .ok (.ifCond .eq 14, 3) := by decide +kernel
theorem dX7_carryOut_33 : decode cX7_carryOut 33 = .ok (.aload_n 0, 1) := by decide +kernel
theorem dX7_carryOut_34 : decode cX7_carryOut 34 = .ok (.invokevirtual 149, 3) := by decide +kernel
theorem dX7_carryOut_37 : decode cX7_carryOut 37 = .ok (.ifCond .eq 7, 3) := by decide +kernel
theorem dX7_carryOut_40 : decode cX7_carryOut 40 = .ok (.iconst 1, 1) := by decide +kernel
theorem dX7_carryOut_41 : decode cX7_carryOut 41 = .ok (.goto 4, 3) := by decide +kernel
theorem dX7_carryOut_44 : decode cX7_carryOut 44 = .ok (.iconst 0, 1) := by decide +kernel
theorem dX7_carryOut_45 : decode cX7_carryOut 45 = .ok (.istore_n 3, 1) := by decide +kernel
theorem dX7_carryOut_46 : decode cX7_carryOut 46 = .ok (.iload_n 3, 1) := by decide +kernel
theorem dX7_carryOut_47 : decode cX7_carryOut 47 = .ok (.ifCond .eq 38, 3) := by decide +kernel
theorem dX7_carryOut_50 : decode cX7_carryOut 50 = .ok (.iinc 2 1, 3) := by decide +kernel
theorem dX7_carryOut_53 : decode cX7_carryOut 53 = .ok (.aload_n 0, 1) := by decide +kernel
theorem dX7_carryOut_54 : decode cX7_carryOut 54 = .ok (.bipush 59, 2) := by decide +kernel
theorem dX7_carryOut_56 : decode cX7_carryOut 56 = .ok (.invokevirtual 138, 3) := by decide +kernel
theorem dX7_carryOut_59 : decode cX7_carryOut 59 = .ok (.ifCond .eq 21, 3) := by decide +kernel
theorem dX7_carryOut_62 : decode cX7_carryOut 62 = .ok (.aload_n 0, 1) := by decide +kernel
theorem dX7_carryOut_63 : decode cX7_carryOut 63 = .ok (.invokevirtual 143, 3) := by decide +kernel
theorem dX7_carryOut_66 : decode cX7_carryOut 66 = .ok (.ifCond .eq 14, 3) := by decide +kernel
theorem dX7_carryOut_69 : decode cX7_carryOut 69 = .ok (.aload_n 0, 1) := by decide +kernel
theorem dX7_carryOut_70 : decode cX7_carryOut 70 = .ok (.invokevirtual 149, 3) := by decide +kernel
theorem dX7_carryOut_73 : decode cX7_carryOut 73 = .ok (.ifCond .eq 7, 3) := by decide +kernel
theorem dX7_carryOut_76 : decode cX7_carryOut 76 = .ok (.iconst 1, 1) := by decide +kernel
theorem dX7_carryOut_77 : decode cX7_carryOut 77 = .ok (.goto 4, 3) := by decide +kernel
theorem dX7_carryOut_80 : decode cX7_carryOut 80 = .ok (.iconst 0, 1) := by decide +kernel
theorem dX7_carryOut_81 : decode cX7_carryOut 81 = .ok (.istore_n 3, 1) := by decide +kernel
theorem dX7_carryOut_82 : decode cX7_carryOut 82 = .ok (.goto (-36), 3) := by decide +kernel
theorem dX7_carryOut_85 : decode cX7_carryOut 85 = .ok (.aload_n 0, 1) := by decide +kernel
theorem dX7_carryOut_86 : decode cX7_carryOut 86 = .ok (.iconst 0, 1) := by decide +kernel
theorem dX7_carryOut_87 : decode cX7_carryOut 87 = .ok (.putfield 116, 3) := by decide +kernel
theorem dX7_carryOut_90 : decode cX7_carryOut 90 = .ok (.iload_n 2, 1) := by decide +kernel
theorem dX7_carryOut_91 : decode cX7_carryOut 91 = .ok (.ireturn, 1) := by decide +kernel
theorem dX7_brokenOnes_0 : decode cX7_brokenOnes 0 = .ok (.iconst 0, 1) := by decide +kernel
theorem dX7_brokenOnes_1 : decode cX7_brokenOnes 1 = .ok (.istore_n 1, 1) := by decide +kernel
theorem dX7_brokenOnes_2 : decode cX7_brokenOnes 2 = .ok (.iconst 0, 1) := by decide +kernel
theorem dX7_brokenOnes_3 : decode cX7_brokenOnes 3 = .ok (.istore_n 2, 1) := by decide +kernel
theorem dX7_brokenOnes_4 : decode cX7_brokenOnes 4 = .ok (.iload_n 2, 1) := by decide +kernel
theorem dX7_brokenOnes_5 : decode cX7_brokenOnes 5 = .ok (.aload_n 0, 1) := by decide +kernel
theorem dX7_brokenOnes_6 : decode cX7_brokenOnes 6 = .ok (.getfield 7, 3) := by decide +kernel
theorem dX7_brokenOnes_9 : decode cX7_brokenOnes 9 = .ok (.iconst 0, 1) := by decide +kernel
theorem dX7_brokenOnes_10 : decode cX7_brokenOnes 10 = .ok (.iaload, 1) := by decide +kernel
theorem dX7_brokenOnes_11 : decode cX7_brokenOnes 11 = .ok (.if_icmp .ge 37, 3) := by decide +kernel
theorem dX7_brokenOnes_14 : decode cX7_brokenOnes 14 = .ok (.iload_n 1, 1) := by decide +kernel
theorem dX7_brokenOnes_15 : decode cX7_brokenOnes 15 = .ok (.aload_n 0, 1) := by decide +kernel
theorem dX7_brokenOnes_16 : decode cX7_brokenOnes 16 = .ok (.getfield 7, 3) := by decide +kernel
theorem dX7_brokenOnes_19 : decode cX7_brokenOnes 19 = .ok (.iconst 1, 1) := by decide +kernel
theorem dX7_brokenOnes_20 : decode cX7_brokenOnes 20 = .ok (.iload_n 2, 1) := by decide +kernel
theorem dX7_brokenOnes_21 : decode cX7_brokenOnes 21 = .ok (.iadd, 1) := by decide +kernel
theorem dX7_brokenOnes_22 : decode cX7_brokenOnes 22 = .ok (.iaload, 1) := by decide +kernel
theorem dX7_brokenOnes_23 : decode cX7_brokenOnes 23 = .ok (.iconst 4, 1) := by decide +kernel
theorem dX7_brokenOnes_24 : decode cX7_brokenOnes 24 = .ok (.if_icmp .eq 15, 3) := by decide +kernel
theorem dX7_brokenOnes_27 : decode cX7_brokenOnes 27 = .ok (.aload_n 0, 1) := by decide +kernel
theorem dX7_brokenOnes_28 : decode cX7_brokenOnes 28 = .ok (.iload_n 2, 1) := by decide +kernel
theorem dX7_brokenOnes_29 : decode cX7_brokenOnes 29 = .ok (.invokevirtual 33, 3) := by decide +kernel
theorem dX7_brokenOnes_32 : decode cX7_brokenOnes 32 = .ok (.ifCond .eq 7, 3) := by decide +kernel
theorem dX7_brokenOnes_35 : decode cX7_brokenOnes 35 = .ok (.iconst 1, 1) := by decide +kernel
theorem dX7_brokenOnes_36 : decode cX7_brokenOnes 36 = .ok (.goto 4, 3) := by decide +kernel
theorem dX7_brokenOnes_39 : decode cX7_brokenOnes 39 = .ok (.iconst 0, 1) := by decide +kernel
theorem dX7_brokenOnes_40 : decode cX7_brokenOnes 40 = .ok (.iadd, 1) := by decide +kernel
theorem dX7_brokenOnes_41 : decode cX7_brokenOnes 41 = .ok (.istore_n 1, 1) := by decide +kernel
theorem dX7_brokenOnes_42 : decode cX7_brokenOnes 42 = .ok (.iinc 2 1, 3) := by decide +kernel
theorem dX7_brokenOnes_45 : decode cX7_brokenOnes 45 = .ok (.goto (-41), 3) := by decide +kernel
theorem dX7_brokenOnes_48 : decode cX7_brokenOnes 48 = .ok (.iload_n 1, 1) := by decide +kernel
theorem dX7_brokenOnes_49 : decode cX7_brokenOnes 49 = .ok (.ireturn, 1) := by decide +kernel
theorem dX7_coinsOfPersons_0 : decode cX7_coinsOfPersons 0 = .ok (.iconst 0, 1) := by decide +kernel
theorem dX7_coinsOfPersons_1 : decode cX7_coinsOfPersons 1 = .ok (.istore_n 1, 1) := by decide +kernel
theorem dX7_coinsOfPersons_2 : decode cX7_coinsOfPersons 2 = .ok (.iconst 0, 1) := by decide +kernel
theorem dX7_coinsOfPersons_3 : decode cX7_coinsOfPersons 3 = .ok (.istore_n 2, 1) := by decide +kernel
theorem dX7_coinsOfPersons_4 : decode cX7_coinsOfPersons 4 = .ok (.iload_n 2, 1) := by decide +kernel
theorem dX7_coinsOfPersons_5 : decode cX7_coinsOfPersons 5 = .ok (.bipush 12, 2) := by decide +kernel
theorem dX7_coinsOfPersons_7 : decode cX7_coinsOfPersons 7 = .ok (.if_icmp .ge 22, 3) := by decide +kernel
theorem dX7_coinsOfPersons_10 : decode cX7_coinsOfPersons 10 = .ok (.iload_n 1, 1) := by decide +kernel
theorem dX7_coinsOfPersons_11 : decode cX7_coinsOfPersons 11 = .ok (.aload_n 0, 1) := by decide +kernel
theorem dX7_coinsOfPersons_12 : decode cX7_coinsOfPersons 12 = .ok (.getfield 7, 3) := by decide +kernel
theorem dX7_coinsOfPersons_15 : decode cX7_coinsOfPersons 15 = .ok (.sipush 249, 3) := by decide +kernel
theorem dX7_coinsOfPersons_18 : decode cX7_coinsOfPersons 18 = .ok (.iload_n 2, 1) := by decide +kernel
theorem dX7_coinsOfPersons_19 : decode cX7_coinsOfPersons 19 = .ok (.iadd, 1) := by decide +kernel
theorem dX7_coinsOfPersons_20 : decode cX7_coinsOfPersons 20 = .ok (.iaload, 1) := by decide +kernel
theorem dX7_coinsOfPersons_21 : decode cX7_coinsOfPersons 21 = .ok (.iadd, 1) := by decide +kernel
theorem dX7_coinsOfPersons_22 : decode cX7_coinsOfPersons 22 = .ok (.istore_n 1, 1) := by decide +kernel
theorem dX7_coinsOfPersons_23 : decode cX7_coinsOfPersons 23 = .ok (.iinc 2 1, 3) := by decide +kernel
theorem dX7_coinsOfPersons_26 : decode cX7_coinsOfPersons 26 = .ok (.goto (-22), 3) := by decide +kernel
theorem dX7_coinsOfPersons_29 : decode cX7_coinsOfPersons 29 = .ok (.iload_n 1, 1) := by decide +kernel
theorem dX7_coinsOfPersons_30 : decode cX7_coinsOfPersons 30 = .ok (.ireturn, 1) := by decide +kernel
theorem dX7_count_0 : decode cX7_count 0 = .ok (.iload_n 1, 1) := by decide +kernel
theorem dX7_count_1 : decode cX7_count 1 = .ok (.tableswitch 172 0 17 #[87, 96, 103, 103, 103, 103, 103, 111, 116, 125, 130, 130, 130, 130, 130, 144, 162, 167], 87) := by decide +kernel
theorem dX7_count_88 : decode cX7_count 88 = .ok (.aload_n 0, 1) := by decide +kernel
theorem dX7_count_89 : decode cX7_count 89 = .ok (.getfield 7, 3) := by decide +kernel
theorem dX7_count_92 : decode cX7_count 92 = .ok (.sipush 322, 3) := by decide +kernel
theorem dX7_count_95 : decode cX7_count 95 = .ok (.iaload, 1) := by decide +kernel
theorem dX7_count_96 : decode cX7_count 96 = .ok (.ireturn, 1) := by decide +kernel
theorem dX7_count_97 : decode cX7_count 97 = .ok (.aload_n 0, 1) := by decide +kernel
theorem dX7_count_98 : decode cX7_count 98 = .ok (.getfield 7, 3) := by decide +kernel
theorem dX7_count_101 : decode cX7_count 101 = .ok (.iconst 0, 1) := by decide +kernel
theorem dX7_count_102 : decode cX7_count 102 = .ok (.iaload, 1) := by decide +kernel
theorem dX7_count_103 : decode cX7_count 103 = .ok (.ireturn, 1) := by decide +kernel
theorem dX7_count_104 : decode cX7_count 104 = .ok (.aload_n 0, 1) := by decide +kernel
theorem dX7_count_105 : decode cX7_count 105 = .ok (.iload_n 1, 1) := by decide +kernel
theorem dX7_count_106 : decode cX7_count 106 = .ok (.iconst 2, 1) := by decide +kernel
theorem dX7_count_107 : decode cX7_count 107 = .ok (.isub, 1) := by decide +kernel
theorem dX7_count_108 : decode cX7_count 108 = .ok (.invokevirtual 41, 3) := by decide +kernel
theorem dX7_count_111 : decode cX7_count 111 = .ok (.ireturn, 1) := by decide +kernel
theorem dX7_count_112 : decode cX7_count 112 = .ok (.aload_n 0, 1) := by decide +kernel
theorem dX7_count_113 : decode cX7_count 113 = .ok (.invokevirtual 152, 3) := by decide +kernel
theorem dX7_count_116 : decode cX7_count 116 = .ok (.ireturn, 1) := by decide +kernel
theorem dX7_count_117 : decode cX7_count 117 = .ok (.aload_n 0, 1) := by decide +kernel
theorem dX7_count_118 : decode cX7_count 118 = .ok (.getfield 7, 3) := by decide +kernel
theorem dX7_count_121 : decode cX7_count 121 = .ok (.sipush 321, 3) := by decide +kernel
theorem dX7_count_124 : decode cX7_count 124 = .ok (.iaload, 1) := by decide +kernel
theorem dX7_count_125 : decode cX7_count 125 = .ok (.ireturn, 1) := by decide +kernel
theorem dX7_count_126 : decode cX7_count 126 = .ok (.aload_n 0, 1) := by decide +kernel
theorem dX7_count_127 : decode cX7_count 127 = .ok (.invokevirtual 155, 3) := by decide +kernel
theorem dX7_count_130 : decode cX7_count 130 = .ok (.ireturn, 1) := by decide +kernel
theorem dX7_count_131 : decode cX7_count 131 = .ok (.aload_n 0, 1) := by decide +kernel
theorem dX7_count_132 : decode cX7_count 132 = .ok (.getfield 7, 3) := by decide +kernel
theorem dX7_count_135 : decode cX7_count 135 = .ok (.sipush 323, 3) := by decide +kernel
theorem dX7_count_138 : decode cX7_count 138 = .ok (.iload_n 1, 1) := by decide +kernel
theorem dX7_count_139 : decode cX7_count 139 = .ok (.iadd, 1) := by decide +kernel
theorem dX7_count_140 : decode cX7_count 140 = .ok (.bipush 10, 2) := by decide +kernel
theorem dX7_count_142 : decode cX7_count 142 = .ok (.isub, 1) := by decide +kernel
theorem dX7_count_143 : decode cX7_count 143 = .ok (.iaload, 1) := by decide +kernel
theorem dX7_count_144 : decode cX7_count 144 = .ok (.ireturn, 1) := by decide +kernel
theorem dX7_count_145 : decode cX7_count 145 = .ok (.aload_n 0, 1) := by decide +kernel
theorem dX7_count_146 : decode cX7_count 146 = .ok (.getfield 7, 3) := by decide +kernel
theorem dX7_count_149 : decode cX7_count 149 = .ok (.sipush 328, 3) := by decide +kernel
theorem dX7_count_152 : decode cX7_count 152 = .ok (.iaload, 1) := by decide +kernel
theorem dX7_count_153 : decode cX7_count 153 = .ok (.aload_n 0, 1) := by decide +kernel
theorem dX7_count_154 : decode cX7_count 154 = .ok (.getfield 7, 3) := by decide +kernel
theorem dX7_count_157 : decode cX7_count 157 = .ok (.sipush 657, 3) := by decide +kernel
theorem dX7_count_160 : decode cX7_count 160 = .ok (.iaload, 1) := by decide +kernel
theorem dX7_count_161 : decode cX7_count 161 = .ok (.iadd, 1) := by decide +kernel
theorem dX7_count_162 : decode cX7_count 162 = .ok (.ireturn, 1) := by decide +kernel
theorem dX7_count_163 : decode cX7_count 163 = .ok (.aload_n 0, 1) := by decide +kernel
theorem dX7_count_164 : decode cX7_count 164 = .ok (.getfield 26, 3) := by decide +kernel
theorem dX7_count_167 : decode cX7_count 167 = .ok (.ireturn, 1) := by decide +kernel
theorem dX7_count_168 : decode cX7_count 168 = .ok (.aload_n 0, 1) := by decide +kernel
theorem dX7_count_169 : decode cX7_count 169 = .ok (.getfield 116, 3) := by decide +kernel
theorem dX7_count_172 : decode cX7_count 172 = .ok (.ireturn, 1) := by decide +kernel
theorem dX7_count_173 : decode cX7_count 173 = .ok (.iconst (-1), 1) := by decide +kernel
theorem dX7_count_174 : decode cX7_count 174 = .ok (.ireturn, 1) := by decide +kernel
theorem dX7_umbrella_0 : decode cX7_umbrella 0 = .ok (.iload_n 1, 1) := by decide +kernel
theorem dX7_umbrella_1 : decode cX7_umbrella 1 = .ok (.iconst 0, 1) := by decide +kernel
theorem dX7_umbrella_2 : decode cX7_umbrella 2 = .ok (.aload_n 0, 1) := by decide +kernel
theorem dX7_umbrella_3 : decode cX7_umbrella 3 = .ok (.getfield 7, 3) := by decide +kernel
theorem dX7_umbrella_6 : decode cX7_umbrella 6 = .ok (.iconst 0, 1) := by decide +kernel
theorem dX7_umbrella_7 : decode cX7_umbrella 7 = .ok (.iaload, 1) := by decide +kernel
theorem dX7_umbrella_8 : decode cX7_umbrella 8 = .ok (.iconst 1, 1) := by decide +kernel
theorem dX7_umbrella_9 : decode cX7_umbrella 9 = .ok (.isub, 1) := by decide +kernel
theorem dX7_umbrella_10 : decode cX7_umbrella 10 = .ok (.invokestatic 22, 3) := by decide +kernel
theorem dX7_umbrella_13 : decode cX7_umbrella 13 = .ok (.ifCond .ne 5, 3) := by decide +kernel
theorem dX7_umbrella_16 : decode cX7_umbrella 16 = .ok (.iconst (-1), 1) := by decide +kernel
theorem dX7_umbrella_17 : decode cX7_umbrella 17 = .ok (.ireturn, 1) := by decide +kernel
theorem dX7_umbrella_18 : decode cX7_umbrella 18 = .ok (.iload_n 2, 1) := by decide +kernel
theorem dX7_umbrella_19 : decode cX7_umbrella 19 = .ok (.tableswitch 104 0 4 #[33, 42, 69, 79, 93], 33) := by decide +kernel
theorem dX7_umbrella_52 : decode cX7_umbrella 52 = .ok (.aload_n 0, 1) := by decide +kernel
theorem dX7_umbrella_53 : decode cX7_umbrella 53 = .ok (.getfield 7, 3) := by decide +kernel
theorem dX7_umbrella_56 : decode cX7_umbrella 56 = .ok (.iconst 1, 1) := by decide +kernel
theorem dX7_umbrella_57 : decode cX7_umbrella 57 = .ok (.iload_n 1, 1) := by decide +kernel
theorem dX7_umbrella_58 : decode cX7_umbrella 58 = .ok (.iadd, 1) := by decide +kernel
theorem dX7_umbrella_59 : decode cX7_umbrella 59 = .ok (.iaload, 1) := by decide +kernel
theorem dX7_umbrella_60 : decode cX7_umbrella 60 = .ok (.ireturn, 1) := by decide +kernel
theorem dX7_umbrella_61 : decode cX7_umbrella 61 = .ok (.aload_n 0, 1) := by decide +kernel
theorem dX7_umbrella_62 : decode cX7_umbrella 62 = .ok (.getfield 7, 3) := by decide +kernel
theorem dX7_umbrella_65 : decode cX7_umbrella 65 = .ok (.iconst 1, 1) := by decide +kernel
theorem dX7_umbrella_66 : decode cX7_umbrella 66 = .ok (.iload_n 1, 1) := by decide +kernel
theorem dX7_umbrella_67 : decode cX7_umbrella 67 = .ok (.iadd, 1) := by decide +kernel
theorem dX7_umbrella_68 : decode cX7_umbrella 68 = .ok (.iaload, 1) := by decide +kernel
theorem dX7_umbrella_69 : decode cX7_umbrella 69 = .ok (.iconst 2, 1) := by decide +kernel
theorem dX7_umbrella_70 : decode cX7_umbrella 70 = .ok (.if_icmp .le 8, 3) := by decide +kernel
theorem dX7_umbrella_73 : decode cX7_umbrella 73 = .ok (.bipush (-9), 2) := by decide +kernel
theorem dX7_umbrella_75 : decode cX7_umbrella 75 = .ok (.goto 12, 3) := by decide +kernel
theorem dX7_umbrella_78 : decode cX7_umbrella 78 = .ok (.aload_n 0, 1) := by decide +kernel
theorem dX7_umbrella_79 : decode cX7_umbrella 79 = .ok (.getfield 7, 3) := by decide +kernel
theorem dX7_umbrella_82 : decode cX7_umbrella 82 = .ok (.bipush 61, 2) := by decide +kernel
theorem dX7_umbrella_84 : decode cX7_umbrella 84 = .ok (.iload_n 1, 1) := by decide +kernel
theorem dX7_umbrella_85 : decode cX7_umbrella 85 = .ok (.iadd, 1) := by decide +kernel
theorem dX7_umbrella_86 : decode cX7_umbrella 86 = .ok (.iaload, 1) := by decide +kernel
theorem dX7_umbrella_87 : decode cX7_umbrella 87 = .ok (.ireturn, 1) := by decide +kernel
theorem dX7_umbrella_88 : decode cX7_umbrella 88 = .ok (.aload_n 0, 1) := by decide +kernel
theorem dX7_umbrella_89 : decode cX7_umbrella 89 = .ok (.getfield 7, 3) := by decide +kernel
theorem dX7_umbrella_92 : decode cX7_umbrella 92 = .ok (.bipush 121, 2) := by decide +kernel
theorem dX7_umbrella_94 : decode cX7_umbrella 94 = .ok (.iload_n 1, 1) := by decide +kernel
theorem dX7_umbrella_95 : decode cX7_umbrella 95 = .ok (.iadd, 1) := by decide +kernel
theorem dX7_umbrella_96 : decode cX7_umbrella 96 = .ok (.iaload, 1) := by decide +kernel
theorem dX7_umbrella_97 : decode cX7_umbrella 97 = .ok (.ireturn, 1) := by decide +kernel
theorem dX7_umbrella_98 : decode cX7_umbrella 98 = .ok (.aload_n 0, 1) := by decide +kernel
theorem dX7_umbrella_99 : decode cX7_umbrella 99 = .ok (.iload_n 1, 1) := by decide +kernel
theorem dX7_umbrella_100 : decode cX7_umbrella 100 = .ok (.invokevirtual 33, 3) := by decide +kernel
theorem dX7_umbrella_103 : decode cX7_umbrella 103 = .ok (.ifCond .eq 7, 3) := by decide +kernel
theorem dX7_umbrella_106 : decode cX7_umbrella 106 = .ok (.iconst 1, 1) := by decide +kernel
theorem dX7_umbrella_107 : decode cX7_umbrella 107 = .ok (.goto 4, 3) := by decide +kernel
theorem dX7_umbrella_110 : decode cX7_umbrella 110 = .ok (.iconst 0, 1) := by decide +kernel
theorem dX7_umbrella_111 : decode cX7_umbrella 111 = .ok (.ireturn, 1) := by decide +kernel
theorem dX7_umbrella_112 : decode cX7_umbrella 112 = .ok (.aload_n 0, 1) := by decide +kernel
theorem dX7_umbrella_113 : decode cX7_umbrella 113 = .ok (.getfield 7, 3) := by decide +kernel
theorem dX7_umbrella_116 : decode cX7_umbrella 116 = .ok (.sipush 181, 3) := by decide +kernel
theorem dX7_umbrella_119 : decode cX7_umbrella 119 = .ok (.iload_n 1, 1) := by decide +kernel
theorem dX7_umbrella_120 : decode cX7_umbrella 120 = .ok (.iadd, 1) := by decide +kernel
theorem dX7_umbrella_121 : decode cX7_umbrella 121 = .ok (.iaload, 1) := by decide +kernel
theorem dX7_umbrella_122 : decode cX7_umbrella 122 = .ok (.ireturn, 1) := by decide +kernel
theorem dX7_umbrella_123 : decode cX7_umbrella 123 = .ok (.iconst (-1), 1) := by decide +kernel
theorem dX7_umbrella_124 : decode cX7_umbrella 124 = .ok (.ireturn, 1) := by decide +kernel
theorem dX7_told_0 : decode cX7_told 0 = .ok (.iload_n 0, 1) := by decide +kernel
theorem dX7_told_1 : decode cX7_told 1 = .ok (.ifCond .ge 8, 3) := by decide +kernel
theorem dX7_told_4 : decode cX7_told 4 = .ok (.bipush (-9), 2) := by decide +kernel
theorem dX7_told_6 : decode cX7_told 6 = .ok (.goto 4, 3) := by decide +kernel
theorem dX7_told_9 : decode cX7_told 9 = .ok (.iload_n 0, 1) := by decide +kernel
theorem dX7_told_10 : decode cX7_told 10 = .ok (.ireturn, 1) := by decide +kernel
theorem dX7_meanOf_0 : decode cX7_meanOf 0 = .ok (.iconst 0, 1) := by decide +kernel
theorem dX7_meanOf_1 : decode cX7_meanOf 1 = .ok (.istore_n 2, 1) := by decide +kernel
theorem dX7_meanOf_2 : decode cX7_meanOf 2 = .ok (.iconst 0, 1) := by decide +kernel
theorem dX7_meanOf_3 : decode cX7_meanOf 3 = .ok (.istore_n 3, 1) := by decide +kernel
theorem dX7_meanOf_4 : decode cX7_meanOf 4 = .ok (.iload_n 3, 1) := by decide +kernel
theorem dX7_meanOf_5 : decode cX7_meanOf 5 = .ok (.aload_n 0, 1) := by decide +kernel
theorem dX7_meanOf_6 : decode cX7_meanOf 6 = .ok (.getfield 7, 3) := by decide +kernel
theorem dX7_meanOf_9 : decode cX7_meanOf 9 = .ok (.iconst 0, 1) := by decide +kernel
theorem dX7_meanOf_10 : decode cX7_meanOf 10 = .ok (.iaload, 1) := by decide +kernel
theorem dX7_meanOf_11 : decode cX7_meanOf 11 = .ok (.if_icmp .ge 35, 3) := by decide +kernel
theorem dX7_meanOf_14 : decode cX7_meanOf 14 = .ok (.iload_n 2, 1) := by decide +kernel
theorem dX7_meanOf_15 : decode cX7_meanOf 15 = .ok (.aload_n 0, 1) := by decide +kernel
theorem dX7_meanOf_16 : decode cX7_meanOf 16 = .ok (.iload_n 3, 1) := by decide +kernel
theorem dX7_meanOf_17 : decode cX7_meanOf 17 = .ok (.iconst 0, 1) := by decide +kernel
theorem dX7_meanOf_18 : decode cX7_meanOf 18 = .ok (.iload_n 1, 1) := by decide +kernel
theorem dX7_meanOf_19 : decode cX7_meanOf 19 = .ok (.invokevirtual 30, 3) := by decide +kernel
theorem dX7_meanOf_22 : decode cX7_meanOf 22 = .ok (.ifCond .eq 15, 3) := by decide +kernel
theorem dX7_meanOf_25 : decode cX7_meanOf 25 = .ok (.aload_n 0, 1) := by decide +kernel
theorem dX7_meanOf_26 : decode cX7_meanOf 26 = .ok (.getfield 7, 3) := by decide +kernel
theorem dX7_meanOf_29 : decode cX7_meanOf 29 = .ok (.bipush 121, 2) := by decide +kernel
theorem dX7_meanOf_31 : decode cX7_meanOf 31 = .ok (.iload_n 3, 1) := by decide +kernel
theorem dX7_meanOf_32 : decode cX7_meanOf 32 = .ok (.iadd, 1) := by decide +kernel
theorem dX7_meanOf_33 : decode cX7_meanOf 33 = .ok (.iaload, 1) := by decide +kernel
theorem dX7_meanOf_34 : decode cX7_meanOf 34 = .ok (.goto 4, 3) := by decide +kernel
theorem dX7_meanOf_37 : decode cX7_meanOf 37 = .ok (.iconst 0, 1) := by decide +kernel
theorem dX7_meanOf_38 : decode cX7_meanOf 38 = .ok (.iadd, 1) := by decide +kernel
theorem dX7_meanOf_39 : decode cX7_meanOf 39 = .ok (.istore_n 2, 1) := by decide +kernel
theorem dX7_meanOf_40 : decode cX7_meanOf 40 = .ok (.iinc 3 1, 3) := by decide +kernel
theorem dX7_meanOf_43 : decode cX7_meanOf 43 = .ok (.goto (-39), 3) := by decide +kernel
theorem dX7_meanOf_46 : decode cX7_meanOf 46 = .ok (.aload_n 0, 1) := by decide +kernel
theorem dX7_meanOf_47 : decode cX7_meanOf 47 = .ok (.iconst 0, 1) := by decide +kernel
theorem dX7_meanOf_48 : decode cX7_meanOf 48 = .ok (.iload_n 1, 1) := by decide +kernel
theorem dX7_meanOf_49 : decode cX7_meanOf 49 = .ok (.invokevirtual 37, 3) := by decide +kernel
theorem dX7_meanOf_52 : decode cX7_meanOf 52 = .ok (.istore_n 3, 1) := by decide +kernel
theorem dX7_meanOf_53 : decode cX7_meanOf 53 = .ok (.iload_n 3, 1) := by decide +kernel
theorem dX7_meanOf_54 : decode cX7_meanOf 54 = .ok (.ifCond .ne 7, 3) := by decide +kernel
theorem dX7_meanOf_57 : decode cX7_meanOf 57 = .ok (.iconst 0, 1) := by decide +kernel
theorem dX7_meanOf_58 : decode cX7_meanOf 58 = .ok (.goto 12, 3) := by decide +kernel
theorem dX7_meanOf_61 : decode cX7_meanOf 61 = .ok (.bipush 100, 2) := by decide +kernel
theorem dX7_meanOf_63 : decode cX7_meanOf 63 = .ok (.iload_n 2, 1) := by decide +kernel
theorem dX7_meanOf_64 : decode cX7_meanOf 64 = .ok (.imul, 1) := by decide +kernel
theorem dX7_meanOf_65 : decode cX7_meanOf 65 = .ok (.bipush 8, 2) := by decide +kernel
theorem dX7_meanOf_67 : decode cX7_meanOf 67 = .ok (.iload_n 3, 1) := by decide +kernel
theorem dX7_meanOf_68 : decode cX7_meanOf 68 = .ok (.imul, 1) := by decide +kernel
theorem dX7_meanOf_69 : decode cX7_meanOf 69 = .ok (.idiv, 1) := by decide +kernel
theorem dX7_meanOf_70 : decode cX7_meanOf 70 = .ok (.ireturn, 1) := by decide +kernel
theorem dX7_stand_0 : decode cX7_stand 0 = .ok (.iload_n 1, 1) := by decide +kernel
theorem dX7_stand_1 : decode cX7_stand 1 = .ok (.invokestatic 45, 3) := by decide +kernel
theorem dX7_stand_4 : decode cX7_stand 4 = .ok (.ifCond .ne 5, 3) := by decide +kernel
theorem dX7_stand_7 : decode cX7_stand 7 = .ok (.iconst (-1), 1) := by decide +kernel
theorem dX7_stand_8 : decode cX7_stand 8 = .ok (.ireturn, 1) := by decide +kernel
theorem dX7_stand_9 : decode cX7_stand 9 = .ok (.iload_n 2, 1) := by decide +kernel
theorem dX7_stand_10 : decode cX7_stand 10 = .ok (.tableswitch 87 0 5 #[38, 49, 56, 63, 72, 81], 38) := by decide +kernel
theorem dX7_stand_48 : decode cX7_stand 48 = .ok (.aload_n 0, 1) := by decide +kernel
theorem dX7_stand_49 : decode cX7_stand 49 = .ok (.getfield 7, 3) := by decide +kernel
theorem dX7_stand_52 : decode cX7_stand 52 = .ok (.sipush 241, 3) := by decide +kernel
theorem dX7_stand_55 : decode cX7_stand 55 = .ok (.iload_n 1, 1) := by decide +kernel
theorem dX7_stand_56 : decode cX7_stand 56 = .ok (.iadd, 1) := by decide +kernel
theorem dX7_stand_57 : decode cX7_stand 57 = .ok (.iaload, 1) := by decide +kernel
theorem dX7_stand_58 : decode cX7_stand 58 = .ok (.ireturn, 1) := by decide +kernel
theorem dX7_stand_59 : decode cX7_stand 59 = .ok (.aload_n 0, 1) := by decide +kernel
theorem dX7_stand_60 : decode cX7_stand 60 = .ok (.iconst 0, 1) := by decide +kernel
theorem dX7_stand_61 : decode cX7_stand 61 = .ok (.iload_n 1, 1) := by decide +kernel
theorem dX7_stand_62 : decode cX7_stand 62 = .ok (.invokevirtual 37, 3) := by decide +kernel
theorem dX7_stand_65 : decode cX7_stand 65 = .ok (.ireturn, 1) := by decide +kernel
theorem dX7_stand_66 : decode cX7_stand 66 = .ok (.aload_n 0, 1) := by decide +kernel
theorem dX7_stand_67 : decode cX7_stand 67 = .ok (.iconst 0, 1) := by decide +kernel
theorem dX7_stand_68 : decode cX7_stand 68 = .ok (.iload_n 1, 1) := by decide +kernel
theorem dX7_stand_69 : decode cX7_stand 69 = .ok (.invokevirtual 106, 3) := by decide +kernel
theorem dX7_stand_72 : decode cX7_stand 72 = .ok (.ireturn, 1) := by decide +kernel
theorem dX7_stand_73 : decode cX7_stand 73 = .ok (.aload_n 0, 1) := by decide +kernel
theorem dX7_stand_74 : decode cX7_stand 74 = .ok (.iload_n 1, 1) := by decide +kernel
theorem dX7_stand_75 : decode cX7_stand 75 = .ok (.invokevirtual 71, 3) := by decide +kernel
theorem dX7_stand_78 : decode cX7_stand 78 = .ok (.invokestatic 158, 3) := by decide +kernel
theorem dX7_stand_81 : decode cX7_stand 81 = .ok (.ireturn, 1) := by decide +kernel
theorem dX7_stand_82 : decode cX7_stand 82 = .ok (.aload_n 0, 1) := by decide +kernel
theorem dX7_stand_83 : decode cX7_stand 83 = .ok (.iload_n 1, 1) := by decide +kernel
theorem dX7_stand_84 : decode cX7_stand 84 = .ok (.invokevirtual 103, 3) := by decide +kernel
theorem dX7_stand_87 : decode cX7_stand 87 = .ok (.invokestatic 158, 3) := by decide +kernel
theorem dX7_stand_90 : decode cX7_stand 90 = .ok (.ireturn, 1) := by decide +kernel
theorem dX7_stand_91 : decode cX7_stand 91 = .ok (.aload_n 0, 1) := by decide +kernel
theorem dX7_stand_92 : decode cX7_stand 92 = .ok (.iload_n 1, 1) := by decide +kernel
theorem dX7_stand_93 : decode cX7_stand 93 = .ok (.invokevirtual 161, 3) := by decide +kernel
theorem dX7_stand_96 : decode cX7_stand 96 = .ok (.ireturn, 1) := by decide +kernel
theorem dX7_stand_97 : decode cX7_stand 97 = .ok (.iconst (-1), 1) := by decide +kernel
theorem dX7_stand_98 : decode cX7_stand 98 = .ok (.ireturn, 1) := by decide +kernel
theorem dX7_person_0 : decode cX7_person 0 = .ok (.iload_n 1, 1) := by decide +kernel
theorem dX7_person_1 : decode cX7_person 1 = .ok (.invokestatic 65, 3) := by decide +kernel
theorem dX7_person_4 : decode cX7_person 4 = .ok (.ifCond .eq 12, 3) := by decide +kernel
theorem dX7_person_7 : decode cX7_person 7 = .ok (.iload_n 2, 1) := by decide +kernel
theorem dX7_person_8 : decode cX7_person 8 = .ok (.iconst 0, 1) := by decide +kernel
theorem dX7_person_9 : decode cX7_person 9 = .ok (.iconst 5, 1) := by decide +kernel
theorem dX7_person_10 : decode cX7_person 10 = .ok (.invokestatic 22, 3) := by decide +kernel
theorem dX7_person_13 : decode cX7_person 13 = .ok (.ifCond .ne 5, 3) := by decide +kernel
theorem dX7_person_16 : decode cX7_person 16 = .ok (.iconst (-1), 1) := by decide +kernel
theorem dX7_person_17 : decode cX7_person 17 = .ok (.ireturn, 1) := by decide +kernel
theorem dX7_person_18 : decode cX7_person 18 = .ok (.aload_n 0, 1) := by decide +kernel
theorem dX7_person_19 : decode cX7_person 19 = .ok (.getfield 7, 3) := by decide +kernel
theorem dX7_person_22 : decode cX7_person 22 = .ok (.sipush 249, 3) := by decide +kernel
theorem dX7_person_25 : decode cX7_person 25 = .ok (.bipush 12, 2) := by decide +kernel
theorem dX7_person_27 : decode cX7_person 27 = .ok (.iload_n 2, 1) := by decide +kernel
theorem dX7_person_28 : decode cX7_person 28 = .ok (.imul, 1) := by decide +kernel
theorem dX7_person_29 : decode cX7_person 29 = .ok (.iadd, 1) := by decide +kernel
theorem dX7_person_30 : decode cX7_person 30 = .ok (.iload_n 1, 1) := by decide +kernel
theorem dX7_person_31 : decode cX7_person 31 = .ok (.iadd, 1) := by decide +kernel
theorem dX7_person_32 : decode cX7_person 32 = .ok (.iaload, 1) := by decide +kernel
theorem dX7_person_33 : decode cX7_person 33 = .ok (.invokestatic 158, 3) := by decide +kernel
theorem dX7_person_36 : decode cX7_person 36 = .ok (.ireturn, 1) := by decide +kernel
theorem dX7_inVan_0 : decode cX7_inVan 0 = .ok (.iload_n 1, 1) := by decide +kernel
theorem dX7_inVan_1 : decode cX7_inVan 1 = .ok (.iconst 0, 1) := by decide +kernel
theorem dX7_inVan_2 : decode cX7_inVan 2 = .ok (.iconst 1, 1) := by decide +kernel
theorem dX7_inVan_3 : decode cX7_inVan 3 = .ok (.invokestatic 22, 3) := by decide +kernel
theorem dX7_inVan_6 : decode cX7_inVan 6 = .ok (.ifCond .eq 7, 3) := by decide +kernel
theorem dX7_inVan_9 : decode cX7_inVan 9 = .ok (.iload_n 2, 1) := by decide +kernel
theorem dX7_inVan_10 : decode cX7_inVan 10 = .ok (.ifCond .ge 5, 3) := by decide +kernel
theorem dX7_inVan_13 : decode cX7_inVan 13 = .ok (.iconst (-1), 1) := by decide +kernel
theorem dX7_inVan_14 : decode cX7_inVan 14 = .ok (.ireturn, 1) := by decide +kernel
theorem dX7_inVan_15 : decode cX7_inVan 15 = .ok (.iload_n 2, 1) := by decide +kernel
theorem dX7_inVan_16 : decode cX7_inVan 16 = .ok (.istore_n 3, 1) := by decide +kernel
theorem dX7_inVan_17 : decode cX7_inVan 17 = .ok (.iconst 0, 1) := by decide +kernel
theorem dX7_inVan_18 : decode cX7_inVan 18 = .ok (.istore 4, 2) := by decide +kernel
theorem dX7_inVan_20 : decode cX7_inVan 20 = .ok (.iload 4, 2) := by decide +kernel
theorem dX7_inVan_22 : decode cX7_inVan 22 = .ok (.aload_n 0, 1) := by decide +kernel
theorem dX7_inVan_23 : decode cX7_inVan 23 = .ok (.getfield 7, 3) := by decide +kernel
theorem dX7_inVan_26 : decode cX7_inVan 26 = .ok (.iconst 0, 1) := by decide +kernel
theorem dX7_inVan_27 : decode cX7_inVan 27 = .ok (.iaload, 1) := by decide +kernel
theorem dX7_inVan_28 : decode cX7_inVan 28 = .ok (.if_icmp .ge 30, 3) := by decide +kernel
theorem dX7_inVan_31 : decode cX7_inVan 31 = .ok (.aload_n 0, 1) := by decide +kernel
theorem dX7_inVan_32 : decode cX7_inVan 32 = .ok (.iload 4, 2) := by decide +kernel
theorem dX7_inVan_34 : decode cX7_inVan 34 = .ok (.iconst 2, 1) := by decide +kernel
theorem dX7_inVan_35 : decode cX7_inVan 35 = .ok (.iload_n 1, 1) := by decide +kernel
theorem dX7_inVan_36 : decode cX7_inVan 36 = .ok (.invokevirtual 30, 3) := by decide +kernel
theorem dX7_inVan_39 : decode cX7_inVan 39 = .ok (.ifCond .eq 13, 3) := by decide +kernel
theorem dX7_inVan_42 : decode cX7_inVan 42 = .ok (.iload_n 3, 1) := by decide +kernel
theorem dX7_inVan_43 : decode cX7_inVan 43 = .ok (.ifCond .ne 6, 3) := by decide +kernel
theorem dX7_inVan_46 : decode cX7_inVan 46 = .ok (.iload 4, 2) := by decide +kernel
theorem dX7_inVan_48 : decode cX7_inVan 48 = .ok (.ireturn, 1) := by decide +kernel
theorem dX7_inVan_49 : decode cX7_inVan 49 = .ok (.iinc 3 (-1), 3) := by decide +kernel
theorem dX7_inVan_52 : decode cX7_inVan 52 = .ok (.iinc 4 1, 3) := by decide +kernel
theorem dX7_inVan_55 : decode cX7_inVan 55 = .ok (.goto (-35), 3) := by decide +kernel
theorem dX7_inVan_58 : decode cX7_inVan 58 = .ok (.bipush (-9), 2) := by decide +kernel
theorem dX7_inVan_60 : decode cX7_inVan 60 = .ok (.ireturn, 1) := by decide +kernel
theorem dX7_feeIn_0 : decode cX7_feeIn 0 = .ok (.iload_n 1, 1) := by decide +kernel
theorem dX7_feeIn_1 : decode cX7_feeIn 1 = .ok (.invokestatic 65, 3) := by decide +kernel
theorem dX7_feeIn_4 : decode cX7_feeIn 4 = .ok (.ifCond .eq 23, 3) := by decide +kernel
theorem dX7_feeIn_7 : decode cX7_feeIn 7 = .ok (.iload_n 2, 1) := by decide +kernel
theorem dX7_feeIn_8 : decode cX7_feeIn 8 = .ok (.iconst 0, 1) := by decide +kernel
theorem dX7_feeIn_9 : decode cX7_feeIn 9 = .ok (.bipush 50, 2) := by decide +kernel
theorem dX7_feeIn_11 : decode cX7_feeIn 11 = .ok (.invokestatic 22, 3) := by decide +kernel
theorem dX7_feeIn_14 : decode cX7_feeIn 14 = .ok (.ifCond .eq 13, 3) := by decide +kernel
theorem dX7_feeIn_17 : decode cX7_feeIn 17 = .ok (.iload_n 3, 1) := by decide +kernel
theorem dX7_feeIn_18 : decode cX7_feeIn 18 = .ok (.iconst 0, 1) := by decide +kernel
theorem dX7_feeIn_19 : decode cX7_feeIn 19 = .ok (.bipush 9, 2) := by decide +kernel
theorem dX7_feeIn_21 : decode cX7_feeIn 21 = .ok (.invokestatic 22, 3) := by decide +kernel
theorem dX7_feeIn_24 : decode cX7_feeIn 24 = .ok (.ifCond .ne 5, 3) := by decide +kernel
theorem dX7_feeIn_27 : decode cX7_feeIn 27 = .ok (.iconst (-1), 1) := by decide +kernel
theorem dX7_feeIn_28 : decode cX7_feeIn 28 = .ok (.ireturn, 1) := by decide +kernel
theorem dX7_feeIn_29 : decode cX7_feeIn 29 = .ok (.aload_n 0, 1) := by decide +kernel
theorem dX7_feeIn_30 : decode cX7_feeIn 30 = .ok (.getfield 7, 3) := by decide +kernel
theorem dX7_feeIn_33 : decode cX7_feeIn 33 = .ok (.sipush 261, 3) := by decide +kernel
theorem dX7_feeIn_36 : decode cX7_feeIn 36 = .ok (.iload_n 1, 1) := by decide +kernel
theorem dX7_feeIn_37 : decode cX7_feeIn 37 = .ok (.iadd, 1) := by decide +kernel
theorem dX7_feeIn_38 : decode cX7_feeIn 38 = .ok (.iaload, 1) := by decide +kernel
theorem dX7_feeIn_39 : decode cX7_feeIn 39 = .ok (.istore 4, 2) := by decide +kernel
theorem dX7_feeIn_41 : decode cX7_feeIn 41 = .ok (.iload 4, 2) := by decide +kernel
theorem dX7_feeIn_43 : decode cX7_feeIn 43 = .ok (.ifCond .ge 6, 3) := by decide +kernel
theorem dX7_feeIn_46 : decode cX7_feeIn 46 = .ok (.bipush (-2), 2) := by decide +kernel
theorem dX7_feeIn_48 : decode cX7_feeIn 48 = .ok (.ireturn, 1) := by decide +kernel
theorem dX7_feeIn_49 : decode cX7_feeIn 49 = .ok (.aload_n 0, 1) := by decide +kernel
theorem dX7_feeIn_50 : decode cX7_feeIn 50 = .ok (.getfield 7, 3) := by decide +kernel
theorem dX7_feeIn_53 : decode cX7_feeIn 53 = .ok (.bipush 121, 2) := by decide +kernel
theorem dX7_feeIn_55 : decode cX7_feeIn 55 = .ok (.iload 4, 2) := by decide +kernel
theorem dX7_feeIn_57 : decode cX7_feeIn 57 = .ok (.iadd, 1) := by decide +kernel
theorem dX7_feeIn_58 : decode cX7_feeIn 58 = .ok (.iaload, 1) := by decide +kernel
theorem dX7_feeIn_59 : decode cX7_feeIn 59 = .ok (.istore 5, 2) := by decide +kernel
theorem dX7_feeIn_61 : decode cX7_feeIn 61 = .ok (.iload 5, 2) := by decide +kernel
theorem dX7_feeIn_63 : decode cX7_feeIn 63 = .ok (.bipush 32, 2) := by decide +kernel
theorem dX7_feeIn_65 : decode cX7_feeIn 65 = .ok (.if_icmp .lt 7, 3) := by decide +kernel
theorem dX7_feeIn_68 : decode cX7_feeIn 68 = .ok (.iconst 1, 1) := by decide +kernel
theorem dX7_feeIn_69 : decode cX7_feeIn 69 = .ok (.goto 4, 3) := by decide +kernel
theorem dX7_feeIn_72 : decode cX7_feeIn 72 = .ok (.iconst 0, 1) := by decide +kernel
theorem dX7_feeIn_73 : decode cX7_feeIn 73 = .ok (.istore 6, 2) := by decide +kernel
theorem dX7_feeIn_75 : decode cX7_feeIn 75 = .ok (.iconst 0, 1) := by decide +kernel
theorem dX7_feeIn_76 : decode cX7_feeIn 76 = .ok (.istore 7, 2) := by decide +kernel
theorem dX7_feeIn_78 : decode cX7_feeIn 78 = .ok (.iload 7, 2) := by decide +kernel
theorem dX7_feeIn_80 : decode cX7_feeIn 80 = .ok (.iload_n 2, 1) := by decide +kernel
theorem dX7_feeIn_81 : decode cX7_feeIn 81 = .ok (.if_icmp .ge 18, 3) := by decide +kernel
theorem dX7_feeIn_84 : decode cX7_feeIn 84 = .ok (.iload 5, 2) := by decide +kernel
theorem dX7_feeIn_86 : decode cX7_feeIn 86 = .ok (.iload_n 3, 1) := by decide +kernel
theorem dX7_feeIn_87 : decode cX7_feeIn 87 = .ok (.iconst 0, 1) := by decide +kernel
theorem dX7_feeIn_88 : decode cX7_feeIn 88 = .ok (.invokestatic 90, 3) := by decide +kernel
theorem dX7_feeIn_91 : decode cX7_feeIn 91 = .ok (.istore 5, 2) := by decide +kernel
theorem dX7_feeIn_93 : decode cX7_feeIn 93 = .ok (.iinc 7 1, 3) := by decide +kernel
theorem dX7_feeIn_96 : decode cX7_feeIn 96 = .ok (.goto (-18), 3) := by decide +kernel
theorem dX7_feeIn_99 : decode cX7_feeIn 99 = .ok (.iload 6, 2) := by decide +kernel
theorem dX7_feeIn_101 : decode cX7_feeIn 101 = .ok (.ifCond .ne 14, 3) := by decide +kernel
theorem dX7_feeIn_104 : decode cX7_feeIn 104 = .ok (.iload 5, 2) := by decide +kernel
theorem dX7_feeIn_106 : decode cX7_feeIn 106 = .ok (.bipush 32, 2) := by decide +kernel
theorem dX7_feeIn_108 : decode cX7_feeIn 108 = .ok (.if_icmp .lt 7, 3) := by decide +kernel
theorem dX7_feeIn_111 : decode cX7_feeIn 111 = .ok (.iconst 1, 1) := by decide +kernel
theorem dX7_feeIn_112 : decode cX7_feeIn 112 = .ok (.goto 4, 3) := by decide +kernel
theorem dX7_feeIn_115 : decode cX7_feeIn 115 = .ok (.iconst 0, 1) := by decide +kernel
theorem dX7_feeIn_116 : decode cX7_feeIn 116 = .ok (.istore 7, 2) := by decide +kernel
theorem dX7_feeIn_118 : decode cX7_feeIn 118 = .ok (.aload_n 0, 1) := by decide +kernel
theorem dX7_feeIn_119 : decode cX7_feeIn 119 = .ok (.aload_n 0, 1) := by decide +kernel
theorem dX7_feeIn_120 : decode cX7_feeIn 120 = .ok (.getfield 7, 3) := by decide +kernel
theorem dX7_feeIn_123 : decode cX7_feeIn 123 = .ok (.sipush 273, 3) := by decide +kernel
theorem dX7_feeIn_126 : decode cX7_feeIn 126 = .ok (.iload_n 1, 1) := by decide +kernel
theorem dX7_feeIn_127 : decode cX7_feeIn 127 = .ok (.iadd, 1) := by decide +kernel
theorem dX7_feeIn_128 : decode cX7_feeIn 128 = .ok (.iaload, 1) := by decide +kernel
theorem dX7_feeIn_129 : decode cX7_feeIn 129 = .ok (.iload_n 3, 1) := by decide +kernel
theorem dX7_feeIn_130 : decode cX7_feeIn 130 = .ok (.iconst 2, 1) := by decide +kernel
theorem dX7_feeIn_131 : decode cX7_feeIn 131 = .ok (.if_icmp .lt 7, 3) := by decide +kernel
theorem dX7_feeIn_134 : decode cX7_feeIn 134 = .ok (.iload_n 2, 1) := by decide +kernel
theorem dX7_feeIn_135 : decode cX7_feeIn 135 = .ok (.goto 4, 3) := by decide +kernel
theorem dX7_feeIn_138 : decode cX7_feeIn 138 = .ok (.iconst 0, 1) := by decide +kernel
theorem dX7_feeIn_139 : decode cX7_feeIn 139 = .ok (.iadd, 1) := by decide +kernel
theorem dX7_feeIn_140 : decode cX7_feeIn 140 = .ok (.iload 7, 2) := by decide +kernel
theorem dX7_feeIn_142 : decode cX7_feeIn 142 = .ok (.ifCond .ne 17, 3) := by decide +kernel
theorem dX7_feeIn_145 : decode cX7_feeIn 145 = .ok (.aload_n 0, 1) := by decide +kernel
theorem dX7_feeIn_146 : decode cX7_feeIn 146 = .ok (.getfield 7, 3) := by decide +kernel
theorem dX7_feeIn_149 : decode cX7_feeIn 149 = .ok (.sipush 285, 3) := by decide +kernel
theorem dX7_feeIn_152 : decode cX7_feeIn 152 = .ok (.iload_n 1, 1) := by decide +kernel
theorem dX7_feeIn_153 : decode cX7_feeIn 153 = .ok (.iadd, 1) := by decide +kernel
theorem dX7_feeIn_154 : decode cX7_feeIn 154 = .ok (.iaload, 1) := by decide +kernel
theorem dX7_feeIn_155 : decode cX7_feeIn 155 = .ok (.iconst 1, 1) := by decide +kernel
theorem dX7_feeIn_156 : decode cX7_feeIn 156 = .ok (.if_icmp .ne 7, 3) := by decide +kernel
theorem dX7_feeIn_159 : decode cX7_feeIn 159 = .ok (.iconst 1, 1) := by decide +kernel
theorem dX7_feeIn_160 : decode cX7_feeIn 160 = .ok (.goto 4, 3) := by decide +kernel
theorem dX7_feeIn_163 : decode cX7_feeIn 163 = .ok (.iconst 0, 1) := by decide +kernel
theorem dX7_feeIn_164 : decode cX7_feeIn 164 = .ok (.invokevirtual 80, 3) := by decide +kernel
theorem dX7_feeIn_167 : decode cX7_feeIn 167 = .ok (.ireturn, 1) := by decide +kernel
theorem dX7_breaksIn_0 : decode cX7_breaksIn 0 = .ok (.iload_n 1, 1) := by decide +kernel
theorem dX7_breaksIn_1 : decode cX7_breaksIn 1 = .ok (.invokestatic 65, 3) := by decide +kernel
theorem dX7_breaksIn_4 : decode cX7_breaksIn 4 = .ok (.ifCond .eq 22, 3) := by decide +kernel
theorem dX7_breaksIn_7 : decode cX7_breaksIn 7 = .ok (.iload_n 2, 1) := by decide +kernel
theorem dX7_breaksIn_8 : decode cX7_breaksIn 8 = .ok (.iconst 0, 1) := by decide +kernel
theorem dX7_breaksIn_9 : decode cX7_breaksIn 9 = .ok (.bipush 9, 2) := by decide +kernel
theorem dX7_breaksIn_11 : decode cX7_breaksIn 11 = .ok (.invokestatic 22, 3) := by decide +kernel
theorem dX7_breaksIn_14 : decode cX7_breaksIn 14 = .ok (.ifCond .eq 12, 3) := by decide +kernel
theorem dX7_breaksIn_17 : decode cX7_breaksIn 17 = .ok (.iload_n 3, 1) := by decide +kernel
theorem dX7_breaksIn_18 : decode cX7_breaksIn 18 = .ok (.iconst 0, 1) := by decide +kernel
theorem dX7_breaksIn_19 : decode cX7_breaksIn 19 = .ok (.iconst 3, 1) := by decide +kernel
theorem dX7_breaksIn_20 : decode cX7_breaksIn 20 = .ok (.invokestatic 22, 3) := by decide +kernel
theorem dX7_breaksIn_23 : decode cX7_breaksIn 23 = .ok (.ifCond .ne 5, 3) := by decide +kernel
theorem dX7_breaksIn_26 : decode cX7_breaksIn 26 = .ok (.iconst (-1), 1) := by decide +kernel
theorem dX7_breaksIn_27 : decode cX7_breaksIn 27 = .ok (.ireturn, 1) := by decide +kernel
theorem dX7_breaksIn_28 : decode cX7_breaksIn 28 = .ok (.aload_n 0, 1) := by decide +kernel
theorem dX7_breaksIn_29 : decode cX7_breaksIn 29 = .ok (.getfield 7, 3) := by decide +kernel
theorem dX7_breaksIn_32 : decode cX7_breaksIn 32 = .ok (.sipush 261, 3) := by decide +kernel
theorem dX7_breaksIn_35 : decode cX7_breaksIn 35 = .ok (.iload_n 1, 1) := by decide +kernel
theorem dX7_breaksIn_36 : decode cX7_breaksIn 36 = .ok (.iadd, 1) := by decide +kernel
theorem dX7_breaksIn_37 : decode cX7_breaksIn 37 = .ok (.iaload, 1) := by decide +kernel
theorem dX7_breaksIn_38 : decode cX7_breaksIn 38 = .ok (.istore 4, 2) := by decide +kernel
theorem dX7_breaksIn_40 : decode cX7_breaksIn 40 = .ok (.iload 4, 2) := by decide +kernel
theorem dX7_breaksIn_42 : decode cX7_breaksIn 42 = .ok (.ifCond .ge 6, 3) := by decide +kernel
theorem dX7_breaksIn_45 : decode cX7_breaksIn 45 = .ok (.bipush (-2), 2) := by decide +kernel
theorem dX7_breaksIn_47 : decode cX7_breaksIn 47 = .ok (.ireturn, 1) := by decide +kernel
theorem dX7_breaksIn_48 : decode cX7_breaksIn 48 = .ok (.aload_n 0, 1) := by decide +kernel
theorem dX7_breaksIn_49 : decode cX7_breaksIn 49 = .ok (.getfield 7, 3) := by decide +kernel
theorem dX7_breaksIn_52 : decode cX7_breaksIn 52 = .ok (.bipush 121, 2) := by decide +kernel
theorem dX7_breaksIn_54 : decode cX7_breaksIn 54 = .ok (.iload 4, 2) := by decide +kernel
theorem dX7_breaksIn_56 : decode cX7_breaksIn 56 = .ok (.iadd, 1) := by decide +kernel
theorem dX7_breaksIn_57 : decode cX7_breaksIn 57 = .ok (.iaload, 1) := by decide +kernel
theorem dX7_breaksIn_58 : decode cX7_breaksIn 58 = .ok (.istore 5, 2) := by decide +kernel
theorem dX7_breaksIn_60 : decode cX7_breaksIn 60 = .ok (.iconst 0, 1) := by decide +kernel
theorem dX7_breaksIn_61 : decode cX7_breaksIn 61 = .ok (.istore 6, 2) := by decide +kernel
theorem dX7_breaksIn_63 : decode cX7_breaksIn 63 = .ok (.iload 6, 2) := by decide +kernel
theorem dX7_breaksIn_65 : decode cX7_breaksIn 65 = .ok (.bipush 100, 2) := by decide +kernel
theorem dX7_breaksIn_67 : decode cX7_breaksIn 67 = .ok (.if_icmp .ge 25, 3) := by decide +kernel
theorem dX7_breaksIn_70 : decode cX7_breaksIn 70 = .ok (.iload 5, 2) := by decide +kernel
theorem dX7_breaksIn_72 : decode cX7_breaksIn 72 = .ok (.bipush 32, 2) := by decide +kernel
theorem dX7_breaksIn_74 : decode cX7_breaksIn 74 = .ok (.if_icmp .ge 18, 3) := by decide +kernel
theorem dX7_breaksIn_77 : decode cX7_breaksIn 77 = .ok (.iload 5, 2) := by decide +kernel
theorem dX7_breaksIn_79 : decode cX7_breaksIn 79 = .ok (.iload_n 2, 1) := by decide +kernel
theorem dX7_breaksIn_80 : decode cX7_breaksIn 80 = .ok (.iload_n 3, 1) := by decide +kernel
theorem dX7_breaksIn_81 : decode cX7_breaksIn 81 = .ok (.invokestatic 90, 3) := by decide +kernel
theorem dX7_breaksIn_84 : decode cX7_breaksIn 84 = .ok (.istore 5, 2) := by decide +kernel
theorem dX7_breaksIn_86 : decode cX7_breaksIn 86 = .ok (.iinc 6 1, 3) := by decide +kernel
theorem dX7_breaksIn_89 : decode cX7_breaksIn 89 = .ok (.goto (-26), 3) := by decide +kernel
theorem dX7_breaksIn_92 : decode cX7_breaksIn 92 = .ok (.iload 5, 2) := by decide +kernel
theorem dX7_breaksIn_94 : decode cX7_breaksIn 94 = .ok (.bipush 32, 2) := by decide +kernel
theorem dX7_breaksIn_96 : decode cX7_breaksIn 96 = .ok (.if_icmp .ge 8, 3) := by decide +kernel
theorem dX7_breaksIn_99 : decode cX7_breaksIn 99 = .ok (.bipush (-9), 2) := by decide +kernel
theorem dX7_breaksIn_101 : decode cX7_breaksIn 101 = .ok (.goto 5, 3) := by decide +kernel
theorem dX7_breaksIn_104 : decode cX7_breaksIn 104 = .ok (.iload 6, 2) := by decide +kernel
theorem dX7_breaksIn_106 : decode cX7_breaksIn 106 = .ok (.ireturn, 1) := by decide +kernel
theorem dX7_wanting_0 : decode cX7_wanting 0 = .ok (.iconst 0, 1) := by decide +kernel
theorem dX7_wanting_1 : decode cX7_wanting 1 = .ok (.istore_n 2, 1) := by decide +kernel
theorem dX7_wanting_2 : decode cX7_wanting 2 = .ok (.iconst 0, 1) := by decide +kernel
theorem dX7_wanting_3 : decode cX7_wanting 3 = .ok (.istore_n 3, 1) := by decide +kernel
theorem dX7_wanting_4 : decode cX7_wanting 4 = .ok (.iload_n 3, 1) := by decide +kernel
theorem dX7_wanting_5 : decode cX7_wanting 5 = .ok (.bipush 12, 2) := by decide +kernel
theorem dX7_wanting_7 : decode cX7_wanting 7 = .ok (.if_icmp .ge 39, 3) := by decide +kernel
theorem dX7_wanting_10 : decode cX7_wanting 10 = .ok (.iload_n 2, 1) := by decide +kernel
theorem dX7_wanting_11 : decode cX7_wanting 11 = .ok (.aload_n 0, 1) := by decide +kernel
theorem dX7_wanting_12 : decode cX7_wanting 12 = .ok (.getfield 7, 3) := by decide +kernel
theorem dX7_wanting_15 : decode cX7_wanting 15 = .ok (.sipush 297, 3) := by decide +kernel
theorem dX7_wanting_18 : decode cX7_wanting 18 = .ok (.iload_n 3, 1) := by decide +kernel
theorem dX7_wanting_19 : decode cX7_wanting 19 = .ok (.iadd, 1) := by decide +kernel
theorem dX7_wanting_20 : decode cX7_wanting 20 = .ok (.iaload, 1) := by decide +kernel
theorem dX7_wanting_21 : decode cX7_wanting 21 = .ok (.iload_n 1, 1) := by decide +kernel
theorem dX7_wanting_22 : decode cX7_wanting 22 = .ok (.if_icmp .ne 15, 3) := by decide +kernel
theorem dX7_wanting_25 : decode cX7_wanting 25 = .ok (.aload_n 0, 1) := by decide +kernel
theorem dX7_wanting_26 : decode cX7_wanting 26 = .ok (.iload_n 3, 1) := by decide +kernel
theorem dX7_wanting_27 : decode cX7_wanting 27 = .ok (.invokevirtual 68, 3) := by decide +kernel
theorem dX7_wanting_30 : decode cX7_wanting 30 = .ok (.ifCond .eq 7, 3) := by decide +kernel
theorem dX7_wanting_33 : decode cX7_wanting 33 = .ok (.iconst 1, 1) := by decide +kernel
theorem dX7_wanting_34 : decode cX7_wanting 34 = .ok (.goto 4, 3) := by decide +kernel
theorem dX7_wanting_37 : decode cX7_wanting 37 = .ok (.iconst 0, 1) := by decide +kernel
theorem dX7_wanting_38 : decode cX7_wanting 38 = .ok (.iadd, 1) := by decide +kernel
theorem dX7_wanting_39 : decode cX7_wanting 39 = .ok (.istore_n 2, 1) := by decide +kernel
theorem dX7_wanting_40 : decode cX7_wanting 40 = .ok (.iinc 3 1, 3) := by decide +kernel
theorem dX7_wanting_43 : decode cX7_wanting 43 = .ok (.goto (-39), 3) := by decide +kernel
theorem dX7_wanting_46 : decode cX7_wanting 46 = .ok (.iload_n 2, 1) := by decide +kernel
theorem dX7_wanting_47 : decode cX7_wanting 47 = .ok (.ireturn, 1) := by decide +kernel
theorem dX7_emptied_0 : decode cX7_emptied 0 = .ok (.iconst 0, 1) := by decide +kernel
theorem dX7_emptied_1 : decode cX7_emptied 1 = .ok (.istore_n 1, 1) := by decide +kernel
theorem dX7_emptied_2 : decode cX7_emptied 2 = .ok (.iload_n 1, 1) := by decide +kernel
theorem dX7_emptied_3 : decode cX7_emptied 3 = .ok (.sipush 328, 3) := by decide +kernel
theorem dX7_emptied_6 : decode cX7_emptied 6 = .ok (.if_icmp .ge 21, 3) := by decide +kernel
theorem dX7_emptied_9 : decode cX7_emptied 9 = .ok (.aload_n 0, 1) := by decide +kernel
theorem dX7_emptied_10 : decode cX7_emptied 10 = .ok (.getfield 16, 3) := by decide +kernel
theorem dX7_emptied_13 : decode cX7_emptied 13 = .ok (.iload_n 1, 1) := by decide +kernel
theorem dX7_emptied_14 : decode cX7_emptied 14 = .ok (.aload_n 0, 1) := by decide +kernel
theorem dX7_emptied_15 : decode cX7_emptied 15 = .ok (.getfield 7, 3) := by decide +kernel
theorem dX7_emptied_18 : decode cX7_emptied 18 = .ok (.iload_n 1, 1) := by decide +kernel
theorem dX7_emptied_19 : decode cX7_emptied 19 = .ok (.iaload, 1) := by decide +kernel
theorem dX7_emptied_20 : decode cX7_emptied 20 = .ok (.iastore, 1) := by decide +kernel
theorem dX7_emptied_21 : decode cX7_emptied 21 = .ok (.iinc 1 1, 3) := by decide +kernel
theorem dX7_emptied_24 : decode cX7_emptied 24 = .ok (.goto (-22), 3) := by decide +kernel
theorem dX7_emptied_27 : decode cX7_emptied 27 = .ok (.aload_n 0, 1) := by decide +kernel
theorem dX7_emptied_28 : decode cX7_emptied 28 = .ok (.iconst 5, 1) := by decide +kernel
theorem dX7_emptied_29 : decode cX7_emptied 29 = .ok (.iconst 0, 1) := by decide +kernel
theorem dX7_emptied_30 : decode cX7_emptied 30 = .ok (.invokevirtual 97, 3) := by decide +kernel
theorem dX7_emptied_33 : decode cX7_emptied 33 = .ok (.istore_n 1, 1) := by decide +kernel
theorem dX7_emptied_34 : decode cX7_emptied 34 = .ok (.iconst 0, 1) := by decide +kernel
theorem dX7_emptied_35 : decode cX7_emptied 35 = .ok (.istore_n 2, 1) := by decide +kernel
theorem dX7_emptied_36 : decode cX7_emptied 36 = .ok (.iconst 0, 1) := by decide +kernel
theorem dX7_emptied_37 : decode cX7_emptied 37 = .ok (.istore_n 3, 1) := by decide +kernel
theorem dX7_emptied_38 : decode cX7_emptied 38 = .ok (.iload_n 3, 1) := by decide +kernel
theorem dX7_emptied_39 : decode cX7_emptied 39 = .ok (.bipush 8, 2) := by decide +kernel
theorem dX7_emptied_41 : decode cX7_emptied 41 = .ok (.if_icmp .ge 27, 3) := by decide +kernel
theorem dX7_emptied_44 : decode cX7_emptied 44 = .ok (.iload_n 2, 1) := by decide +kernel
theorem dX7_emptied_45 : decode cX7_emptied 45 = .ok (.aload_n 0, 1) := by decide +kernel
theorem dX7_emptied_46 : decode cX7_emptied 46 = .ok (.iload_n 3, 1) := by decide +kernel
theorem dX7_emptied_47 : decode cX7_emptied 47 = .ok (.invokevirtual 71, 3) := by decide +kernel
theorem dX7_emptied_50 : decode cX7_emptied 50 = .ok (.ifCond .ge 9, 3) := by decide +kernel
theorem dX7_emptied_53 : decode cX7_emptied 53 = .ok (.iconst 1, 1) := by decide +kernel
theorem dX7_emptied_54 : decode cX7_emptied 54 = .ok (.iload_n 3, 1) := by decide +kernel
theorem dX7_emptied_55 : decode cX7_emptied 55 = .ok (.ishl, 1) := by decide +kernel
theorem dX7_emptied_56 : decode cX7_emptied 56 = .ok (.goto 4, 3) := by decide +kernel
theorem dX7_emptied_59 : decode cX7_emptied 59 = .ok (.iconst 0, 1) := by decide +kernel
theorem dX7_emptied_60 : decode cX7_emptied 60 = .ok (.ior, 1) := by decide +kernel
theorem dX7_emptied_61 : decode cX7_emptied 61 = .ok (.istore_n 2, 1) := by decide +kernel
theorem dX7_emptied_62 : decode cX7_emptied 62 = .ok (.iinc 3 1, 3) := by decide +kernel
theorem dX7_emptied_65 : decode cX7_emptied 65 = .ok (.goto (-27), 3) := by decide +kernel
theorem dX7_emptied_68 : decode cX7_emptied 68 = .ok (.iconst 0, 1) := by decide +kernel
theorem dX7_emptied_69 : decode cX7_emptied 69 = .ok (.istore_n 3, 1) := by decide +kernel
theorem dX7_emptied_70 : decode cX7_emptied 70 = .ok (.iload_n 3, 1) := by decide +kernel
theorem dX7_emptied_71 : decode cX7_emptied 71 = .ok (.sipush 328, 3) := by decide +kernel
theorem dX7_emptied_74 : decode cX7_emptied 74 = .ok (.if_icmp .ge 21, 3) := by decide +kernel
theorem dX7_emptied_77 : decode cX7_emptied 77 = .ok (.aload_n 0, 1) := by decide +kernel
theorem dX7_emptied_78 : decode cX7_emptied 78 = .ok (.getfield 7, 3) := by decide +kernel
theorem dX7_emptied_81 : decode cX7_emptied 81 = .ok (.iload_n 3, 1) := by decide +kernel
theorem dX7_emptied_82 : decode cX7_emptied 82 = .ok (.aload_n 0, 1) := by decide +kernel
theorem dX7_emptied_83 : decode cX7_emptied 83 = .ok (.getfield 16, 3) := by decide +kernel
theorem dX7_emptied_86 : decode cX7_emptied 86 = .ok (.iload_n 3, 1) := by decide +kernel
theorem dX7_emptied_87 : decode cX7_emptied 87 = .ok (.iaload, 1) := by decide +kernel
theorem dX7_emptied_88 : decode cX7_emptied 88 = .ok (.iastore, 1) := by decide +kernel
theorem dX7_emptied_89 : decode cX7_emptied 89 = .ok (.iinc 3 1, 3) := by decide +kernel
theorem dX7_emptied_92 : decode cX7_emptied 92 = .ok (.goto (-22), 3) := by decide +kernel
theorem dX7_emptied_95 : decode cX7_emptied 95 = .ok (.iload_n 2, 1) := by decide +kernel
theorem dX7_emptied_96 : decode cX7_emptied 96 = .ok (.ireturn, 1) := by decide +kernel
theorem dX7_shortest_0 : decode cX7_shortest 0 = .ok (.iload_n 1, 1) := by decide +kernel
theorem dX7_shortest_1 : decode cX7_shortest 1 = .ok (.iconst 0, 1) := by decide +kernel
theorem dX7_shortest_2 : decode cX7_shortest 2 = .ok (.iconst 1, 1) := by decide +kernel
theorem dX7_shortest_3 : decode cX7_shortest 3 = .ok (.invokestatic 22, 3) := by decide +kernel
theorem dX7_shortest_6 : decode cX7_shortest 6 = .ok (.ifCond .ne 5, 3) := by decide +kernel
theorem dX7_shortest_9 : decode cX7_shortest 9 = .ok (.iconst (-1), 1) := by decide +kernel
theorem dX7_shortest_10 : decode cX7_shortest 10 = .ok (.ireturn, 1) := by decide +kernel
theorem dX7_shortest_11 : decode cX7_shortest 11 = .ok (.bipush (-9), 2) := by decide +kernel
theorem dX7_shortest_13 : decode cX7_shortest 13 = .ok (.istore_n 2, 1) := by decide +kernel
theorem dX7_shortest_14 : decode cX7_shortest 14 = .ok (.bipush (-9), 2) := by decide +kernel
theorem dX7_shortest_16 : decode cX7_shortest 16 = .ok (.istore_n 3, 1) := by decide +kernel
theorem dX7_shortest_17 : decode cX7_shortest 17 = .ok (.iconst 0, 1) := by decide +kernel
theorem dX7_shortest_18 : decode cX7_shortest 18 = .ok (.istore 4, 2) := by decide +kernel
theorem dX7_shortest_20 : decode cX7_shortest 20 = .ok (.iload 4, 2) := by decide +kernel
theorem dX7_shortest_22 : decode cX7_shortest 22 = .ok (.bipush 8, 2) := by decide +kernel
theorem dX7_shortest_24 : decode cX7_shortest 24 = .ok (.if_icmp .ge 79, 3) := by decide +kernel
theorem dX7_shortest_27 : decode cX7_shortest 27 = .ok (.aload_n 0, 1) := by decide +kernel
theorem dX7_shortest_28 : decode cX7_shortest 28 = .ok (.iload 4, 2) := by decide +kernel
theorem dX7_shortest_30 : decode cX7_shortest 30 = .ok (.invokevirtual 164, 3) := by decide +kernel
theorem dX7_shortest_33 : decode cX7_shortest 33 = .ok (.aload_n 0, 1) := by decide +kernel
theorem dX7_shortest_34 : decode cX7_shortest 34 = .ok (.iconst 0, 1) := by decide +kernel
theorem dX7_shortest_35 : decode cX7_shortest 35 = .ok (.iload 4, 2) := by decide +kernel
theorem dX7_shortest_37 : decode cX7_shortest 37 = .ok (.invokevirtual 37, 3) := by decide +kernel
theorem dX7_shortest_40 : decode cX7_shortest 40 = .ok (.isub, 1) := by decide +kernel
theorem dX7_shortest_41 : decode cX7_shortest 41 = .ok (.aload_n 0, 1) := by decide +kernel
theorem dX7_shortest_42 : decode cX7_shortest 42 = .ok (.iconst 0, 1) := by decide +kernel
theorem dX7_shortest_43 : decode cX7_shortest 43 = .ok (.iload 4, 2) := by decide +kernel
theorem dX7_shortest_45 : decode cX7_shortest 45 = .ok (.invokevirtual 106, 3) := by decide +kernel
theorem dX7_shortest_48 : decode cX7_shortest 48 = .ok (.iadd, 1) := by decide +kernel
theorem dX7_shortest_49 : decode cX7_shortest 49 = .ok (.istore 5, 2) := by decide +kernel
theorem dX7_shortest_51 : decode cX7_shortest 51 = .ok (.iload 5, 2) := by decide +kernel
theorem dX7_shortest_53 : decode cX7_shortest 53 = .ok (.ifCond .le 17, 3) := by decide +kernel
theorem dX7_shortest_56 : decode cX7_shortest 56 = .ok (.iload_n 2, 1) := by decide +kernel
theorem dX7_shortest_57 : decode cX7_shortest 57 = .ok (.ifCond .lt 9, 3) := by decide +kernel
theorem dX7_shortest_60 : decode cX7_shortest 60 = .ok (.iload 5, 2) := by decide +kernel
theorem dX7_shortest_62 : decode cX7_shortest 62 = .ok (.iload_n 3, 1) := by decide +kernel
theorem dX7_shortest_63 : decode cX7_shortest 63 = .ok (.if_icmp .ge 7, 3) := by decide +kernel
theorem dX7_shortest_66 : decode cX7_shortest 66 = .ok (.iconst 1, 1) := by decide +kernel
theorem dX7_shortest_67 : decode cX7_shortest 67 = .ok (.goto 4, 3) := by decide +kernel
theorem dX7_shortest_70 : decode cX7_shortest 70 = .ok (.iconst 0, 1) := by decide +kernel
theorem dX7_shortest_71 : decode cX7_shortest 71 = .ok (.istore 6, 2) := by decide +kernel
theorem dX7_shortest_73 : decode cX7_shortest 73 = .ok (.iload 6, 2) := by decide +kernel
theorem dX7_shortest_75 : decode cX7_shortest 75 = .ok (.ifCond .eq 8, 3) := by decide +kernel
theorem dX7_shortest_78 : decode cX7_shortest 78 = .ok (.iload 4, 2) := by decide +kernel
theorem dX7_shortest_80 : decode cX7_shortest 80 = .ok (.goto 4, 3) := by decide +kernel
theorem dX7_shortest_83 : decode cX7_shortest 83 = .ok (.iload_n 2, 1) := by decide +kernel
theorem dX7_shortest_84 : decode cX7_shortest 84 = .ok (.istore_n 2, 1) := by decide +kernel
theorem dX7_shortest_85 : decode cX7_shortest 85 = .ok (.iload 6, 2) := by decide +kernel
theorem dX7_shortest_87 : decode cX7_shortest 87 = .ok (.ifCond .eq 8, 3) := by decide +kernel
theorem dX7_shortest_90 : decode cX7_shortest 90 = .ok (.iload 5, 2) := by decide +kernel
theorem dX7_shortest_92 : decode cX7_shortest 92 = .ok (.goto 4, 3) := by decide +kernel
theorem dX7_shortest_95 : decode cX7_shortest 95 = .ok (.iload_n 3, 1) := by decide +kernel
theorem dX7_shortest_96 : decode cX7_shortest 96 = .ok (.istore_n 3, 1) := by decide +kernel
theorem dX7_shortest_97 : decode cX7_shortest 97 = .ok (.iinc 4 1, 3) := by decide +kernel
theorem dX7_shortest_100 : decode cX7_shortest 100 = .ok (.goto (-80), 3) := by decide +kernel
theorem dX7_shortest_103 : decode cX7_shortest 103 = .ok (.iload_n 1, 1) := by decide +kernel
theorem dX7_shortest_104 : decode cX7_shortest 104 = .ok (.ifCond .ne 7, 3) := by decide +kernel
theorem dX7_shortest_107 : decode cX7_shortest 107 = .ok (.iload_n 2, 1) := by decide +kernel
theorem dX7_shortest_108 : decode cX7_shortest 108 = .ok (.goto 4, 3) := by decide +kernel
theorem dX7_shortest_111 : decode cX7_shortest 111 = .ok (.iload_n 3, 1) := by decide +kernel
theorem dX7_shortest_112 : decode cX7_shortest 112 = .ok (.ireturn, 1) := by decide +kernel
