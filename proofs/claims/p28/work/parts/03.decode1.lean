theorem dX0_init_0 : decode cX0_init 0 = .ok (.aload_n 0, 1) := by decide +kernel
theorem dX0_init_1 : decode cX0_init 1 = .ok (.invokespecial 3, 3) := by decide +kernel
theorem dX0_init_4 : decode cX0_init 4 = .ok (.aload_n 0, 1) := by decide +kernel
theorem dX0_init_5 : decode cX0_init 5 = .ok (.new 9, 3) := by decide +kernel
theorem dX0_init_8 : decode cX0_init 8 = .ok (.dup, 1) := by decide +kernel
theorem dX0_init_9 : decode cX0_init 9 = .ok (.invokespecial 11, 3) := by decide +kernel
theorem dX0_init_12 : decode cX0_init 12 = .ok (.putfield 12, 3) := by decide +kernel
theorem dX0_init_15 : decode cX0_init 15 = .ok (.aload_n 0, 1) := by decide +kernel
theorem dX0_init_16 : decode cX0_init 16 = .ok (.new 18, 3) := by decide +kernel
theorem dX0_init_19 : decode cX0_init 19 = .ok (.dup, 1) := by decide +kernel
theorem dX0_init_20 : decode cX0_init 20 = .ok (.bipush 8, 2) := by decide +kernel
theorem dX0_init_22 : decode cX0_init 22 = .ok (.bipush 8, 2) := by decide +kernel
theorem dX0_init_24 : decode cX0_init 24 = .ok (.invokespecial 20, 3) := by decide +kernel
theorem dX0_init_27 : decode cX0_init 27 = .ok (.putfield 23, 3) := by decide +kernel
theorem dX0_init_30 : decode cX0_init 30 = .ok (.aload_n 0, 1) := by decide +kernel
theorem dX0_init_31 : decode cX0_init 31 = .ok (.new 18, 3) := by decide +kernel
theorem dX0_init_34 : decode cX0_init 34 = .ok (.dup, 1) := by decide +kernel
theorem dX0_init_35 : decode cX0_init 35 = .ok (.bipush 12, 2) := by decide +kernel
theorem dX0_init_37 : decode cX0_init 37 = .ok (.bipush 40, 2) := by decide +kernel
theorem dX0_init_39 : decode cX0_init 39 = .ok (.invokespecial 20, 3) := by decide +kernel
theorem dX0_init_42 : decode cX0_init 42 = .ok (.putfield 27, 3) := by decide +kernel
theorem dX0_init_45 : decode cX0_init 45 = .ok (.aload_n 0, 1) := by decide +kernel
theorem dX0_init_46 : decode cX0_init 46 = .ok (.new 18, 3) := by decide +kernel
theorem dX0_init_49 : decode cX0_init 49 = .ok (.dup, 1) := by decide +kernel
theorem dX0_init_50 : decode cX0_init 50 = .ok (.bipush 12, 2) := by decide +kernel
theorem dX0_init_52 : decode cX0_init 52 = .ok (.iconst 0, 1) := by decide +kernel
theorem dX0_init_53 : decode cX0_init 53 = .ok (.invokespecial 20, 3) := by decide +kernel
theorem dX0_init_56 : decode cX0_init 56 = .ok (.putfield 30, 3) := by decide +kernel
theorem dX0_init_59 : decode cX0_init 59 = .ok (.aload_n 0, 1) := by decide +kernel
theorem dX0_init_60 : decode cX0_init 60 = .ok (.new 18, 3) := by decide +kernel
theorem dX0_init_63 : decode cX0_init 63 = .ok (.dup, 1) := by decide +kernel
theorem dX0_init_64 : decode cX0_init 64 = .ok (.bipush 12, 2) := by decide +kernel
theorem dX0_init_66 : decode cX0_init 66 = .ok (.iconst 0, 1) := by decide +kernel
theorem dX0_init_67 : decode cX0_init 67 = .ok (.invokespecial 20, 3) := by decide +kernel
theorem dX0_init_70 : decode cX0_init 70 = .ok (.putfield 33, 3) := by decide +kernel
theorem dX0_init_73 : decode cX0_init 73 = .ok (.aload_n 0, 1) := by decide +kernel
theorem dX0_init_74 : decode cX0_init 74 = .ok (.new 18, 3) := by decide +kernel
theorem dX0_init_77 : decode cX0_init 77 = .ok (.dup, 1) := by decide +kernel
theorem dX0_init_78 : decode cX0_init 78 = .ok (.bipush 12, 2) := by decide +kernel
theorem dX0_init_80 : decode cX0_init 80 = .ok (.iconst 0, 1) := by decide +kernel
theorem dX0_init_81 : decode cX0_init 81 = .ok (.invokespecial 20, 3) := by decide +kernel
theorem dX0_init_84 : decode cX0_init 84 = .ok (.putfield 36, 3) := by decide +kernel
theorem dX0_init_87 : decode cX0_init 87 = .ok (.aload_n 0, 1) := by decide +kernel
theorem dX0_init_88 : decode cX0_init 88 = .ok (.bipush 100, 2) := by decide +kernel
theorem dX0_init_90 : decode cX0_init 90 = .ok (.putfield 39, 3) := by decide +kernel
theorem dX0_init_93 : decode cX0_init 93 = .ok (.aload_n 0, 1) := by decide +kernel
theorem dX0_init_94 : decode cX0_init 94 = .ok (.iconst 1, 1) := by decide +kernel
theorem dX0_init_95 : decode cX0_init 95 = .ok (.putfield 43, 3) := by decide +kernel
theorem dX0_init_98 : decode cX0_init 98 = .ok (.iconst 0, 1) := by decide +kernel
theorem dX0_init_99 : decode cX0_init 99 = .ok (.istore_n 1, 1) := by decide +kernel
theorem dX0_init_100 : decode cX0_init 100 = .ok (.iload_n 1, 1) := by decide +kernel
theorem dX0_init_101 : decode cX0_init 101 = .ok (.bipush 12, 2) := by decide +kernel
theorem dX0_init_103 : decode cX0_init 103 = .ok (.if_icmp .ge 21, 3) := by decide +kernel
theorem dX0_init_106 : decode cX0_init 106 = .ok (.aload_n 0, 1) := by decide +kernel
theorem dX0_init_107 : decode cX0_init 107 = .ok (.getfield 33, 3) := by decide +kernel
theorem dX0_init_110 : decode cX0_init 110 = .ok (.iload_n 1, 1) := by decide +kernel
theorem dX0_init_111 : decode cX0_init 111 = .ok (.iload_n 1, 1) := by decide +kernel
theorem dX0_init_112 : decode cX0_init 112 = .ok (.bipush 8, 2) := by decide +kernel
theorem dX0_init_114 : decode cX0_init 114 = .ok (.irem, 1) := by decide +kernel
theorem dX0_init_115 : decode cX0_init 115 = .ok (.invokevirtual 46, 3) := by decide +kernel
theorem dX0_init_118 : decode cX0_init 118 = .ok (.iinc 1 1, 3) := by decide +kernel
theorem dX0_init_121 : decode cX0_init 121 = .ok (.goto (-21), 3) := by decide +kernel
theorem dX0_init_124 : decode cX0_init 124 = .ok (.return_, 1) := by decide +kernel
theorem dX0_copyFrom_0 : decode cX0_copyFrom 0 = .ok (.aload_n 0, 1) := by decide +kernel
theorem dX0_copyFrom_1 : decode cX0_copyFrom 1 = .ok (.getfield 12, 3) := by decide +kernel
theorem dX0_copyFrom_4 : decode cX0_copyFrom 4 = .ok (.aload_n 1, 1) := by decide +kernel
theorem dX0_copyFrom_5 : decode cX0_copyFrom 5 = .ok (.getfield 12, 3) := by decide +kernel
theorem dX0_copyFrom_8 : decode cX0_copyFrom 8 = .ok (.invokevirtual 49, 3) := by decide +kernel
theorem dX0_copyFrom_11 : decode cX0_copyFrom 11 = .ok (.aload_n 0, 1) := by decide +kernel
theorem dX0_copyFrom_12 : decode cX0_copyFrom 12 = .ok (.getfield 23, 3) := by decide +kernel
theorem dX0_copyFrom_15 : decode cX0_copyFrom 15 = .ok (.aload_n 1, 1) := by decide +kernel
theorem dX0_copyFrom_16 : decode cX0_copyFrom 16 = .ok (.getfield 23, 3) := by decide +kernel
theorem dX0_copyFrom_19 : decode cX0_copyFrom 19 = .ok (.invokevirtual 53, 3) := by decide +kernel
theorem dX0_copyFrom_22 : decode cX0_copyFrom 22 = .ok (.aload_n 0, 1) := by decide +kernel
theorem dX0_copyFrom_23 : decode cX0_copyFrom 23 = .ok (.getfield 27, 3) := by decide +kernel
theorem dX0_copyFrom_26 : decode cX0_copyFrom 26 = .ok (.aload_n 1, 1) := by decide +kernel
theorem dX0_copyFrom_27 : decode cX0_copyFrom 27 = .ok (.getfield 27, 3) := by decide +kernel
theorem dX0_copyFrom_30 : decode cX0_copyFrom 30 = .ok (.invokevirtual 53, 3) := by decide +kernel
theorem dX0_copyFrom_33 : decode cX0_copyFrom 33 = .ok (.aload_n 0, 1) := by decide +kernel
theorem dX0_copyFrom_34 : decode cX0_copyFrom 34 = .ok (.getfield 30, 3) := by decide +kernel
theorem dX0_copyFrom_37 : decode cX0_copyFrom 37 = .ok (.aload_n 1, 1) := by decide +kernel
theorem dX0_copyFrom_38 : decode cX0_copyFrom 38 = .ok (.getfield 30, 3) := by decide +kernel
theorem dX0_copyFrom_41 : decode cX0_copyFrom 41 = .ok (.invokevirtual 53, 3) := by decide +kernel
theorem dX0_copyFrom_44 : decode cX0_copyFrom 44 = .ok (.aload_n 0, 1) := by decide +kernel
theorem dX0_copyFrom_45 : decode cX0_copyFrom 45 = .ok (.getfield 33, 3) := by decide +kernel
theorem dX0_copyFrom_48 : decode cX0_copyFrom 48 = .ok (.aload_n 1, 1) := by decide +kernel
theorem dX0_copyFrom_49 : decode cX0_copyFrom 49 = .ok (.getfield 33, 3) := by decide +kernel
theorem dX0_copyFrom_52 : decode cX0_copyFrom 52 = .ok (.invokevirtual 53, 3) := by decide +kernel
theorem dX0_copyFrom_55 : decode cX0_copyFrom 55 = .ok (.aload_n 0, 1) := by decide +kernel
theorem dX0_copyFrom_56 : decode cX0_copyFrom 56 = .ok (.getfield 36, 3) := by decide +kernel
theorem dX0_copyFrom_59 : decode cX0_copyFrom 59 = .ok (.aload_n 1, 1) := by decide +kernel
theorem dX0_copyFrom_60 : decode cX0_copyFrom 60 = .ok (.getfield 36, 3) := by decide +kernel
theorem dX0_copyFrom_63 : decode cX0_copyFrom 63 = .ok (.invokevirtual 53, 3) := by decide +kernel
theorem dX0_copyFrom_66 : decode cX0_copyFrom 66 = .ok (.aload_n 0, 1) := by decide +kernel
theorem dX0_copyFrom_67 : decode cX0_copyFrom 67 = .ok (.aload_n 1, 1) := by decide +kernel
theorem dX0_copyFrom_68 : decode cX0_copyFrom 68 = .ok (.getfield 56, 3) := by decide +kernel
theorem dX0_copyFrom_71 : decode cX0_copyFrom 71 = .ok (.putfield 56, 3) := by decide +kernel
theorem dX0_copyFrom_74 : decode cX0_copyFrom 74 = .ok (.aload_n 0, 1) := by decide +kernel
theorem dX0_copyFrom_75 : decode cX0_copyFrom 75 = .ok (.aload_n 1, 1) := by decide +kernel
theorem dX0_copyFrom_76 : decode cX0_copyFrom 76 = .ok (.getfield 39, 3) := by decide +kernel
theorem dX0_copyFrom_79 : decode cX0_copyFrom 79 = .ok (.putfield 39, 3) := by decide +kernel
theorem dX0_copyFrom_82 : decode cX0_copyFrom 82 = .ok (.aload_n 0, 1) := by decide +kernel
theorem dX0_copyFrom_83 : decode cX0_copyFrom 83 = .ok (.aload_n 1, 1) := by decide +kernel
theorem dX0_copyFrom_84 : decode cX0_copyFrom 84 = .ok (.getfield 59, 3) := by decide +kernel
theorem dX0_copyFrom_87 : decode cX0_copyFrom 87 = .ok (.putfield 59, 3) := by decide +kernel
theorem dX0_copyFrom_90 : decode cX0_copyFrom 90 = .ok (.aload_n 0, 1) := by decide +kernel
theorem dX0_copyFrom_91 : decode cX0_copyFrom 91 = .ok (.aload_n 1, 1) := by decide +kernel
theorem dX0_copyFrom_92 : decode cX0_copyFrom 92 = .ok (.getfield 62, 3) := by decide +kernel
theorem dX0_copyFrom_95 : decode cX0_copyFrom 95 = .ok (.putfield 62, 3) := by decide +kernel
theorem dX0_copyFrom_98 : decode cX0_copyFrom 98 = .ok (.aload_n 0, 1) := by decide +kernel
theorem dX0_copyFrom_99 : decode cX0_copyFrom 99 = .ok (.aload_n 1, 1) := by decide +kernel
theorem dX0_copyFrom_100 : decode cX0_copyFrom 100 = .ok (.getfield 65, 3) := by decide +kernel
theorem dX0_copyFrom_103 : decode cX0_copyFrom 103 = .ok (.putfield 65, 3) := by decide +kernel
theorem dX0_copyFrom_106 : decode cX0_copyFrom 106 = .ok (.aload_n 0, 1) := by decide +kernel
theorem dX0_copyFrom_107 : decode cX0_copyFrom 107 = .ok (.aload_n 1, 1) := by decide +kernel
theorem dX0_copyFrom_108 : decode cX0_copyFrom 108 = .ok (.getfield 43, 3) := by decide +kernel
theorem dX0_copyFrom_111 : decode cX0_copyFrom 111 = .ok (.putfield 43, 3) := by decide +kernel
theorem dX0_copyFrom_114 : decode cX0_copyFrom 114 = .ok (.return_, 1) := by decide +kernel
theorem dX0_spendable_0 : decode cX0_spendable 0 = .ok (.aload_n 0, 1) := by decide +kernel
theorem dX0_spendable_1 : decode cX0_spendable 1 = .ok (.getfield 39, 3) := by decide +kernel
theorem dX0_spendable_4 : decode cX0_spendable 4 = .ok (.bipush 10, 2) := by decide +kernel
theorem dX0_spendable_6 : decode cX0_spendable 6 = .ok (.aload_n 0, 1) := by decide +kernel
theorem dX0_spendable_7 : decode cX0_spendable 7 = .ok (.getfield 12, 3) := by decide +kernel
theorem dX0_spendable_10 : decode cX0_spendable 10 = .ok (.iconst 1, 1) := by decide +kernel
theorem dX0_spendable_11 : decode cX0_spendable 11 = .ok (.invokevirtual 68, 3) := by decide +kernel
theorem dX0_spendable_14 : decode cX0_spendable 14 = .ok (.imul, 1) := by decide +kernel
theorem dX0_spendable_15 : decode cX0_spendable 15 = .ok (.isub, 1) := by decide +kernel
theorem dX0_spendable_16 : decode cX0_spendable 16 = .ok (.ireturn, 1) := by decide +kernel
theorem dX0_spend_0 : decode cX0_spend 0 = .ok (.aload_n 0, 1) := by decide +kernel
theorem dX0_spend_1 : decode cX0_spend 1 = .ok (.dup, 1) := by decide +kernel
theorem dX0_spend_2 : decode cX0_spend 2 = .ok (.getfield 39, 3) := by decide +kernel
theorem dX0_spend_5 : decode cX0_spend 5 = .ok (.iload_n 1, 1) := by decide +kernel
theorem dX0_spend_6 : decode cX0_spend 6 = .ok (.isub, 1) := by decide +kernel
theorem dX0_spend_7 : decode cX0_spend 7 = .ok (.putfield 39, 3) := by decide +kernel
theorem dX0_spend_10 : decode cX0_spend 10 = .ok (.aload_n 0, 1) := by decide +kernel
theorem dX0_spend_11 : decode cX0_spend 11 = .ok (.dup, 1) := by decide +kernel
theorem dX0_spend_12 : decode cX0_spend 12 = .ok (.getfield 59, 3) := by decide +kernel
theorem dX0_spend_15 : decode cX0_spend 15 = .ok (.iload_n 1, 1) := by decide +kernel
theorem dX0_spend_16 : decode cX0_spend 16 = .ok (.iadd, 1) := by decide +kernel
theorem dX0_spend_17 : decode cX0_spend 17 = .ok (.putfield 59, 3) := by decide +kernel
theorem dX0_spend_20 : decode cX0_spend 20 = .ok (.return_, 1) := by decide +kernel
theorem dX0_freeAt_0 : decode cX0_freeAt 0 = .ok (.aload_n 0, 1) := by decide +kernel
theorem dX0_freeAt_1 : decode cX0_freeAt 1 = .ok (.getfield 23, 3) := by decide +kernel
theorem dX0_freeAt_4 : decode cX0_freeAt 4 = .ok (.iload_n 1, 1) := by decide +kernel
theorem dX0_freeAt_5 : decode cX0_freeAt 5 = .ok (.invokevirtual 72, 3) := by decide +kernel
theorem dX0_freeAt_8 : decode cX0_freeAt 8 = .ok (.aload_n 0, 1) := by decide +kernel
theorem dX0_freeAt_9 : decode cX0_freeAt 9 = .ok (.getfield 12, 3) := by decide +kernel
theorem dX0_freeAt_12 : decode cX0_freeAt 12 = .ok (.iload_n 1, 1) := by decide +kernel
theorem dX0_freeAt_13 : decode cX0_freeAt 13 = .ok (.invokevirtual 75, 3) := by decide +kernel
theorem dX0_freeAt_16 : decode cX0_freeAt 16 = .ok (.isub, 1) := by decide +kernel
theorem dX0_freeAt_17 : decode cX0_freeAt 17 = .ok (.ireturn, 1) := by decide +kernel
theorem dX0_hasOne_0 : decode cX0_hasOne 0 = .ok (.aload_n 0, 1) := by decide +kernel
theorem dX0_hasOne_1 : decode cX0_hasOne 1 = .ok (.getfield 12, 3) := by decide +kernel
theorem dX0_hasOne_4 : decode cX0_hasOne 4 = .ok (.bipush 8, 2) := by decide +kernel
theorem dX0_hasOne_6 : decode cX0_hasOne 6 = .ok (.iload_n 1, 1) := by decide +kernel
theorem dX0_hasOne_7 : decode cX0_hasOne 7 = .ok (.iadd, 1) := by decide +kernel
theorem dX0_hasOne_8 : decode cX0_hasOne 8 = .ok (.invokevirtual 75, 3) := by decide +kernel
theorem dX0_hasOne_11 : decode cX0_hasOne 11 = .ok (.ifCond .le 7, 3) := by decide +kernel
theorem dX0_hasOne_14 : decode cX0_hasOne 14 = .ok (.iconst 1, 1) := by decide +kernel
theorem dX0_hasOne_15 : decode cX0_hasOne 15 = .ok (.goto 4, 3) := by decide +kernel
theorem dX0_hasOne_18 : decode cX0_hasOne 18 = .ok (.iconst 0, 1) := by decide +kernel
theorem dX0_hasOne_19 : decode cX0_hasOne 19 = .ok (.ireturn, 1) := by decide +kernel
theorem dX0_inHand_0 : decode cX0_inHand 0 = .ok (.aload_n 0, 1) := by decide +kernel
theorem dX0_inHand_1 : decode cX0_inHand 1 = .ok (.getfield 12, 3) := by decide +kernel
theorem dX0_inHand_4 : decode cX0_inHand 4 = .ok (.bipush 8, 2) := by decide +kernel
theorem dX0_inHand_6 : decode cX0_inHand 6 = .ok (.iload_n 1, 1) := by decide +kernel
theorem dX0_inHand_7 : decode cX0_inHand 7 = .ok (.iadd, 1) := by decide +kernel
theorem dX0_inHand_8 : decode cX0_inHand 8 = .ok (.iconst 0, 1) := by decide +kernel
theorem dX0_inHand_9 : decode cX0_inHand 9 = .ok (.invokevirtual 78, 3) := by decide +kernel
theorem dX0_inHand_12 : decode cX0_inHand 12 = .ok (.ireturn, 1) := by decide +kernel
theorem dX0_buyingError_0 : decode cX0_buyingError 0 = .ok (.iload_n 1, 1) := by decide +kernel
theorem dX0_buyingError_1 : decode cX0_buyingError 1 = .ok (.iconst 0, 1) := by decide +kernel
theorem dX0_buyingError_2 : decode cX0_buyingError 2 = .ok (.bipush 7, 2) := by decide +kernel
theorem dX0_buyingError_4 : decode cX0_buyingError 4 = .ok (.invokestatic 82, 3) := by decide +kernel
theorem dX0_buyingError_7 : decode cX0_buyingError 7 = .ok (.ifCond .ne 13, 3) := by decide +kernel
theorem dX0_buyingError_10 : decode cX0_buyingError 10 = .ok (.iload_n 2, 1) := by decide +kernel
theorem dX0_buyingError_11 : decode cX0_buyingError 11 = .ok (.iconst 1, 1) := by decide +kernel
theorem dX0_buyingError_12 : decode cX0_buyingError 12 = .ok (.bipush 20, 2) := by decide +kernel
theorem dX0_buyingError_14 : decode cX0_buyingError 14 = .ok (.invokestatic 82, 3) := by decide +kernel
theorem dX0_buyingError_17 : decode cX0_buyingError 17 = .ok (.ifCond .eq 5, 3) := by decide +kernel
theorem dX0_buyingError_20 : decode cX0_buyingError 20 = .ok (.iconst (-1), 1) := by decide +kernel
theorem dX0_buyingError_21 : decode cX0_buyingError 21 = .ok (.ireturn, 1) := by decide +kernel
theorem dX0_buyingError_22 : decode cX0_buyingError 22 = .ok (.aload_n 0, 1) := by decide +kernel
theorem dX0_buyingError_23 : decode cX0_buyingError 23 = .ok (.invokevirtual 86, 3) := by decide +kernel
theorem dX0_buyingError_26 : decode cX0_buyingError 26 = .ok (.iconst 5, 1) := by decide +kernel
theorem dX0_buyingError_27 : decode cX0_buyingError 27 = .ok (.iload_n 2, 1) := by decide +kernel
theorem dX0_buyingError_28 : decode cX0_buyingError 28 = .ok (.imul, 1) := by decide +kernel
theorem dX0_buyingError_29 : decode cX0_buyingError 29 = .ok (.if_icmp .ge 6, 3) := by decide +kernel
theorem dX0_buyingError_32 : decode cX0_buyingError 32 = .ok (.bipush (-2), 2) := by decide +kernel
theorem dX0_buyingError_34 : decode cX0_buyingError 34 = .ok (.ireturn, 1) := by decide +kernel
theorem dX0_buyingError_35 : decode cX0_buyingError 35 = .ok (.iload_n 2, 1) := by decide +kernel
theorem dX0_buyingError_36 : decode cX0_buyingError 36 = .ok (.bipush 60, 2) := by decide +kernel
theorem dX0_buyingError_38 : decode cX0_buyingError 38 = .ok (.aload_n 0, 1) := by decide +kernel
theorem dX0_buyingError_39 : decode cX0_buyingError 39 = .ok (.getfield 12, 3) := by decide +kernel
theorem dX0_buyingError_42 : decode cX0_buyingError 42 = .ok (.getfield 90, 3) := by decide +kernel
theorem dX0_buyingError_45 : decode cX0_buyingError 45 = .ok (.isub, 1) := by decide +kernel
theorem dX0_buyingError_46 : decode cX0_buyingError 46 = .ok (.if_icmp .gt 16, 3) := by decide +kernel
theorem dX0_buyingError_49 : decode cX0_buyingError 49 = .ok (.iload_n 2, 1) := by decide +kernel
theorem dX0_buyingError_50 : decode cX0_buyingError 50 = .ok (.aload_n 0, 1) := by decide +kernel
theorem dX0_buyingError_51 : decode cX0_buyingError 51 = .ok (.iload_n 1, 1) := by decide +kernel
theorem dX0_buyingError_52 : decode cX0_buyingError 52 = .ok (.invokevirtual 93, 3) := by decide +kernel
theorem dX0_buyingError_55 : decode cX0_buyingError 55 = .ok (.if_icmp .gt 7, 3) := by decide +kernel
theorem dX0_buyingError_58 : decode cX0_buyingError 58 = .ok (.iconst 1, 1) := by decide +kernel
theorem dX0_buyingError_59 : decode cX0_buyingError 59 = .ok (.goto 4, 3) := by decide +kernel
theorem dX0_buyingError_62 : decode cX0_buyingError 62 = .ok (.iconst 0, 1) := by decide +kernel
theorem dX0_buyingError_63 : decode cX0_buyingError 63 = .ok (.istore_n 3, 1) := by decide +kernel
theorem dX0_buyingError_64 : decode cX0_buyingError 64 = .ok (.iload_n 3, 1) := by decide +kernel
theorem dX0_buyingError_65 : decode cX0_buyingError 65 = .ok (.ifCond .eq 7, 3) := by decide +kernel
theorem dX0_buyingError_68 : decode cX0_buyingError 68 = .ok (.iconst 0, 1) := by decide +kernel
theorem dX0_buyingError_69 : decode cX0_buyingError 69 = .ok (.goto 5, 3) := by decide +kernel
theorem dX0_buyingError_72 : decode cX0_buyingError 72 = .ok (.bipush (-3), 2) := by decide +kernel
theorem dX0_buyingError_74 : decode cX0_buyingError 74 = .ok (.ireturn, 1) := by decide +kernel
theorem dX0_purchase_0 : decode cX0_purchase 0 = .ok (.aload_n 0, 1) := by decide +kernel
theorem dX0_purchase_1 : decode cX0_purchase 1 = .ok (.getfield 12, 3) := by decide +kernel
theorem dX0_purchase_4 : decode cX0_purchase 4 = .ok (.getfield 90, 3) := by decide +kernel
theorem dX0_purchase_7 : decode cX0_purchase 7 = .ok (.istore_n 3, 1) := by decide +kernel
theorem dX0_purchase_8 : decode cX0_purchase 8 = .ok (.iconst 0, 1) := by decide +kernel
theorem dX0_purchase_9 : decode cX0_purchase 9 = .ok (.istore 4, 2) := by decide +kernel
theorem dX0_purchase_11 : decode cX0_purchase 11 = .ok (.iload 4, 2) := by decide +kernel
theorem dX0_purchase_13 : decode cX0_purchase 13 = .ok (.iload_n 2, 1) := by decide +kernel
theorem dX0_purchase_14 : decode cX0_purchase 14 = .ok (.if_icmp .ge 17, 3) := by decide +kernel
theorem dX0_purchase_17 : decode cX0_purchase 17 = .ok (.aload_n 0, 1) := by decide +kernel
theorem dX0_purchase_18 : decode cX0_purchase 18 = .ok (.getfield 12, 3) := by decide +kernel
theorem dX0_purchase_21 : decode cX0_purchase 21 = .ok (.iload_n 1, 1) := by decide +kernel
theorem dX0_purchase_22 : decode cX0_purchase 22 = .ok (.invokevirtual 96, 3) := by decide +kernel
theorem dX0_purchase_25 : decode cX0_purchase 25 = .ok (.iinc 4 1, 3) := by decide +kernel
theorem dX0_purchase_28 : decode cX0_purchase 28 = .ok (.goto (-17), 3) := by decide +kernel
theorem dX0_purchase_31 : decode cX0_purchase 31 = .ok (.aload_n 0, 1) := by decide +kernel
theorem dX0_purchase_32 : decode cX0_purchase 32 = .ok (.iconst 5, 1) := by decide +kernel
theorem dX0_purchase_33 : decode cX0_purchase 33 = .ok (.iload_n 2, 1) := by decide +kernel
theorem dX0_purchase_34 : decode cX0_purchase 34 = .ok (.imul, 1) := by decide +kernel
theorem dX0_purchase_35 : decode cX0_purchase 35 = .ok (.invokevirtual 100, 3) := by decide +kernel
theorem dX0_purchase_38 : decode cX0_purchase 38 = .ok (.iload_n 3, 1) := by decide +kernel
theorem dX0_purchase_39 : decode cX0_purchase 39 = .ok (.ireturn, 1) := by decide +kernel
theorem dX0_settingError_0 : decode cX0_settingError 0 = .ok (.iload_n 1, 1) := by decide +kernel
theorem dX0_settingError_1 : decode cX0_settingError 1 = .ok (.bipush 8, 2) := by decide +kernel
theorem dX0_settingError_3 : decode cX0_settingError 3 = .ok (.if_icmp .ne 18, 3) := by decide +kernel
theorem dX0_settingError_6 : decode cX0_settingError 6 = .ok (.iload_n 2, 1) := by decide +kernel
theorem dX0_settingError_7 : decode cX0_settingError 7 = .ok (.iconst 0, 1) := by decide +kernel
theorem dX0_settingError_8 : decode cX0_settingError 8 = .ok (.iconst 5, 1) := by decide +kernel
theorem dX0_settingError_9 : decode cX0_settingError 9 = .ok (.invokestatic 82, 3) := by decide +kernel
theorem dX0_settingError_12 : decode cX0_settingError 12 = .ok (.ifCond .eq 7, 3) := by decide +kernel
theorem dX0_settingError_15 : decode cX0_settingError 15 = .ok (.iconst (-1), 1) := by decide +kernel
theorem dX0_settingError_16 : decode cX0_settingError 16 = .ok (.goto 4, 3) := by decide +kernel
theorem dX0_settingError_19 : decode cX0_settingError 19 = .ok (.iconst 0, 1) := by decide +kernel
theorem dX0_settingError_20 : decode cX0_settingError 20 = .ok (.ireturn, 1) := by decide +kernel
theorem dX0_settingError_21 : decode cX0_settingError 21 = .ok (.iload_n 1, 1) := by decide +kernel
theorem dX0_settingError_22 : decode cX0_settingError 22 = .ok (.iconst 0, 1) := by decide +kernel
theorem dX0_settingError_23 : decode cX0_settingError 23 = .ok (.bipush 7, 2) := by decide +kernel
theorem dX0_settingError_25 : decode cX0_settingError 25 = .ok (.invokestatic 82, 3) := by decide +kernel
theorem dX0_settingError_28 : decode cX0_settingError 28 = .ok (.ifCond .ne 13, 3) := by decide +kernel
theorem dX0_settingError_31 : decode cX0_settingError 31 = .ok (.iload_n 2, 1) := by decide +kernel
theorem dX0_settingError_32 : decode cX0_settingError 32 = .ok (.iconst 1, 1) := by decide +kernel
theorem dX0_settingError_33 : decode cX0_settingError 33 = .ok (.bipush 20, 2) := by decide +kernel
theorem dX0_settingError_35 : decode cX0_settingError 35 = .ok (.invokestatic 82, 3) := by decide +kernel
theorem dX0_settingError_38 : decode cX0_settingError 38 = .ok (.ifCond .eq 5, 3) := by decide +kernel
theorem dX0_settingError_41 : decode cX0_settingError 41 = .ok (.iconst (-1), 1) := by decide +kernel
theorem dX0_settingError_42 : decode cX0_settingError 42 = .ok (.ireturn, 1) := by decide +kernel
theorem dX0_settingError_43 : decode cX0_settingError 43 = .ok (.aload_n 0, 1) := by decide +kernel
theorem dX0_settingError_44 : decode cX0_settingError 44 = .ok (.getfield 12, 3) := by decide +kernel
theorem dX0_settingError_47 : decode cX0_settingError 47 = .ok (.iload_n 1, 1) := by decide +kernel
theorem dX0_settingError_48 : decode cX0_settingError 48 = .ok (.invokevirtual 75, 3) := by decide +kernel
theorem dX0_settingError_51 : decode cX0_settingError 51 = .ok (.iload_n 2, 1) := by decide +kernel
theorem dX0_settingError_52 : decode cX0_settingError 52 = .ok (.if_icmp .le 8, 3) := by decide +kernel
theorem dX0_settingError_55 : decode cX0_settingError 55 = .ok (.bipush (-2), 2) := by decide +kernel
theorem dX0_settingError_57 : decode cX0_settingError 57 = .ok (.goto 4, 3) := by decide +kernel
theorem dX0_settingError_60 : decode cX0_settingError 60 = .ok (.iconst 0, 1) := by decide +kernel
theorem dX0_settingError_61 : decode cX0_settingError 61 = .ok (.ireturn, 1) := by decide +kernel
theorem dX0_change_0 : decode cX0_change 0 = .ok (.iload_n 1, 1) := by decide +kernel
theorem dX0_change_1 : decode cX0_change 1 = .ok (.bipush 8, 2) := by decide +kernel
theorem dX0_change_3 : decode cX0_change 3 = .ok (.if_icmp .ne 16, 3) := by decide +kernel
theorem dX0_change_6 : decode cX0_change 6 = .ok (.aload_n 0, 1) := by decide +kernel
theorem dX0_change_7 : decode cX0_change 7 = .ok (.getfield 43, 3) := by decide +kernel
theorem dX0_change_10 : decode cX0_change 10 = .ok (.istore_n 3, 1) := by decide +kernel
theorem dX0_change_11 : decode cX0_change 11 = .ok (.aload_n 0, 1) := by decide +kernel
theorem dX0_change_12 : decode cX0_change 12 = .ok (.iload_n 2, 1) := by decide +kernel
theorem dX0_change_13 : decode cX0_change 13 = .ok (.putfield 43, 3) := by decide +kernel
theorem dX0_change_16 : decode cX0_change 16 = .ok (.goto 21, 3) := by decide +kernel
theorem dX0_change_19 : decode cX0_change 19 = .ok (.aload_n 0, 1) := by decide +kernel
theorem dX0_change_20 : decode cX0_change 20 = .ok (.getfield 23, 3) := by decide +kernel
theorem dX0_change_23 : decode cX0_change 23 = .ok (.iload_n 1, 1) := by decide +kernel
theorem dX0_change_24 : decode cX0_change 24 = .ok (.invokevirtual 72, 3) := by decide +kernel
theorem dX0_change_27 : decode cX0_change 27 = .ok (.istore_n 3, 1) := by decide +kernel
theorem dX0_change_28 : decode cX0_change 28 = .ok (.aload_n 0, 1) := by decide +kernel
theorem dX0_change_29 : decode cX0_change 29 = .ok (.getfield 23, 3) := by decide +kernel
theorem dX0_change_32 : decode cX0_change 32 = .ok (.iload_n 1, 1) := by decide +kernel
theorem dX0_change_33 : decode cX0_change 33 = .ok (.iload_n 2, 1) := by decide +kernel
theorem dX0_change_34 : decode cX0_change 34 = .ok (.invokevirtual 46, 3) := by decide +kernel
theorem dX0_change_37 : decode cX0_change 37 = .ok (.iload_n 3, 1) := by decide +kernel
theorem dX0_change_38 : decode cX0_change 38 = .ok (.ireturn, 1) := by decide +kernel
theorem dX0_lendingError_0 : decode cX0_lendingError 0 = .ok (.iload_n 1, 1) := by decide +kernel
theorem dX0_lendingError_1 : decode cX0_lendingError 1 = .ok (.iconst 0, 1) := by decide +kernel
theorem dX0_lendingError_2 : decode cX0_lendingError 2 = .ok (.bipush 11, 2) := by decide +kernel
theorem dX0_lendingError_4 : decode cX0_lendingError 4 = .ok (.invokestatic 82, 3) := by decide +kernel
theorem dX0_lendingError_7 : decode cX0_lendingError 7 = .ok (.ifCond .ne 13, 3) := by decide +kernel
theorem dX0_lendingError_10 : decode cX0_lendingError 10 = .ok (.iload_n 2, 1) := by decide +kernel
theorem dX0_lendingError_11 : decode cX0_lendingError 11 = .ok (.iconst 0, 1) := by decide +kernel
theorem dX0_lendingError_12 : decode cX0_lendingError 12 = .ok (.bipush 7, 2) := by decide +kernel
theorem dX0_lendingError_14 : decode cX0_lendingError 14 = .ok (.invokestatic 82, 3) := by decide +kernel
theorem dX0_lendingError_17 : decode cX0_lendingError 17 = .ok (.ifCond .eq 5, 3) := by decide +kernel
theorem dX0_lendingError_20 : decode cX0_lendingError 20 = .ok (.iconst (-1), 1) := by decide +kernel
theorem dX0_lendingError_21 : decode cX0_lendingError 21 = .ok (.ireturn, 1) := by decide +kernel
theorem dX0_lendingError_22 : decode cX0_lendingError 22 = .ok (.aload_n 0, 1) := by decide +kernel
theorem dX0_lendingError_23 : decode cX0_lendingError 23 = .ok (.iload_n 1, 1) := by decide +kernel
theorem dX0_lendingError_24 : decode cX0_lendingError 24 = .ok (.invokevirtual 103, 3) := by decide +kernel
theorem dX0_lendingError_27 : decode cX0_lendingError 27 = .ok (.ifCond .eq 20, 3) := by decide +kernel
theorem dX0_lendingError_30 : decode cX0_lendingError 30 = .ok (.aload_n 0, 1) := by decide +kernel
theorem dX0_lendingError_31 : decode cX0_lendingError 31 = .ok (.getfield 12, 3) := by decide +kernel
theorem dX0_lendingError_34 : decode cX0_lendingError 34 = .ok (.iload_n 2, 1) := by decide +kernel
theorem dX0_lendingError_35 : decode cX0_lendingError 35 = .ok (.invokevirtual 107, 3) := by decide +kernel
theorem dX0_lendingError_38 : decode cX0_lendingError 38 = .ok (.bipush (-9), 2) := by decide +kernel
theorem dX0_lendingError_40 : decode cX0_lendingError 40 = .ok (.if_icmp .eq 7, 3) := by decide +kernel
theorem dX0_lendingError_43 : decode cX0_lendingError 43 = .ok (.iconst 1, 1) := by decide +kernel
theorem dX0_lendingError_44 : decode cX0_lendingError 44 = .ok (.goto 4, 3) := by decide +kernel
theorem dX0_lendingError_47 : decode cX0_lendingError 47 = .ok (.iconst 0, 1) := by decide +kernel
theorem dX0_lendingError_48 : decode cX0_lendingError 48 = .ok (.istore_n 3, 1) := by decide +kernel
theorem dX0_lendingError_49 : decode cX0_lendingError 49 = .ok (.iload_n 3, 1) := by decide +kernel
theorem dX0_lendingError_50 : decode cX0_lendingError 50 = .ok (.ifCond .eq 7, 3) := by decide +kernel
theorem dX0_lendingError_53 : decode cX0_lendingError 53 = .ok (.iconst 0, 1) := by decide +kernel
theorem dX0_lendingError_54 : decode cX0_lendingError 54 = .ok (.goto 5, 3) := by decide +kernel
theorem dX0_lendingError_57 : decode cX0_lendingError 57 = .ok (.bipush (-2), 2) := by decide +kernel
theorem dX0_lendingError_59 : decode cX0_lendingError 59 = .ok (.ireturn, 1) := by decide +kernel
theorem dX0_wouldBorrow_0 : decode cX0_wouldBorrow 0 = .ok (.aload_n 0, 1) := by decide +kernel
theorem dX0_wouldBorrow_1 : decode cX0_wouldBorrow 1 = .ok (.getfield 27, 3) := by decide +kernel
theorem dX0_wouldBorrow_4 : decode cX0_wouldBorrow 4 = .ok (.iload_n 1, 1) := by decide +kernel
theorem dX0_wouldBorrow_5 : decode cX0_wouldBorrow 5 = .ok (.invokevirtual 72, 3) := by decide +kernel
theorem dX0_wouldBorrow_8 : decode cX0_wouldBorrow 8 = .ok (.bipush 10, 2) := by decide +kernel
theorem dX0_wouldBorrow_10 : decode cX0_wouldBorrow 10 = .ok (.if_icmp .lt 21, 3) := by decide +kernel
theorem dX0_wouldBorrow_13 : decode cX0_wouldBorrow 13 = .ok (.aload_n 0, 1) := by decide +kernel
theorem dX0_wouldBorrow_14 : decode cX0_wouldBorrow 14 = .ok (.getfield 12, 3) := by decide +kernel
theorem dX0_wouldBorrow_17 : decode cX0_wouldBorrow 17 = .ok (.bipush 8, 2) := by decide +kernel
theorem dX0_wouldBorrow_19 : decode cX0_wouldBorrow 19 = .ok (.iload_n 1, 1) := by decide +kernel
theorem dX0_wouldBorrow_20 : decode cX0_wouldBorrow 20 = .ok (.iadd, 1) := by decide +kernel
theorem dX0_wouldBorrow_21 : decode cX0_wouldBorrow 21 = .ok (.invokevirtual 75, 3) := by decide +kernel
theorem dX0_wouldBorrow_24 : decode cX0_wouldBorrow 24 = .ok (.ifCond .ne 7, 3) := by decide +kernel
theorem dX0_wouldBorrow_27 : decode cX0_wouldBorrow 27 = .ok (.iconst 1, 1) := by decide +kernel
theorem dX0_wouldBorrow_28 : decode cX0_wouldBorrow 28 = .ok (.goto 4, 3) := by decide +kernel
theorem dX0_wouldBorrow_31 : decode cX0_wouldBorrow 31 = .ok (.iconst 0, 1) := by decide +kernel
theorem dX0_wouldBorrow_32 : decode cX0_wouldBorrow 32 = .ok (.ireturn, 1) := by decide +kernel
theorem dX0_lend_0 : decode cX0_lend 0 = .ok (.aload_n 0, 1) := by decide +kernel
theorem dX0_lend_1 : decode cX0_lend 1 = .ok (.getfield 12, 3) := by decide +kernel
theorem dX0_lend_4 : decode cX0_lend 4 = .ok (.iload_n 2, 1) := by decide +kernel
theorem dX0_lend_5 : decode cX0_lend 5 = .ok (.invokevirtual 107, 3) := by decide +kernel
theorem dX0_lend_8 : decode cX0_lend 8 = .ok (.istore_n 3, 1) := by decide +kernel
theorem dX0_lend_9 : decode cX0_lend 9 = .ok (.aload_n 0, 1) := by decide +kernel
theorem dX0_lend_10 : decode cX0_lend 10 = .ok (.iload_n 1, 1) := by decide +kernel
theorem dX0_lend_11 : decode cX0_lend 11 = .ok (.iload_n 3, 1) := by decide +kernel
theorem dX0_lend_12 : decode cX0_lend 12 = .ok (.invokevirtual 110, 3) := by decide +kernel
theorem dX0_lend_15 : decode cX0_lend 15 = .ok (.iload_n 3, 1) := by decide +kernel
theorem dX0_lend_16 : decode cX0_lend 16 = .ok (.ireturn, 1) := by decide +kernel
theorem dX0_handOut_0 : decode cX0_handOut 0 = .ok (.aload_n 0, 1) := by decide +kernel
theorem dX0_handOut_1 : decode cX0_handOut 1 = .ok (.getfield 12, 3) := by decide +kernel
theorem dX0_handOut_4 : decode cX0_handOut 4 = .ok (.iload_n 2, 1) := by decide +kernel
theorem dX0_handOut_5 : decode cX0_handOut 5 = .ok (.bipush 8, 2) := by decide +kernel
theorem dX0_handOut_7 : decode cX0_handOut 7 = .ok (.iload_n 1, 1) := by decide +kernel
theorem dX0_handOut_8 : decode cX0_handOut 8 = .ok (.iadd, 1) := by decide +kernel
theorem dX0_handOut_9 : decode cX0_handOut 9 = .ok (.invokevirtual 113, 3) := by decide +kernel
theorem dX0_handOut_12 : decode cX0_handOut 12 = .ok (.aload_n 0, 1) := by decide +kernel
theorem dX0_handOut_13 : decode cX0_handOut 13 = .ok (.getfield 12, 3) := by decide +kernel
theorem dX0_handOut_16 : decode cX0_handOut 16 = .ok (.getfield 116, 3) := by decide +kernel
theorem dX0_handOut_19 : decode cX0_handOut 19 = .ok (.iload_n 2, 1) := by decide +kernel
theorem dX0_handOut_20 : decode cX0_handOut 20 = .ok (.iconst 1, 1) := by decide +kernel
theorem dX0_handOut_21 : decode cX0_handOut 21 = .ok (.invokevirtual 119, 3) := by decide +kernel
theorem dX0_handOut_24 : decode cX0_handOut 24 = .ok (.aload_n 0, 1) := by decide +kernel
theorem dX0_handOut_25 : decode cX0_handOut 25 = .ok (.getfield 27, 3) := by decide +kernel
theorem dX0_handOut_28 : decode cX0_handOut 28 = .ok (.iload_n 1, 1) := by decide +kernel
theorem dX0_handOut_29 : decode cX0_handOut 29 = .ok (.bipush (-10), 2) := by decide +kernel
theorem dX0_handOut_31 : decode cX0_handOut 31 = .ok (.invokevirtual 119, 3) := by decide +kernel
theorem dX0_handOut_34 : decode cX0_handOut 34 = .ok (.aload_n 0, 1) := by decide +kernel
theorem dX0_handOut_35 : decode cX0_handOut 35 = .ok (.dup, 1) := by decide +kernel
theorem dX0_handOut_36 : decode cX0_handOut 36 = .ok (.getfield 39, 3) := by decide +kernel
theorem dX0_handOut_39 : decode cX0_handOut 39 = .ok (.bipush 10, 2) := by decide +kernel
theorem dX0_handOut_41 : decode cX0_handOut 41 = .ok (.iadd, 1) := by decide +kernel
theorem dX0_handOut_42 : decode cX0_handOut 42 = .ok (.putfield 39, 3) := by decide +kernel
theorem dX0_handOut_45 : decode cX0_handOut 45 = .ok (.aload_n 0, 1) := by decide +kernel
theorem dX0_handOut_46 : decode cX0_handOut 46 = .ok (.dup, 1) := by decide +kernel
theorem dX0_handOut_47 : decode cX0_handOut 47 = .ok (.getfield 62, 3) := by decide +kernel
theorem dX0_handOut_50 : decode cX0_handOut 50 = .ok (.iconst 1, 1) := by decide +kernel
theorem dX0_handOut_51 : decode cX0_handOut 51 = .ok (.iadd, 1) := by decide +kernel
theorem dX0_handOut_52 : decode cX0_handOut 52 = .ok (.putfield 62, 3) := by decide +kernel
theorem dX0_handOut_55 : decode cX0_handOut 55 = .ok (.return_, 1) := by decide +kernel
theorem dX0_returningError_0 : decode cX0_returningError 0 = .ok (.iload_n 1, 1) := by decide +kernel
theorem dX0_returningError_1 : decode cX0_returningError 1 = .ok (.iconst 0, 1) := by decide +kernel
theorem dX0_returningError_2 : decode cX0_returningError 2 = .ok (.bipush 11, 2) := by decide +kernel
theorem dX0_returningError_4 : decode cX0_returningError 4 = .ok (.invokestatic 82, 3) := by decide +kernel
theorem dX0_returningError_7 : decode cX0_returningError 7 = .ok (.ifCond .ne 13, 3) := by decide +kernel
theorem dX0_returningError_10 : decode cX0_returningError 10 = .ok (.iload_n 2, 1) := by decide +kernel
theorem dX0_returningError_11 : decode cX0_returningError 11 = .ok (.iconst 0, 1) := by decide +kernel
theorem dX0_returningError_12 : decode cX0_returningError 12 = .ok (.bipush 7, 2) := by decide +kernel
theorem dX0_returningError_14 : decode cX0_returningError 14 = .ok (.invokestatic 82, 3) := by decide +kernel
theorem dX0_returningError_17 : decode cX0_returningError 17 = .ok (.ifCond .eq 5, 3) := by decide +kernel
theorem dX0_returningError_20 : decode cX0_returningError 20 = .ok (.iconst (-1), 1) := by decide +kernel
theorem dX0_returningError_21 : decode cX0_returningError 21 = .ok (.ireturn, 1) := by decide +kernel
theorem dX0_returningError_22 : decode cX0_returningError 22 = .ok (.aload_n 0, 1) := by decide +kernel
theorem dX0_returningError_23 : decode cX0_returningError 23 = .ok (.iload_n 1, 1) := by decide +kernel
theorem dX0_returningError_24 : decode cX0_returningError 24 = .ok (.invokevirtual 122, 3) := by decide +kernel
theorem dX0_returningError_27 : decode cX0_returningError 27 = .ok (.ifCond .ne 6, 3) := by decide +kernel
theorem dX0_returningError_30 : decode cX0_returningError 30 = .ok (.bipush (-2), 2) := by decide +kernel
theorem dX0_returningError_32 : decode cX0_returningError 32 = .ok (.ireturn, 1) := by decide +kernel
theorem dX0_returningError_33 : decode cX0_returningError 33 = .ok (.aload_n 0, 1) := by decide +kernel
theorem dX0_returningError_34 : decode cX0_returningError 34 = .ok (.iload_n 2, 1) := by decide +kernel
theorem dX0_returningError_35 : decode cX0_returningError 35 = .ok (.invokevirtual 93, 3) := by decide +kernel
theorem dX0_returningError_38 : decode cX0_returningError 38 = .ok (.ifCond .gt 8, 3) := by decide +kernel
theorem dX0_returningError_41 : decode cX0_returningError 41 = .ok (.bipush (-3), 2) := by decide +kernel
theorem dX0_returningError_43 : decode cX0_returningError 43 = .ok (.goto 4, 3) := by decide +kernel
theorem dX0_returningError_46 : decode cX0_returningError 46 = .ok (.iconst 0, 1) := by decide +kernel
theorem dX0_returningError_47 : decode cX0_returningError 47 = .ok (.ireturn, 1) := by decide +kernel
theorem dX0_takeBack_0 : decode cX0_takeBack 0 = .ok (.aload_n 0, 1) := by decide +kernel
theorem dX0_takeBack_1 : decode cX0_takeBack 1 = .ok (.iload_n 1, 1) := by decide +kernel
theorem dX0_takeBack_2 : decode cX0_takeBack 2 = .ok (.iconst 0, 1) := by decide +kernel
theorem dX0_takeBack_3 : decode cX0_takeBack 3 = .ok (.iconst 0, 1) := by decide +kernel
theorem dX0_takeBack_4 : decode cX0_takeBack 4 = .ok (.invokevirtual 125, 3) := by decide +kernel
theorem dX0_takeBack_7 : decode cX0_takeBack 7 = .ok (.istore_n 3, 1) := by decide +kernel
theorem dX0_takeBack_8 : decode cX0_takeBack 8 = .ok (.aload_n 0, 1) := by decide +kernel
theorem dX0_takeBack_9 : decode cX0_takeBack 9 = .ok (.getfield 12, 3) := by decide +kernel
theorem dX0_takeBack_12 : decode cX0_takeBack 12 = .ok (.aload_n 0, 1) := by decide +kernel
theorem dX0_takeBack_13 : decode cX0_takeBack 13 = .ok (.iload_n 1, 1) := by decide +kernel
theorem dX0_takeBack_14 : decode cX0_takeBack 14 = .ok (.invokevirtual 129, 3) := by decide +kernel
theorem dX0_takeBack_17 : decode cX0_takeBack 17 = .ok (.iload_n 2, 1) := by decide +kernel
theorem dX0_takeBack_18 : decode cX0_takeBack 18 = .ok (.invokevirtual 113, 3) := by decide +kernel
theorem dX0_takeBack_21 : decode cX0_takeBack 21 = .ok (.aload_n 0, 1) := by decide +kernel
theorem dX0_takeBack_22 : decode cX0_takeBack 22 = .ok (.getfield 27, 3) := by decide +kernel
theorem dX0_takeBack_25 : decode cX0_takeBack 25 = .ok (.iload_n 1, 1) := by decide +kernel
theorem dX0_takeBack_26 : decode cX0_takeBack 26 = .ok (.bipush 10, 2) := by decide +kernel
theorem dX0_takeBack_28 : decode cX0_takeBack 28 = .ok (.iload_n 3, 1) := by decide +kernel
theorem dX0_takeBack_29 : decode cX0_takeBack 29 = .ok (.isub, 1) := by decide +kernel
theorem dX0_takeBack_30 : decode cX0_takeBack 30 = .ok (.invokevirtual 119, 3) := by decide +kernel
theorem dX0_takeBack_33 : decode cX0_takeBack 33 = .ok (.aload_n 0, 1) := by decide +kernel
theorem dX0_takeBack_34 : decode cX0_takeBack 34 = .ok (.dup, 1) := by decide +kernel
theorem dX0_takeBack_35 : decode cX0_takeBack 35 = .ok (.getfield 39, 3) := by decide +kernel
theorem dX0_takeBack_38 : decode cX0_takeBack 38 = .ok (.bipush 10, 2) := by decide +kernel
theorem dX0_takeBack_40 : decode cX0_takeBack 40 = .ok (.iload_n 3, 1) := by decide +kernel
theorem dX0_takeBack_41 : decode cX0_takeBack 41 = .ok (.isub, 1) := by decide +kernel
theorem dX0_takeBack_42 : decode cX0_takeBack 42 = .ok (.isub, 1) := by decide +kernel
theorem dX0_takeBack_43 : decode cX0_takeBack 43 = .ok (.putfield 39, 3) := by decide +kernel
theorem dX0_takeBack_46 : decode cX0_takeBack 46 = .ok (.aload_n 0, 1) := by decide +kernel
theorem dX0_takeBack_47 : decode cX0_takeBack 47 = .ok (.getfield 36, 3) := by decide +kernel
theorem dX0_takeBack_50 : decode cX0_takeBack 50 = .ok (.iload_n 1, 1) := by decide +kernel
theorem dX0_takeBack_51 : decode cX0_takeBack 51 = .ok (.iload_n 3, 1) := by decide +kernel
theorem dX0_takeBack_52 : decode cX0_takeBack 52 = .ok (.invokevirtual 119, 3) := by decide +kernel
theorem dX0_takeBack_55 : decode cX0_takeBack 55 = .ok (.aload_n 0, 1) := by decide +kernel
theorem dX0_takeBack_56 : decode cX0_takeBack 56 = .ok (.getfield 30, 3) := by decide +kernel
theorem dX0_takeBack_59 : decode cX0_takeBack 59 = .ok (.iload_n 1, 1) := by decide +kernel
theorem dX0_takeBack_60 : decode cX0_takeBack 60 = .ok (.iconst 0, 1) := by decide +kernel
theorem dX0_takeBack_61 : decode cX0_takeBack 61 = .ok (.invokevirtual 46, 3) := by decide +kernel
theorem dX0_takeBack_64 : decode cX0_takeBack 64 = .ok (.aload_n 0, 1) := by decide +kernel
theorem dX0_takeBack_65 : decode cX0_takeBack 65 = .ok (.getfield 33, 3) := by decide +kernel
theorem dX0_takeBack_68 : decode cX0_takeBack 68 = .ok (.iload_n 1, 1) := by decide +kernel
theorem dX0_takeBack_69 : decode cX0_takeBack 69 = .ok (.iload_n 2, 1) := by decide +kernel
theorem dX0_takeBack_70 : decode cX0_takeBack 70 = .ok (.invokevirtual 46, 3) := by decide +kernel
theorem dX0_takeBack_73 : decode cX0_takeBack 73 = .ok (.iload_n 3, 1) := by decide +kernel
theorem dX0_takeBack_74 : decode cX0_takeBack 74 = .ok (.ireturn, 1) := by decide +kernel
theorem dX0_feeAfter_0 : decode cX0_feeAfter 0 = .ok (.aload_n 0, 1) := by decide +kernel
theorem dX0_feeAfter_1 : decode cX0_feeAfter 1 = .ok (.getfield 12, 3) := by decide +kernel
theorem dX0_feeAfter_4 : decode cX0_feeAfter 4 = .ok (.getfield 132, 3) := by decide +kernel
theorem dX0_feeAfter_7 : decode cX0_feeAfter 7 = .ok (.aload_n 0, 1) := by decide +kernel
theorem dX0_feeAfter_8 : decode cX0_feeAfter 8 = .ok (.iload_n 1, 1) := by decide +kernel
theorem dX0_feeAfter_9 : decode cX0_feeAfter 9 = .ok (.invokevirtual 129, 3) := by decide +kernel
theorem dX0_feeAfter_12 : decode cX0_feeAfter 12 = .ok (.invokevirtual 72, 3) := by decide +kernel
theorem dX0_feeAfter_15 : decode cX0_feeAfter 15 = .ok (.istore 4, 2) := by decide +kernel
theorem dX0_feeAfter_17 : decode cX0_feeAfter 17 = .ok (.iconst 0, 1) := by decide +kernel
theorem dX0_feeAfter_18 : decode cX0_feeAfter 18 = .ok (.istore 5, 2) := by decide +kernel
theorem dX0_feeAfter_20 : decode cX0_feeAfter 20 = .ok (.iload 5, 2) := by decide +kernel
theorem dX0_feeAfter_22 : decode cX0_feeAfter 22 = .ok (.iload_n 2, 1) := by decide +kernel
theorem dX0_feeAfter_23 : decode cX0_feeAfter 23 = .ok (.if_icmp .ge 18, 3) := by decide +kernel
theorem dX0_feeAfter_26 : decode cX0_feeAfter 26 = .ok (.iload 4, 2) := by decide +kernel
theorem dX0_feeAfter_28 : decode cX0_feeAfter 28 = .ok (.iload_n 3, 1) := by decide +kernel
theorem dX0_feeAfter_29 : decode cX0_feeAfter 29 = .ok (.iconst 0, 1) := by decide +kernel
theorem dX0_feeAfter_30 : decode cX0_feeAfter 30 = .ok (.invokestatic 135, 3) := by decide +kernel
theorem dX0_feeAfter_33 : decode cX0_feeAfter 33 = .ok (.istore 4, 2) := by decide +kernel
theorem dX0_feeAfter_35 : decode cX0_feeAfter 35 = .ok (.iinc 5 1, 3) := by decide +kernel
theorem dX0_feeAfter_38 : decode cX0_feeAfter 38 = .ok (.goto (-18), 3) := by decide +kernel
theorem dX0_feeAfter_41 : decode cX0_feeAfter 41 = .ok (.aload_n 0, 1) := by decide +kernel
theorem dX0_feeAfter_42 : decode cX0_feeAfter 42 = .ok (.getfield 30, 3) := by decide +kernel
theorem dX0_feeAfter_45 : decode cX0_feeAfter 45 = .ok (.iload_n 1, 1) := by decide +kernel
theorem dX0_feeAfter_46 : decode cX0_feeAfter 46 = .ok (.invokevirtual 72, 3) := by decide +kernel
theorem dX0_feeAfter_49 : decode cX0_feeAfter 49 = .ok (.iload_n 3, 1) := by decide +kernel
theorem dX0_feeAfter_50 : decode cX0_feeAfter 50 = .ok (.iconst 2, 1) := by decide +kernel
theorem dX0_feeAfter_51 : decode cX0_feeAfter 51 = .ok (.if_icmp .lt 7, 3) := by decide +kernel
theorem dX0_feeAfter_54 : decode cX0_feeAfter 54 = .ok (.iload_n 2, 1) := by decide +kernel
theorem dX0_feeAfter_55 : decode cX0_feeAfter 55 = .ok (.goto 4, 3) := by decide +kernel
theorem dX0_feeAfter_58 : decode cX0_feeAfter 58 = .ok (.iconst 0, 1) := by decide +kernel
theorem dX0_feeAfter_59 : decode cX0_feeAfter 59 = .ok (.iadd, 1) := by decide +kernel
theorem dX0_feeAfter_60 : decode cX0_feeAfter 60 = .ok (.istore 5, 2) := by decide +kernel
theorem dX0_feeAfter_62 : decode cX0_feeAfter 62 = .ok (.aload_n 0, 1) := by decide +kernel
theorem dX0_feeAfter_63 : decode cX0_feeAfter 63 = .ok (.getfield 43, 3) := by decide +kernel
theorem dX0_feeAfter_66 : decode cX0_feeAfter 66 = .ok (.iload 5, 2) := by decide +kernel
theorem dX0_feeAfter_68 : decode cX0_feeAfter 68 = .ok (.imul, 1) := by decide +kernel
theorem dX0_feeAfter_69 : decode cX0_feeAfter 69 = .ok (.iload 4, 2) := by decide +kernel
theorem dX0_feeAfter_71 : decode cX0_feeAfter 71 = .ok (.bipush 32, 2) := by decide +kernel
theorem dX0_feeAfter_73 : decode cX0_feeAfter 73 = .ok (.if_icmp .lt 7, 3) := by decide +kernel
theorem dX0_feeAfter_76 : decode cX0_feeAfter 76 = .ok (.iconst 4, 1) := by decide +kernel
theorem dX0_feeAfter_77 : decode cX0_feeAfter 77 = .ok (.goto 4, 3) := by decide +kernel
theorem dX0_feeAfter_80 : decode cX0_feeAfter 80 = .ok (.iconst 0, 1) := by decide +kernel
theorem dX0_feeAfter_81 : decode cX0_feeAfter 81 = .ok (.iadd, 1) := by decide +kernel
theorem dX0_feeAfter_82 : decode cX0_feeAfter 82 = .ok (.istore 6, 2) := by decide +kernel
theorem dX0_feeAfter_84 : decode cX0_feeAfter 84 = .ok (.bipush 10, 2) := by decide +kernel
theorem dX0_feeAfter_86 : decode cX0_feeAfter 86 = .ok (.iload 6, 2) := by decide +kernel
theorem dX0_feeAfter_88 : decode cX0_feeAfter 88 = .ok (.invokestatic 138, 3) := by decide +kernel
theorem dX0_feeAfter_91 : decode cX0_feeAfter 91 = .ok (.ireturn, 1) := by decide +kernel
theorem dX0_hoursToBreak_0 : decode cX0_hoursToBreak 0 = .ok (.aload_n 0, 1) := by decide +kernel
theorem dX0_hoursToBreak_1 : decode cX0_hoursToBreak 1 = .ok (.getfield 12, 3) := by decide +kernel
theorem dX0_hoursToBreak_4 : decode cX0_hoursToBreak 4 = .ok (.getfield 132, 3) := by decide +kernel
theorem dX0_hoursToBreak_7 : decode cX0_hoursToBreak 7 = .ok (.aload_n 0, 1) := by decide +kernel
theorem dX0_hoursToBreak_8 : decode cX0_hoursToBreak 8 = .ok (.iload_n 1, 1) := by decide +kernel
theorem dX0_hoursToBreak_9 : decode cX0_hoursToBreak 9 = .ok (.invokevirtual 129, 3) := by decide +kernel
theorem dX0_hoursToBreak_12 : decode cX0_hoursToBreak 12 = .ok (.invokevirtual 72, 3) := by decide +kernel
theorem dX0_hoursToBreak_15 : decode cX0_hoursToBreak 15 = .ok (.istore 4, 2) := by decide +kernel
theorem dX0_hoursToBreak_17 : decode cX0_hoursToBreak 17 = .ok (.iconst 0, 1) := by decide +kernel
theorem dX0_hoursToBreak_18 : decode cX0_hoursToBreak 18 = .ok (.istore 5, 2) := by decide +kernel
theorem dX0_hoursToBreak_20 : decode cX0_hoursToBreak 20 = .ok (.iload 5, 2) := by decide +kernel
theorem dX0_hoursToBreak_22 : decode cX0_hoursToBreak 22 = .ok (.bipush 100, 2) := by decide +kernel
theorem dX0_hoursToBreak_24 : decode cX0_hoursToBreak 24 = .ok (.if_icmp .gt 28, 3) := by decide +kernel
theorem dX0_hoursToBreak_27 : decode cX0_hoursToBreak 27 = .ok (.iload 4, 2) := by decide +kernel
theorem dX0_hoursToBreak_29 : decode cX0_hoursToBreak 29 = .ok (.bipush 32, 2) := by decide +kernel
theorem dX0_hoursToBreak_31 : decode cX0_hoursToBreak 31 = .ok (.if_icmp .lt 6, 3) := by decide +kernel
theorem dX0_hoursToBreak_34 : decode cX0_hoursToBreak 34 = .ok (.iload 5, 2) := by decide +kernel
theorem dX0_hoursToBreak_36 : decode cX0_hoursToBreak 36 = .ok (.ireturn, 1) := by decide +kernel
theorem dX0_hoursToBreak_37 : decode cX0_hoursToBreak 37 = .ok (.iload 4, 2) := by decide +kernel
theorem dX0_hoursToBreak_39 : decode cX0_hoursToBreak 39 = .ok (.iload_n 2, 1) := by decide +kernel
theorem dX0_hoursToBreak_40 : decode cX0_hoursToBreak 40 = .ok (.iload_n 3, 1) := by decide +kernel
theorem dX0_hoursToBreak_41 : decode cX0_hoursToBreak 41 = .ok (.invokestatic 135, 3) := by decide +kernel
theorem dX0_hoursToBreak_44 : decode cX0_hoursToBreak 44 = .ok (.istore 4, 2) := by decide +kernel
theorem dX0_hoursToBreak_46 : decode cX0_hoursToBreak 46 = .ok (.iinc 5 1, 3) := by decide +kernel
theorem dX0_hoursToBreak_49 : decode cX0_hoursToBreak 49 = .ok (.goto (-29), 3) := by decide +kernel
theorem dX0_hoursToBreak_52 : decode cX0_hoursToBreak 52 = .ok (.bipush (-9), 2) := by decide +kernel
theorem dX0_hoursToBreak_54 : decode cX0_hoursToBreak 54 = .ok (.ireturn, 1) := by decide +kernel
theorem dX0_passingError_0 : decode cX0_passingError 0 = .ok (.iload_n 1, 1) := by decide +kernel
theorem dX0_passingError_1 : decode cX0_passingError 1 = .ok (.iconst 0, 1) := by decide +kernel
theorem dX0_passingError_2 : decode cX0_passingError 2 = .ok (.bipush 9, 2) := by decide +kernel
theorem dX0_passingError_4 : decode cX0_passingError 4 = .ok (.invokestatic 82, 3) := by decide +kernel
theorem dX0_passingError_7 : decode cX0_passingError 7 = .ok (.ifCond .ne 12, 3) := by decide +kernel
theorem dX0_passingError_10 : decode cX0_passingError 10 = .ok (.iload_n 2, 1) := by decide +kernel
theorem dX0_passingError_11 : decode cX0_passingError 11 = .ok (.iconst 0, 1) := by decide +kernel
theorem dX0_passingError_12 : decode cX0_passingError 12 = .ok (.iconst 3, 1) := by decide +kernel
theorem dX0_passingError_13 : decode cX0_passingError 13 = .ok (.invokestatic 82, 3) := by decide +kernel
theorem dX0_passingError_16 : decode cX0_passingError 16 = .ok (.ifCond .eq 5, 3) := by decide +kernel
theorem dX0_passingError_19 : decode cX0_passingError 19 = .ok (.iconst (-1), 1) := by decide +kernel
theorem dX0_passingError_20 : decode cX0_passingError 20 = .ok (.ireturn, 1) := by decide +kernel
theorem dX0_passingError_21 : decode cX0_passingError 21 = .ok (.aload_n 0, 1) := by decide +kernel
theorem dX0_passingError_22 : decode cX0_passingError 22 = .ok (.getfield 56, 3) := by decide +kernel
theorem dX0_passingError_25 : decode cX0_passingError 25 = .ok (.sipush 500, 3) := by decide +kernel
theorem dX0_passingError_28 : decode cX0_passingError 28 = .ok (.if_icmp .lt 8, 3) := by decide +kernel
theorem dX0_passingError_31 : decode cX0_passingError 31 = .ok (.bipush (-3), 2) := by decide +kernel
theorem dX0_passingError_33 : decode cX0_passingError 33 = .ok (.goto 4, 3) := by decide +kernel
theorem dX0_passingError_36 : decode cX0_passingError 36 = .ok (.iconst 0, 1) := by decide +kernel
theorem dX0_passingError_37 : decode cX0_passingError 37 = .ok (.ireturn, 1) := by decide +kernel
theorem dX0_passHour_0 : decode cX0_passHour 0 = .ok (.aload_n 0, 1) := by decide +kernel
theorem dX0_passHour_1 : decode cX0_passHour 1 = .ok (.dup, 1) := by decide +kernel
theorem dX0_passHour_2 : decode cX0_passHour 2 = .ok (.getfield 56, 3) := by decide +kernel
theorem dX0_passHour_5 : decode cX0_passHour 5 = .ok (.iconst 1, 1) := by decide +kernel
theorem dX0_passHour_6 : decode cX0_passHour 6 = .ok (.iadd, 1) := by decide +kernel
theorem dX0_passHour_7 : decode cX0_passHour 7 = .ok (.putfield 56, 3) := by decide +kernel
theorem dX0_passHour_10 : decode cX0_passHour 10 = .ok (.iload_n 1, 1) := by decide +kernel
theorem dX0_passHour_11 : decode cX0_passHour 11 = .ok (.iconst 2, 1) := by decide +kernel
theorem dX0_passHour_12 : decode cX0_passHour 12 = .ok (.if_icmp .lt 7, 3) := by decide +kernel
theorem dX0_passHour_15 : decode cX0_passHour 15 = .ok (.aload_n 0, 1) := by decide +kernel
theorem dX0_passHour_16 : decode cX0_passHour 16 = .ok (.invokevirtual 143, 3) := by decide +kernel
theorem dX0_passHour_19 : decode cX0_passHour 19 = .ok (.aload_n 0, 1) := by decide +kernel
theorem dX0_passHour_20 : decode cX0_passHour 20 = .ok (.iload_n 1, 1) := by decide +kernel
theorem dX0_passHour_21 : decode cX0_passHour 21 = .ok (.iload_n 2, 1) := by decide +kernel
theorem dX0_passHour_22 : decode cX0_passHour 22 = .ok (.invokevirtual 146, 3) := by decide +kernel
theorem dX0_passHour_25 : decode cX0_passHour 25 = .ok (.istore_n 3, 1) := by decide +kernel
theorem dX0_passHour_26 : decode cX0_passHour 26 = .ok (.iload_n 1, 1) := by decide +kernel
theorem dX0_passHour_27 : decode cX0_passHour 27 = .ok (.iconst 5, 1) := by decide +kernel
theorem dX0_passHour_28 : decode cX0_passHour 28 = .ok (.if_icmp .lt 7, 3) := by decide +kernel
theorem dX0_passHour_31 : decode cX0_passHour 31 = .ok (.aload_n 0, 1) := by decide +kernel
theorem dX0_passHour_32 : decode cX0_passHour 32 = .ok (.invokevirtual 149, 3) := by decide +kernel
theorem dX0_passHour_35 : decode cX0_passHour 35 = .ok (.iload_n 3, 1) := by decide +kernel
theorem dX0_passHour_36 : decode cX0_passHour 36 = .ok (.ireturn, 1) := by decide +kernel
theorem dX0_countShower_0 : decode cX0_countShower 0 = .ok (.iconst 0, 1) := by decide +kernel
theorem dX0_countShower_1 : decode cX0_countShower 1 = .ok (.istore_n 1, 1) := by decide +kernel
theorem dX0_countShower_2 : decode cX0_countShower 2 = .ok (.iload_n 1, 1) := by decide +kernel
theorem dX0_countShower_3 : decode cX0_countShower 3 = .ok (.bipush 12, 2) := by decide +kernel
theorem dX0_countShower_5 : decode cX0_countShower 5 = .ok (.if_icmp .ge 26, 3) := by decide +kernel
theorem dX0_countShower_8 : decode cX0_countShower 8 = .ok (.aload_n 0, 1) := by decide +kernel
theorem dX0_countShower_9 : decode cX0_countShower 9 = .ok (.iload_n 1, 1) := by decide +kernel
theorem dX0_countShower_10 : decode cX0_countShower 10 = .ok (.invokevirtual 122, 3) := by decide +kernel
theorem dX0_countShower_13 : decode cX0_countShower 13 = .ok (.ifCond .eq 12, 3) := by decide +kernel
theorem dX0_countShower_16 : decode cX0_countShower 16 = .ok (.aload_n 0, 1) := by decide +kernel
theorem dX0_countShower_17 : decode cX0_countShower 17 = .ok (.getfield 30, 3) := by decide +kernel
theorem dX0_countShower_20 : decode cX0_countShower 20 = .ok (.iload_n 1, 1) := by decide +kernel
theorem dX0_countShower_21 : decode cX0_countShower 21 = .ok (.iconst 1, 1) := by decide +kernel
theorem dX0_countShower_22 : decode cX0_countShower 22 = .ok (.invokevirtual 119, 3) := by decide +kernel
theorem dX0_countShower_25 : decode cX0_countShower 25 = .ok (.iinc 1 1, 3) := by decide +kernel
theorem dX0_countShower_28 : decode cX0_countShower 28 = .ok (.goto (-26), 3) := by decide +kernel
theorem dX0_countShower_31 : decode cX0_countShower 31 = .ok (.return_, 1) := by decide +kernel
theorem dX0_wearDown_0 : decode cX0_wearDown 0 = .ok (.iconst 0, 1) := by decide +kernel
theorem dX0_wearDown_1 : decode cX0_wearDown 1 = .ok (.istore_n 3, 1) := by decide +kernel
theorem dX0_wearDown_2 : decode cX0_wearDown 2 = .ok (.iconst 0, 1) := by decide +kernel
theorem dX0_wearDown_3 : decode cX0_wearDown 3 = .ok (.istore 4, 2) := by decide +kernel
theorem dX0_wearDown_5 : decode cX0_wearDown 5 = .ok (.iload 4, 2) := by decide +kernel
theorem dX0_wearDown_7 : decode cX0_wearDown 7 = .ok (.aload_n 0, 1) := by decide +kernel
theorem dX0_wearDown_8 : decode cX0_wearDown 8 = .ok (.getfield 12, 3) := by decide +kernel
theorem dX0_wearDown_11 : decode cX0_wearDown 11 = .ok (.getfield 90, 3) := by decide +kernel
theorem dX0_wearDown_14 : decode cX0_wearDown 14 = .ok (.if_icmp .ge 82, 3) := by decide +kernel
theorem dX0_wearDown_17 : decode cX0_wearDown 17 = .ok (.aload_n 0, 1) := by decide +kernel
theorem dX0_wearDown_18 : decode cX0_wearDown 18 = .ok (.getfield 12, 3) := by decide +kernel
theorem dX0_wearDown_21 : decode cX0_wearDown 21 = .ok (.getfield 152, 3) := by decide +kernel
theorem dX0_wearDown_24 : decode cX0_wearDown 24 = .ok (.iload 4, 2) := by decide +kernel
theorem dX0_wearDown_26 : decode cX0_wearDown 26 = .ok (.invokevirtual 72, 3) := by decide +kernel
theorem dX0_wearDown_29 : decode cX0_wearDown 29 = .ok (.invokestatic 155, 3) := by decide +kernel
theorem dX0_wearDown_32 : decode cX0_wearDown 32 = .ok (.iconst 1, 1) := by decide +kernel
theorem dX0_wearDown_33 : decode cX0_wearDown 33 = .ok (.if_icmp .ne 57, 3) := by decide +kernel
theorem dX0_wearDown_36 : decode cX0_wearDown 36 = .ok (.aload_n 0, 1) := by decide +kernel
theorem dX0_wearDown_37 : decode cX0_wearDown 37 = .ok (.getfield 12, 3) := by decide +kernel
theorem dX0_wearDown_40 : decode cX0_wearDown 40 = .ok (.getfield 132, 3) := by decide +kernel
theorem dX0_wearDown_43 : decode cX0_wearDown 43 = .ok (.iload 4, 2) := by decide +kernel
theorem dX0_wearDown_45 : decode cX0_wearDown 45 = .ok (.invokevirtual 72, 3) := by decide +kernel
theorem dX0_wearDown_48 : decode cX0_wearDown 48 = .ok (.istore 5, 2) := by decide +kernel
theorem dX0_wearDown_50 : decode cX0_wearDown 50 = .ok (.iload 5, 2) := by decide +kernel
theorem dX0_wearDown_52 : decode cX0_wearDown 52 = .ok (.iload_n 1, 1) := by decide +kernel
theorem dX0_wearDown_53 : decode cX0_wearDown 53 = .ok (.iload_n 2, 1) := by decide +kernel
theorem dX0_wearDown_54 : decode cX0_wearDown 54 = .ok (.invokestatic 135, 3) := by decide +kernel
theorem dX0_wearDown_57 : decode cX0_wearDown 57 = .ok (.istore 6, 2) := by decide +kernel
theorem dX0_wearDown_59 : decode cX0_wearDown 59 = .ok (.aload_n 0, 1) := by decide +kernel
theorem dX0_wearDown_60 : decode cX0_wearDown 60 = .ok (.getfield 12, 3) := by decide +kernel
theorem dX0_wearDown_63 : decode cX0_wearDown 63 = .ok (.getfield 132, 3) := by decide +kernel
theorem dX0_wearDown_66 : decode cX0_wearDown 66 = .ok (.iload 4, 2) := by decide +kernel
theorem dX0_wearDown_68 : decode cX0_wearDown 68 = .ok (.iload 6, 2) := by decide +kernel
theorem dX0_wearDown_70 : decode cX0_wearDown 70 = .ok (.invokevirtual 46, 3) := by decide +kernel
theorem dX0_wearDown_73 : decode cX0_wearDown 73 = .ok (.iload 5, 2) := by decide +kernel
theorem dX0_wearDown_75 : decode cX0_wearDown 75 = .ok (.bipush 32, 2) := by decide +kernel
theorem dX0_wearDown_77 : decode cX0_wearDown 77 = .ok (.if_icmp .ge 13, 3) := by decide +kernel
theorem dX0_wearDown_80 : decode cX0_wearDown 80 = .ok (.iload 6, 2) := by decide +kernel
theorem dX0_wearDown_82 : decode cX0_wearDown 82 = .ok (.bipush 32, 2) := by decide +kernel
theorem dX0_wearDown_84 : decode cX0_wearDown 84 = .ok (.if_icmp .lt 6, 3) := by decide +kernel
theorem dX0_wearDown_87 : decode cX0_wearDown 87 = .ok (.iinc 3 1, 3) := by decide +kernel
theorem dX0_wearDown_90 : decode cX0_wearDown 90 = .ok (.iinc 4 1, 3) := by decide +kernel
theorem dX0_wearDown_93 : decode cX0_wearDown 93 = .ok (.goto (-88), 3) := by decide +kernel
theorem dX0_wearDown_96 : decode cX0_wearDown 96 = .ok (.iload_n 3, 1) := by decide +kernel
theorem dX0_wearDown_97 : decode cX0_wearDown 97 = .ok (.ireturn, 1) := by decide +kernel
theorem dX0_surge_0 : decode cX0_surge 0 = .ok (.aload_n 0, 1) := by decide +kernel
theorem dX0_surge_1 : decode cX0_surge 1 = .ok (.dup, 1) := by decide +kernel
theorem dX0_surge_2 : decode cX0_surge 2 = .ok (.getfield 65, 3) := by decide +kernel
theorem dX0_surge_5 : decode cX0_surge 5 = .ok (.iconst 1, 1) := by decide +kernel
theorem dX0_surge_6 : decode cX0_surge 6 = .ok (.iadd, 1) := by decide +kernel
theorem dX0_surge_7 : decode cX0_surge 7 = .ok (.putfield 65, 3) := by decide +kernel
theorem dX0_surge_10 : decode cX0_surge 10 = .ok (.iconst 0, 1) := by decide +kernel
theorem dX0_surge_11 : decode cX0_surge 11 = .ok (.istore_n 1, 1) := by decide +kernel
theorem dX0_surge_12 : decode cX0_surge 12 = .ok (.iload_n 1, 1) := by decide +kernel
theorem dX0_surge_13 : decode cX0_surge 13 = .ok (.bipush 12, 2) := by decide +kernel
theorem dX0_surge_15 : decode cX0_surge 15 = .ok (.if_icmp .ge 45, 3) := by decide +kernel
theorem dX0_surge_18 : decode cX0_surge 18 = .ok (.aload_n 0, 1) := by decide +kernel
theorem dX0_surge_19 : decode cX0_surge 19 = .ok (.getfield 12, 3) := by decide +kernel
theorem dX0_surge_22 : decode cX0_surge 22 = .ok (.aload_n 0, 1) := by decide +kernel
theorem dX0_surge_23 : decode cX0_surge 23 = .ok (.getfield 33, 3) := by decide +kernel
theorem dX0_surge_26 : decode cX0_surge 26 = .ok (.iload_n 1, 1) := by decide +kernel
theorem dX0_surge_27 : decode cX0_surge 27 = .ok (.invokevirtual 72, 3) := by decide +kernel
theorem dX0_surge_30 : decode cX0_surge 30 = .ok (.invokevirtual 107, 3) := by decide +kernel
theorem dX0_surge_33 : decode cX0_surge 33 = .ok (.istore_n 2, 1) := by decide +kernel
theorem dX0_surge_34 : decode cX0_surge 34 = .ok (.iload_n 2, 1) := by decide +kernel
theorem dX0_surge_35 : decode cX0_surge 35 = .ok (.bipush (-9), 2) := by decide +kernel
theorem dX0_surge_37 : decode cX0_surge 37 = .ok (.if_icmp .eq 17, 3) := by decide +kernel
theorem dX0_surge_40 : decode cX0_surge 40 = .ok (.aload_n 0, 1) := by decide +kernel
theorem dX0_surge_41 : decode cX0_surge 41 = .ok (.iload_n 1, 1) := by decide +kernel
theorem dX0_surge_42 : decode cX0_surge 42 = .ok (.invokevirtual 103, 3) := by decide +kernel
theorem dX0_surge_45 : decode cX0_surge 45 = .ok (.ifCond .eq 9, 3) := by decide +kernel
theorem dX0_surge_48 : decode cX0_surge 48 = .ok (.aload_n 0, 1) := by decide +kernel
theorem dX0_surge_49 : decode cX0_surge 49 = .ok (.iload_n 1, 1) := by decide +kernel
theorem dX0_surge_50 : decode cX0_surge 50 = .ok (.iload_n 2, 1) := by decide +kernel
theorem dX0_surge_51 : decode cX0_surge 51 = .ok (.invokevirtual 110, 3) := by decide +kernel
theorem dX0_surge_54 : decode cX0_surge 54 = .ok (.iinc 1 1, 3) := by decide +kernel
theorem dX0_surge_57 : decode cX0_surge 57 = .ok (.goto (-45), 3) := by decide +kernel
theorem dX0_surge_60 : decode cX0_surge 60 = .ok (.return_, 1) := by decide +kernel
theorem dX0_lackAt_0 : decode cX0_lackAt 0 = .ok (.iconst 0, 1) := by decide +kernel
theorem dX0_lackAt_1 : decode cX0_lackAt 1 = .ok (.istore_n 2, 1) := by decide +kernel
theorem dX0_lackAt_2 : decode cX0_lackAt 2 = .ok (.iconst 0, 1) := by decide +kernel
theorem dX0_lackAt_3 : decode cX0_lackAt 3 = .ok (.istore_n 3, 1) := by decide +kernel
theorem dX0_lackAt_4 : decode cX0_lackAt 4 = .ok (.iload_n 3, 1) := by decide +kernel
theorem dX0_lackAt_5 : decode cX0_lackAt 5 = .ok (.bipush 12, 2) := by decide +kernel
theorem dX0_lackAt_7 : decode cX0_lackAt 7 = .ok (.if_icmp .ge 32, 3) := by decide +kernel
theorem dX0_lackAt_10 : decode cX0_lackAt 10 = .ok (.aload_n 0, 1) := by decide +kernel
theorem dX0_lackAt_11 : decode cX0_lackAt 11 = .ok (.getfield 33, 3) := by decide +kernel
theorem dX0_lackAt_14 : decode cX0_lackAt 14 = .ok (.iload_n 3, 1) := by decide +kernel
theorem dX0_lackAt_15 : decode cX0_lackAt 15 = .ok (.invokevirtual 72, 3) := by decide +kernel
theorem dX0_lackAt_18 : decode cX0_lackAt 18 = .ok (.iload_n 1, 1) := by decide +kernel
theorem dX0_lackAt_19 : decode cX0_lackAt 19 = .ok (.if_icmp .ne 14, 3) := by decide +kernel
theorem dX0_lackAt_22 : decode cX0_lackAt 22 = .ok (.aload_n 0, 1) := by decide +kernel
theorem dX0_lackAt_23 : decode cX0_lackAt 23 = .ok (.iload_n 3, 1) := by decide +kernel
theorem dX0_lackAt_24 : decode cX0_lackAt 24 = .ok (.invokevirtual 103, 3) := by decide +kernel
theorem dX0_lackAt_27 : decode cX0_lackAt 27 = .ok (.ifCond .eq 6, 3) := by decide +kernel
theorem dX0_lackAt_30 : decode cX0_lackAt 30 = .ok (.iinc 2 1, 3) := by decide +kernel
theorem dX0_lackAt_33 : decode cX0_lackAt 33 = .ok (.iinc 3 1, 3) := by decide +kernel
theorem dX0_lackAt_36 : decode cX0_lackAt 36 = .ok (.goto (-32), 3) := by decide +kernel
theorem dX0_lackAt_39 : decode cX0_lackAt 39 = .ok (.iload_n 2, 1) := by decide +kernel
theorem dX0_lackAt_40 : decode cX0_lackAt 40 = .ok (.aload_n 0, 1) := by decide +kernel
theorem dX0_lackAt_41 : decode cX0_lackAt 41 = .ok (.getfield 12, 3) := by decide +kernel
theorem dX0_lackAt_44 : decode cX0_lackAt 44 = .ok (.iload_n 1, 1) := by decide +kernel
theorem dX0_lackAt_45 : decode cX0_lackAt 45 = .ok (.invokevirtual 158, 3) := by decide +kernel
theorem dX0_lackAt_48 : decode cX0_lackAt 48 = .ok (.isub, 1) := by decide +kernel
theorem dX0_lackAt_49 : decode cX0_lackAt 49 = .ok (.ireturn, 1) := by decide +kernel
theorem dX0_loadingError_0 : decode cX0_loadingError 0 = .ok (.iload_n 1, 1) := by decide +kernel
theorem dX0_loadingError_1 : decode cX0_loadingError 1 = .ok (.iconst 0, 1) := by decide +kernel
theorem dX0_loadingError_2 : decode cX0_loadingError 2 = .ok (.iconst 1, 1) := by decide +kernel
theorem dX0_loadingError_3 : decode cX0_loadingError 3 = .ok (.invokestatic 82, 3) := by decide +kernel
theorem dX0_loadingError_6 : decode cX0_loadingError 6 = .ok (.ifCond .ne 23, 3) := by decide +kernel
theorem dX0_loadingError_9 : decode cX0_loadingError 9 = .ok (.iload_n 2, 1) := by decide +kernel
theorem dX0_loadingError_10 : decode cX0_loadingError 10 = .ok (.iconst 0, 1) := by decide +kernel
theorem dX0_loadingError_11 : decode cX0_loadingError 11 = .ok (.bipush 7, 2) := by decide +kernel
theorem dX0_loadingError_13 : decode cX0_loadingError 13 = .ok (.invokestatic 82, 3) := by decide +kernel
theorem dX0_loadingError_16 : decode cX0_loadingError 16 = .ok (.ifCond .ne 13, 3) := by decide +kernel
theorem dX0_loadingError_19 : decode cX0_loadingError 19 = .ok (.iload_n 3, 1) := by decide +kernel
theorem dX0_loadingError_20 : decode cX0_loadingError 20 = .ok (.iconst 1, 1) := by decide +kernel
theorem dX0_loadingError_21 : decode cX0_loadingError 21 = .ok (.bipush 10, 2) := by decide +kernel
theorem dX0_loadingError_23 : decode cX0_loadingError 23 = .ok (.invokestatic 82, 3) := by decide +kernel
theorem dX0_loadingError_26 : decode cX0_loadingError 26 = .ok (.ifCond .eq 5, 3) := by decide +kernel
theorem dX0_loadingError_29 : decode cX0_loadingError 29 = .ok (.iconst (-1), 1) := by decide +kernel
theorem dX0_loadingError_30 : decode cX0_loadingError 30 = .ok (.ireturn, 1) := by decide +kernel
theorem dX0_loadingError_31 : decode cX0_loadingError 31 = .ok (.aload_n 0, 1) := by decide +kernel
theorem dX0_loadingError_32 : decode cX0_loadingError 32 = .ok (.getfield 12, 3) := by decide +kernel
theorem dX0_loadingError_35 : decode cX0_loadingError 35 = .ok (.iload_n 2, 1) := by decide +kernel
theorem dX0_loadingError_36 : decode cX0_loadingError 36 = .ok (.invokevirtual 75, 3) := by decide +kernel
theorem dX0_loadingError_39 : decode cX0_loadingError 39 = .ok (.iload_n 3, 1) := by decide +kernel
theorem dX0_loadingError_40 : decode cX0_loadingError 40 = .ok (.if_icmp .ge 6, 3) := by decide +kernel
theorem dX0_loadingError_43 : decode cX0_loadingError 43 = .ok (.bipush (-2), 2) := by decide +kernel
theorem dX0_loadingError_45 : decode cX0_loadingError 45 = .ok (.ireturn, 1) := by decide +kernel
theorem dX0_loadingError_46 : decode cX0_loadingError 46 = .ok (.aload_n 0, 1) := by decide +kernel
theorem dX0_loadingError_47 : decode cX0_loadingError 47 = .ok (.getfield 12, 3) := by decide +kernel
theorem dX0_loadingError_50 : decode cX0_loadingError 50 = .ok (.bipush 20, 2) := by decide +kernel
theorem dX0_loadingError_52 : decode cX0_loadingError 52 = .ok (.iload_n 1, 1) := by decide +kernel
theorem dX0_loadingError_53 : decode cX0_loadingError 53 = .ok (.iadd, 1) := by decide +kernel
theorem dX0_loadingError_54 : decode cX0_loadingError 54 = .ok (.invokevirtual 75, 3) := by decide +kernel
theorem dX0_loadingError_57 : decode cX0_loadingError 57 = .ok (.iload_n 3, 1) := by decide +kernel
theorem dX0_loadingError_58 : decode cX0_loadingError 58 = .ok (.iadd, 1) := by decide +kernel
theorem dX0_loadingError_59 : decode cX0_loadingError 59 = .ok (.bipush 10, 2) := by decide +kernel
theorem dX0_loadingError_61 : decode cX0_loadingError 61 = .ok (.if_icmp .gt 7, 3) := by decide +kernel
theorem dX0_loadingError_64 : decode cX0_loadingError 64 = .ok (.iconst 1, 1) := by decide +kernel
theorem dX0_loadingError_65 : decode cX0_loadingError 65 = .ok (.goto 4, 3) := by decide +kernel
theorem dX0_loadingError_68 : decode cX0_loadingError 68 = .ok (.iconst 0, 1) := by decide +kernel
theorem dX0_loadingError_69 : decode cX0_loadingError 69 = .ok (.istore 4, 2) := by decide +kernel
theorem dX0_loadingError_71 : decode cX0_loadingError 71 = .ok (.iload 4, 2) := by decide +kernel
theorem dX0_loadingError_73 : decode cX0_loadingError 73 = .ok (.ifCond .eq 7, 3) := by decide +kernel
theorem dX0_loadingError_76 : decode cX0_loadingError 76 = .ok (.iconst 0, 1) := by decide +kernel
theorem dX0_loadingError_77 : decode cX0_loadingError 77 = .ok (.goto 5, 3) := by decide +kernel
theorem dX0_loadingError_80 : decode cX0_loadingError 80 = .ok (.bipush (-3), 2) := by decide +kernel
theorem dX0_loadingError_82 : decode cX0_loadingError 82 = .ok (.ireturn, 1) := by decide +kernel
theorem dX0_fillVan_0 : decode cX0_fillVan 0 = .ok (.iconst 0, 1) := by decide +kernel
theorem dX0_fillVan_1 : decode cX0_fillVan 1 = .ok (.istore 4, 2) := by decide +kernel
theorem dX0_fillVan_3 : decode cX0_fillVan 3 = .ok (.iconst 0, 1) := by decide +kernel
theorem dX0_fillVan_4 : decode cX0_fillVan 4 = .ok (.istore 5, 2) := by decide +kernel
theorem dX0_fillVan_6 : decode cX0_fillVan 6 = .ok (.iload 5, 2) := by decide +kernel
theorem dX0_fillVan_8 : decode cX0_fillVan 8 = .ok (.iload_n 3, 1) := by decide +kernel
theorem dX0_fillVan_9 : decode cX0_fillVan 9 = .ok (.if_icmp .ge 47, 3) := by decide +kernel
theorem dX0_fillVan_12 : decode cX0_fillVan 12 = .ok (.aload_n 0, 1) := by decide +kernel
theorem dX0_fillVan_13 : decode cX0_fillVan 13 = .ok (.getfield 12, 3) := by decide +kernel
theorem dX0_fillVan_16 : decode cX0_fillVan 16 = .ok (.iload_n 2, 1) := by decide +kernel
theorem dX0_fillVan_17 : decode cX0_fillVan 17 = .ok (.invokevirtual 161, 3) := by decide +kernel
theorem dX0_fillVan_20 : decode cX0_fillVan 20 = .ok (.istore 6, 2) := by decide +kernel
theorem dX0_fillVan_22 : decode cX0_fillVan 22 = .ok (.aload_n 0, 1) := by decide +kernel
theorem dX0_fillVan_23 : decode cX0_fillVan 23 = .ok (.getfield 12, 3) := by decide +kernel
theorem dX0_fillVan_26 : decode cX0_fillVan 26 = .ok (.iload 6, 2) := by decide +kernel
theorem dX0_fillVan_28 : decode cX0_fillVan 28 = .ok (.bipush 20, 2) := by decide +kernel
theorem dX0_fillVan_30 : decode cX0_fillVan 30 = .ok (.iload_n 1, 1) := by decide +kernel
theorem dX0_fillVan_31 : decode cX0_fillVan 31 = .ok (.iadd, 1) := by decide +kernel
theorem dX0_fillVan_32 : decode cX0_fillVan 32 = .ok (.invokevirtual 113, 3) := by decide +kernel
theorem dX0_fillVan_35 : decode cX0_fillVan 35 = .ok (.aload_n 0, 1) := by decide +kernel
theorem dX0_fillVan_36 : decode cX0_fillVan 36 = .ok (.getfield 12, 3) := by decide +kernel
theorem dX0_fillVan_39 : decode cX0_fillVan 39 = .ok (.iload 6, 2) := by decide +kernel
theorem dX0_fillVan_41 : decode cX0_fillVan 41 = .ok (.invokevirtual 164, 3) := by decide +kernel
theorem dX0_fillVan_44 : decode cX0_fillVan 44 = .ok (.ifCond .eq 6, 3) := by decide +kernel
theorem dX0_fillVan_47 : decode cX0_fillVan 47 = .ok (.iinc 4 1, 3) := by decide +kernel
theorem dX0_fillVan_50 : decode cX0_fillVan 50 = .ok (.iinc 5 1, 3) := by decide +kernel
theorem dX0_fillVan_53 : decode cX0_fillVan 53 = .ok (.goto (-47), 3) := by decide +kernel
theorem dX0_fillVan_56 : decode cX0_fillVan 56 = .ok (.iload 4, 2) := by decide +kernel
theorem dX0_fillVan_58 : decode cX0_fillVan 58 = .ok (.ireturn, 1) := by decide +kernel
theorem dX0_unloadingError_0 : decode cX0_unloadingError 0 = .ok (.iload_n 1, 1) := by decide +kernel
theorem dX0_unloadingError_1 : decode cX0_unloadingError 1 = .ok (.iconst 0, 1) := by decide +kernel
theorem dX0_unloadingError_2 : decode cX0_unloadingError 2 = .ok (.iconst 1, 1) := by decide +kernel
theorem dX0_unloadingError_3 : decode cX0_unloadingError 3 = .ok (.invokestatic 82, 3) := by decide +kernel
theorem dX0_unloadingError_6 : decode cX0_unloadingError 6 = .ok (.ifCond .ne 23, 3) := by decide +kernel
theorem dX0_unloadingError_9 : decode cX0_unloadingError 9 = .ok (.iload_n 2, 1) := by decide +kernel
theorem dX0_unloadingError_10 : decode cX0_unloadingError 10 = .ok (.iconst 0, 1) := by decide +kernel
theorem dX0_unloadingError_11 : decode cX0_unloadingError 11 = .ok (.bipush 7, 2) := by decide +kernel
theorem dX0_unloadingError_13 : decode cX0_unloadingError 13 = .ok (.invokestatic 82, 3) := by decide +kernel
theorem dX0_unloadingError_16 : decode cX0_unloadingError 16 = .ok (.ifCond .ne 13, 3) := by decide +kernel
theorem dX0_unloadingError_19 : decode cX0_unloadingError 19 = .ok (.iload_n 3, 1) := by decide +kernel
theorem dX0_unloadingError_20 : decode cX0_unloadingError 20 = .ok (.iconst 1, 1) := by decide +kernel
theorem dX0_unloadingError_21 : decode cX0_unloadingError 21 = .ok (.bipush 10, 2) := by decide +kernel
theorem dX0_unloadingError_23 : decode cX0_unloadingError 23 = .ok (.invokestatic 82, 3) := by decide +kernel
theorem dX0_unloadingError_26 : decode cX0_unloadingError 26 = .ok (.ifCond .eq 5, 3) := by decide +kernel
theorem dX0_unloadingError_29 : decode cX0_unloadingError 29 = .ok (.iconst (-1), 1) := by decide +kernel
theorem dX0_unloadingError_30 : decode cX0_unloadingError 30 = .ok (.ireturn, 1) := by decide +kernel
theorem dX0_unloadingError_31 : decode cX0_unloadingError 31 = .ok (.aload_n 0, 1) := by decide +kernel
theorem dX0_unloadingError_32 : decode cX0_unloadingError 32 = .ok (.getfield 12, 3) := by decide +kernel
theorem dX0_unloadingError_35 : decode cX0_unloadingError 35 = .ok (.bipush 20, 2) := by decide +kernel
theorem dX0_unloadingError_37 : decode cX0_unloadingError 37 = .ok (.iload_n 1, 1) := by decide +kernel
theorem dX0_unloadingError_38 : decode cX0_unloadingError 38 = .ok (.iadd, 1) := by decide +kernel
theorem dX0_unloadingError_39 : decode cX0_unloadingError 39 = .ok (.invokevirtual 158, 3) := by decide +kernel
theorem dX0_unloadingError_42 : decode cX0_unloadingError 42 = .ok (.iload_n 3, 1) := by decide +kernel
theorem dX0_unloadingError_43 : decode cX0_unloadingError 43 = .ok (.if_icmp .ge 6, 3) := by decide +kernel
theorem dX0_unloadingError_46 : decode cX0_unloadingError 46 = .ok (.bipush (-2), 2) := by decide +kernel
theorem dX0_unloadingError_48 : decode cX0_unloadingError 48 = .ok (.ireturn, 1) := by decide +kernel
theorem dX0_unloadingError_49 : decode cX0_unloadingError 49 = .ok (.aload_n 0, 1) := by decide +kernel
theorem dX0_unloadingError_50 : decode cX0_unloadingError 50 = .ok (.iload_n 2, 1) := by decide +kernel
theorem dX0_unloadingError_51 : decode cX0_unloadingError 51 = .ok (.invokevirtual 93, 3) := by decide +kernel
theorem dX0_unloadingError_54 : decode cX0_unloadingError 54 = .ok (.iload_n 3, 1) := by decide +kernel
theorem dX0_unloadingError_55 : decode cX0_unloadingError 55 = .ok (.if_icmp .ge 8, 3) := by decide +kernel
theorem dX0_unloadingError_58 : decode cX0_unloadingError 58 = .ok (.bipush (-3), 2) := by decide +kernel
theorem dX0_unloadingError_60 : decode cX0_unloadingError 60 = .ok (.goto 4, 3) := by decide +kernel
theorem dX0_unloadingError_63 : decode cX0_unloadingError 63 = .ok (.iconst 0, 1) := by decide +kernel
theorem dX0_unloadingError_64 : decode cX0_unloadingError 64 = .ok (.ireturn, 1) := by decide +kernel
theorem dX0_emptyVan_0 : decode cX0_emptyVan 0 = .ok (.iconst 0, 1) := by decide +kernel
theorem dX0_emptyVan_1 : decode cX0_emptyVan 1 = .ok (.istore 4, 2) := by decide +kernel
theorem dX0_emptyVan_3 : decode cX0_emptyVan 3 = .ok (.iconst 0, 1) := by decide +kernel
theorem dX0_emptyVan_4 : decode cX0_emptyVan 4 = .ok (.istore 5, 2) := by decide +kernel
theorem dX0_emptyVan_6 : decode cX0_emptyVan 6 = .ok (.iload 5, 2) := by decide +kernel
theorem dX0_emptyVan_8 : decode cX0_emptyVan 8 = .ok (.aload_n 0, 1) := by decide +kernel
theorem dX0_emptyVan_9 : decode cX0_emptyVan 9 = .ok (.getfield 12, 3) := by decide +kernel
theorem dX0_emptyVan_12 : decode cX0_emptyVan 12 = .ok (.getfield 90, 3) := by decide +kernel
theorem dX0_emptyVan_15 : decode cX0_emptyVan 15 = .ok (.if_icmp .ge 59, 3) := by decide +kernel
theorem dX0_emptyVan_18 : decode cX0_emptyVan 18 = .ok (.iload 4, 2) := by decide +kernel
theorem dX0_emptyVan_20 : decode cX0_emptyVan 20 = .ok (.iload_n 3, 1) := by decide +kernel
theorem dX0_emptyVan_21 : decode cX0_emptyVan 21 = .ok (.if_icmp .ge 53, 3) := by decide +kernel
theorem dX0_emptyVan_24 : decode cX0_emptyVan 24 = .ok (.aload_n 0, 1) := by decide +kernel
theorem dX0_emptyVan_25 : decode cX0_emptyVan 25 = .ok (.getfield 12, 3) := by decide +kernel
theorem dX0_emptyVan_28 : decode cX0_emptyVan 28 = .ok (.getfield 152, 3) := by decide +kernel
theorem dX0_emptyVan_31 : decode cX0_emptyVan 31 = .ok (.iload 5, 2) := by decide +kernel
theorem dX0_emptyVan_33 : decode cX0_emptyVan 33 = .ok (.invokevirtual 72, 3) := by decide +kernel
theorem dX0_emptyVan_36 : decode cX0_emptyVan 36 = .ok (.bipush 20, 2) := by decide +kernel
theorem dX0_emptyVan_38 : decode cX0_emptyVan 38 = .ok (.iload_n 1, 1) := by decide +kernel
theorem dX0_emptyVan_39 : decode cX0_emptyVan 39 = .ok (.iadd, 1) := by decide +kernel
theorem dX0_emptyVan_40 : decode cX0_emptyVan 40 = .ok (.if_icmp .ne 28, 3) := by decide +kernel
theorem dX0_emptyVan_43 : decode cX0_emptyVan 43 = .ok (.aload_n 0, 1) := by decide +kernel
theorem dX0_emptyVan_44 : decode cX0_emptyVan 44 = .ok (.getfield 12, 3) := by decide +kernel
theorem dX0_emptyVan_47 : decode cX0_emptyVan 47 = .ok (.iload 5, 2) := by decide +kernel
theorem dX0_emptyVan_49 : decode cX0_emptyVan 49 = .ok (.invokevirtual 164, 3) := by decide +kernel
theorem dX0_emptyVan_52 : decode cX0_emptyVan 52 = .ok (.ifCond .ne 16, 3) := by decide +kernel
theorem dX0_emptyVan_55 : decode cX0_emptyVan 55 = .ok (.aload_n 0, 1) := by decide +kernel
theorem dX0_emptyVan_56 : decode cX0_emptyVan 56 = .ok (.getfield 12, 3) := by decide +kernel
theorem dX0_emptyVan_59 : decode cX0_emptyVan 59 = .ok (.iload 5, 2) := by decide +kernel
theorem dX0_emptyVan_61 : decode cX0_emptyVan 61 = .ok (.iload_n 2, 1) := by decide +kernel
theorem dX0_emptyVan_62 : decode cX0_emptyVan 62 = .ok (.invokevirtual 113, 3) := by decide +kernel
theorem dX0_emptyVan_65 : decode cX0_emptyVan 65 = .ok (.iinc 4 1, 3) := by decide +kernel
theorem dX0_emptyVan_68 : decode cX0_emptyVan 68 = .ok (.iinc 5 1, 3) := by decide +kernel
theorem dX0_emptyVan_71 : decode cX0_emptyVan 71 = .ok (.goto (-65), 3) := by decide +kernel
theorem dX0_emptyVan_74 : decode cX0_emptyVan 74 = .ok (.aload_n 0, 1) := by decide +kernel
theorem dX0_emptyVan_75 : decode cX0_emptyVan 75 = .ok (.getfield 12, 3) := by decide +kernel
theorem dX0_emptyVan_78 : decode cX0_emptyVan 78 = .ok (.bipush 20, 2) := by decide +kernel
theorem dX0_emptyVan_80 : decode cX0_emptyVan 80 = .ok (.iload_n 1, 1) := by decide +kernel
theorem dX0_emptyVan_81 : decode cX0_emptyVan 81 = .ok (.iadd, 1) := by decide +kernel
theorem dX0_emptyVan_82 : decode cX0_emptyVan 82 = .ok (.invokevirtual 75, 3) := by decide +kernel
theorem dX0_emptyVan_85 : decode cX0_emptyVan 85 = .ok (.ireturn, 1) := by decide +kernel
theorem dX0_deliveringError_0 : decode cX0_deliveringError 0 = .ok (.iload_n 1, 1) := by decide +kernel
theorem dX0_deliveringError_1 : decode cX0_deliveringError 1 = .ok (.iconst 0, 1) := by decide +kernel
theorem dX0_deliveringError_2 : decode cX0_deliveringError 2 = .ok (.iconst 1, 1) := by decide +kernel
theorem dX0_deliveringError_3 : decode cX0_deliveringError 3 = .ok (.invokestatic 82, 3) := by decide +kernel
theorem dX0_deliveringError_6 : decode cX0_deliveringError 6 = .ok (.ifCond .eq 5, 3) := by decide +kernel
theorem dX0_deliveringError_9 : decode cX0_deliveringError 9 = .ok (.iconst (-1), 1) := by decide +kernel
theorem dX0_deliveringError_10 : decode cX0_deliveringError 10 = .ok (.ireturn, 1) := by decide +kernel
theorem dX0_deliveringError_11 : decode cX0_deliveringError 11 = .ok (.aload_n 0, 1) := by decide +kernel
theorem dX0_deliveringError_12 : decode cX0_deliveringError 12 = .ok (.getfield 12, 3) := by decide +kernel
theorem dX0_deliveringError_15 : decode cX0_deliveringError 15 = .ok (.bipush 20, 2) := by decide +kernel
theorem dX0_deliveringError_17 : decode cX0_deliveringError 17 = .ok (.iload_n 1, 1) := by decide +kernel
theorem dX0_deliveringError_18 : decode cX0_deliveringError 18 = .ok (.iadd, 1) := by decide +kernel
theorem dX0_deliveringError_19 : decode cX0_deliveringError 19 = .ok (.invokevirtual 167, 3) := by decide +kernel
theorem dX0_deliveringError_22 : decode cX0_deliveringError 22 = .ok (.ifCond .ne 8, 3) := by decide +kernel
theorem dX0_deliveringError_25 : decode cX0_deliveringError 25 = .ok (.bipush (-2), 2) := by decide +kernel
theorem dX0_deliveringError_27 : decode cX0_deliveringError 27 = .ok (.goto 4, 3) := by decide +kernel
theorem dX0_deliveringError_30 : decode cX0_deliveringError 30 = .ok (.iconst 0, 1) := by decide +kernel
theorem dX0_deliveringError_31 : decode cX0_deliveringError 31 = .ok (.ireturn, 1) := by decide +kernel
theorem dX0_deliver_0 : decode cX0_deliver 0 = .ok (.iconst 0, 1) := by decide +kernel
theorem dX0_deliver_1 : decode cX0_deliver 1 = .ok (.istore_n 2, 1) := by decide +kernel
theorem dX0_deliver_2 : decode cX0_deliver 2 = .ok (.iconst 0, 1) := by decide +kernel
theorem dX0_deliver_3 : decode cX0_deliver 3 = .ok (.istore_n 3, 1) := by decide +kernel
theorem dX0_deliver_4 : decode cX0_deliver 4 = .ok (.iload_n 3, 1) := by decide +kernel
theorem dX0_deliver_5 : decode cX0_deliver 5 = .ok (.aload_n 0, 1) := by decide +kernel
theorem dX0_deliver_6 : decode cX0_deliver 6 = .ok (.getfield 12, 3) := by decide +kernel
theorem dX0_deliver_9 : decode cX0_deliver 9 = .ok (.getfield 90, 3) := by decide +kernel
theorem dX0_deliver_12 : decode cX0_deliver 12 = .ok (.if_icmp .ge 51, 3) := by decide +kernel
theorem dX0_deliver_15 : decode cX0_deliver 15 = .ok (.aload_n 0, 1) := by decide +kernel
theorem dX0_deliver_16 : decode cX0_deliver 16 = .ok (.getfield 12, 3) := by decide +kernel
theorem dX0_deliver_19 : decode cX0_deliver 19 = .ok (.getfield 152, 3) := by decide +kernel
theorem dX0_deliver_22 : decode cX0_deliver 22 = .ok (.iload_n 3, 1) := by decide +kernel
theorem dX0_deliver_23 : decode cX0_deliver 23 = .ok (.invokevirtual 72, 3) := by decide +kernel
theorem dX0_deliver_26 : decode cX0_deliver 26 = .ok (.bipush 20, 2) := by decide +kernel
theorem dX0_deliver_28 : decode cX0_deliver 28 = .ok (.iload_n 1, 1) := by decide +kernel
theorem dX0_deliver_29 : decode cX0_deliver 29 = .ok (.iadd, 1) := by decide +kernel
theorem dX0_deliver_30 : decode cX0_deliver 30 = .ok (.if_icmp .ne 27, 3) := by decide +kernel
theorem dX0_deliver_33 : decode cX0_deliver 33 = .ok (.aload_n 0, 1) := by decide +kernel
theorem dX0_deliver_34 : decode cX0_deliver 34 = .ok (.getfield 12, 3) := by decide +kernel
theorem dX0_deliver_37 : decode cX0_deliver 37 = .ok (.iload_n 3, 1) := by decide +kernel
theorem dX0_deliver_38 : decode cX0_deliver 38 = .ok (.invokevirtual 164, 3) := by decide +kernel
theorem dX0_deliver_41 : decode cX0_deliver 41 = .ok (.ifCond .eq 16, 3) := by decide +kernel
theorem dX0_deliver_44 : decode cX0_deliver 44 = .ok (.aload_n 0, 1) := by decide +kernel
theorem dX0_deliver_45 : decode cX0_deliver 45 = .ok (.getfield 12, 3) := by decide +kernel
theorem dX0_deliver_48 : decode cX0_deliver 48 = .ok (.iload_n 3, 1) := by decide +kernel
theorem dX0_deliver_49 : decode cX0_deliver 49 = .ok (.bipush 22, 2) := by decide +kernel
theorem dX0_deliver_51 : decode cX0_deliver 51 = .ok (.invokevirtual 113, 3) := by decide +kernel
theorem dX0_deliver_54 : decode cX0_deliver 54 = .ok (.iinc 2 1, 3) := by decide +kernel
theorem dX0_deliver_57 : decode cX0_deliver 57 = .ok (.iinc 3 1, 3) := by decide +kernel
theorem dX0_deliver_60 : decode cX0_deliver 60 = .ok (.goto (-56), 3) := by decide +kernel
theorem dX0_deliver_63 : decode cX0_deliver 63 = .ok (.iload_n 2, 1) := by decide +kernel
theorem dX0_deliver_64 : decode cX0_deliver 64 = .ok (.ireturn, 1) := by decide +kernel
theorem dX0_mendingError_0 : decode cX0_mendingError 0 = .ok (.iload_n 1, 1) := by decide +kernel
theorem dX0_mendingError_1 : decode cX0_mendingError 1 = .ok (.iconst 0, 1) := by decide +kernel
theorem dX0_mendingError_2 : decode cX0_mendingError 2 = .ok (.bipush 7, 2) := by decide +kernel
theorem dX0_mendingError_4 : decode cX0_mendingError 4 = .ok (.invokestatic 82, 3) := by decide +kernel
theorem dX0_mendingError_7 : decode cX0_mendingError 7 = .ok (.ifCond .eq 5, 3) := by decide +kernel
theorem dX0_mendingError_10 : decode cX0_mendingError 10 = .ok (.iconst (-1), 1) := by decide +kernel
theorem dX0_mendingError_11 : decode cX0_mendingError 11 = .ok (.ireturn, 1) := by decide +kernel
theorem dX0_mendingError_12 : decode cX0_mendingError 12 = .ok (.aload_n 0, 1) := by decide +kernel
theorem dX0_mendingError_13 : decode cX0_mendingError 13 = .ok (.getfield 12, 3) := by decide +kernel
theorem dX0_mendingError_16 : decode cX0_mendingError 16 = .ok (.bipush 22, 2) := by decide +kernel
theorem dX0_mendingError_18 : decode cX0_mendingError 18 = .ok (.invokevirtual 75, 3) := by decide +kernel
theorem dX0_mendingError_21 : decode cX0_mendingError 21 = .ok (.iconst 2, 1) := by decide +kernel
theorem dX0_mendingError_22 : decode cX0_mendingError 22 = .ok (.if_icmp .lt 11, 3) := by decide +kernel
theorem dX0_mendingError_25 : decode cX0_mendingError 25 = .ok (.aload_n 0, 1) := by decide +kernel
theorem dX0_mendingError_26 : decode cX0_mendingError 26 = .ok (.invokevirtual 86, 3) := by decide +kernel
theorem dX0_mendingError_29 : decode cX0_mendingError 29 = .ok (.iconst 3, 1) := by decide +kernel
theorem dX0_mendingError_30 : decode cX0_mendingError 30 = .ok (.if_icmp .ge 6, 3) := by decide +kernel
theorem dX0_mendingError_33 : decode cX0_mendingError 33 = .ok (.bipush (-2), 2) := by decide +kernel
theorem dX0_mendingError_35 : decode cX0_mendingError 35 = .ok (.ireturn, 1) := by decide +kernel
theorem dX0_mendingError_36 : decode cX0_mendingError 36 = .ok (.aload_n 0, 1) := by decide +kernel
theorem dX0_mendingError_37 : decode cX0_mendingError 37 = .ok (.iload_n 1, 1) := by decide +kernel
theorem dX0_mendingError_38 : decode cX0_mendingError 38 = .ok (.invokevirtual 93, 3) := by decide +kernel
theorem dX0_mendingError_41 : decode cX0_mendingError 41 = .ok (.ifCond .gt 8, 3) := by decide +kernel
theorem dX0_mendingError_44 : decode cX0_mendingError 44 = .ok (.bipush (-3), 2) := by decide +kernel
theorem dX0_mendingError_46 : decode cX0_mendingError 46 = .ok (.goto 4, 3) := by decide +kernel
theorem dX0_mendingError_49 : decode cX0_mendingError 49 = .ok (.iconst 0, 1) := by decide +kernel
theorem dX0_mendingError_50 : decode cX0_mendingError 50 = .ok (.ireturn, 1) := by decide +kernel
theorem dX0_mendOne_0 : decode cX0_mendOne 0 = .ok (.aload_n 0, 1) := by decide +kernel
theorem dX0_mendOne_1 : decode cX0_mendOne 1 = .ok (.getfield 12, 3) := by decide +kernel
theorem dX0_mendOne_4 : decode cX0_mendOne 4 = .ok (.bipush 22, 2) := by decide +kernel
theorem dX0_mendOne_6 : decode cX0_mendOne 6 = .ok (.bipush 64, 2) := by decide +kernel
theorem dX0_mendOne_8 : decode cX0_mendOne 8 = .ok (.bipush (-9), 2) := by decide +kernel
theorem dX0_mendOne_10 : decode cX0_mendOne 10 = .ok (.invokevirtual 170, 3) := by decide +kernel
theorem dX0_mendOne_13 : decode cX0_mendOne 13 = .ok (.istore_n 2, 1) := by decide +kernel
theorem dX0_mendOne_14 : decode cX0_mendOne 14 = .ok (.aload_n 0, 1) := by decide +kernel
theorem dX0_mendOne_15 : decode cX0_mendOne 15 = .ok (.getfield 12, 3) := by decide +kernel
theorem dX0_mendOne_18 : decode cX0_mendOne 18 = .ok (.bipush 22, 2) := by decide +kernel
theorem dX0_mendOne_20 : decode cX0_mendOne 20 = .ok (.bipush 64, 2) := by decide +kernel
theorem dX0_mendOne_22 : decode cX0_mendOne 22 = .ok (.iload_n 2, 1) := by decide +kernel
theorem dX0_mendOne_23 : decode cX0_mendOne 23 = .ok (.invokevirtual 170, 3) := by decide +kernel
theorem dX0_mendOne_26 : decode cX0_mendOne 26 = .ok (.istore_n 3, 1) := by decide +kernel
theorem dX0_mendOne_27 : decode cX0_mendOne 27 = .ok (.iload_n 2, 1) := by decide +kernel
theorem dX0_mendOne_28 : decode cX0_mendOne 28 = .ok (.iload_n 3, 1) := by decide +kernel
theorem dX0_mendOne_29 : decode cX0_mendOne 29 = .ok (.invokestatic 138, 3) := by decide +kernel
theorem dX0_mendOne_32 : decode cX0_mendOne 32 = .ok (.istore 4, 2) := by decide +kernel
theorem dX0_mendOne_34 : decode cX0_mendOne 34 = .ok (.aload_n 0, 1) := by decide +kernel
theorem dX0_mendOne_35 : decode cX0_mendOne 35 = .ok (.getfield 12, 3) := by decide +kernel
theorem dX0_mendOne_38 : decode cX0_mendOne 38 = .ok (.getfield 132, 3) := by decide +kernel
theorem dX0_mendOne_41 : decode cX0_mendOne 41 = .ok (.iload 4, 2) := by decide +kernel
theorem dX0_mendOne_43 : decode cX0_mendOne 43 = .ok (.aload_n 0, 1) := by decide +kernel
theorem dX0_mendOne_44 : decode cX0_mendOne 44 = .ok (.getfield 12, 3) := by decide +kernel
theorem dX0_mendOne_47 : decode cX0_mendOne 47 = .ok (.getfield 132, 3) := by decide +kernel
theorem dX0_mendOne_50 : decode cX0_mendOne 50 = .ok (.iload_n 2, 1) := by decide +kernel
theorem dX0_mendOne_51 : decode cX0_mendOne 51 = .ok (.invokevirtual 72, 3) := by decide +kernel
theorem dX0_mendOne_54 : decode cX0_mendOne 54 = .ok (.iconst 4, 1) := by decide +kernel
theorem dX0_mendOne_55 : decode cX0_mendOne 55 = .ok (.idiv, 1) := by decide +kernel
theorem dX0_mendOne_56 : decode cX0_mendOne 56 = .ok (.invokevirtual 46, 3) := by decide +kernel
theorem dX0_mendOne_59 : decode cX0_mendOne 59 = .ok (.aload_n 0, 1) := by decide +kernel
theorem dX0_mendOne_60 : decode cX0_mendOne 60 = .ok (.getfield 12, 3) := by decide +kernel
theorem dX0_mendOne_63 : decode cX0_mendOne 63 = .ok (.iload 4, 2) := by decide +kernel
theorem dX0_mendOne_65 : decode cX0_mendOne 65 = .ok (.iload_n 1, 1) := by decide +kernel
theorem dX0_mendOne_66 : decode cX0_mendOne 66 = .ok (.invokevirtual 113, 3) := by decide +kernel
theorem dX0_mendOne_69 : decode cX0_mendOne 69 = .ok (.aload_n 0, 1) := by decide +kernel
theorem dX0_mendOne_70 : decode cX0_mendOne 70 = .ok (.getfield 12, 3) := by decide +kernel
theorem dX0_mendOne_73 : decode cX0_mendOne 73 = .ok (.iload_n 2, 1) := by decide +kernel
theorem dX0_mendOne_74 : decode cX0_mendOne 74 = .ok (.iload_n 3, 1) := by decide +kernel
theorem dX0_mendOne_75 : decode cX0_mendOne 75 = .ok (.invokestatic 173, 3) := by decide +kernel
theorem dX0_mendOne_78 : decode cX0_mendOne 78 = .ok (.bipush 23, 2) := by decide +kernel
theorem dX0_mendOne_80 : decode cX0_mendOne 80 = .ok (.invokevirtual 113, 3) := by decide +kernel
theorem dX0_mendOne_83 : decode cX0_mendOne 83 = .ok (.aload_n 0, 1) := by decide +kernel
theorem dX0_mendOne_84 : decode cX0_mendOne 84 = .ok (.iconst 3, 1) := by decide +kernel
theorem dX0_mendOne_85 : decode cX0_mendOne 85 = .ok (.invokevirtual 100, 3) := by decide +kernel
theorem dX0_mendOne_88 : decode cX0_mendOne 88 = .ok (.iload 4, 2) := by decide +kernel
theorem dX0_mendOne_90 : decode cX0_mendOne 90 = .ok (.ireturn, 1) := by decide +kernel
theorem dX0_evenOut_0 : decode cX0_evenOut 0 = .ok (.iconst 0, 1) := by decide +kernel
theorem dX0_evenOut_1 : decode cX0_evenOut 1 = .ok (.istore_n 1, 1) := by decide +kernel
theorem dX0_evenOut_2 : decode cX0_evenOut 2 = .ok (.iload_n 1, 1) := by decide +kernel
theorem dX0_evenOut_3 : decode cX0_evenOut 3 = .ok (.ldc 176, 2) := by decide +kernel
theorem dX0_evenOut_5 : decode cX0_evenOut 5 = .ok (.if_icmp .ge 88, 3) := by decide +kernel
theorem dX0_evenOut_8 : decode cX0_evenOut 8 = .ok (.aload_n 0, 1) := by decide +kernel
theorem dX0_evenOut_9 : decode cX0_evenOut 9 = .ok (.invokevirtual 177, 3) := by decide +kernel
theorem dX0_evenOut_12 : decode cX0_evenOut 12 = .ok (.istore_n 2, 1) := by decide +kernel
theorem dX0_evenOut_13 : decode cX0_evenOut 13 = .ok (.aload_n 0, 1) := by decide +kernel
theorem dX0_evenOut_14 : decode cX0_evenOut 14 = .ok (.invokevirtual 180, 3) := by decide +kernel
theorem dX0_evenOut_17 : decode cX0_evenOut 17 = .ok (.istore_n 3, 1) := by decide +kernel
theorem dX0_evenOut_18 : decode cX0_evenOut 18 = .ok (.aload_n 0, 1) := by decide +kernel
theorem dX0_evenOut_19 : decode cX0_evenOut 19 = .ok (.getfield 12, 3) := by decide +kernel
theorem dX0_evenOut_22 : decode cX0_evenOut 22 = .ok (.iload_n 2, 1) := by decide +kernel
theorem dX0_evenOut_23 : decode cX0_evenOut 23 = .ok (.invokevirtual 107, 3) := by decide +kernel
theorem dX0_evenOut_26 : decode cX0_evenOut 26 = .ok (.istore 4, 2) := by decide +kernel
theorem dX0_evenOut_28 : decode cX0_evenOut 28 = .ok (.iload_n 3, 1) := by decide +kernel
theorem dX0_evenOut_29 : decode cX0_evenOut 29 = .ok (.bipush (-9), 2) := by decide +kernel
theorem dX0_evenOut_31 : decode cX0_evenOut 31 = .ok (.if_icmp .eq 28, 3) := by decide +kernel
theorem dX0_evenOut_34 : decode cX0_evenOut 34 = .ok (.aload_n 0, 1) := by decide +kernel
theorem dX0_evenOut_35 : decode cX0_evenOut 35 = .ok (.getfield 12, 3) := by decide +kernel
theorem dX0_evenOut_38 : decode cX0_evenOut 38 = .ok (.iload_n 2, 1) := by decide +kernel
theorem dX0_evenOut_39 : decode cX0_evenOut 39 = .ok (.invokevirtual 75, 3) := by decide +kernel
theorem dX0_evenOut_42 : decode cX0_evenOut 42 = .ok (.aload_n 0, 1) := by decide +kernel
theorem dX0_evenOut_43 : decode cX0_evenOut 43 = .ok (.getfield 12, 3) := by decide +kernel
theorem dX0_evenOut_46 : decode cX0_evenOut 46 = .ok (.iload_n 3, 1) := by decide +kernel
theorem dX0_evenOut_47 : decode cX0_evenOut 47 = .ok (.invokevirtual 75, 3) := by decide +kernel
theorem dX0_evenOut_50 : decode cX0_evenOut 50 = .ok (.isub, 1) := by decide +kernel
theorem dX0_evenOut_51 : decode cX0_evenOut 51 = .ok (.iconst 2, 1) := by decide +kernel
theorem dX0_evenOut_52 : decode cX0_evenOut 52 = .ok (.if_icmp .lt 7, 3) := by decide +kernel
theorem dX0_evenOut_55 : decode cX0_evenOut 55 = .ok (.iconst 1, 1) := by decide +kernel
theorem dX0_evenOut_56 : decode cX0_evenOut 56 = .ok (.goto 4, 3) := by decide +kernel
theorem dX0_evenOut_59 : decode cX0_evenOut 59 = .ok (.iconst 0, 1) := by decide +kernel
theorem dX0_evenOut_60 : decode cX0_evenOut 60 = .ok (.istore 5, 2) := by decide +kernel
theorem dX0_evenOut_62 : decode cX0_evenOut 62 = .ok (.iload 5, 2) := by decide +kernel
theorem dX0_evenOut_64 : decode cX0_evenOut 64 = .ok (.ifCond .eq 29, 3) := by decide +kernel
theorem dX0_evenOut_67 : decode cX0_evenOut 67 = .ok (.iload 4, 2) := by decide +kernel
theorem dX0_evenOut_69 : decode cX0_evenOut 69 = .ok (.bipush (-9), 2) := by decide +kernel
theorem dX0_evenOut_71 : decode cX0_evenOut 71 = .ok (.if_icmp .ne 6, 3) := by decide +kernel
theorem dX0_evenOut_74 : decode cX0_evenOut 74 = .ok (.goto 19, 3) := by decide +kernel
theorem dX0_evenOut_77 : decode cX0_evenOut 77 = .ok (.aload_n 0, 1) := by decide +kernel
theorem dX0_evenOut_78 : decode cX0_evenOut 78 = .ok (.getfield 12, 3) := by decide +kernel
theorem dX0_evenOut_81 : decode cX0_evenOut 81 = .ok (.iload 4, 2) := by decide +kernel
theorem dX0_evenOut_83 : decode cX0_evenOut 83 = .ok (.iload_n 3, 1) := by decide +kernel
theorem dX0_evenOut_84 : decode cX0_evenOut 84 = .ok (.invokevirtual 113, 3) := by decide +kernel
theorem dX0_evenOut_87 : decode cX0_evenOut 87 = .ok (.iinc 1 1, 3) := by decide +kernel
theorem dX0_evenOut_90 : decode cX0_evenOut 90 = .ok (.goto (-88), 3) := by decide +kernel
theorem dX0_evenOut_93 : decode cX0_evenOut 93 = .ok (.iload_n 1, 1) := by decide +kernel
theorem dX0_evenOut_94 : decode cX0_evenOut 94 = .ok (.ireturn, 1) := by decide +kernel
theorem dX0_fullest_0 : decode cX0_fullest 0 = .ok (.iconst 0, 1) := by decide +kernel
theorem dX0_fullest_1 : decode cX0_fullest 1 = .ok (.istore_n 1, 1) := by decide +kernel
theorem dX0_fullest_2 : decode cX0_fullest 2 = .ok (.iconst 1, 1) := by decide +kernel
theorem dX0_fullest_3 : decode cX0_fullest 3 = .ok (.istore_n 2, 1) := by decide +kernel
theorem dX0_fullest_4 : decode cX0_fullest 4 = .ok (.iload_n 2, 1) := by decide +kernel
theorem dX0_fullest_5 : decode cX0_fullest 5 = .ok (.bipush 8, 2) := by decide +kernel
theorem dX0_fullest_7 : decode cX0_fullest 7 = .ok (.if_icmp .ge 30, 3) := by decide +kernel
theorem dX0_fullest_10 : decode cX0_fullest 10 = .ok (.aload_n 0, 1) := by decide +kernel
theorem dX0_fullest_11 : decode cX0_fullest 11 = .ok (.getfield 12, 3) := by decide +kernel
theorem dX0_fullest_14 : decode cX0_fullest 14 = .ok (.iload_n 2, 1) := by decide +kernel
theorem dX0_fullest_15 : decode cX0_fullest 15 = .ok (.invokevirtual 75, 3) := by decide +kernel
theorem dX0_fullest_18 : decode cX0_fullest 18 = .ok (.aload_n 0, 1) := by decide +kernel
theorem dX0_fullest_19 : decode cX0_fullest 19 = .ok (.getfield 12, 3) := by decide +kernel
theorem dX0_fullest_22 : decode cX0_fullest 22 = .ok (.iload_n 1, 1) := by decide +kernel
theorem dX0_fullest_23 : decode cX0_fullest 23 = .ok (.invokevirtual 75, 3) := by decide +kernel
theorem dX0_fullest_26 : decode cX0_fullest 26 = .ok (.if_icmp .le 5, 3) := by decide +kernel
theorem dX0_fullest_29 : decode cX0_fullest 29 = .ok (.iload_n 2, 1) := by decide +kernel
theorem dX0_fullest_30 : decode cX0_fullest 30 = .ok (.istore_n 1, 1) := by decide +kernel
theorem dX0_fullest_31 : decode cX0_fullest 31 = .ok (.iinc 2 1, 3) := by decide +kernel
theorem dX0_fullest_34 : decode cX0_fullest 34 = .ok (.goto (-30), 3) := by decide +kernel
theorem dX0_fullest_37 : decode cX0_fullest 37 = .ok (.iload_n 1, 1) := by decide +kernel
theorem dX0_fullest_38 : decode cX0_fullest 38 = .ok (.ireturn, 1) := by decide +kernel
theorem dX0_emptiestWithRoom_0 : decode cX0_emptiestWithRoom 0 = .ok (.bipush (-9), 2) := by decide +kernel
theorem dX0_emptiestWithRoom_2 : decode cX0_emptiestWithRoom 2 = .ok (.istore_n 1, 1) := by decide +kernel
theorem dX0_emptiestWithRoom_3 : decode cX0_emptiestWithRoom 3 = .ok (.iconst 0, 1) := by decide +kernel
theorem dX0_emptiestWithRoom_4 : decode cX0_emptiestWithRoom 4 = .ok (.istore_n 2, 1) := by decide +kernel
theorem dX0_emptiestWithRoom_5 : decode cX0_emptiestWithRoom 5 = .ok (.iload_n 2, 1) := by decide +kernel
theorem dX0_emptiestWithRoom_6 : decode cX0_emptiestWithRoom 6 = .ok (.bipush 8, 2) := by decide +kernel
theorem dX0_emptiestWithRoom_8 : decode cX0_emptiestWithRoom 8 = .ok (.if_icmp .ge 54, 3) := by decide +kernel
theorem dX0_emptiestWithRoom_11 : decode cX0_emptiestWithRoom 11 = .ok (.iload_n 1, 1) := by decide +kernel
theorem dX0_emptiestWithRoom_12 : decode cX0_emptiestWithRoom 12 = .ok (.bipush (-9), 2) := by decide +kernel
theorem dX0_emptiestWithRoom_14 : decode cX0_emptiestWithRoom 14 = .ok (.if_icmp .eq 22, 3) := by decide +kernel
theorem dX0_emptiestWithRoom_17 : decode cX0_emptiestWithRoom 17 = .ok (.aload_n 0, 1) := by decide +kernel
theorem dX0_emptiestWithRoom_18 : decode cX0_emptiestWithRoom 18 = .ok (.getfield 12, 3) := by decide +kernel
theorem dX0_emptiestWithRoom_21 : decode cX0_emptiestWithRoom 21 = .ok (.iload_n 2, 1) := by decide +kernel
theorem dX0_emptiestWithRoom_22 : decode cX0_emptiestWithRoom 22 = .ok (.invokevirtual 75, 3) := by decide +kernel
theorem dX0_emptiestWithRoom_25 : decode cX0_emptiestWithRoom 25 = .ok (.aload_n 0, 1) := by decide +kernel
theorem dX0_emptiestWithRoom_26 : decode cX0_emptiestWithRoom 26 = .ok (.getfield 12, 3) := by decide +kernel
theorem dX0_emptiestWithRoom_29 : decode cX0_emptiestWithRoom 29 = .ok (.iload_n 1, 1) := by decide +kernel
theorem dX0_emptiestWithRoom_30 : decode cX0_emptiestWithRoom 30 = .ok (.invokevirtual 75, 3) := by decide +kernel
theorem dX0_emptiestWithRoom_33 : decode cX0_emptiestWithRoom 33 = .ok (.if_icmp .ge 7, 3) := by decide +kernel
theorem dX0_emptiestWithRoom_36 : decode cX0_emptiestWithRoom 36 = .ok (.iconst 1, 1) := by decide +kernel
theorem dX0_emptiestWithRoom_37 : decode cX0_emptiestWithRoom 37 = .ok (.goto 4, 3) := by decide +kernel
theorem dX0_emptiestWithRoom_40 : decode cX0_emptiestWithRoom 40 = .ok (.iconst 0, 1) := by decide +kernel
theorem dX0_emptiestWithRoom_41 : decode cX0_emptiestWithRoom 41 = .ok (.istore_n 3, 1) := by decide +kernel
theorem dX0_emptiestWithRoom_42 : decode cX0_emptiestWithRoom 42 = .ok (.aload_n 0, 1) := by decide +kernel
theorem dX0_emptiestWithRoom_43 : decode cX0_emptiestWithRoom 43 = .ok (.iload_n 2, 1) := by decide +kernel
theorem dX0_emptiestWithRoom_44 : decode cX0_emptiestWithRoom 44 = .ok (.invokevirtual 93, 3) := by decide +kernel
theorem dX0_emptiestWithRoom_47 : decode cX0_emptiestWithRoom 47 = .ok (.ifCond .le 9, 3) := by decide +kernel
theorem dX0_emptiestWithRoom_50 : decode cX0_emptiestWithRoom 50 = .ok (.iload_n 3, 1) := by decide +kernel
theorem dX0_emptiestWithRoom_51 : decode cX0_emptiestWithRoom 51 = .ok (.ifCond .eq 5, 3) := by decide +kernel
theorem dX0_emptiestWithRoom_54 : decode cX0_emptiestWithRoom 54 = .ok (.iload_n 2, 1) := by decide +kernel
theorem dX0_emptiestWithRoom_55 : decode cX0_emptiestWithRoom 55 = .ok (.istore_n 1, 1) := by decide +kernel
theorem dX0_emptiestWithRoom_56 : decode cX0_emptiestWithRoom 56 = .ok (.iinc 2 1, 3) := by decide +kernel
theorem dX0_emptiestWithRoom_59 : decode cX0_emptiestWithRoom 59 = .ok (.goto (-54), 3) := by decide +kernel
theorem dX0_emptiestWithRoom_62 : decode cX0_emptiestWithRoom 62 = .ok (.iload_n 1, 1) := by decide +kernel
theorem dX0_emptiestWithRoom_63 : decode cX0_emptiestWithRoom 63 = .ok (.ireturn, 1) := by decide +kernel
