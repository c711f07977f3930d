theorem dX1_init_0 : decode cX1_init 0 = .ok (.aload_n 0, 1) := by decide +kernel
theorem dX1_init_1 : decode cX1_init 1 = .ok (.invokespecial 3, 3) := by decide +kernel
theorem dX1_init_4 : decode cX1_init 4 = .ok (.aload_n 0, 1) := by decide +kernel
theorem dX1_init_5 : decode cX1_init 5 = .ok (.iconst 5, 1) := by decide +kernel
theorem dX1_init_6 : decode cX1_init 6 = .ok (.anewarray 9, 3) := by decide +kernel
theorem dX1_init_9 : decode cX1_init 9 = .ok (.putfield 11, 3) := by decide +kernel
theorem dX1_init_12 : decode cX1_init 12 = .ok (.iconst 0, 1) := by decide +kernel
theorem dX1_init_13 : decode cX1_init 13 = .ok (.istore_n 1, 1) := by decide +kernel
theorem dX1_init_14 : decode cX1_init 14 = .ok (.iload_n 1, 1) := by decide +kernel
theorem dX1_init_15 : decode cX1_init 15 = .ok (.aload_n 0, 1) := by decide +kernel
theorem dX1_init_16 : decode cX1_init 16 = .ok (.getfield 11, 3) := by decide +kernel
theorem dX1_init_19 : decode cX1_init 19 = .ok (.arraylength, 1) := by decide +kernel
theorem dX1_init_20 : decode cX1_init 20 = .ok (.if_icmp .ge 22, 3) := by decide +kernel
theorem dX1_init_23 : decode cX1_init 23 = .ok (.aload_n 0, 1) := by decide +kernel
theorem dX1_init_24 : decode cX1_init 24 = .ok (.getfield 11, 3) := by decide +kernel
theorem dX1_init_27 : decode cX1_init 27 = .ok (.iload_n 1, 1) := by decide +kernel
theorem dX1_init_28 : decode cX1_init 28 = .ok (.new 9, 3) := by decide +kernel
theorem dX1_init_31 : decode cX1_init 31 = .ok (.dup, 1) := by decide +kernel
theorem dX1_init_32 : decode cX1_init 32 = .ok (.invokespecial 17, 3) := by decide +kernel
theorem dX1_init_35 : decode cX1_init 35 = .ok (.aastore, 1) := by decide +kernel
theorem dX1_init_36 : decode cX1_init 36 = .ok (.iinc 1 1, 3) := by decide +kernel
theorem dX1_init_39 : decode cX1_init 39 = .ok (.goto (-25), 3) := by decide +kernel
theorem dX1_init_42 : decode cX1_init 42 = .ok (.return_, 1) := by decide +kernel
theorem dX1_record_0 : decode cX1_record 0 = .ok (.aload_n 0, 1) := by decide +kernel
theorem dX1_record_1 : decode cX1_record 1 = .ok (.getfield 18, 3) := by decide +kernel
theorem dX1_record_4 : decode cX1_record 4 = .ok (.ifCond .lt 27, 3) := by decide +kernel
theorem dX1_record_7 : decode cX1_record 7 = .ok (.aload_n 0, 1) := by decide +kernel
theorem dX1_record_8 : decode cX1_record 8 = .ok (.getfield 18, 3) := by decide +kernel
theorem dX1_record_11 : decode cX1_record 11 = .ok (.aload_n 0, 1) := by decide +kernel
theorem dX1_record_12 : decode cX1_record 12 = .ok (.getfield 11, 3) := by decide +kernel
theorem dX1_record_15 : decode cX1_record 15 = .ok (.arraylength, 1) := by decide +kernel
theorem dX1_record_16 : decode cX1_record 16 = .ok (.if_icmp .ge 15, 3) := by decide +kernel
theorem dX1_record_19 : decode cX1_record 19 = .ok (.aload_n 0, 1) := by decide +kernel
theorem dX1_record_20 : decode cX1_record 20 = .ok (.getfield 11, 3) := by decide +kernel
theorem dX1_record_23 : decode cX1_record 23 = .ok (.aload_n 0, 1) := by decide +kernel
theorem dX1_record_24 : decode cX1_record 24 = .ok (.getfield 18, 3) := by decide +kernel
theorem dX1_record_27 : decode cX1_record 27 = .ok (.aaload, 1) := by decide +kernel
theorem dX1_record_28 : decode cX1_record 28 = .ok (.goto 4, 3) := by decide +kernel
theorem dX1_record_31 : decode cX1_record 31 = .ok (.aconst_null, 1) := by decide +kernel
theorem dX1_record_32 : decode cX1_record 32 = .ok (.astore_n 2, 1) := by decide +kernel
theorem dX1_record_33 : decode cX1_record 33 = .ok (.aload_n 2, 1) := by decide +kernel
theorem dX1_record_34 : decode cX1_record 34 = .ok (.ifnull 8, 3) := by decide +kernel
theorem dX1_record_37 : decode cX1_record 37 = .ok (.aload_n 2, 1) := by decide +kernel
theorem dX1_record_38 : decode cX1_record 38 = .ok (.aload_n 1, 1) := by decide +kernel
theorem dX1_record_39 : decode cX1_record 39 = .ok (.invokevirtual 22, 3) := by decide +kernel
theorem dX1_record_42 : decode cX1_record 42 = .ok (.aload_n 0, 1) := by decide +kernel
theorem dX1_record_43 : decode cX1_record 43 = .ok (.aload_n 0, 1) := by decide +kernel
theorem dX1_record_44 : decode cX1_record 44 = .ok (.getfield 18, 3) := by decide +kernel
theorem dX1_record_47 : decode cX1_record 47 = .ok (.iconst 1, 1) := by decide +kernel
theorem dX1_record_48 : decode cX1_record 48 = .ok (.iadd, 1) := by decide +kernel
theorem dX1_record_49 : decode cX1_record 49 = .ok (.iconst 5, 1) := by decide +kernel
theorem dX1_record_50 : decode cX1_record 50 = .ok (.irem, 1) := by decide +kernel
theorem dX1_record_51 : decode cX1_record 51 = .ok (.putfield 18, 3) := by decide +kernel
theorem dX1_record_54 : decode cX1_record 54 = .ok (.aload_n 0, 1) := by decide +kernel
theorem dX1_record_55 : decode cX1_record 55 = .ok (.iconst 5, 1) := by decide +kernel
theorem dX1_record_56 : decode cX1_record 56 = .ok (.aload_n 0, 1) := by decide +kernel
theorem dX1_record_57 : decode cX1_record 57 = .ok (.getfield 26, 3) := by decide +kernel
theorem dX1_record_60 : decode cX1_record 60 = .ok (.iconst 1, 1) := by decide +kernel
theorem dX1_record_61 : decode cX1_record 61 = .ok (.iadd, 1) := by decide +kernel
theorem dX1_record_62 : decode cX1_record 62 = .ok (.invokestatic 29, 3) := by decide +kernel
theorem dX1_record_65 : decode cX1_record 65 = .ok (.putfield 26, 3) := by decide +kernel
theorem dX1_record_68 : decode cX1_record 68 = .ok (.return_, 1) := by decide +kernel
theorem dX1_moveLatestTo_0 : decode cX1_moveLatestTo 0 = .ok (.aload_n 0, 1) := by decide +kernel
theorem dX1_moveLatestTo_1 : decode cX1_moveLatestTo 1 = .ok (.aload_n 0, 1) := by decide +kernel
theorem dX1_moveLatestTo_2 : decode cX1_moveLatestTo 2 = .ok (.getfield 18, 3) := by decide +kernel
theorem dX1_moveLatestTo_5 : decode cX1_moveLatestTo 5 = .ok (.iconst 5, 1) := by decide +kernel
theorem dX1_moveLatestTo_6 : decode cX1_moveLatestTo 6 = .ok (.iadd, 1) := by decide +kernel
theorem dX1_moveLatestTo_7 : decode cX1_moveLatestTo 7 = .ok (.iconst 1, 1) := by decide +kernel
theorem dX1_moveLatestTo_8 : decode cX1_moveLatestTo 8 = .ok (.isub, 1) := by decide +kernel
theorem dX1_moveLatestTo_9 : decode cX1_moveLatestTo 9 = .ok (.iconst 5, 1) := by decide +kernel
theorem dX1_moveLatestTo_10 : decode cX1_moveLatestTo 10 = .ok (.irem, 1) := by decide +kernel
theorem dX1_moveLatestTo_11 : decode cX1_moveLatestTo 11 = .ok (.putfield 18, 3) := by decide +kernel
theorem dX1_moveLatestTo_14 : decode cX1_moveLatestTo 14 = .ok (.aload_n 0, 1) := by decide +kernel
theorem dX1_moveLatestTo_15 : decode cX1_moveLatestTo 15 = .ok (.dup, 1) := by decide +kernel
theorem dX1_moveLatestTo_16 : decode cX1_moveLatestTo 16 = .ok (.getfield 26, 3) := by decide +kernel
theorem dX1_moveLatestTo_19 : decode cX1_moveLatestTo 19 = .ok (.iconst 1, 1) := by decide +kernel
theorem dX1_moveLatestTo_20 : decode cX1_moveLatestTo 20 = .ok (.isub, 1) := by decide +kernel
theorem dX1_moveLatestTo_21 : decode cX1_moveLatestTo 21 = .ok (.putfield 26, 3) := by decide +kernel
theorem dX1_moveLatestTo_24 : decode cX1_moveLatestTo 24 = .ok (.aload_n 0, 1) := by decide +kernel
theorem dX1_moveLatestTo_25 : decode cX1_moveLatestTo 25 = .ok (.getfield 18, 3) := by decide +kernel
theorem dX1_moveLatestTo_28 : decode cX1_moveLatestTo 28 = .ok (.ifCond .lt 27, 3) := by decide +kernel
theorem dX1_moveLatestTo_31 : decode cX1_moveLatestTo 31 = .ok (.aload_n 0, 1) := by decide +kernel
theorem dX1_moveLatestTo_32 : decode cX1_moveLatestTo 32 = .ok (.getfield 18, 3) := by decide +kernel
theorem dX1_moveLatestTo_35 : decode cX1_moveLatestTo 35 = .ok (.aload_n 0, 1) := by decide +kernel
theorem dX1_moveLatestTo_36 : decode cX1_moveLatestTo 36 = .ok (.getfield 11, 3) := by decide +kernel
theorem dX1_moveLatestTo_39 : decode cX1_moveLatestTo 39 = .ok (.arraylength, 1) := by decide +kernel
theorem dX1_moveLatestTo_40 : decode cX1_moveLatestTo 40 = .ok (.if_icmp .ge 15, 3) := by decide +kernel
theorem dX1_moveLatestTo_43 : decode cX1_moveLatestTo 43 = .ok (.aload_n 0, 1) := by decide +kernel
theorem dX1_moveLatestTo_44 : decode cX1_moveLatestTo 44 = .ok (.getfield 11, 3) := by decide +kernel
theorem dX1_moveLatestTo_47 : decode cX1_moveLatestTo 47 = .ok (.aload_n 0, 1) := by decide +kernel
theorem dX1_moveLatestTo_48 : decode cX1_moveLatestTo 48 = .ok (.getfield 18, 3) := by decide +kernel
theorem dX1_moveLatestTo_51 : decode cX1_moveLatestTo 51 = .ok (.aaload, 1) := by decide +kernel
theorem dX1_moveLatestTo_52 : decode cX1_moveLatestTo 52 = .ok (.goto 4, 3) := by decide +kernel
theorem dX1_moveLatestTo_55 : decode cX1_moveLatestTo 55 = .ok (.aconst_null, 1) := by decide +kernel
theorem dX1_moveLatestTo_56 : decode cX1_moveLatestTo 56 = .ok (.astore_n 2, 1) := by decide +kernel
theorem dX1_moveLatestTo_57 : decode cX1_moveLatestTo 57 = .ok (.aload_n 2, 1) := by decide +kernel
theorem dX1_moveLatestTo_58 : decode cX1_moveLatestTo 58 = .ok (.ifnull 8, 3) := by decide +kernel
theorem dX1_moveLatestTo_61 : decode cX1_moveLatestTo 61 = .ok (.aload_n 1, 1) := by decide +kernel
theorem dX1_moveLatestTo_62 : decode cX1_moveLatestTo 62 = .ok (.aload_n 2, 1) := by decide +kernel
theorem dX1_moveLatestTo_63 : decode cX1_moveLatestTo 63 = .ok (.invokevirtual 22, 3) := by decide +kernel
theorem dX1_moveLatestTo_66 : decode cX1_moveLatestTo 66 = .ok (.return_, 1) := by decide +kernel
theorem dX2_init_0 : decode cX2_init 0 = .ok (.aload_n 0, 1) := by decide +kernel
theorem dX2_init_1 : decode cX2_init 1 = .ok (.invokespecial 1, 3) := by decide +kernel
theorem dX2_init_4 : decode cX2_init 4 = .ok (.aload_n 0, 1) := by decide +kernel
theorem dX2_init_5 : decode cX2_init 5 = .ok (.iconst 0, 1) := by decide +kernel
theorem dX2_init_6 : decode cX2_init 6 = .ok (.iload_n 1, 1) := by decide +kernel
theorem dX2_init_7 : decode cX2_init 7 = .ok (.invokestatic 7, 3) := by decide +kernel
theorem dX2_init_10 : decode cX2_init 10 = .ok (.newarray .int, 2) := by decide +kernel
theorem dX2_init_12 : decode cX2_init 12 = .ok (.putfield 13, 3) := by decide +kernel
theorem dX2_init_15 : decode cX2_init 15 = .ok (.aload_n 0, 1) := by decide +kernel
theorem dX2_init_16 : decode cX2_init 16 = .ok (.getfield 13, 3) := by decide +kernel
theorem dX2_init_19 : decode cX2_init 19 = .ok (.iload_n 2, 1) := by decide +kernel
theorem dX2_init_20 : decode cX2_init 20 = .ok (.invokestatic 19, 3) := by decide +kernel
theorem dX2_init_23 : decode cX2_init 23 = .ok (.return_, 1) := by decide +kernel
theorem dX2_at_0 : decode cX2_at 0 = .ok (.iload_n 1, 1) := by decide +kernel
theorem dX2_at_1 : decode cX2_at 1 = .ok (.ifCond .lt 21, 3) := by decide +kernel
theorem dX2_at_4 : decode cX2_at 4 = .ok (.iload_n 1, 1) := by decide +kernel
theorem dX2_at_5 : decode cX2_at 5 = .ok (.aload_n 0, 1) := by decide +kernel
theorem dX2_at_6 : decode cX2_at 6 = .ok (.getfield 13, 3) := by decide +kernel
theorem dX2_at_9 : decode cX2_at 9 = .ok (.arraylength, 1) := by decide +kernel
theorem dX2_at_10 : decode cX2_at 10 = .ok (.if_icmp .ge 12, 3) := by decide +kernel
theorem dX2_at_13 : decode cX2_at 13 = .ok (.aload_n 0, 1) := by decide +kernel
theorem dX2_at_14 : decode cX2_at 14 = .ok (.getfield 13, 3) := by decide +kernel
theorem dX2_at_17 : decode cX2_at 17 = .ok (.iload_n 1, 1) := by decide +kernel
theorem dX2_at_18 : decode cX2_at 18 = .ok (.iaload, 1) := by decide +kernel
theorem dX2_at_19 : decode cX2_at 19 = .ok (.goto 4, 3) := by decide +kernel
theorem dX2_at_22 : decode cX2_at 22 = .ok (.iconst 0, 1) := by decide +kernel
theorem dX2_at_23 : decode cX2_at 23 = .ok (.ireturn, 1) := by decide +kernel
theorem dX2_put_0 : decode cX2_put 0 = .ok (.iload_n 1, 1) := by decide +kernel
theorem dX2_put_1 : decode cX2_put 1 = .ok (.ifCond .lt 19, 3) := by decide +kernel
theorem dX2_put_4 : decode cX2_put 4 = .ok (.iload_n 1, 1) := by decide +kernel
theorem dX2_put_5 : decode cX2_put 5 = .ok (.aload_n 0, 1) := by decide +kernel
theorem dX2_put_6 : decode cX2_put 6 = .ok (.getfield 13, 3) := by decide +kernel
theorem dX2_put_9 : decode cX2_put 9 = .ok (.arraylength, 1) := by decide +kernel
theorem dX2_put_10 : decode cX2_put 10 = .ok (.if_icmp .ge 10, 3) := by decide +kernel
theorem dX2_put_13 : decode cX2_put 13 = .ok (.aload_n 0, 1) := by decide +kernel
theorem dX2_put_14 : decode cX2_put 14 = .ok (.getfield 13, 3) := by decide +kernel
theorem dX2_put_17 : decode cX2_put 17 = .ok (.iload_n 1, 1) := by decide +kernel
theorem dX2_put_18 : decode cX2_put 18 = .ok (.iload_n 2, 1) := by decide +kernel
theorem dX2_put_19 : decode cX2_put 19 = .ok (.iastore, 1) := by decide +kernel
theorem dX2_put_20 : decode cX2_put 20 = .ok (.return_, 1) := by decide +kernel
theorem dX2_add_0 : decode cX2_add 0 = .ok (.iload_n 1, 1) := by decide +kernel
theorem dX2_add_1 : decode cX2_add 1 = .ok (.ifCond .lt 22, 3) := by decide +kernel
theorem dX2_add_4 : decode cX2_add 4 = .ok (.iload_n 1, 1) := by decide +kernel
theorem dX2_add_5 : decode cX2_add 5 = .ok (.aload_n 0, 1) := by decide +kernel
theorem dX2_add_6 : decode cX2_add 6 = .ok (.getfield 13, 3) := by decide +kernel
theorem dX2_add_9 : decode cX2_add 9 = .ok (.arraylength, 1) := by decide +kernel
theorem dX2_add_10 : decode cX2_add 10 = .ok (.if_icmp .ge 13, 3) := by decide +kernel
theorem dX2_add_13 : decode cX2_add 13 = .ok (.aload_n 0, 1) := by decide +kernel
theorem dX2_add_14 : decode cX2_add 14 = .ok (.getfield 13, 3) := by decide +kernel
theorem dX2_add_17 : decode cX2_add 17 = .ok (.iload_n 1, 1) := by decide +kernel
theorem dX2_add_18 : decode cX2_add 18 = .ok (.dup2, 1) := by decide +kernel
theorem dX2_add_19 : decode cX2_add 19 = .ok (.iaload, 1) := by decide +kernel
theorem dX2_add_20 : decode cX2_add 20 = .ok (.iload_n 2, 1) := by decide +kernel
theorem dX2_add_21 : decode cX2_add 21 = .ok (.iadd, 1) := by decide +kernel
theorem dX2_add_22 : decode cX2_add 22 = .ok (.iastore, 1) := by decide +kernel
theorem dX2_add_23 : decode cX2_add 23 = .ok (.return_, 1) := by decide +kernel
theorem dX2_sum_0 : decode cX2_sum 0 = .ok (.iconst 0, 1) := by decide +kernel
theorem dX2_sum_1 : decode cX2_sum 1 = .ok (.istore_n 1, 1) := by decide +kernel
theorem dX2_sum_2 : decode cX2_sum 2 = .ok (.aload_n 0, 1) := by decide +kernel
theorem dX2_sum_3 : decode cX2_sum 3 = .ok (.getfield 13, 3) := by decide +kernel
theorem dX2_sum_6 : decode cX2_sum 6 = .ok (.astore_n 2, 1) := by decide +kernel
theorem dX2_sum_7 : decode cX2_sum 7 = .ok (.aload_n 2, 1) := by decide +kernel
theorem dX2_sum_8 : decode cX2_sum 8 = .ok (.arraylength, 1) := by decide +kernel
theorem dX2_sum_9 : decode cX2_sum 9 = .ok (.istore_n 3, 1) := by decide +kernel
theorem dX2_sum_10 : decode cX2_sum 10 = .ok (.iconst 0, 1) := by decide +kernel
theorem dX2_sum_11 : decode cX2_sum 11 = .ok (.istore 4, 2) := by decide +kernel
theorem dX2_sum_13 : decode cX2_sum 13 = .ok (.iload 4, 2) := by decide +kernel
theorem dX2_sum_15 : decode cX2_sum 15 = .ok (.iload_n 3, 1) := by decide +kernel
theorem dX2_sum_16 : decode cX2_sum 16 = .ok (.if_icmp .ge 20, 3) := by decide +kernel
theorem dX2_sum_19 : decode cX2_sum 19 = .ok (.aload_n 2, 1) := by decide +kernel
theorem dX2_sum_20 : decode cX2_sum 20 = .ok (.iload 4, 2) := by decide +kernel
theorem dX2_sum_22 : decode cX2_sum 22 = .ok (.iaload, 1) := by decide +kernel
theorem dX2_sum_23 : decode cX2_sum 23 = .ok (.istore 5, 2) := by decide +kernel
theorem dX2_sum_25 : decode cX2_sum 25 = .ok (.iload_n 1, 1) := by decide +kernel
theorem dX2_sum_26 : decode cX2_sum 26 = .ok (.iload 5, 2) := by decide +kernel
theorem dX2_sum_28 : decode cX2_sum 28 = .ok (.iadd, 1) := by decide +kernel
theorem dX2_sum_29 : decode cX2_sum 29 = .ok (.istore_n 1, 1) := by decide +kernel
theorem dX2_sum_30 : decode cX2_sum 30 = .ok (.iinc 4 1, 3) := by decide +kernel
theorem dX2_sum_33 : decode cX2_sum 33 = .ok (.goto (-20), 3) := by decide +kernel
theorem dX2_sum_36 : decode cX2_sum 36 = .ok (.iload_n 1, 1) := by decide +kernel
theorem dX2_sum_37 : decode cX2_sum 37 = .ok (.ireturn, 1) := by decide +kernel
theorem dX2_copyFrom_0 : decode cX2_copyFrom 0 = .ok (.aload_n 1, 1) := by decide +kernel
theorem dX2_copyFrom_1 : decode cX2_copyFrom 1 = .ok (.getfield 13, 3) := by decide +kernel
theorem dX2_copyFrom_4 : decode cX2_copyFrom 4 = .ok (.iconst 0, 1) := by decide +kernel
theorem dX2_copyFrom_5 : decode cX2_copyFrom 5 = .ok (.aload_n 0, 1) := by decide +kernel
theorem dX2_copyFrom_6 : decode cX2_copyFrom 6 = .ok (.getfield 13, 3) := by decide +kernel
theorem dX2_copyFrom_9 : decode cX2_copyFrom 9 = .ok (.iconst 0, 1) := by decide +kernel
theorem dX2_copyFrom_10 : decode cX2_copyFrom 10 = .ok (.aload_n 0, 1) := by decide +kernel
theorem dX2_copyFrom_11 : decode cX2_copyFrom 11 = .ok (.getfield 13, 3) := by decide +kernel
theorem dX2_copyFrom_14 : decode cX2_copyFrom 14 = .ok (.arraylength, 1) := by decide +kernel
theorem dX2_copyFrom_15 : decode cX2_copyFrom 15 = .ok (.aload_n 1, 1) := by decide +kernel
theorem dX2_copyFrom_16 : decode cX2_copyFrom 16 = .ok (.getfield 13, 3) := by decide +kernel
theorem dX2_copyFrom_19 : decode cX2_copyFrom 19 = .ok (.arraylength, 1) := by decide +kernel
theorem dX2_copyFrom_20 : decode cX2_copyFrom 20 = .ok (.invokestatic 25, 3) := by decide +kernel
theorem dX2_copyFrom_23 : decode cX2_copyFrom 23 = .ok (.invokestatic 28, 3) := by decide +kernel
theorem dX2_copyFrom_26 : decode cX2_copyFrom 26 = .ok (.return_, 1) := by decide +kernel
theorem dX3_init_0 : decode cX3_init 0 = .ok (.aload_n 0, 1) := by decide +kernel
theorem dX3_init_1 : decode cX3_init 1 = .ok (.invokespecial 1, 3) := by decide +kernel
theorem dX3_init_4 : decode cX3_init 4 = .ok (.aload_n 0, 1) := by decide +kernel
theorem dX3_init_5 : decode cX3_init 5 = .ok (.new 7, 3) := by decide +kernel
theorem dX3_init_8 : decode cX3_init 8 = .ok (.dup, 1) := by decide +kernel
theorem dX3_init_9 : decode cX3_init 9 = .ok (.invokespecial 9, 3) := by decide +kernel
theorem dX3_init_12 : decode cX3_init 12 = .ok (.putfield 10, 3) := by decide +kernel
theorem dX3_init_15 : decode cX3_init 15 = .ok (.aload_n 0, 1) := by decide +kernel
theorem dX3_init_16 : decode cX3_init 16 = .ok (.new 7, 3) := by decide +kernel
theorem dX3_init_19 : decode cX3_init 19 = .ok (.dup, 1) := by decide +kernel
theorem dX3_init_20 : decode cX3_init 20 = .ok (.invokespecial 9, 3) := by decide +kernel
theorem dX3_init_23 : decode cX3_init 23 = .ok (.putfield 16, 3) := by decide +kernel
theorem dX3_init_26 : decode cX3_init 26 = .ok (.aload_n 0, 1) := by decide +kernel
theorem dX3_init_27 : decode cX3_init 27 = .ok (.new 7, 3) := by decide +kernel
theorem dX3_init_30 : decode cX3_init 30 = .ok (.dup, 1) := by decide +kernel
theorem dX3_init_31 : decode cX3_init 31 = .ok (.invokespecial 9, 3) := by decide +kernel
theorem dX3_init_34 : decode cX3_init 34 = .ok (.putfield 19, 3) := by decide +kernel
theorem dX3_init_37 : decode cX3_init 37 = .ok (.return_, 1) := by decide +kernel
theorem dX3_copyFrom_0 : decode cX3_copyFrom 0 = .ok (.aload_n 0, 1) := by decide +kernel
theorem dX3_copyFrom_1 : decode cX3_copyFrom 1 = .ok (.getfield 10, 3) := by decide +kernel
theorem dX3_copyFrom_4 : decode cX3_copyFrom 4 = .ok (.aload_n 1, 1) := by decide +kernel
theorem dX3_copyFrom_5 : decode cX3_copyFrom 5 = .ok (.getfield 10, 3) := by decide +kernel
theorem dX3_copyFrom_8 : decode cX3_copyFrom 8 = .ok (.invokevirtual 22, 3) := by decide +kernel
theorem dX3_copyFrom_11 : decode cX3_copyFrom 11 = .ok (.aload_n 1, 1) := by decide +kernel
theorem dX3_copyFrom_12 : decode cX3_copyFrom 12 = .ok (.getfield 26, 3) := by decide +kernel
theorem dX3_copyFrom_15 : decode cX3_copyFrom 15 = .ok (.ifCond .eq 14, 3) := by decide +kernel
theorem dX3_copyFrom_18 : decode cX3_copyFrom 18 = .ok (.aload_n 0, 1) := by decide +kernel
theorem dX3_copyFrom_19 : decode cX3_copyFrom 19 = .ok (.getfield 16, 3) := by decide +kernel
theorem dX3_copyFrom_22 : decode cX3_copyFrom 22 = .ok (.aload_n 1, 1) := by decide +kernel
theorem dX3_copyFrom_23 : decode cX3_copyFrom 23 = .ok (.getfield 16, 3) := by decide +kernel
theorem dX3_copyFrom_26 : decode cX3_copyFrom 26 = .ok (.invokevirtual 22, 3) := by decide +kernel
theorem dX3_copyFrom_29 : decode cX3_copyFrom 29 = .ok (.aload_n 1, 1) := by decide +kernel
theorem dX3_copyFrom_30 : decode cX3_copyFrom 30 = .ok (.getfield 30, 3) := by decide +kernel
theorem dX3_copyFrom_33 : decode cX3_copyFrom 33 = .ok (.ifCond .eq 14, 3) := by decide +kernel
theorem dX3_copyFrom_36 : decode cX3_copyFrom 36 = .ok (.aload_n 0, 1) := by decide +kernel
theorem dX3_copyFrom_37 : decode cX3_copyFrom 37 = .ok (.getfield 19, 3) := by decide +kernel
theorem dX3_copyFrom_40 : decode cX3_copyFrom 40 = .ok (.aload_n 1, 1) := by decide +kernel
theorem dX3_copyFrom_41 : decode cX3_copyFrom 41 = .ok (.getfield 19, 3) := by decide +kernel
theorem dX3_copyFrom_44 : decode cX3_copyFrom 44 = .ok (.invokevirtual 22, 3) := by decide +kernel
theorem dX3_copyFrom_47 : decode cX3_copyFrom 47 = .ok (.aload_n 0, 1) := by decide +kernel
theorem dX3_copyFrom_48 : decode cX3_copyFrom 48 = .ok (.aload_n 1, 1) := by decide +kernel
theorem dX3_copyFrom_49 : decode cX3_copyFrom 49 = .ok (.getfield 26, 3) := by decide +kernel
theorem dX3_copyFrom_52 : decode cX3_copyFrom 52 = .ok (.putfield 26, 3) := by decide +kernel
theorem dX3_copyFrom_55 : decode cX3_copyFrom 55 = .ok (.aload_n 0, 1) := by decide +kernel
theorem dX3_copyFrom_56 : decode cX3_copyFrom 56 = .ok (.aload_n 1, 1) := by decide +kernel
theorem dX3_copyFrom_57 : decode cX3_copyFrom 57 = .ok (.getfield 30, 3) := by decide +kernel
theorem dX3_copyFrom_60 : decode cX3_copyFrom 60 = .ok (.putfield 30, 3) := by decide +kernel
theorem dX3_copyFrom_63 : decode cX3_copyFrom 63 = .ok (.return_, 1) := by decide +kernel
theorem dX3_snapshot_0 : decode cX3_snapshot 0 = .ok (.iload_n 1, 1) := by decide +kernel
theorem dX3_snapshot_1 : decode cX3_snapshot 1 = .ok (.ifCond .ne 10, 3) := by decide +kernel
theorem dX3_snapshot_4 : decode cX3_snapshot 4 = .ok (.aload_n 0, 1) := by decide +kernel
theorem dX3_snapshot_5 : decode cX3_snapshot 5 = .ok (.getfield 16, 3) := by decide +kernel
theorem dX3_snapshot_8 : decode cX3_snapshot 8 = .ok (.goto 7, 3) := by decide +kernel
theorem dX3_snapshot_11 : decode cX3_snapshot 11 = .ok (.aload_n 0, 1) := by decide +kernel
theorem dX3_snapshot_12 : decode cX3_snapshot 12 = .ok (.getfield 19, 3) := by decide +kernel
theorem dX3_snapshot_15 : decode cX3_snapshot 15 = .ok (.areturn, 1) := by decide +kernel
theorem dX3_isKept_0 : decode cX3_isKept 0 = .ok (.iload_n 1, 1) := by decide +kernel
theorem dX3_isKept_1 : decode cX3_isKept 1 = .ok (.ifCond .ne 10, 3) := by decide +kernel
theorem dX3_isKept_4 : decode cX3_isKept 4 = .ok (.aload_n 0, 1) := by decide +kernel
theorem dX3_isKept_5 : decode cX3_isKept 5 = .ok (.getfield 26, 3) := by decide +kernel
theorem dX3_isKept_8 : decode cX3_isKept 8 = .ok (.goto 7, 3) := by decide +kernel
theorem dX3_isKept_11 : decode cX3_isKept 11 = .ok (.aload_n 0, 1) := by decide +kernel
theorem dX3_isKept_12 : decode cX3_isKept 12 = .ok (.getfield 30, 3) := by decide +kernel
theorem dX3_isKept_15 : decode cX3_isKept 15 = .ok (.ireturn, 1) := by decide +kernel
theorem dX3_numberKept_0 : decode cX3_numberKept 0 = .ok (.aload_n 0, 1) := by decide +kernel
theorem dX3_numberKept_1 : decode cX3_numberKept 1 = .ok (.getfield 26, 3) := by decide +kernel
theorem dX3_numberKept_4 : decode cX3_numberKept 4 = .ok (.ifCond .eq 7, 3) := by decide +kernel
theorem dX3_numberKept_7 : decode cX3_numberKept 7 = .ok (.iconst 1, 1) := by decide +kernel
theorem dX3_numberKept_8 : decode cX3_numberKept 8 = .ok (.goto 4, 3) := by decide +kernel
theorem dX3_numberKept_11 : decode cX3_numberKept 11 = .ok (.iconst 0, 1) := by decide +kernel
theorem dX3_numberKept_12 : decode cX3_numberKept 12 = .ok (.aload_n 0, 1) := by decide +kernel
theorem dX3_numberKept_13 : decode cX3_numberKept 13 = .ok (.getfield 30, 3) := by decide +kernel
theorem dX3_numberKept_16 : decode cX3_numberKept 16 = .ok (.ifCond .eq 7, 3) := by decide +kernel
theorem dX3_numberKept_19 : decode cX3_numberKept 19 = .ok (.iconst 1, 1) := by decide +kernel
theorem dX3_numberKept_20 : decode cX3_numberKept 20 = .ok (.goto 4, 3) := by decide +kernel
theorem dX3_numberKept_23 : decode cX3_numberKept 23 = .ok (.iconst 0, 1) := by decide +kernel
theorem dX3_numberKept_24 : decode cX3_numberKept 24 = .ok (.iadd, 1) := by decide +kernel
theorem dX3_numberKept_25 : decode cX3_numberKept 25 = .ok (.ireturn, 1) := by decide +kernel
theorem dX3_keep_0 : decode cX3_keep 0 = .ok (.aload_n 0, 1) := by decide +kernel
theorem dX3_keep_1 : decode cX3_keep 1 = .ok (.iload_n 1, 1) := by decide +kernel
theorem dX3_keep_2 : decode cX3_keep 2 = .ok (.invokevirtual 33, 3) := by decide +kernel
theorem dX3_keep_5 : decode cX3_keep 5 = .ok (.aload_n 0, 1) := by decide +kernel
theorem dX3_keep_6 : decode cX3_keep 6 = .ok (.getfield 10, 3) := by decide +kernel
theorem dX3_keep_9 : decode cX3_keep 9 = .ok (.invokevirtual 22, 3) := by decide +kernel
theorem dX3_keep_12 : decode cX3_keep 12 = .ok (.iload_n 1, 1) := by decide +kernel
theorem dX3_keep_13 : decode cX3_keep 13 = .ok (.ifCond .ne 11, 3) := by decide +kernel
theorem dX3_keep_16 : decode cX3_keep 16 = .ok (.aload_n 0, 1) := by decide +kernel
theorem dX3_keep_17 : decode cX3_keep 17 = .ok (.iconst 1, 1) := by decide +kernel
theorem dX3_keep_18 : decode cX3_keep 18 = .ok (.putfield 26, 3) := by decide +kernel
theorem dX3_keep_21 : decode cX3_keep 21 = .ok (.goto 8, 3) := by decide +kernel
theorem dX3_keep_24 : decode cX3_keep 24 = .ok (.aload_n 0, 1) := by decide +kernel
theorem dX3_keep_25 : decode cX3_keep 25 = .ok (.iconst 1, 1) := by decide +kernel
theorem dX3_keep_26 : decode cX3_keep 26 = .ok (.putfield 30, 3) := by decide +kernel
theorem dX3_keep_29 : decode cX3_keep 29 = .ok (.return_, 1) := by decide +kernel
theorem dX3_bringUp_0 : decode cX3_bringUp 0 = .ok (.aload_n 0, 1) := by decide +kernel
theorem dX3_bringUp_1 : decode cX3_bringUp 1 = .ok (.getfield 10, 3) := by decide +kernel
theorem dX3_bringUp_4 : decode cX3_bringUp 4 = .ok (.aload_n 0, 1) := by decide +kernel
theorem dX3_bringUp_5 : decode cX3_bringUp 5 = .ok (.iload_n 1, 1) := by decide +kernel
theorem dX3_bringUp_6 : decode cX3_bringUp 6 = .ok (.invokevirtual 33, 3) := by decide +kernel
theorem dX3_bringUp_9 : decode cX3_bringUp 9 = .ok (.invokevirtual 22, 3) := by decide +kernel
theorem dX3_bringUp_12 : decode cX3_bringUp 12 = .ok (.return_, 1) := by decide +kernel
theorem dX4_init_0 : decode cX4_init 0 = .ok (.aload_n 0, 1) := by decide +kernel
theorem dX4_init_1 : decode cX4_init 1 = .ok (.invokespecial 3, 3) := by decide +kernel
theorem dX4_init_4 : decode cX4_init 4 = .ok (.aload_n 0, 1) := by decide +kernel
theorem dX4_init_5 : decode cX4_init 5 = .ok (.bipush 80, 2) := by decide +kernel
theorem dX4_init_7 : decode cX4_init 7 = .ok (.newarray .char, 2) := by decide +kernel
theorem dX4_init_9 : decode cX4_init 9 = .ok (.putfield 9, 3) := by decide +kernel
theorem dX4_init_12 : decode cX4_init 12 = .ok (.return_, 1) := by decide +kernel
theorem dX5_init_0 : decode cX5_init 0 = .ok (.aload_n 0, 1) := by decide +kernel
theorem dX5_init_1 : decode cX5_init 1 = .ok (.invokespecial 3, 3) := by decide +kernel
theorem dX5_init_4 : decode cX5_init 4 = .ok (.aload_n 0, 1) := by decide +kernel
theorem dX5_init_5 : decode cX5_init 5 = .ok (.new 9, 3) := by decide +kernel
theorem dX5_init_8 : decode cX5_init 8 = .ok (.dup, 1) := by decide +kernel
theorem dX5_init_9 : decode cX5_init 9 = .ok (.bipush 60, 2) := by decide +kernel
theorem dX5_init_11 : decode cX5_init 11 = .ok (.iconst 0, 1) := by decide +kernel
theorem dX5_init_12 : decode cX5_init 12 = .ok (.invokespecial 11, 3) := by decide +kernel
theorem dX5_init_15 : decode cX5_init 15 = .ok (.putfield 14, 3) := by decide +kernel
theorem dX5_init_18 : decode cX5_init 18 = .ok (.aload_n 0, 1) := by decide +kernel
theorem dX5_init_19 : decode cX5_init 19 = .ok (.new 9, 3) := by decide +kernel
theorem dX5_init_22 : decode cX5_init 22 = .ok (.dup, 1) := by decide +kernel
theorem dX5_init_23 : decode cX5_init 23 = .ok (.bipush 60, 2) := by decide +kernel
theorem dX5_init_25 : decode cX5_init 25 = .ok (.iconst 0, 1) := by decide +kernel
theorem dX5_init_26 : decode cX5_init 26 = .ok (.invokespecial 11, 3) := by decide +kernel
theorem dX5_init_29 : decode cX5_init 29 = .ok (.putfield 20, 3) := by decide +kernel
theorem dX5_init_32 : decode cX5_init 32 = .ok (.aload_n 0, 1) := by decide +kernel
theorem dX5_init_33 : decode cX5_init 33 = .ok (.new 9, 3) := by decide +kernel
theorem dX5_init_36 : decode cX5_init 36 = .ok (.dup, 1) := by decide +kernel
theorem dX5_init_37 : decode cX5_init 37 = .ok (.bipush 60, 2) := by decide +kernel
theorem dX5_init_39 : decode cX5_init 39 = .ok (.iconst 0, 1) := by decide +kernel
theorem dX5_init_40 : decode cX5_init 40 = .ok (.invokespecial 11, 3) := by decide +kernel
theorem dX5_init_43 : decode cX5_init 43 = .ok (.putfield 23, 3) := by decide +kernel
theorem dX5_init_46 : decode cX5_init 46 = .ok (.aload_n 0, 1) := by decide +kernel
theorem dX5_init_47 : decode cX5_init 47 = .ok (.new 9, 3) := by decide +kernel
theorem dX5_init_50 : decode cX5_init 50 = .ok (.dup, 1) := by decide +kernel
theorem dX5_init_51 : decode cX5_init 51 = .ok (.bipush 24, 2) := by decide +kernel
theorem dX5_init_53 : decode cX5_init 53 = .ok (.iconst 0, 1) := by decide +kernel
theorem dX5_init_54 : decode cX5_init 54 = .ok (.invokespecial 11, 3) := by decide +kernel
theorem dX5_init_57 : decode cX5_init 57 = .ok (.putfield 26, 3) := by decide +kernel
theorem dX5_init_60 : decode cX5_init 60 = .ok (.return_, 1) := by decide +kernel
theorem dX5_copyFrom_0 : decode cX5_copyFrom 0 = .ok (.aload_n 0, 1) := by decide +kernel
theorem dX5_copyFrom_1 : decode cX5_copyFrom 1 = .ok (.getfield 14, 3) := by decide +kernel
theorem dX5_copyFrom_4 : decode cX5_copyFrom 4 = .ok (.aload_n 1, 1) := by decide +kernel
theorem dX5_copyFrom_5 : decode cX5_copyFrom 5 = .ok (.getfield 14, 3) := by decide +kernel
theorem dX5_copyFrom_8 : decode cX5_copyFrom 8 = .ok (.invokevirtual 29, 3) := by decide +kernel
theorem dX5_copyFrom_11 : decode cX5_copyFrom 11 = .ok (.aload_n 0, 1) := by decide +kernel
theorem dX5_copyFrom_12 : decode cX5_copyFrom 12 = .ok (.getfield 20, 3) := by decide +kernel
theorem dX5_copyFrom_15 : decode cX5_copyFrom 15 = .ok (.aload_n 1, 1) := by decide +kernel
theorem dX5_copyFrom_16 : decode cX5_copyFrom 16 = .ok (.getfield 20, 3) := by decide +kernel
theorem dX5_copyFrom_19 : decode cX5_copyFrom 19 = .ok (.invokevirtual 29, 3) := by decide +kernel
theorem dX5_copyFrom_22 : decode cX5_copyFrom 22 = .ok (.aload_n 0, 1) := by decide +kernel
theorem dX5_copyFrom_23 : decode cX5_copyFrom 23 = .ok (.getfield 23, 3) := by decide +kernel
theorem dX5_copyFrom_26 : decode cX5_copyFrom 26 = .ok (.aload_n 1, 1) := by decide +kernel
theorem dX5_copyFrom_27 : decode cX5_copyFrom 27 = .ok (.getfield 23, 3) := by decide +kernel
theorem dX5_copyFrom_30 : decode cX5_copyFrom 30 = .ok (.invokevirtual 29, 3) := by decide +kernel
theorem dX5_copyFrom_33 : decode cX5_copyFrom 33 = .ok (.aload_n 0, 1) := by decide +kernel
theorem dX5_copyFrom_34 : decode cX5_copyFrom 34 = .ok (.getfield 26, 3) := by decide +kernel
theorem dX5_copyFrom_37 : decode cX5_copyFrom 37 = .ok (.aload_n 1, 1) := by decide +kernel
theorem dX5_copyFrom_38 : decode cX5_copyFrom 38 = .ok (.getfield 26, 3) := by decide +kernel
theorem dX5_copyFrom_41 : decode cX5_copyFrom 41 = .ok (.invokevirtual 29, 3) := by decide +kernel
theorem dX5_copyFrom_44 : decode cX5_copyFrom 44 = .ok (.aload_n 0, 1) := by decide +kernel
theorem dX5_copyFrom_45 : decode cX5_copyFrom 45 = .ok (.aload_n 1, 1) := by decide +kernel
theorem dX5_copyFrom_46 : decode cX5_copyFrom 46 = .ok (.getfield 33, 3) := by decide +kernel
theorem dX5_copyFrom_49 : decode cX5_copyFrom 49 = .ok (.putfield 33, 3) := by decide +kernel
theorem dX5_copyFrom_52 : decode cX5_copyFrom 52 = .ok (.return_, 1) := by decide +kernel
theorem dX5_addNew_0 : decode cX5_addNew 0 = .ok (.aload_n 0, 1) := by decide +kernel
theorem dX5_addNew_1 : decode cX5_addNew 1 = .ok (.getfield 14, 3) := by decide +kernel
theorem dX5_addNew_4 : decode cX5_addNew 4 = .ok (.aload_n 0, 1) := by decide +kernel
theorem dX5_addNew_5 : decode cX5_addNew 5 = .ok (.getfield 33, 3) := by decide +kernel
theorem dX5_addNew_8 : decode cX5_addNew 8 = .ok (.iload_n 1, 1) := by decide +kernel
theorem dX5_addNew_9 : decode cX5_addNew 9 = .ok (.invokevirtual 37, 3) := by decide +kernel
theorem dX5_addNew_12 : decode cX5_addNew 12 = .ok (.aload_n 0, 1) := by decide +kernel
theorem dX5_addNew_13 : decode cX5_addNew 13 = .ok (.getfield 26, 3) := by decide +kernel
theorem dX5_addNew_16 : decode cX5_addNew 16 = .ok (.iload_n 1, 1) := by decide +kernel
theorem dX5_addNew_17 : decode cX5_addNew 17 = .ok (.iconst 1, 1) := by decide +kernel
theorem dX5_addNew_18 : decode cX5_addNew 18 = .ok (.invokevirtual 40, 3) := by decide +kernel
theorem dX5_addNew_21 : decode cX5_addNew 21 = .ok (.aload_n 0, 1) := by decide +kernel
theorem dX5_addNew_22 : decode cX5_addNew 22 = .ok (.dup, 1) := by decide +kernel
theorem dX5_addNew_23 : decode cX5_addNew 23 = .ok (.getfield 33, 3) := by decide +kernel
theorem dX5_addNew_26 : decode cX5_addNew 26 = .ok (.iconst 1, 1) := by decide +kernel
theorem dX5_addNew_27 : decode cX5_addNew 27 = .ok (.iadd, 1) := by decide +kernel
theorem dX5_addNew_28 : decode cX5_addNew 28 = .ok (.putfield 33, 3) := by decide +kernel
theorem dX5_addNew_31 : decode cX5_addNew 31 = .ok (.return_, 1) := by decide +kernel
theorem dX5_move_0 : decode cX5_move 0 = .ok (.aload_n 0, 1) := by decide +kernel
theorem dX5_move_1 : decode cX5_move 1 = .ok (.getfield 26, 3) := by decide +kernel
theorem dX5_move_4 : decode cX5_move 4 = .ok (.aload_n 0, 1) := by decide +kernel
theorem dX5_move_5 : decode cX5_move 5 = .ok (.getfield 14, 3) := by decide +kernel
theorem dX5_move_8 : decode cX5_move 8 = .ok (.iload_n 1, 1) := by decide +kernel
theorem dX5_move_9 : decode cX5_move 9 = .ok (.invokevirtual 43, 3) := by decide +kernel
theorem dX5_move_12 : decode cX5_move 12 = .ok (.iconst (-1), 1) := by decide +kernel
theorem dX5_move_13 : decode cX5_move 13 = .ok (.invokevirtual 40, 3) := by decide +kernel
theorem dX5_move_16 : decode cX5_move 16 = .ok (.aload_n 0, 1) := by decide +kernel
theorem dX5_move_17 : decode cX5_move 17 = .ok (.getfield 14, 3) := by decide +kernel
theorem dX5_move_20 : decode cX5_move 20 = .ok (.iload_n 1, 1) := by decide +kernel
theorem dX5_move_21 : decode cX5_move 21 = .ok (.iload_n 2, 1) := by decide +kernel
theorem dX5_move_22 : decode cX5_move 22 = .ok (.invokevirtual 37, 3) := by decide +kernel
theorem dX5_move_25 : decode cX5_move 25 = .ok (.aload_n 0, 1) := by decide +kernel
theorem dX5_move_26 : decode cX5_move 26 = .ok (.getfield 26, 3) := by decide +kernel
theorem dX5_move_29 : decode cX5_move 29 = .ok (.iload_n 2, 1) := by decide +kernel
theorem dX5_move_30 : decode cX5_move 30 = .ok (.iconst 1, 1) := by decide +kernel
theorem dX5_move_31 : decode cX5_move 31 = .ok (.invokevirtual 40, 3) := by decide +kernel
theorem dX5_move_34 : decode cX5_move 34 = .ok (.return_, 1) := by decide +kernel
theorem dX5_isBroken_0 : decode cX5_isBroken 0 = .ok (.aload_n 0, 1) := by decide +kernel
theorem dX5_isBroken_1 : decode cX5_isBroken 1 = .ok (.getfield 20, 3) := by decide +kernel
theorem dX5_isBroken_4 : decode cX5_isBroken 4 = .ok (.iload_n 1, 1) := by decide +kernel
theorem dX5_isBroken_5 : decode cX5_isBroken 5 = .ok (.invokevirtual 43, 3) := by decide +kernel
theorem dX5_isBroken_8 : decode cX5_isBroken 8 = .ok (.bipush 32, 2) := by decide +kernel
theorem dX5_isBroken_10 : decode cX5_isBroken 10 = .ok (.if_icmp .lt 7, 3) := by decide +kernel
theorem dX5_isBroken_13 : decode cX5_isBroken 13 = .ok (.iconst 1, 1) := by decide +kernel
theorem dX5_isBroken_14 : decode cX5_isBroken 14 = .ok (.goto 4, 3) := by decide +kernel
theorem dX5_isBroken_17 : decode cX5_isBroken 17 = .ok (.iconst 0, 1) := by decide +kernel
theorem dX5_isBroken_18 : decode cX5_isBroken 18 = .ok (.ireturn, 1) := by decide +kernel
theorem dX5_numberAt_0 : decode cX5_numberAt 0 = .ok (.aload_n 0, 1) := by decide +kernel
theorem dX5_numberAt_1 : decode cX5_numberAt 1 = .ok (.getfield 26, 3) := by decide +kernel
theorem dX5_numberAt_4 : decode cX5_numberAt 4 = .ok (.iload_n 1, 1) := by decide +kernel
theorem dX5_numberAt_5 : decode cX5_numberAt 5 = .ok (.invokevirtual 43, 3) := by decide +kernel
theorem dX5_numberAt_8 : decode cX5_numberAt 8 = .ok (.ireturn, 1) := by decide +kernel
theorem dX5_numberOfKind_0 : decode cX5_numberOfKind 0 = .ok (.iconst 0, 1) := by decide +kernel
theorem dX5_numberOfKind_1 : decode cX5_numberOfKind 1 = .ok (.istore_n 2, 1) := by decide +kernel
theorem dX5_numberOfKind_2 : decode cX5_numberOfKind 2 = .ok (.iconst 0, 1) := by decide +kernel
theorem dX5_numberOfKind_3 : decode cX5_numberOfKind 3 = .ok (.istore_n 3, 1) := by decide +kernel
theorem dX5_numberOfKind_4 : decode cX5_numberOfKind 4 = .ok (.iload_n 3, 1) := by decide +kernel
theorem dX5_numberOfKind_5 : decode cX5_numberOfKind 5 = .ok (.bipush 23, 2) := by decide +kernel
theorem dX5_numberOfKind_7 : decode cX5_numberOfKind 7 = .ok (.if_icmp .gt 25, 3) := by decide +kernel
theorem dX5_numberOfKind_10 : decode cX5_numberOfKind 10 = .ok (.iload_n 3, 1) := by decide +kernel
theorem dX5_numberOfKind_11 : decode cX5_numberOfKind 11 = .ok (.invokestatic 47, 3) := by decide +kernel
theorem dX5_numberOfKind_14 : decode cX5_numberOfKind 14 = .ok (.iload_n 1, 1) := by decide +kernel
theorem dX5_numberOfKind_15 : decode cX5_numberOfKind 15 = .ok (.if_icmp .ne 11, 3) := by decide +kernel
theorem dX5_numberOfKind_18 : decode cX5_numberOfKind 18 = .ok (.iload_n 2, 1) := by decide +kernel
theorem dX5_numberOfKind_19 : decode cX5_numberOfKind 19 = .ok (.aload_n 0, 1) := by decide +kernel
theorem dX5_numberOfKind_20 : decode cX5_numberOfKind 20 = .ok (.iload_n 3, 1) := by decide +kernel
theorem dX5_numberOfKind_21 : decode cX5_numberOfKind 21 = .ok (.invokevirtual 50, 3) := by decide +kernel
theorem dX5_numberOfKind_24 : decode cX5_numberOfKind 24 = .ok (.iadd, 1) := by decide +kernel
theorem dX5_numberOfKind_25 : decode cX5_numberOfKind 25 = .ok (.istore_n 2, 1) := by decide +kernel
theorem dX5_numberOfKind_26 : decode cX5_numberOfKind 26 = .ok (.iinc 3 1, 3) := by decide +kernel
theorem dX5_numberOfKind_29 : decode cX5_numberOfKind 29 = .ok (.goto (-25), 3) := by decide +kernel
theorem dX5_numberOfKind_32 : decode cX5_numberOfKind 32 = .ok (.iload_n 2, 1) := by decide +kernel
theorem dX5_numberOfKind_33 : decode cX5_numberOfKind 33 = .ok (.ireturn, 1) := by decide +kernel
theorem dX5_numberBroken_0 : decode cX5_numberBroken 0 = .ok (.iconst 0, 1) := by decide +kernel
theorem dX5_numberBroken_1 : decode cX5_numberBroken 1 = .ok (.istore_n 1, 1) := by decide +kernel
theorem dX5_numberBroken_2 : decode cX5_numberBroken 2 = .ok (.iconst 0, 1) := by decide +kernel
theorem dX5_numberBroken_3 : decode cX5_numberBroken 3 = .ok (.istore_n 2, 1) := by decide +kernel
theorem dX5_numberBroken_4 : decode cX5_numberBroken 4 = .ok (.iload_n 2, 1) := by decide +kernel
theorem dX5_numberBroken_5 : decode cX5_numberBroken 5 = .ok (.aload_n 0, 1) := by decide +kernel
theorem dX5_numberBroken_6 : decode cX5_numberBroken 6 = .ok (.getfield 33, 3) := by decide +kernel
theorem dX5_numberBroken_9 : decode cX5_numberBroken 9 = .ok (.if_icmp .ge 33, 3) := by decide +kernel
theorem dX5_numberBroken_12 : decode cX5_numberBroken 12 = .ok (.aload_n 0, 1) := by decide +kernel
theorem dX5_numberBroken_13 : decode cX5_numberBroken 13 = .ok (.iload_n 2, 1) := by decide +kernel
theorem dX5_numberBroken_14 : decode cX5_numberBroken 14 = .ok (.invokevirtual 53, 3) := by decide +kernel
theorem dX5_numberBroken_17 : decode cX5_numberBroken 17 = .ok (.ifCond .eq 19, 3) := by decide +kernel
theorem dX5_numberBroken_20 : decode cX5_numberBroken 20 = .ok (.aload_n 0, 1) := by decide +kernel
theorem dX5_numberBroken_21 : decode cX5_numberBroken 21 = .ok (.getfield 14, 3) := by decide +kernel
theorem dX5_numberBroken_24 : decode cX5_numberBroken 24 = .ok (.iload_n 2, 1) := by decide +kernel
theorem dX5_numberBroken_25 : decode cX5_numberBroken 25 = .ok (.invokevirtual 43, 3) := by decide +kernel
theorem dX5_numberBroken_28 : decode cX5_numberBroken 28 = .ok (.bipush 23, 2) := by decide +kernel
theorem dX5_numberBroken_30 : decode cX5_numberBroken 30 = .ok (.if_icmp .eq 6, 3) := by decide +kernel
theorem dX5_numberBroken_33 : decode cX5_numberBroken 33 = .ok (.iinc 1 1, 3) := by decide +kernel
theorem dX5_numberBroken_36 : decode cX5_numberBroken 36 = .ok (.iinc 2 1, 3) := by decide +kernel
theorem dX5_numberBroken_39 : decode cX5_numberBroken 39 = .ok (.goto (-35), 3) := by decide +kernel
theorem dX5_numberBroken_42 : decode cX5_numberBroken 42 = .ok (.iload_n 1, 1) := by decide +kernel
theorem dX5_numberBroken_43 : decode cX5_numberBroken 43 = .ok (.ireturn, 1) := by decide +kernel
theorem dX5_brokenAt_0 : decode cX5_brokenAt 0 = .ok (.iconst 0, 1) := by decide +kernel
theorem dX5_brokenAt_1 : decode cX5_brokenAt 1 = .ok (.istore_n 2, 1) := by decide +kernel
theorem dX5_brokenAt_2 : decode cX5_brokenAt 2 = .ok (.iconst 0, 1) := by decide +kernel
theorem dX5_brokenAt_3 : decode cX5_brokenAt 3 = .ok (.istore_n 3, 1) := by decide +kernel
theorem dX5_brokenAt_4 : decode cX5_brokenAt 4 = .ok (.iload_n 3, 1) := by decide +kernel
theorem dX5_brokenAt_5 : decode cX5_brokenAt 5 = .ok (.aload_n 0, 1) := by decide +kernel
theorem dX5_brokenAt_6 : decode cX5_brokenAt 6 = .ok (.getfield 33, 3) := by decide +kernel
theorem dX5_brokenAt_9 : decode cX5_brokenAt 9 = .ok (.if_icmp .ge 32, 3) := by decide +kernel
theorem dX5_brokenAt_12 : decode cX5_brokenAt 12 = .ok (.aload_n 0, 1) := by decide +kernel
theorem dX5_brokenAt_13 : decode cX5_brokenAt 13 = .ok (.getfield 14, 3) := by decide +kernel
theorem dX5_brokenAt_16 : decode cX5_brokenAt 16 = .ok (.iload_n 3, 1) := by decide +kernel
theorem dX5_brokenAt_17 : decode cX5_brokenAt 17 = .ok (.invokevirtual 43, 3) := by decide +kernel
theorem dX5_brokenAt_20 : decode cX5_brokenAt 20 = .ok (.iload_n 1, 1) := by decide +kernel
theorem dX5_brokenAt_21 : decode cX5_brokenAt 21 = .ok (.if_icmp .ne 14, 3) := by decide +kernel
theorem dX5_brokenAt_24 : decode cX5_brokenAt 24 = .ok (.aload_n 0, 1) := by decide +kernel
theorem dX5_brokenAt_25 : decode cX5_brokenAt 25 = .ok (.iload_n 3, 1) := by decide +kernel
theorem dX5_brokenAt_26 : decode cX5_brokenAt 26 = .ok (.invokevirtual 53, 3) := by decide +kernel
theorem dX5_brokenAt_29 : decode cX5_brokenAt 29 = .ok (.ifCond .eq 6, 3) := by decide +kernel
theorem dX5_brokenAt_32 : decode cX5_brokenAt 32 = .ok (.iinc 2 1, 3) := by decide +kernel
theorem dX5_brokenAt_35 : decode cX5_brokenAt 35 = .ok (.iinc 3 1, 3) := by decide +kernel
theorem dX5_brokenAt_38 : decode cX5_brokenAt 38 = .ok (.goto (-34), 3) := by decide +kernel
theorem dX5_brokenAt_41 : decode cX5_brokenAt 41 = .ok (.iload_n 2, 1) := by decide +kernel
theorem dX5_brokenAt_42 : decode cX5_brokenAt 42 = .ok (.ireturn, 1) := by decide +kernel
theorem dX5_wholeAt_0 : decode cX5_wholeAt 0 = .ok (.aload_n 0, 1) := by decide +kernel
theorem dX5_wholeAt_1 : decode cX5_wholeAt 1 = .ok (.iload_n 1, 1) := by decide +kernel
theorem dX5_wholeAt_2 : decode cX5_wholeAt 2 = .ok (.invokevirtual 50, 3) := by decide +kernel
theorem dX5_wholeAt_5 : decode cX5_wholeAt 5 = .ok (.aload_n 0, 1) := by decide +kernel
theorem dX5_wholeAt_6 : decode cX5_wholeAt 6 = .ok (.iload_n 1, 1) := by decide +kernel
theorem dX5_wholeAt_7 : decode cX5_wholeAt 7 = .ok (.invokevirtual 57, 3) := by decide +kernel
theorem dX5_wholeAt_10 : decode cX5_wholeAt 10 = .ok (.isub, 1) := by decide +kernel
theorem dX5_wholeAt_11 : decode cX5_wholeAt 11 = .ok (.ireturn, 1) := by decide +kernel
theorem dX5_nthAt_0 : decode cX5_nthAt 0 = .ok (.iconst 0, 1) := by decide +kernel
theorem dX5_nthAt_1 : decode cX5_nthAt 1 = .ok (.istore_n 3, 1) := by decide +kernel
theorem dX5_nthAt_2 : decode cX5_nthAt 2 = .ok (.iconst 0, 1) := by decide +kernel
theorem dX5_nthAt_3 : decode cX5_nthAt 3 = .ok (.istore 4, 2) := by decide +kernel
theorem dX5_nthAt_5 : decode cX5_nthAt 5 = .ok (.iload 4, 2) := by decide +kernel
theorem dX5_nthAt_7 : decode cX5_nthAt 7 = .ok (.aload_n 0, 1) := by decide +kernel
theorem dX5_nthAt_8 : decode cX5_nthAt 8 = .ok (.getfield 33, 3) := by decide +kernel
theorem dX5_nthAt_11 : decode cX5_nthAt 11 = .ok (.if_icmp .ge 33, 3) := by decide +kernel
theorem dX5_nthAt_14 : decode cX5_nthAt 14 = .ok (.aload_n 0, 1) := by decide +kernel
theorem dX5_nthAt_15 : decode cX5_nthAt 15 = .ok (.getfield 14, 3) := by decide +kernel
theorem dX5_nthAt_18 : decode cX5_nthAt 18 = .ok (.iload 4, 2) := by decide +kernel
theorem dX5_nthAt_20 : decode cX5_nthAt 20 = .ok (.invokevirtual 43, 3) := by decide +kernel
theorem dX5_nthAt_23 : decode cX5_nthAt 23 = .ok (.iload_n 1, 1) := by decide +kernel
theorem dX5_nthAt_24 : decode cX5_nthAt 24 = .ok (.if_icmp .ne 14, 3) := by decide +kernel
theorem dX5_nthAt_27 : decode cX5_nthAt 27 = .ok (.iload_n 3, 1) := by decide +kernel
theorem dX5_nthAt_28 : decode cX5_nthAt 28 = .ok (.iload_n 2, 1) := by decide +kernel
theorem dX5_nthAt_29 : decode cX5_nthAt 29 = .ok (.if_icmp .ne 6, 3) := by decide +kernel
theorem dX5_nthAt_32 : decode cX5_nthAt 32 = .ok (.iload 4, 2) := by decide +kernel
theorem dX5_nthAt_34 : decode cX5_nthAt 34 = .ok (.ireturn, 1) := by decide +kernel
theorem dX5_nthAt_35 : decode cX5_nthAt 35 = .ok (.iinc 3 1, 3) := by decide +kernel
theorem dX5_nthAt_38 : decode cX5_nthAt 38 = .ok (.iinc 4 1, 3) := by decide +kernel
theorem dX5_nthAt_41 : decode cX5_nthAt 41 = .ok (.goto (-36), 3) := by decide +kernel
theorem dX5_nthAt_44 : decode cX5_nthAt 44 = .ok (.bipush (-9), 2) := by decide +kernel
theorem dX5_nthAt_46 : decode cX5_nthAt 46 = .ok (.ireturn, 1) := by decide +kernel
theorem dX5_leastWornAt_0 : decode cX5_leastWornAt 0 = .ok (.bipush (-9), 2) := by decide +kernel
theorem dX5_leastWornAt_2 : decode cX5_leastWornAt 2 = .ok (.istore 4, 2) := by decide +kernel
theorem dX5_leastWornAt_4 : decode cX5_leastWornAt 4 = .ok (.iconst 0, 1) := by decide +kernel
theorem dX5_leastWornAt_5 : decode cX5_leastWornAt 5 = .ok (.istore 5, 2) := by decide +kernel
theorem dX5_leastWornAt_7 : decode cX5_leastWornAt 7 = .ok (.iload 5, 2) := by decide +kernel
theorem dX5_leastWornAt_9 : decode cX5_leastWornAt 9 = .ok (.aload_n 0, 1) := by decide +kernel
theorem dX5_leastWornAt_10 : decode cX5_leastWornAt 10 = .ok (.getfield 33, 3) := by decide +kernel
theorem dX5_leastWornAt_13 : decode cX5_leastWornAt 13 = .ok (.if_icmp .ge 85, 3) := by decide +kernel
theorem dX5_leastWornAt_16 : decode cX5_leastWornAt 16 = .ok (.aload_n 0, 1) := by decide +kernel
theorem dX5_leastWornAt_17 : decode cX5_leastWornAt 17 = .ok (.getfield 14, 3) := by decide +kernel
theorem dX5_leastWornAt_20 : decode cX5_leastWornAt 20 = .ok (.iload 5, 2) := by decide +kernel
theorem dX5_leastWornAt_22 : decode cX5_leastWornAt 22 = .ok (.invokevirtual 43, 3) := by decide +kernel
theorem dX5_leastWornAt_25 : decode cX5_leastWornAt 25 = .ok (.iload_n 1, 1) := by decide +kernel
theorem dX5_leastWornAt_26 : decode cX5_leastWornAt 26 = .ok (.if_icmp .ne 26, 3) := by decide +kernel
theorem dX5_leastWornAt_29 : decode cX5_leastWornAt 29 = .ok (.aload_n 0, 1) := by decide +kernel
theorem dX5_leastWornAt_30 : decode cX5_leastWornAt 30 = .ok (.getfield 20, 3) := by decide +kernel
theorem dX5_leastWornAt_33 : decode cX5_leastWornAt 33 = .ok (.iload 5, 2) := by decide +kernel
theorem dX5_leastWornAt_35 : decode cX5_leastWornAt 35 = .ok (.invokevirtual 43, 3) := by decide +kernel
theorem dX5_leastWornAt_38 : decode cX5_leastWornAt 38 = .ok (.iload_n 2, 1) := by decide +kernel
theorem dX5_leastWornAt_39 : decode cX5_leastWornAt 39 = .ok (.if_icmp .gt 13, 3) := by decide +kernel
theorem dX5_leastWornAt_42 : decode cX5_leastWornAt 42 = .ok (.iload 5, 2) := by decide +kernel
theorem dX5_leastWornAt_44 : decode cX5_leastWornAt 44 = .ok (.iload_n 3, 1) := by decide +kernel
theorem dX5_leastWornAt_45 : decode cX5_leastWornAt 45 = .ok (.if_icmp .eq 7, 3) := by decide +kernel
theorem dX5_leastWornAt_48 : decode cX5_leastWornAt 48 = .ok (.iconst 1, 1) := by decide +kernel
theorem dX5_leastWornAt_49 : decode cX5_leastWornAt 49 = .ok (.goto 4, 3) := by decide +kernel
theorem dX5_leastWornAt_52 : decode cX5_leastWornAt 52 = .ok (.iconst 0, 1) := by decide +kernel
theorem dX5_leastWornAt_53 : decode cX5_leastWornAt 53 = .ok (.istore 6, 2) := by decide +kernel
theorem dX5_leastWornAt_55 : decode cX5_leastWornAt 55 = .ok (.iload 6, 2) := by decide +kernel
theorem dX5_leastWornAt_57 : decode cX5_leastWornAt 57 = .ok (.ifCond .eq 35, 3) := by decide +kernel
theorem dX5_leastWornAt_60 : decode cX5_leastWornAt 60 = .ok (.iload 4, 2) := by decide +kernel
theorem dX5_leastWornAt_62 : decode cX5_leastWornAt 62 = .ok (.bipush (-9), 2) := by decide +kernel
theorem dX5_leastWornAt_64 : decode cX5_leastWornAt 64 = .ok (.if_icmp .eq 24, 3) := by decide +kernel
theorem dX5_leastWornAt_67 : decode cX5_leastWornAt 67 = .ok (.aload_n 0, 1) := by decide +kernel
theorem dX5_leastWornAt_68 : decode cX5_leastWornAt 68 = .ok (.getfield 20, 3) := by decide +kernel
theorem dX5_leastWornAt_71 : decode cX5_leastWornAt 71 = .ok (.iload 5, 2) := by decide +kernel
theorem dX5_leastWornAt_73 : decode cX5_leastWornAt 73 = .ok (.invokevirtual 43, 3) := by decide +kernel
theorem dX5_leastWornAt_76 : decode cX5_leastWornAt 76 = .ok (.aload_n 0, 1) := by decide +kernel
theorem dX5_leastWornAt_77 : decode cX5_leastWornAt 77 = .ok (.getfield 20, 3) := by decide +kernel
theorem dX5_leastWornAt_80 : decode cX5_leastWornAt 80 = .ok (.iload 4, 2) := by decide +kernel
theorem dX5_leastWornAt_82 : decode cX5_leastWornAt 82 = .ok (.invokevirtual 43, 3) := by decide +kernel
theorem dX5_leastWornAt_85 : decode cX5_leastWornAt 85 = .ok (.if_icmp .ge 7, 3) := by decide +kernel
theorem dX5_leastWornAt_88 : decode cX5_leastWornAt 88 = .ok (.iload 5, 2) := by decide +kernel
theorem dX5_leastWornAt_90 : decode cX5_leastWornAt 90 = .ok (.istore 4, 2) := by decide +kernel
theorem dX5_leastWornAt_92 : decode cX5_leastWornAt 92 = .ok (.iinc 5 1, 3) := by decide +kernel
theorem dX5_leastWornAt_95 : decode cX5_leastWornAt 95 = .ok (.goto (-88), 3) := by decide +kernel
theorem dX5_leastWornAt_98 : decode cX5_leastWornAt 98 = .ok (.iload 4, 2) := by decide +kernel
theorem dX5_leastWornAt_100 : decode cX5_leastWornAt 100 = .ok (.ireturn, 1) := by decide +kernel
theorem dX5_bestAt_0 : decode cX5_bestAt 0 = .ok (.aload_n 0, 1) := by decide +kernel
theorem dX5_bestAt_1 : decode cX5_bestAt 1 = .ok (.iload_n 1, 1) := by decide +kernel
theorem dX5_bestAt_2 : decode cX5_bestAt 2 = .ok (.bipush 31, 2) := by decide +kernel
theorem dX5_bestAt_4 : decode cX5_bestAt 4 = .ok (.bipush (-9), 2) := by decide +kernel
theorem dX5_bestAt_6 : decode cX5_bestAt 6 = .ok (.invokevirtual 60, 3) := by decide +kernel
theorem dX5_bestAt_9 : decode cX5_bestAt 9 = .ok (.ireturn, 1) := by decide +kernel
theorem dX5_worstAt_0 : decode cX5_worstAt 0 = .ok (.bipush (-9), 2) := by decide +kernel
theorem dX5_worstAt_2 : decode cX5_worstAt 2 = .ok (.istore_n 2, 1) := by decide +kernel
theorem dX5_worstAt_3 : decode cX5_worstAt 3 = .ok (.iconst 0, 1) := by decide +kernel
theorem dX5_worstAt_4 : decode cX5_worstAt 4 = .ok (.istore_n 3, 1) := by decide +kernel
theorem dX5_worstAt_5 : decode cX5_worstAt 5 = .ok (.iload_n 3, 1) := by decide +kernel
theorem dX5_worstAt_6 : decode cX5_worstAt 6 = .ok (.aload_n 0, 1) := by decide +kernel
theorem dX5_worstAt_7 : decode cX5_worstAt 7 = .ok (.getfield 33, 3) := by decide +kernel
theorem dX5_worstAt_10 : decode cX5_worstAt 10 = .ok (.if_icmp .ge 48, 3) := by decide +kernel
theorem dX5_worstAt_13 : decode cX5_worstAt 13 = .ok (.aload_n 0, 1) := by decide +kernel
theorem dX5_worstAt_14 : decode cX5_worstAt 14 = .ok (.getfield 14, 3) := by decide +kernel
theorem dX5_worstAt_17 : decode cX5_worstAt 17 = .ok (.iload_n 3, 1) := by decide +kernel
theorem dX5_worstAt_18 : decode cX5_worstAt 18 = .ok (.invokevirtual 43, 3) := by decide +kernel
theorem dX5_worstAt_21 : decode cX5_worstAt 21 = .ok (.iload_n 1, 1) := by decide +kernel
theorem dX5_worstAt_22 : decode cX5_worstAt 22 = .ok (.if_icmp .ne 30, 3) := by decide +kernel
theorem dX5_worstAt_25 : decode cX5_worstAt 25 = .ok (.iload_n 2, 1) := by decide +kernel
theorem dX5_worstAt_26 : decode cX5_worstAt 26 = .ok (.bipush (-9), 2) := by decide +kernel
theorem dX5_worstAt_28 : decode cX5_worstAt 28 = .ok (.if_icmp .eq 22, 3) := by decide +kernel
theorem dX5_worstAt_31 : decode cX5_worstAt 31 = .ok (.aload_n 0, 1) := by decide +kernel
theorem dX5_worstAt_32 : decode cX5_worstAt 32 = .ok (.getfield 20, 3) := by decide +kernel
theorem dX5_worstAt_35 : decode cX5_worstAt 35 = .ok (.iload_n 3, 1) := by decide +kernel
theorem dX5_worstAt_36 : decode cX5_worstAt 36 = .ok (.invokevirtual 43, 3) := by decide +kernel
theorem dX5_worstAt_39 : decode cX5_worstAt 39 = .ok (.aload_n 0, 1) := by decide +kernel
theorem dX5_worstAt_40 : decode cX5_worstAt 40 = .ok (.getfield 20, 3) := by decide +kernel
theorem dX5_worstAt_43 : decode cX5_worstAt 43 = .ok (.iload_n 2, 1) := by decide +kernel
theorem dX5_worstAt_44 : decode cX5_worstAt 44 = .ok (.invokevirtual 43, 3) := by decide +kernel
theorem dX5_worstAt_47 : decode cX5_worstAt 47 = .ok (.if_icmp .le 5, 3) := by decide +kernel
theorem dX5_worstAt_50 : decode cX5_worstAt 50 = .ok (.iload_n 3, 1) := by decide +kernel
theorem dX5_worstAt_51 : decode cX5_worstAt 51 = .ok (.istore_n 2, 1) := by decide +kernel
theorem dX5_worstAt_52 : decode cX5_worstAt 52 = .ok (.iinc 3 1, 3) := by decide +kernel
theorem dX5_worstAt_55 : decode cX5_worstAt 55 = .ok (.goto (-50), 3) := by decide +kernel
theorem dX5_worstAt_58 : decode cX5_worstAt 58 = .ok (.iload_n 2, 1) := by decide +kernel
theorem dX5_worstAt_59 : decode cX5_worstAt 59 = .ok (.ireturn, 1) := by decide +kernel
theorem dX5_meanWearAt_0 : decode cX5_meanWearAt 0 = .ok (.aload_n 0, 1) := by decide +kernel
theorem dX5_meanWearAt_1 : decode cX5_meanWearAt 1 = .ok (.iload_n 1, 1) := by decide +kernel
theorem dX5_meanWearAt_2 : decode cX5_meanWearAt 2 = .ok (.invokevirtual 50, 3) := by decide +kernel
theorem dX5_meanWearAt_5 : decode cX5_meanWearAt 5 = .ok (.istore_n 2, 1) := by decide +kernel
theorem dX5_meanWearAt_6 : decode cX5_meanWearAt 6 = .ok (.iload_n 2, 1) := by decide +kernel
theorem dX5_meanWearAt_7 : decode cX5_meanWearAt 7 = .ok (.ifCond .gt 5, 3) := by decide +kernel
theorem dX5_meanWearAt_10 : decode cX5_meanWearAt 10 = .ok (.iconst 0, 1) := by decide +kernel
theorem dX5_meanWearAt_11 : decode cX5_meanWearAt 11 = .ok (.ireturn, 1) := by decide +kernel
theorem dX5_meanWearAt_12 : decode cX5_meanWearAt 12 = .ok (.iconst 0, 1) := by decide +kernel
theorem dX5_meanWearAt_13 : decode cX5_meanWearAt 13 = .ok (.istore_n 3, 1) := by decide +kernel
theorem dX5_meanWearAt_14 : decode cX5_meanWearAt 14 = .ok (.iconst 0, 1) := by decide +kernel
theorem dX5_meanWearAt_15 : decode cX5_meanWearAt 15 = .ok (.istore 4, 2) := by decide +kernel
theorem dX5_meanWearAt_17 : decode cX5_meanWearAt 17 = .ok (.iload 4, 2) := by decide +kernel
theorem dX5_meanWearAt_19 : decode cX5_meanWearAt 19 = .ok (.aload_n 0, 1) := by decide +kernel
theorem dX5_meanWearAt_20 : decode cX5_meanWearAt 20 = .ok (.getfield 33, 3) := by decide +kernel
theorem dX5_meanWearAt_23 : decode cX5_meanWearAt 23 = .ok (.if_icmp .ge 34, 3) := by decide +kernel
theorem dX5_meanWearAt_26 : decode cX5_meanWearAt 26 = .ok (.aload_n 0, 1) := by decide +kernel
theorem dX5_meanWearAt_27 : decode cX5_meanWearAt 27 = .ok (.getfield 14, 3) := by decide +kernel
theorem dX5_meanWearAt_30 : decode cX5_meanWearAt 30 = .ok (.iload 4, 2) := by decide +kernel
theorem dX5_meanWearAt_32 : decode cX5_meanWearAt 32 = .ok (.invokevirtual 43, 3) := by decide +kernel
theorem dX5_meanWearAt_35 : decode cX5_meanWearAt 35 = .ok (.iload_n 1, 1) := by decide +kernel
theorem dX5_meanWearAt_36 : decode cX5_meanWearAt 36 = .ok (.if_icmp .ne 15, 3) := by decide +kernel
theorem dX5_meanWearAt_39 : decode cX5_meanWearAt 39 = .ok (.iload_n 3, 1) := by decide +kernel
theorem dX5_meanWearAt_40 : decode cX5_meanWearAt 40 = .ok (.aload_n 0, 1) := by decide +kernel
theorem dX5_meanWearAt_41 : decode cX5_meanWearAt 41 = .ok (.getfield 20, 3) := by decide +kernel
theorem dX5_meanWearAt_44 : decode cX5_meanWearAt 44 = .ok (.iload 4, 2) := by decide +kernel
theorem dX5_meanWearAt_46 : decode cX5_meanWearAt 46 = .ok (.invokevirtual 43, 3) := by decide +kernel
theorem dX5_meanWearAt_49 : decode cX5_meanWearAt 49 = .ok (.iadd, 1) := by decide +kernel
theorem dX5_meanWearAt_50 : decode cX5_meanWearAt 50 = .ok (.istore_n 3, 1) := by decide +kernel
theorem dX5_meanWearAt_51 : decode cX5_meanWearAt 51 = .ok (.iinc 4 1, 3) := by decide +kernel
theorem dX5_meanWearAt_54 : decode cX5_meanWearAt 54 = .ok (.goto (-37), 3) := by decide +kernel
theorem dX5_meanWearAt_57 : decode cX5_meanWearAt 57 = .ok (.bipush 100, 2) := by decide +kernel
theorem dX5_meanWearAt_59 : decode cX5_meanWearAt 59 = .ok (.iload_n 3, 1) := by decide +kernel
theorem dX5_meanWearAt_60 : decode cX5_meanWearAt 60 = .ok (.imul, 1) := by decide +kernel
theorem dX5_meanWearAt_61 : decode cX5_meanWearAt 61 = .ok (.bipush 8, 2) := by decide +kernel
theorem dX5_meanWearAt_63 : decode cX5_meanWearAt 63 = .ok (.iload_n 2, 1) := by decide +kernel
theorem dX5_meanWearAt_64 : decode cX5_meanWearAt 64 = .ok (.imul, 1) := by decide +kernel
theorem dX5_meanWearAt_65 : decode cX5_meanWearAt 65 = .ok (.idiv, 1) := by decide +kernel
theorem dX5_meanWearAt_66 : decode cX5_meanWearAt 66 = .ok (.ireturn, 1) := by decide +kernel
theorem dX6_init_0 : decode cX6_init 0 = .ok (.aload_n 0, 1) := by decide +kernel
theorem dX6_init_1 : decode cX6_init 1 = .ok (.invokespecial 3, 3) := by decide +kernel
theorem dX6_init_4 : decode cX6_init 4 = .ok (.aload_n 0, 1) := by decide +kernel
theorem dX6_init_5 : decode cX6_init 5 = .ok (.new 9, 3) := by decide +kernel
theorem dX6_init_8 : decode cX6_init 8 = .ok (.dup, 1) := by decide +kernel
theorem dX6_init_9 : decode cX6_init 9 = .ok (.invokespecial 11, 3) := by decide +kernel
theorem dX6_init_12 : decode cX6_init 12 = .ok (.putfield 12, 3) := by decide +kernel
theorem dX6_init_15 : decode cX6_init 15 = .ok (.aload_n 0, 1) := by decide +kernel
theorem dX6_init_16 : decode cX6_init 16 = .ok (.new 16, 3) := by decide +kernel
theorem dX6_init_19 : decode cX6_init 19 = .ok (.dup, 1) := by decide +kernel
theorem dX6_init_20 : decode cX6_init 20 = .ok (.invokespecial 18, 3) := by decide +kernel
theorem dX6_init_23 : decode cX6_init 23 = .ok (.putfield 19, 3) := by decide +kernel
theorem dX6_init_26 : decode cX6_init 26 = .ok (.aload_n 0, 1) := by decide +kernel
theorem dX6_init_27 : decode cX6_init 27 = .ok (.new 23, 3) := by decide +kernel
theorem dX6_init_30 : decode cX6_init 30 = .ok (.dup, 1) := by decide +kernel
theorem dX6_init_31 : decode cX6_init 31 = .ok (.invokespecial 25, 3) := by decide +kernel
theorem dX6_init_34 : decode cX6_init 34 = .ok (.putfield 26, 3) := by decide +kernel
theorem dX6_init_37 : decode cX6_init 37 = .ok (.return_, 1) := by decide +kernel
theorem dX6_buy_0 : decode cX6_buy 0 = .ok (.aload_n 0, 1) := by decide +kernel
theorem dX6_buy_1 : decode cX6_buy 1 = .ok (.getfield 12, 3) := by decide +kernel
theorem dX6_buy_4 : decode cX6_buy 4 = .ok (.getfield 30, 3) := by decide +kernel
theorem dX6_buy_7 : decode cX6_buy 7 = .ok (.iload_n 1, 1) := by decide +kernel
theorem dX6_buy_8 : decode cX6_buy 8 = .ok (.iload_n 2, 1) := by decide +kernel
theorem dX6_buy_9 : decode cX6_buy 9 = .ok (.invokevirtual 34, 3) := by decide +kernel
theorem dX6_buy_12 : decode cX6_buy 12 = .ok (.istore_n 3, 1) := by decide +kernel
theorem dX6_buy_13 : decode cX6_buy 13 = .ok (.iload_n 3, 1) := by decide +kernel
theorem dX6_buy_14 : decode cX6_buy 14 = .ok (.ifCond .eq 5, 3) := by decide +kernel
theorem dX6_buy_17 : decode cX6_buy 17 = .ok (.iload_n 3, 1) := by decide +kernel
theorem dX6_buy_18 : decode cX6_buy 18 = .ok (.ireturn, 1) := by decide +kernel
theorem dX6_buy_19 : decode cX6_buy 19 = .ok (.aload_n 0, 1) := by decide +kernel
theorem dX6_buy_20 : decode cX6_buy 20 = .ok (.getfield 19, 3) := by decide +kernel
theorem dX6_buy_23 : decode cX6_buy 23 = .ok (.aload_n 0, 1) := by decide +kernel
theorem dX6_buy_24 : decode cX6_buy 24 = .ok (.getfield 12, 3) := by decide +kernel
theorem dX6_buy_27 : decode cX6_buy 27 = .ok (.invokevirtual 40, 3) := by decide +kernel
theorem dX6_buy_30 : decode cX6_buy 30 = .ok (.aload_n 0, 1) := by decide +kernel
theorem dX6_buy_31 : decode cX6_buy 31 = .ok (.getfield 12, 3) := by decide +kernel
theorem dX6_buy_34 : decode cX6_buy 34 = .ok (.getfield 30, 3) := by decide +kernel
theorem dX6_buy_37 : decode cX6_buy 37 = .ok (.iload_n 1, 1) := by decide +kernel
theorem dX6_buy_38 : decode cX6_buy 38 = .ok (.iload_n 2, 1) := by decide +kernel
theorem dX6_buy_39 : decode cX6_buy 39 = .ok (.invokevirtual 44, 3) := by decide +kernel
theorem dX6_buy_42 : decode cX6_buy 42 = .ok (.ireturn, 1) := by decide +kernel
theorem dX6_set_0 : decode cX6_set 0 = .ok (.aload_n 0, 1) := by decide +kernel
theorem dX6_set_1 : decode cX6_set 1 = .ok (.getfield 12, 3) := by decide +kernel
theorem dX6_set_4 : decode cX6_set 4 = .ok (.getfield 30, 3) := by decide +kernel
theorem dX6_set_7 : decode cX6_set 7 = .ok (.iload_n 1, 1) := by decide +kernel
theorem dX6_set_8 : decode cX6_set 8 = .ok (.iload_n 2, 1) := by decide +kernel
theorem dX6_set_9 : decode cX6_set 9 = .ok (.invokevirtual 47, 3) := by decide +kernel
theorem dX6_set_12 : decode cX6_set 12 = .ok (.istore_n 3, 1) := by decide +kernel
theorem dX6_set_13 : decode cX6_set 13 = .ok (.iload_n 3, 1) := by decide +kernel
theorem dX6_set_14 : decode cX6_set 14 = .ok (.ifCond .eq 5, 3) := by decide +kernel
theorem dX6_set_17 : decode cX6_set 17 = .ok (.iload_n 3, 1) := by decide +kernel
theorem dX6_set_18 : decode cX6_set 18 = .ok (.ireturn, 1) := by decide +kernel
theorem dX6_set_19 : decode cX6_set 19 = .ok (.aload_n 0, 1) := by decide +kernel
theorem dX6_set_20 : decode cX6_set 20 = .ok (.getfield 19, 3) := by decide +kernel
theorem dX6_set_23 : decode cX6_set 23 = .ok (.aload_n 0, 1) := by decide +kernel
theorem dX6_set_24 : decode cX6_set 24 = .ok (.getfield 12, 3) := by decide +kernel
theorem dX6_set_27 : decode cX6_set 27 = .ok (.invokevirtual 40, 3) := by decide +kernel
theorem dX6_set_30 : decode cX6_set 30 = .ok (.aload_n 0, 1) := by decide +kernel
theorem dX6_set_31 : decode cX6_set 31 = .ok (.getfield 12, 3) := by decide +kernel
theorem dX6_set_34 : decode cX6_set 34 = .ok (.getfield 30, 3) := by decide +kernel
theorem dX6_set_37 : decode cX6_set 37 = .ok (.iload_n 1, 1) := by decide +kernel
theorem dX6_set_38 : decode cX6_set 38 = .ok (.iload_n 2, 1) := by decide +kernel
theorem dX6_set_39 : decode cX6_set 39 = .ok (.invokevirtual 50, 3) := by decide +kernel
theorem dX6_set_42 : decode cX6_set 42 = .ok (.ireturn, 1) := by decide +kernel
theorem dX6_borrow_0 : decode cX6_borrow 0 = .ok (.aload_n 0, 1) := by decide +kernel
theorem dX6_borrow_1 : decode cX6_borrow 1 = .ok (.getfield 12, 3) := by decide +kernel
theorem dX6_borrow_4 : decode cX6_borrow 4 = .ok (.getfield 30, 3) := by decide +kernel
theorem dX6_borrow_7 : decode cX6_borrow 7 = .ok (.iload_n 1, 1) := by decide +kernel
theorem dX6_borrow_8 : decode cX6_borrow 8 = .ok (.iload_n 2, 1) := by decide +kernel
theorem dX6_borrow_9 : decode cX6_borrow 9 = .ok (.invokevirtual 53, 3) := by decide +kernel
theorem dX6_borrow_12 : decode cX6_borrow 12 = .ok (.istore_n 3, 1) := by decide +kernel
theorem dX6_borrow_13 : decode cX6_borrow 13 = .ok (.iload_n 3, 1) := by decide +kernel
theorem dX6_borrow_14 : decode cX6_borrow 14 = .ok (.ifCond .eq 5, 3) := by decide +kernel
theorem dX6_borrow_17 : decode cX6_borrow 17 = .ok (.iload_n 3, 1) := by decide +kernel
theorem dX6_borrow_18 : decode cX6_borrow 18 = .ok (.ireturn, 1) := by decide +kernel
theorem dX6_borrow_19 : decode cX6_borrow 19 = .ok (.aload_n 0, 1) := by decide +kernel
theorem dX6_borrow_20 : decode cX6_borrow 20 = .ok (.getfield 19, 3) := by decide +kernel
theorem dX6_borrow_23 : decode cX6_borrow 23 = .ok (.aload_n 0, 1) := by decide +kernel
theorem dX6_borrow_24 : decode cX6_borrow 24 = .ok (.getfield 12, 3) := by decide +kernel
theorem dX6_borrow_27 : decode cX6_borrow 27 = .ok (.invokevirtual 40, 3) := by decide +kernel
theorem dX6_borrow_30 : decode cX6_borrow 30 = .ok (.aload_n 0, 1) := by decide +kernel
theorem dX6_borrow_31 : decode cX6_borrow 31 = .ok (.getfield 12, 3) := by decide +kernel
theorem dX6_borrow_34 : decode cX6_borrow 34 = .ok (.getfield 30, 3) := by decide +kernel
theorem dX6_borrow_37 : decode cX6_borrow 37 = .ok (.iload_n 1, 1) := by decide +kernel
theorem dX6_borrow_38 : decode cX6_borrow 38 = .ok (.iload_n 2, 1) := by decide +kernel
theorem dX6_borrow_39 : decode cX6_borrow 39 = .ok (.invokevirtual 56, 3) := by decide +kernel
theorem dX6_borrow_42 : decode cX6_borrow 42 = .ok (.ireturn, 1) := by decide +kernel
theorem dX6_bringBack_0 : decode cX6_bringBack 0 = .ok (.aload_n 0, 1) := by decide +kernel
theorem dX6_bringBack_1 : decode cX6_bringBack 1 = .ok (.getfield 12, 3) := by decide +kernel
theorem dX6_bringBack_4 : decode cX6_bringBack 4 = .ok (.getfield 30, 3) := by decide +kernel
theorem dX6_bringBack_7 : decode cX6_bringBack 7 = .ok (.iload_n 1, 1) := by decide +kernel
theorem dX6_bringBack_8 : decode cX6_bringBack 8 = .ok (.iload_n 2, 1) := by decide +kernel
theorem dX6_bringBack_9 : decode cX6_bringBack 9 = .ok (.invokevirtual 59, 3) := by decide +kernel
theorem dX6_bringBack_12 : decode cX6_bringBack 12 = .ok (.istore_n 3, 1) := by decide +kernel
theorem dX6_bringBack_13 : decode cX6_bringBack 13 = .ok (.iload_n 3, 1) := by decide +kernel
theorem dX6_bringBack_14 : decode cX6_bringBack 14 = .ok (.ifCond .eq 5, 3) := by decide +kernel
theorem dX6_bringBack_17 : decode cX6_bringBack 17 = .ok (.iload_n 3, 1) := by decide +kernel
theorem dX6_bringBack_18 : decode cX6_bringBack 18 = .ok (.ireturn, 1) := by decide +kernel
theorem dX6_bringBack_19 : decode cX6_bringBack 19 = .ok (.aload_n 0, 1) := by decide +kernel
theorem dX6_bringBack_20 : decode cX6_bringBack 20 = .ok (.getfield 19, 3) := by decide +kernel
theorem dX6_bringBack_23 : decode cX6_bringBack 23 = .ok (.aload_n 0, 1) := by decide +kernel
theorem dX6_bringBack_24 : decode cX6_bringBack 24 = .ok (.getfield 12, 3) := by decide +kernel
theorem dX6_bringBack_27 : decode cX6_bringBack 27 = .ok (.invokevirtual 40, 3) := by decide +kernel
theorem dX6_bringBack_30 : decode cX6_bringBack 30 = .ok (.aload_n 0, 1) := by decide +kernel
theorem dX6_bringBack_31 : decode cX6_bringBack 31 = .ok (.getfield 12, 3) := by decide +kernel
theorem dX6_bringBack_34 : decode cX6_bringBack 34 = .ok (.getfield 30, 3) := by decide +kernel
theorem dX6_bringBack_37 : decode cX6_bringBack 37 = .ok (.iload_n 1, 1) := by decide +kernel
theorem dX6_bringBack_38 : decode cX6_bringBack 38 = .ok (.iload_n 2, 1) := by decide +kernel
theorem dX6_bringBack_39 : decode cX6_bringBack 39 = .ok (.invokevirtual 62, 3) := by decide +kernel
theorem dX6_bringBack_42 : decode cX6_bringBack 42 = .ok (.ireturn, 1) := by decide +kernel
theorem dX6_hour_0 : decode cX6_hour 0 = .ok (.aload_n 0, 1) := by decide +kernel
theorem dX6_hour_1 : decode cX6_hour 1 = .ok (.getfield 12, 3) := by decide +kernel
theorem dX6_hour_4 : decode cX6_hour 4 = .ok (.getfield 30, 3) := by decide +kernel
theorem dX6_hour_7 : decode cX6_hour 7 = .ok (.iload_n 1, 1) := by decide +kernel
theorem dX6_hour_8 : decode cX6_hour 8 = .ok (.iload_n 2, 1) := by decide +kernel
theorem dX6_hour_9 : decode cX6_hour 9 = .ok (.invokevirtual 65, 3) := by decide +kernel
theorem dX6_hour_12 : decode cX6_hour 12 = .ok (.istore_n 3, 1) := by decide +kernel
theorem dX6_hour_13 : decode cX6_hour 13 = .ok (.iload_n 3, 1) := by decide +kernel
theorem dX6_hour_14 : decode cX6_hour 14 = .ok (.ifCond .eq 5, 3) := by decide +kernel
theorem dX6_hour_17 : decode cX6_hour 17 = .ok (.iload_n 3, 1) := by decide +kernel
theorem dX6_hour_18 : decode cX6_hour 18 = .ok (.ireturn, 1) := by decide +kernel
theorem dX6_hour_19 : decode cX6_hour 19 = .ok (.aload_n 0, 1) := by decide +kernel
theorem dX6_hour_20 : decode cX6_hour 20 = .ok (.getfield 19, 3) := by decide +kernel
theorem dX6_hour_23 : decode cX6_hour 23 = .ok (.aload_n 0, 1) := by decide +kernel
theorem dX6_hour_24 : decode cX6_hour 24 = .ok (.getfield 12, 3) := by decide +kernel
theorem dX6_hour_27 : decode cX6_hour 27 = .ok (.invokevirtual 40, 3) := by decide +kernel
theorem dX6_hour_30 : decode cX6_hour 30 = .ok (.aload_n 0, 1) := by decide +kernel
theorem dX6_hour_31 : decode cX6_hour 31 = .ok (.getfield 12, 3) := by decide +kernel
theorem dX6_hour_34 : decode cX6_hour 34 = .ok (.getfield 30, 3) := by decide +kernel
theorem dX6_hour_37 : decode cX6_hour 37 = .ok (.iload_n 1, 1) := by decide +kernel
theorem dX6_hour_38 : decode cX6_hour 38 = .ok (.iload_n 2, 1) := by decide +kernel
theorem dX6_hour_39 : decode cX6_hour 39 = .ok (.invokevirtual 68, 3) := by decide +kernel
theorem dX6_hour_42 : decode cX6_hour 42 = .ok (.ireturn, 1) := by decide +kernel
theorem dX6_load_0 : decode cX6_load 0 = .ok (.aload_n 0, 1) := by decide +kernel
theorem dX6_load_1 : decode cX6_load 1 = .ok (.getfield 12, 3) := by decide +kernel
theorem dX6_load_4 : decode cX6_load 4 = .ok (.getfield 30, 3) := by decide +kernel
theorem dX6_load_7 : decode cX6_load 7 = .ok (.iload_n 1, 1) := by decide +kernel
theorem dX6_load_8 : decode cX6_load 8 = .ok (.iload_n 2, 1) := by decide +kernel
theorem dX6_load_9 : decode cX6_load 9 = .ok (.iload_n 3, 1) := by decide +kernel
theorem dX6_load_10 : decode cX6_load 10 = .ok (.invokevirtual 71, 3) := by decide +kernel
theorem dX6_load_13 : decode cX6_load 13 = .ok (.istore 4, 2) := by decide +kernel
theorem dX6_load_15 : decode cX6_load 15 = .ok (.iload 4, 2) := by decide +kernel
theorem dX6_load_17 : decode cX6_load 17 = .ok (.ifCond .eq 6, 3) := by decide +kernel
theorem dX6_load_20 : decode cX6_load 20 = .ok (.iload 4, 2) := by decide +kernel
theorem dX6_load_22 : decode cX6_load 22 = .ok (.ireturn, 1) := by decide +kernel
theorem dX6_load_23 : decode cX6_load 23 = .ok (.aload_n 0, 1) := by decide +kernel
theorem dX6_load_24 : decode cX6_load 24 = .ok (.getfield 19, 3) := by decide +kernel
theorem dX6_load_27 : decode cX6_load 27 = .ok (.aload_n 0, 1) := by decide +kernel
theorem dX6_load_28 : decode cX6_load 28 = .ok (.getfield 12, 3) := by decide +kernel
theorem dX6_load_31 : decode cX6_load 31 = .ok (.invokevirtual 40, 3) := by decide +kernel
theorem dX6_load_34 : decode cX6_load 34 = .ok (.aload_n 0, 1) := by decide +kernel
theorem dX6_load_35 : decode cX6_load 35 = .ok (.getfield 12, 3) := by decide +kernel
theorem dX6_load_38 : decode cX6_load 38 = .ok (.getfield 30, 3) := by decide +kernel
theorem dX6_load_41 : decode cX6_load 41 = .ok (.iload_n 1, 1) := by decide +kernel
theorem dX6_load_42 : decode cX6_load 42 = .ok (.iload_n 2, 1) := by decide +kernel
theorem dX6_load_43 : decode cX6_load 43 = .ok (.iload_n 3, 1) := by decide +kernel
theorem dX6_load_44 : decode cX6_load 44 = .ok (.invokevirtual 75, 3) := by decide +kernel
theorem dX6_load_47 : decode cX6_load 47 = .ok (.ireturn, 1) := by decide +kernel
theorem dX6_unload_0 : decode cX6_unload 0 = .ok (.aload_n 0, 1) := by decide +kernel
theorem dX6_unload_1 : decode cX6_unload 1 = .ok (.getfield 12, 3) := by decide +kernel
theorem dX6_unload_4 : decode cX6_unload 4 = .ok (.getfield 30, 3) := by decide +kernel
theorem dX6_unload_7 : decode cX6_unload 7 = .ok (.iload_n 1, 1) := by decide +kernel
theorem dX6_unload_8 : decode cX6_unload 8 = .ok (.iload_n 2, 1) := by decide +kernel
theorem dX6_unload_9 : decode cX6_unload 9 = .ok (.iload_n 3, 1) := by decide +kernel
theorem dX6_unload_10 : decode cX6_unload 10 = .ok (.invokevirtual 78, 3) := by decide +kernel
theorem dX6_unload_13 : decode cX6_unload 13 = .ok (.istore 4, 2) := by decide +kernel
theorem dX6_unload_15 : decode cX6_unload 15 = .ok (.iload 4, 2) := by decide +kernel
theorem dX6_unload_17 : decode cX6_unload 17 = .ok (.ifCond .eq 6, 3) := by decide +kernel
theorem dX6_unload_20 : decode cX6_unload 20 = .ok (.iload 4, 2) := by decide +kernel
theorem dX6_unload_22 : decode cX6_unload 22 = .ok (.ireturn, 1) := by decide +kernel
theorem dX6_unload_23 : decode cX6_unload 23 = .ok (.aload_n 0, 1) := by decide +kernel
theorem dX6_unload_24 : decode cX6_unload 24 = .ok (.getfield 19, 3) := by decide +kernel
theorem dX6_unload_27 : decode cX6_unload 27 = .ok (.aload_n 0, 1) := by decide +kernel
theorem dX6_unload_28 : decode cX6_unload 28 = .ok (.getfield 12, 3) := by decide +kernel
theorem dX6_unload_31 : decode cX6_unload 31 = .ok (.invokevirtual 40, 3) := by decide +kernel
theorem dX6_unload_34 : decode cX6_unload 34 = .ok (.aload_n 0, 1) := by decide +kernel
theorem dX6_unload_35 : decode cX6_unload 35 = .ok (.getfield 12, 3) := by decide +kernel
theorem dX6_unload_38 : decode cX6_unload 38 = .ok (.getfield 30, 3) := by decide +kernel
theorem dX6_unload_41 : decode cX6_unload 41 = .ok (.iload_n 1, 1) := by decide +kernel
theorem dX6_unload_42 : decode cX6_unload 42 = .ok (.iload_n 2, 1) := by decide +kernel
theorem dX6_unload_43 : decode cX6_unload 43 = .ok (.iload_n 3, 1) := by decide +kernel
theorem dX6_unload_44 : decode cX6_unload 44 = .ok (.invokevirtual 81, 3) := by decide +kernel
theorem dX6_unload_47 : decode cX6_unload 47 = .ok (.ireturn, 1) := by decide +kernel
theorem dX6_toWorkshop_0 : decode cX6_toWorkshop 0 = .ok (.aload_n 0, 1) := by decide +kernel
theorem dX6_toWorkshop_1 : decode cX6_toWorkshop 1 = .ok (.getfield 12, 3) := by decide +kernel
theorem dX6_toWorkshop_4 : decode cX6_toWorkshop 4 = .ok (.getfield 30, 3) := by decide +kernel
theorem dX6_toWorkshop_7 : decode cX6_toWorkshop 7 = .ok (.iload_n 1, 1) := by decide +kernel
theorem dX6_toWorkshop_8 : decode cX6_toWorkshop 8 = .ok (.invokevirtual 84, 3) := by decide +kernel
theorem dX6_toWorkshop_11 : decode cX6_toWorkshop 11 = .ok (.istore_n 2, 1) := by decide +kernel
theorem dX6_toWorkshop_12 : decode cX6_toWorkshop 12 = .ok (.iload_n 2, 1) := by decide +kernel
theorem dX6_toWorkshop_13 : decode cX6_toWorkshop 13 = .ok (.ifCond .eq 5, 3) := by decide +kernel
theorem dX6_toWorkshop_16 : decode cX6_toWorkshop 16 = .ok (.iload_n 2, 1) := by decide +kernel
theorem dX6_toWorkshop_17 : decode cX6_toWorkshop 17 = .ok (.ireturn, 1) := by decide +kernel
theorem dX6_toWorkshop_18 : decode cX6_toWorkshop 18 = .ok (.aload_n 0, 1) := by decide +kernel
theorem dX6_toWorkshop_19 : decode cX6_toWorkshop 19 = .ok (.getfield 19, 3) := by decide +kernel
theorem dX6_toWorkshop_22 : decode cX6_toWorkshop 22 = .ok (.aload_n 0, 1) := by decide +kernel
theorem dX6_toWorkshop_23 : decode cX6_toWorkshop 23 = .ok (.getfield 12, 3) := by decide +kernel
theorem dX6_toWorkshop_26 : decode cX6_toWorkshop 26 = .ok (.invokevirtual 40, 3) := by decide +kernel
theorem dX6_toWorkshop_29 : decode cX6_toWorkshop 29 = .ok (.aload_n 0, 1) := by decide +kernel
theorem dX6_toWorkshop_30 : decode cX6_toWorkshop 30 = .ok (.getfield 12, 3) := by decide +kernel
theorem dX6_toWorkshop_33 : decode cX6_toWorkshop 33 = .ok (.getfield 30, 3) := by decide +kernel
theorem dX6_toWorkshop_36 : decode cX6_toWorkshop 36 = .ok (.iload_n 1, 1) := by decide +kernel
theorem dX6_toWorkshop_37 : decode cX6_toWorkshop 37 = .ok (.invokevirtual 88, 3) := by decide +kernel
theorem dX6_toWorkshop_40 : decode cX6_toWorkshop 40 = .ok (.ireturn, 1) := by decide +kernel
theorem dX6_mend_0 : decode cX6_mend 0 = .ok (.aload_n 0, 1) := by decide +kernel
theorem dX6_mend_1 : decode cX6_mend 1 = .ok (.getfield 12, 3) := by decide +kernel
theorem dX6_mend_4 : decode cX6_mend 4 = .ok (.getfield 30, 3) := by decide +kernel
theorem dX6_mend_7 : decode cX6_mend 7 = .ok (.iload_n 1, 1) := by decide +kernel
theorem dX6_mend_8 : decode cX6_mend 8 = .ok (.invokevirtual 91, 3) := by decide +kernel
theorem dX6_mend_11 : decode cX6_mend 11 = .ok (.istore_n 2, 1) := by decide +kernel
theorem dX6_mend_12 : decode cX6_mend 12 = .ok (.iload_n 2, 1) := by decide +kernel
theorem dX6_mend_13 : decode cX6_mend 13 = .ok (.ifCond .eq 5, 3) := by decide +kernel
theorem dX6_mend_16 : decode cX6_mend 16 = .ok (.iload_n 2, 1) := by decide +kernel
theorem dX6_mend_17 : decode cX6_mend 17 = .ok (.ireturn, 1) := by decide +kernel
theorem dX6_mend_18 : decode cX6_mend 18 = .ok (.aload_n 0, 1) := by decide +kernel
theorem dX6_mend_19 : decode cX6_mend 19 = .ok (.getfield 19, 3) := by decide +kernel
theorem dX6_mend_22 : decode cX6_mend 22 = .ok (.aload_n 0, 1) := by decide +kernel
theorem dX6_mend_23 : decode cX6_mend 23 = .ok (.getfield 12, 3) := by decide +kernel
theorem dX6_mend_26 : decode cX6_mend 26 = .ok (.invokevirtual 40, 3) := by decide +kernel
theorem dX6_mend_29 : decode cX6_mend 29 = .ok (.aload_n 0, 1) := by decide +kernel
theorem dX6_mend_30 : decode cX6_mend 30 = .ok (.getfield 12, 3) := by decide +kernel
theorem dX6_mend_33 : decode cX6_mend 33 = .ok (.getfield 30, 3) := by decide +kernel
theorem dX6_mend_36 : decode cX6_mend 36 = .ok (.iload_n 1, 1) := by decide +kernel
theorem dX6_mend_37 : decode cX6_mend 37 = .ok (.invokevirtual 94, 3) := by decide +kernel
theorem dX6_mend_40 : decode cX6_mend 40 = .ok (.ireturn, 1) := by decide +kernel
theorem dX6_level_0 : decode cX6_level 0 = .ok (.aload_n 0, 1) := by decide +kernel
theorem dX6_level_1 : decode cX6_level 1 = .ok (.getfield 19, 3) := by decide +kernel
theorem dX6_level_4 : decode cX6_level 4 = .ok (.aload_n 0, 1) := by decide +kernel
theorem dX6_level_5 : decode cX6_level 5 = .ok (.getfield 12, 3) := by decide +kernel
theorem dX6_level_8 : decode cX6_level 8 = .ok (.invokevirtual 40, 3) := by decide +kernel
theorem dX6_level_11 : decode cX6_level 11 = .ok (.aload_n 0, 1) := by decide +kernel
theorem dX6_level_12 : decode cX6_level 12 = .ok (.getfield 12, 3) := by decide +kernel
theorem dX6_level_15 : decode cX6_level 15 = .ok (.getfield 30, 3) := by decide +kernel
theorem dX6_level_18 : decode cX6_level 18 = .ok (.invokevirtual 97, 3) := by decide +kernel
theorem dX6_level_21 : decode cX6_level 21 = .ok (.ireturn, 1) := by decide +kernel
theorem dX6_take_0 : decode cX6_take 0 = .ok (.iload_n 1, 1) := by decide +kernel
theorem dX6_take_1 : decode cX6_take 1 = .ok (.iconst 0, 1) := by decide +kernel
theorem dX6_take_2 : decode cX6_take 2 = .ok (.iconst 1, 1) := by decide +kernel
theorem dX6_take_3 : decode cX6_take 3 = .ok (.invokestatic 101, 3) := by decide +kernel
theorem dX6_take_6 : decode cX6_take 6 = .ok (.ifCond .eq 5, 3) := by decide +kernel
theorem dX6_take_9 : decode cX6_take 9 = .ok (.iconst (-1), 1) := by decide +kernel
theorem dX6_take_10 : decode cX6_take 10 = .ok (.ireturn, 1) := by decide +kernel
theorem dX6_take_11 : decode cX6_take 11 = .ok (.aload_n 0, 1) := by decide +kernel
theorem dX6_take_12 : decode cX6_take 12 = .ok (.getfield 19, 3) := by decide +kernel
theorem dX6_take_15 : decode cX6_take 15 = .ok (.aload_n 0, 1) := by decide +kernel
theorem dX6_take_16 : decode cX6_take 16 = .ok (.getfield 12, 3) := by decide +kernel
theorem dX6_take_19 : decode cX6_take 19 = .ok (.invokevirtual 40, 3) := by decide +kernel
theorem dX6_take_22 : decode cX6_take 22 = .ok (.aload_n 0, 1) := by decide +kernel
theorem dX6_take_23 : decode cX6_take 23 = .ok (.getfield 12, 3) := by decide +kernel
theorem dX6_take_26 : decode cX6_take 26 = .ok (.iload_n 1, 1) := by decide +kernel
theorem dX6_take_27 : decode cX6_take 27 = .ok (.invokevirtual 105, 3) := by decide +kernel
theorem dX6_take_30 : decode cX6_take 30 = .ok (.aload_n 0, 1) := by decide +kernel
theorem dX6_take_31 : decode cX6_take 31 = .ok (.getfield 12, 3) := by decide +kernel
theorem dX6_take_34 : decode cX6_take 34 = .ok (.getfield 30, 3) := by decide +kernel
theorem dX6_take_37 : decode cX6_take 37 = .ok (.getfield 109, 3) := by decide +kernel
theorem dX6_take_40 : decode cX6_take 40 = .ok (.ireturn, 1) := by decide +kernel
theorem dX6_restore_0 : decode cX6_restore 0 = .ok (.iload_n 1, 1) := by decide +kernel
theorem dX6_restore_1 : decode cX6_restore 1 = .ok (.iconst 0, 1) := by decide +kernel
theorem dX6_restore_2 : decode cX6_restore 2 = .ok (.iconst 1, 1) := by decide +kernel
theorem dX6_restore_3 : decode cX6_restore 3 = .ok (.invokestatic 101, 3) := by decide +kernel
theorem dX6_restore_6 : decode cX6_restore 6 = .ok (.ifCond .eq 5, 3) := by decide +kernel
theorem dX6_restore_9 : decode cX6_restore 9 = .ok (.iconst (-1), 1) := by decide +kernel
theorem dX6_restore_10 : decode cX6_restore 10 = .ok (.ireturn, 1) := by decide +kernel
theorem dX6_restore_11 : decode cX6_restore 11 = .ok (.aload_n 0, 1) := by decide +kernel
theorem dX6_restore_12 : decode cX6_restore 12 = .ok (.getfield 12, 3) := by decide +kernel
theorem dX6_restore_15 : decode cX6_restore 15 = .ok (.iload_n 1, 1) := by decide +kernel
theorem dX6_restore_16 : decode cX6_restore 16 = .ok (.invokevirtual 113, 3) := by decide +kernel
theorem dX6_restore_19 : decode cX6_restore 19 = .ok (.ifCond .ne 6, 3) := by decide +kernel
theorem dX6_restore_22 : decode cX6_restore 22 = .ok (.bipush (-2), 2) := by decide +kernel
theorem dX6_restore_24 : decode cX6_restore 24 = .ok (.ireturn, 1) := by decide +kernel
theorem dX6_restore_25 : decode cX6_restore 25 = .ok (.aload_n 0, 1) := by decide +kernel
theorem dX6_restore_26 : decode cX6_restore 26 = .ok (.getfield 19, 3) := by decide +kernel
theorem dX6_restore_29 : decode cX6_restore 29 = .ok (.aload_n 0, 1) := by decide +kernel
theorem dX6_restore_30 : decode cX6_restore 30 = .ok (.getfield 12, 3) := by decide +kernel
theorem dX6_restore_33 : decode cX6_restore 33 = .ok (.invokevirtual 40, 3) := by decide +kernel
theorem dX6_restore_36 : decode cX6_restore 36 = .ok (.aload_n 0, 1) := by decide +kernel
theorem dX6_restore_37 : decode cX6_restore 37 = .ok (.getfield 12, 3) := by decide +kernel
theorem dX6_restore_40 : decode cX6_restore 40 = .ok (.iload_n 1, 1) := by decide +kernel
theorem dX6_restore_41 : decode cX6_restore 41 = .ok (.invokevirtual 117, 3) := by decide +kernel
theorem dX6_restore_44 : decode cX6_restore 44 = .ok (.aload_n 0, 1) := by decide +kernel
theorem dX6_restore_45 : decode cX6_restore 45 = .ok (.getfield 12, 3) := by decide +kernel
theorem dX6_restore_48 : decode cX6_restore 48 = .ok (.getfield 30, 3) := by decide +kernel
theorem dX6_restore_51 : decode cX6_restore 51 = .ok (.getfield 109, 3) := by decide +kernel
theorem dX6_restore_54 : decode cX6_restore 54 = .ok (.ireturn, 1) := by decide +kernel
theorem dX6_undo_0 : decode cX6_undo 0 = .ok (.aload_n 0, 1) := by decide +kernel
theorem dX6_undo_1 : decode cX6_undo 1 = .ok (.getfield 19, 3) := by decide +kernel
theorem dX6_undo_4 : decode cX6_undo 4 = .ok (.getfield 120, 3) := by decide +kernel
theorem dX6_undo_7 : decode cX6_undo 7 = .ok (.ifCond .ne 6, 3) := by decide +kernel
theorem dX6_undo_10 : decode cX6_undo 10 = .ok (.bipush (-2), 2) := by decide +kernel
theorem dX6_undo_12 : decode cX6_undo 12 = .ok (.ireturn, 1) := by decide +kernel
theorem dX6_undo_13 : decode cX6_undo 13 = .ok (.aload_n 0, 1) := by decide +kernel
theorem dX6_undo_14 : decode cX6_undo 14 = .ok (.getfield 19, 3) := by decide +kernel
theorem dX6_undo_17 : decode cX6_undo 17 = .ok (.aload_n 0, 1) := by decide +kernel
theorem dX6_undo_18 : decode cX6_undo 18 = .ok (.getfield 12, 3) := by decide +kernel
theorem dX6_undo_21 : decode cX6_undo 21 = .ok (.invokevirtual 123, 3) := by decide +kernel
theorem dX6_undo_24 : decode cX6_undo 24 = .ok (.aload_n 0, 1) := by decide +kernel
theorem dX6_undo_25 : decode cX6_undo 25 = .ok (.getfield 19, 3) := by decide +kernel
theorem dX6_undo_28 : decode cX6_undo 28 = .ok (.getfield 120, 3) := by decide +kernel
theorem dX6_undo_31 : decode cX6_undo 31 = .ok (.ireturn, 1) := by decide +kernel
theorem dX6_count_0 : decode cX6_count 0 = .ok (.aload_n 0, 1) := by decide +kernel
theorem dX6_count_1 : decode cX6_count 1 = .ok (.getfield 12, 3) := by decide +kernel
theorem dX6_count_4 : decode cX6_count 4 = .ok (.getfield 30, 3) := by decide +kernel
theorem dX6_count_7 : decode cX6_count 7 = .ok (.astore_n 2, 1) := by decide +kernel
theorem dX6_count_8 : decode cX6_count 8 = .ok (.aload_n 2, 1) := by decide +kernel
theorem dX6_count_9 : decode cX6_count 9 = .ok (.getfield 158, 3) := by decide +kernel
theorem dX6_count_12 : decode cX6_count 12 = .ok (.astore_n 3, 1) := by decide +kernel
theorem dX6_count_13 : decode cX6_count 13 = .ok (.iload_n 1, 1) := by decide +kernel
theorem dX6_count_14 : decode cX6_count 14 = .ok (.tableswitch 196 0 17 #[86, 91, 96, 102, 108, 114, 120, 126, 131, 136, 144, 149, 157, 162, 167, 172, 180, 188], 86) := by decide +kernel
theorem dX6_count_100 : decode cX6_count 100 = .ok (.aload_n 2, 1) := by decide +kernel
theorem dX6_count_101 : decode cX6_count 101 = .ok (.getfield 109, 3) := by decide +kernel
theorem dX6_count_104 : decode cX6_count 104 = .ok (.ireturn, 1) := by decide +kernel
theorem dX6_count_105 : decode cX6_count 105 = .ok (.aload_n 3, 1) := by decide +kernel
theorem dX6_count_106 : decode cX6_count 106 = .ok (.getfield 162, 3) := by decide +kernel
theorem dX6_count_109 : decode cX6_count 109 = .ok (.ireturn, 1) := by decide +kernel
theorem dX6_count_110 : decode cX6_count 110 = .ok (.aload_n 3, 1) := by decide +kernel
theorem dX6_count_111 : decode cX6_count 111 = .ok (.iconst 0, 1) := by decide +kernel
theorem dX6_count_112 : decode cX6_count 112 = .ok (.invokevirtual 167, 3) := by decide +kernel
theorem dX6_count_115 : decode cX6_count 115 = .ok (.ireturn, 1) := by decide +kernel
theorem dX6_count_116 : decode cX6_count 116 = .ok (.aload_n 3, 1) := by decide +kernel
theorem dX6_count_117 : decode cX6_count 117 = .ok (.iconst 1, 1) := by decide +kernel
theorem dX6_count_118 : decode cX6_count 118 = .ok (.invokevirtual 167, 3) := by decide +kernel
theorem dX6_count_121 : decode cX6_count 121 = .ok (.ireturn, 1) := by decide +kernel
theorem dX6_count_122 : decode cX6_count 122 = .ok (.aload_n 3, 1) := by decide +kernel
theorem dX6_count_123 : decode cX6_count 123 = .ok (.iconst 2, 1) := by decide +kernel
theorem dX6_count_124 : decode cX6_count 124 = .ok (.invokevirtual 167, 3) := by decide +kernel
theorem dX6_count_127 : decode cX6_count 127 = .ok (.ireturn, 1) := by decide +kernel
theorem dX6_count_128 : decode cX6_count 128 = .ok (.aload_n 3, 1) := by decide +kernel
theorem dX6_count_129 : decode cX6_count 129 = .ok (.iconst 3, 1) := by decide +kernel
theorem dX6_count_130 : decode cX6_count 130 = .ok (.invokevirtual 167, 3) := by decide +kernel
theorem dX6_count_133 : decode cX6_count 133 = .ok (.ireturn, 1) := by decide +kernel
theorem dX6_count_134 : decode cX6_count 134 = .ok (.aload_n 3, 1) := by decide +kernel
theorem dX6_count_135 : decode cX6_count 135 = .ok (.iconst 4, 1) := by decide +kernel
theorem dX6_count_136 : decode cX6_count 136 = .ok (.invokevirtual 167, 3) := by decide +kernel
theorem dX6_count_139 : decode cX6_count 139 = .ok (.ireturn, 1) := by decide +kernel
theorem dX6_count_140 : decode cX6_count 140 = .ok (.aload_n 3, 1) := by decide +kernel
theorem dX6_count_141 : decode cX6_count 141 = .ok (.invokevirtual 170, 3) := by decide +kernel
theorem dX6_count_144 : decode cX6_count 144 = .ok (.ireturn, 1) := by decide +kernel
theorem dX6_count_145 : decode cX6_count 145 = .ok (.aload_n 2, 1) := by decide +kernel
theorem dX6_count_146 : decode cX6_count 146 = .ok (.getfield 173, 3) := by decide +kernel
theorem dX6_count_149 : decode cX6_count 149 = .ok (.ireturn, 1) := by decide +kernel
theorem dX6_count_150 : decode cX6_count 150 = .ok (.aload_n 2, 1) := by decide +kernel
theorem dX6_count_151 : decode cX6_count 151 = .ok (.getfield 176, 3) := by decide +kernel
theorem dX6_count_154 : decode cX6_count 154 = .ok (.invokevirtual 180, 3) := by decide +kernel
theorem dX6_count_157 : decode cX6_count 157 = .ok (.ireturn, 1) := by decide +kernel
theorem dX6_count_158 : decode cX6_count 158 = .ok (.aload_n 2, 1) := by decide +kernel
theorem dX6_count_159 : decode cX6_count 159 = .ok (.getfield 185, 3) := by decide +kernel
theorem dX6_count_162 : decode cX6_count 162 = .ok (.ireturn, 1) := by decide +kernel
theorem dX6_count_163 : decode cX6_count 163 = .ok (.aload_n 2, 1) := by decide +kernel
theorem dX6_count_164 : decode cX6_count 164 = .ok (.getfield 188, 3) := by decide +kernel
theorem dX6_count_167 : decode cX6_count 167 = .ok (.invokevirtual 180, 3) := by decide +kernel
theorem dX6_count_170 : decode cX6_count 170 = .ok (.ireturn, 1) := by decide +kernel
theorem dX6_count_171 : decode cX6_count 171 = .ok (.aload_n 2, 1) := by decide +kernel
theorem dX6_count_172 : decode cX6_count 172 = .ok (.getfield 191, 3) := by decide +kernel
theorem dX6_count_175 : decode cX6_count 175 = .ok (.ireturn, 1) := by decide +kernel
theorem dX6_count_176 : decode cX6_count 176 = .ok (.aload_n 2, 1) := by decide +kernel
theorem dX6_count_177 : decode cX6_count 177 = .ok (.getfield 194, 3) := by decide +kernel
theorem dX6_count_180 : decode cX6_count 180 = .ok (.ireturn, 1) := by decide +kernel
theorem dX6_count_181 : decode cX6_count 181 = .ok (.aload_n 2, 1) := by decide +kernel
theorem dX6_count_182 : decode cX6_count 182 = .ok (.getfield 197, 3) := by decide +kernel
theorem dX6_count_185 : decode cX6_count 185 = .ok (.ireturn, 1) := by decide +kernel
theorem dX6_count_186 : decode cX6_count 186 = .ok (.aload_n 0, 1) := by decide +kernel
theorem dX6_count_187 : decode cX6_count 187 = .ok (.getfield 12, 3) := by decide +kernel
theorem dX6_count_190 : decode cX6_count 190 = .ok (.invokevirtual 200, 3) := by decide +kernel
theorem dX6_count_193 : decode cX6_count 193 = .ok (.ireturn, 1) := by decide +kernel
theorem dX6_count_194 : decode cX6_count 194 = .ok (.aload_n 0, 1) := by decide +kernel
theorem dX6_count_195 : decode cX6_count 195 = .ok (.getfield 19, 3) := by decide +kernel
theorem dX6_count_198 : decode cX6_count 198 = .ok (.getfield 120, 3) := by decide +kernel
theorem dX6_count_201 : decode cX6_count 201 = .ok (.ireturn, 1) := by decide +kernel
theorem dX6_count_202 : decode cX6_count 202 = .ok (.aload_n 0, 1) := by decide +kernel
theorem dX6_count_203 : decode cX6_count 203 = .ok (.getfield 26, 3) := by decide +kernel
theorem dX6_count_206 : decode cX6_count 206 = .ok (.getfield 126, 3) := by decide +kernel
theorem dX6_count_209 : decode cX6_count 209 = .ok (.ireturn, 1) := by decide +kernel
theorem dX6_count_210 : decode cX6_count 210 = .ok (.iconst (-1), 1) := by decide +kernel
theorem dX6_count_211 : decode cX6_count 211 = .ok (.ireturn, 1) := by decide +kernel
theorem dX6_umbrella_0 : decode cX6_umbrella 0 = .ok (.aload_n 0, 1) := by decide +kernel
theorem dX6_umbrella_1 : decode cX6_umbrella 1 = .ok (.getfield 12, 3) := by decide +kernel
theorem dX6_umbrella_4 : decode cX6_umbrella 4 = .ok (.getfield 30, 3) := by decide +kernel
theorem dX6_umbrella_7 : decode cX6_umbrella 7 = .ok (.getfield 158, 3) := by decide +kernel
theorem dX6_umbrella_10 : decode cX6_umbrella 10 = .ok (.astore_n 3, 1) := by decide +kernel
theorem dX6_umbrella_11 : decode cX6_umbrella 11 = .ok (.iload_n 1, 1) := by decide +kernel
theorem dX6_umbrella_12 : decode cX6_umbrella 12 = .ok (.iconst 0, 1) := by decide +kernel
theorem dX6_umbrella_13 : decode cX6_umbrella 13 = .ok (.aload_n 3, 1) := by decide +kernel
theorem dX6_umbrella_14 : decode cX6_umbrella 14 = .ok (.getfield 162, 3) := by decide +kernel
theorem dX6_umbrella_17 : decode cX6_umbrella 17 = .ok (.iconst 1, 1) := by decide +kernel
theorem dX6_umbrella_18 : decode cX6_umbrella 18 = .ok (.isub, 1) := by decide +kernel
theorem dX6_umbrella_19 : decode cX6_umbrella 19 = .ok (.invokestatic 101, 3) := by decide +kernel
theorem dX6_umbrella_22 : decode cX6_umbrella 22 = .ok (.ifCond .eq 5, 3) := by decide +kernel
theorem dX6_umbrella_25 : decode cX6_umbrella 25 = .ok (.iconst (-1), 1) := by decide +kernel
theorem dX6_umbrella_26 : decode cX6_umbrella 26 = .ok (.ireturn, 1) := by decide +kernel
theorem dX6_umbrella_27 : decode cX6_umbrella 27 = .ok (.aload_n 3, 1) := by decide +kernel
theorem dX6_umbrella_28 : decode cX6_umbrella 28 = .ok (.getfield 203, 3) := by decide +kernel
theorem dX6_umbrella_31 : decode cX6_umbrella 31 = .ok (.iload_n 1, 1) := by decide +kernel
theorem dX6_umbrella_32 : decode cX6_umbrella 32 = .ok (.invokevirtual 206, 3) := by decide +kernel
theorem dX6_umbrella_35 : decode cX6_umbrella 35 = .ok (.istore 4, 2) := by decide +kernel
theorem dX6_umbrella_37 : decode cX6_umbrella 37 = .ok (.iload_n 2, 1) := by decide +kernel
theorem dX6_umbrella_38 : decode cX6_umbrella 38 = .ok (.tableswitch 78 0 4 #[34, 40, 46, 55, 69], 34) := by decide +kernel
theorem dX6_umbrella_72 : decode cX6_umbrella 72 = .ok (.iload 4, 2) := by decide +kernel
theorem dX6_umbrella_74 : decode cX6_umbrella 74 = .ok (.invokestatic 209, 3) := by decide +kernel
theorem dX6_umbrella_77 : decode cX6_umbrella 77 = .ok (.ireturn, 1) := by decide +kernel
theorem dX6_umbrella_78 : decode cX6_umbrella 78 = .ok (.iload 4, 2) := by decide +kernel
theorem dX6_umbrella_80 : decode cX6_umbrella 80 = .ok (.invokestatic 212, 3) := by decide +kernel
theorem dX6_umbrella_83 : decode cX6_umbrella 83 = .ok (.ireturn, 1) := by decide +kernel
theorem dX6_umbrella_84 : decode cX6_umbrella 84 = .ok (.aload_n 3, 1) := by decide +kernel
theorem dX6_umbrella_85 : decode cX6_umbrella 85 = .ok (.getfield 215, 3) := by decide +kernel
theorem dX6_umbrella_88 : decode cX6_umbrella 88 = .ok (.iload_n 1, 1) := by decide +kernel
theorem dX6_umbrella_89 : decode cX6_umbrella 89 = .ok (.invokevirtual 206, 3) := by decide +kernel
theorem dX6_umbrella_92 : decode cX6_umbrella 92 = .ok (.ireturn, 1) := by decide +kernel
theorem dX6_umbrella_93 : decode cX6_umbrella 93 = .ok (.aload_n 3, 1) := by decide +kernel
theorem dX6_umbrella_94 : decode cX6_umbrella 94 = .ok (.iload_n 1, 1) := by decide +kernel
theorem dX6_umbrella_95 : decode cX6_umbrella 95 = .ok (.invokevirtual 218, 3) := by decide +kernel
theorem dX6_umbrella_98 : decode cX6_umbrella 98 = .ok (.ifCond .eq 7, 3) := by decide +kernel
theorem dX6_umbrella_101 : decode cX6_umbrella 101 = .ok (.iconst 1, 1) := by decide +kernel
theorem dX6_umbrella_102 : decode cX6_umbrella 102 = .ok (.goto 4, 3) := by decide +kernel
theorem dX6_umbrella_105 : decode cX6_umbrella 105 = .ok (.iconst 0, 1) := by decide +kernel
theorem dX6_umbrella_106 : decode cX6_umbrella 106 = .ok (.ireturn, 1) := by decide +kernel
theorem dX6_umbrella_107 : decode cX6_umbrella 107 = .ok (.aload_n 3, 1) := by decide +kernel
theorem dX6_umbrella_108 : decode cX6_umbrella 108 = .ok (.getfield 221, 3) := by decide +kernel
theorem dX6_umbrella_111 : decode cX6_umbrella 111 = .ok (.iload_n 1, 1) := by decide +kernel
theorem dX6_umbrella_112 : decode cX6_umbrella 112 = .ok (.invokevirtual 206, 3) := by decide +kernel
theorem dX6_umbrella_115 : decode cX6_umbrella 115 = .ok (.ireturn, 1) := by decide +kernel
theorem dX6_umbrella_116 : decode cX6_umbrella 116 = .ok (.iconst (-1), 1) := by decide +kernel
theorem dX6_umbrella_117 : decode cX6_umbrella 117 = .ok (.ireturn, 1) := by decide +kernel
theorem dX6_stand_0 : decode cX6_stand 0 = .ok (.iload_n 1, 1) := by decide +kernel
theorem dX6_stand_1 : decode cX6_stand 1 = .ok (.iconst 0, 1) := by decide +kernel
theorem dX6_stand_2 : decode cX6_stand 2 = .ok (.bipush 7, 2) := by decide +kernel
theorem dX6_stand_4 : decode cX6_stand 4 = .ok (.invokestatic 101, 3) := by decide +kernel
theorem dX6_stand_7 : decode cX6_stand 7 = .ok (.ifCond .eq 5, 3) := by decide +kernel
theorem dX6_stand_10 : decode cX6_stand 10 = .ok (.iconst (-1), 1) := by decide +kernel
theorem dX6_stand_11 : decode cX6_stand 11 = .ok (.ireturn, 1) := by decide +kernel
theorem dX6_stand_12 : decode cX6_stand 12 = .ok (.aload_n 0, 1) := by decide +kernel
theorem dX6_stand_13 : decode cX6_stand 13 = .ok (.getfield 12, 3) := by decide +kernel
theorem dX6_stand_16 : decode cX6_stand 16 = .ok (.getfield 30, 3) := by decide +kernel
theorem dX6_stand_19 : decode cX6_stand 19 = .ok (.getfield 158, 3) := by decide +kernel
theorem dX6_stand_22 : decode cX6_stand 22 = .ok (.astore_n 3, 1) := by decide +kernel
theorem dX6_stand_23 : decode cX6_stand 23 = .ok (.iload_n 2, 1) := by decide +kernel
theorem dX6_stand_24 : decode cX6_stand 24 = .ok (.tableswitch 85 0 5 #[40, 55, 61, 67, 73, 79], 40) := by decide +kernel
theorem dX6_stand_64 : decode cX6_stand 64 = .ok (.aload_n 0, 1) := by decide +kernel
theorem dX6_stand_65 : decode cX6_stand 65 = .ok (.getfield 12, 3) := by decide +kernel
theorem dX6_stand_68 : decode cX6_stand 68 = .ok (.getfield 30, 3) := by decide +kernel
theorem dX6_stand_71 : decode cX6_stand 71 = .ok (.getfield 224, 3) := by decide +kernel
theorem dX6_stand_74 : decode cX6_stand 74 = .ok (.iload_n 1, 1) := by decide +kernel
theorem dX6_stand_75 : decode cX6_stand 75 = .ok (.invokevirtual 206, 3) := by decide +kernel
theorem dX6_stand_78 : decode cX6_stand 78 = .ok (.ireturn, 1) := by decide +kernel
theorem dX6_stand_79 : decode cX6_stand 79 = .ok (.aload_n 3, 1) := by decide +kernel
theorem dX6_stand_80 : decode cX6_stand 80 = .ok (.iload_n 1, 1) := by decide +kernel
theorem dX6_stand_81 : decode cX6_stand 81 = .ok (.invokevirtual 227, 3) := by decide +kernel
theorem dX6_stand_84 : decode cX6_stand 84 = .ok (.ireturn, 1) := by decide +kernel
theorem dX6_stand_85 : decode cX6_stand 85 = .ok (.aload_n 3, 1) := by decide +kernel
theorem dX6_stand_86 : decode cX6_stand 86 = .ok (.iload_n 1, 1) := by decide +kernel
theorem dX6_stand_87 : decode cX6_stand 87 = .ok (.invokevirtual 230, 3) := by decide +kernel
theorem dX6_stand_90 : decode cX6_stand 90 = .ok (.ireturn, 1) := by decide +kernel
theorem dX6_stand_91 : decode cX6_stand 91 = .ok (.aload_n 3, 1) := by decide +kernel
theorem dX6_stand_92 : decode cX6_stand 92 = .ok (.iload_n 1, 1) := by decide +kernel
theorem dX6_stand_93 : decode cX6_stand 93 = .ok (.invokevirtual 233, 3) := by decide +kernel
theorem dX6_stand_96 : decode cX6_stand 96 = .ok (.ireturn, 1) := by decide +kernel
theorem dX6_stand_97 : decode cX6_stand 97 = .ok (.aload_n 3, 1) := by decide +kernel
theorem dX6_stand_98 : decode cX6_stand 98 = .ok (.iload_n 1, 1) := by decide +kernel
theorem dX6_stand_99 : decode cX6_stand 99 = .ok (.invokevirtual 236, 3) := by decide +kernel
theorem dX6_stand_102 : decode cX6_stand 102 = .ok (.ireturn, 1) := by decide +kernel
theorem dX6_stand_103 : decode cX6_stand 103 = .ok (.aload_n 3, 1) := by decide +kernel
theorem dX6_stand_104 : decode cX6_stand 104 = .ok (.iload_n 1, 1) := by decide +kernel
theorem dX6_stand_105 : decode cX6_stand 105 = .ok (.invokevirtual 239, 3) := by decide +kernel
theorem dX6_stand_108 : decode cX6_stand 108 = .ok (.ireturn, 1) := by decide +kernel
theorem dX6_stand_109 : decode cX6_stand 109 = .ok (.iconst (-1), 1) := by decide +kernel
theorem dX6_stand_110 : decode cX6_stand 110 = .ok (.ireturn, 1) := by decide +kernel
theorem dX6_person_0 : decode cX6_person 0 = .ok (.iload_n 1, 1) := by decide +kernel
theorem dX6_person_1 : decode cX6_person 1 = .ok (.iconst 0, 1) := by decide +kernel
theorem dX6_person_2 : decode cX6_person 2 = .ok (.bipush 11, 2) := by decide +kernel
theorem dX6_person_4 : decode cX6_person 4 = .ok (.invokestatic 101, 3) := by decide +kernel
theorem dX6_person_7 : decode cX6_person 7 = .ok (.ifCond .eq 5, 3) := by decide +kernel
theorem dX6_person_10 : decode cX6_person 10 = .ok (.iconst (-1), 1) := by decide +kernel
theorem dX6_person_11 : decode cX6_person 11 = .ok (.ireturn, 1) := by decide +kernel
theorem dX6_person_12 : decode cX6_person 12 = .ok (.aload_n 0, 1) := by decide +kernel
theorem dX6_person_13 : decode cX6_person 13 = .ok (.getfield 12, 3) := by decide +kernel
theorem dX6_person_16 : decode cX6_person 16 = .ok (.getfield 30, 3) := by decide +kernel
theorem dX6_person_19 : decode cX6_person 19 = .ok (.astore_n 3, 1) := by decide +kernel
theorem dX6_person_20 : decode cX6_person 20 = .ok (.aload_n 3, 1) := by decide +kernel
theorem dX6_person_21 : decode cX6_person 21 = .ok (.iload_n 1, 1) := by decide +kernel
theorem dX6_person_22 : decode cX6_person 22 = .ok (.invokevirtual 242, 3) := by decide +kernel
theorem dX6_person_25 : decode cX6_person 25 = .ok (.istore 4, 2) := by decide +kernel
theorem dX6_person_27 : decode cX6_person 27 = .ok (.iload_n 2, 1) := by decide +kernel
theorem dX6_person_28 : decode cX6_person 28 = .ok (.tableswitch 104 0 5 #[40, 49, 52, 61, 86, 95], 40) := by decide +kernel
theorem dX6_person_68 : decode cX6_person 68 = .ok (.aload_n 3, 1) := by decide +kernel
theorem dX6_person_69 : decode cX6_person 69 = .ok (.getfield 176, 3) := by decide +kernel
theorem dX6_person_72 : decode cX6_person 72 = .ok (.iload_n 1, 1) := by decide +kernel
theorem dX6_person_73 : decode cX6_person 73 = .ok (.invokevirtual 206, 3) := by decide +kernel
theorem dX6_person_76 : decode cX6_person 76 = .ok (.ireturn, 1) := by decide +kernel
theorem dX6_person_77 : decode cX6_person 77 = .ok (.iload 4, 2) := by decide +kernel
theorem dX6_person_79 : decode cX6_person 79 = .ok (.ireturn, 1) := by decide +kernel
theorem dX6_person_80 : decode cX6_person 80 = .ok (.aload_n 3, 1) := by decide +kernel
theorem dX6_person_81 : decode cX6_person 81 = .ok (.getfield 245, 3) := by decide +kernel
theorem dX6_person_84 : decode cX6_person 84 = .ok (.iload_n 1, 1) := by decide +kernel
theorem dX6_person_85 : decode cX6_person 85 = .ok (.invokevirtual 206, 3) := by decide +kernel
theorem dX6_person_88 : decode cX6_person 88 = .ok (.ireturn, 1) := by decide +kernel
theorem dX6_person_89 : decode cX6_person 89 = .ok (.iload 4, 2) := by decide +kernel
theorem dX6_person_91 : decode cX6_person 91 = .ok (.bipush (-9), 2) := by decide +kernel
theorem dX6_person_93 : decode cX6_person 93 = .ok (.if_icmp .eq 19, 3) := by decide +kernel
theorem dX6_person_96 : decode cX6_person 96 = .ok (.aload_n 3, 1) := by decide +kernel
theorem dX6_person_97 : decode cX6_person 97 = .ok (.getfield 158, 3) := by decide +kernel
theorem dX6_person_100 : decode cX6_person 100 = .ok (.iload 4, 2) := by decide +kernel
theorem dX6_person_102 : decode cX6_person 102 = .ok (.invokevirtual 218, 3) := by decide +kernel
theorem dX6_person_105 : decode cX6_person 105 = .ok (.ifCond .eq 7, 3) := by decide +kernel
theorem dX6_person_108 : decode cX6_person 108 = .ok (.iconst 1, 1) := by decide +kernel
theorem dX6_person_109 : decode cX6_person 109 = .ok (.goto 4, 3) := by decide +kernel
theorem dX6_person_112 : decode cX6_person 112 = .ok (.iconst 0, 1) := by decide +kernel
theorem dX6_person_113 : decode cX6_person 113 = .ok (.ireturn, 1) := by decide +kernel
theorem dX6_person_114 : decode cX6_person 114 = .ok (.aload_n 3, 1) := by decide +kernel
theorem dX6_person_115 : decode cX6_person 115 = .ok (.getfield 248, 3) := by decide +kernel
theorem dX6_person_118 : decode cX6_person 118 = .ok (.iload_n 1, 1) := by decide +kernel
theorem dX6_person_119 : decode cX6_person 119 = .ok (.invokevirtual 206, 3) := by decide +kernel
theorem dX6_person_122 : decode cX6_person 122 = .ok (.ireturn, 1) := by decide +kernel
theorem dX6_person_123 : decode cX6_person 123 = .ok (.aload_n 3, 1) := by decide +kernel
theorem dX6_person_124 : decode cX6_person 124 = .ok (.getfield 188, 3) := by decide +kernel
theorem dX6_person_127 : decode cX6_person 127 = .ok (.iload_n 1, 1) := by decide +kernel
theorem dX6_person_128 : decode cX6_person 128 = .ok (.invokevirtual 206, 3) := by decide +kernel
theorem dX6_person_131 : decode cX6_person 131 = .ok (.ireturn, 1) := by decide +kernel
theorem dX6_person_132 : decode cX6_person 132 = .ok (.iconst (-1), 1) := by decide +kernel
theorem dX6_person_133 : decode cX6_person 133 = .ok (.ireturn, 1) := by decide +kernel
theorem dX6_inVan_0 : decode cX6_inVan 0 = .ok (.iload_n 1, 1) := by decide +kernel
theorem dX6_inVan_1 : decode cX6_inVan 1 = .ok (.iconst 0, 1) := by decide +kernel
theorem dX6_inVan_2 : decode cX6_inVan 2 = .ok (.iconst 1, 1) := by decide +kernel
theorem dX6_inVan_3 : decode cX6_inVan 3 = .ok (.invokestatic 101, 3) := by decide +kernel
theorem dX6_inVan_6 : decode cX6_inVan 6 = .ok (.ifCond .ne 7, 3) := by decide +kernel
theorem dX6_inVan_9 : decode cX6_inVan 9 = .ok (.iload_n 2, 1) := by decide +kernel
theorem dX6_inVan_10 : decode cX6_inVan 10 = .ok (.ifCond .ge 5, 3) := by decide +kernel
theorem dX6_inVan_13 : decode cX6_inVan 13 = .ok (.iconst (-1), 1) := by decide +kernel
theorem dX6_inVan_14 : decode cX6_inVan 14 = .ok (.ireturn, 1) := by decide +kernel
theorem dX6_inVan_15 : decode cX6_inVan 15 = .ok (.aload_n 0, 1) := by decide +kernel
theorem dX6_inVan_16 : decode cX6_inVan 16 = .ok (.getfield 12, 3) := by decide +kernel
theorem dX6_inVan_19 : decode cX6_inVan 19 = .ok (.getfield 30, 3) := by decide +kernel
theorem dX6_inVan_22 : decode cX6_inVan 22 = .ok (.getfield 158, 3) := by decide +kernel
theorem dX6_inVan_25 : decode cX6_inVan 25 = .ok (.bipush 20, 2) := by decide +kernel
theorem dX6_inVan_27 : decode cX6_inVan 27 = .ok (.iload_n 1, 1) := by decide +kernel
theorem dX6_inVan_28 : decode cX6_inVan 28 = .ok (.iadd, 1) := by decide +kernel
theorem dX6_inVan_29 : decode cX6_inVan 29 = .ok (.iload_n 2, 1) := by decide +kernel
theorem dX6_inVan_30 : decode cX6_inVan 30 = .ok (.invokevirtual 251, 3) := by decide +kernel
theorem dX6_inVan_33 : decode cX6_inVan 33 = .ok (.ireturn, 1) := by decide +kernel
theorem dX6_feeIn_0 : decode cX6_feeIn 0 = .ok (.iload_n 1, 1) := by decide +kernel
theorem dX6_feeIn_1 : decode cX6_feeIn 1 = .ok (.iconst 0, 1) := by decide +kernel
theorem dX6_feeIn_2 : decode cX6_feeIn 2 = .ok (.bipush 11, 2) := by decide +kernel
theorem dX6_feeIn_4 : decode cX6_feeIn 4 = .ok (.invokestatic 101, 3) := by decide +kernel
theorem dX6_feeIn_7 : decode cX6_feeIn 7 = .ok (.ifCond .ne 23, 3) := by decide +kernel
theorem dX6_feeIn_10 : decode cX6_feeIn 10 = .ok (.iload_n 2, 1) := by decide +kernel
theorem dX6_feeIn_11 : decode cX6_feeIn 11 = .ok (.iconst 0, 1) := by decide +kernel
theorem dX6_feeIn_12 : decode cX6_feeIn 12 = .ok (.bipush 50, 2) := by decide +kernel
theorem dX6_feeIn_14 : decode cX6_feeIn 14 = .ok (.invokestatic 101, 3) := by decide +kernel
theorem dX6_feeIn_17 : decode cX6_feeIn 17 = .ok (.ifCond .ne 13, 3) := by decide +kernel
theorem dX6_feeIn_20 : decode cX6_feeIn 20 = .ok (.iload_n 3, 1) := by decide +kernel
theorem dX6_feeIn_21 : decode cX6_feeIn 21 = .ok (.iconst 0, 1) := by decide +kernel
theorem dX6_feeIn_22 : decode cX6_feeIn 22 = .ok (.bipush 9, 2) := by decide +kernel
theorem dX6_feeIn_24 : decode cX6_feeIn 24 = .ok (.invokestatic 101, 3) := by decide +kernel
theorem dX6_feeIn_27 : decode cX6_feeIn 27 = .ok (.ifCond .eq 5, 3) := by decide +kernel
theorem dX6_feeIn_30 : decode cX6_feeIn 30 = .ok (.iconst (-1), 1) := by decide +kernel
theorem dX6_feeIn_31 : decode cX6_feeIn 31 = .ok (.ireturn, 1) := by decide +kernel
theorem dX6_feeIn_32 : decode cX6_feeIn 32 = .ok (.aload_n 0, 1) := by decide +kernel
theorem dX6_feeIn_33 : decode cX6_feeIn 33 = .ok (.getfield 12, 3) := by decide +kernel
theorem dX6_feeIn_36 : decode cX6_feeIn 36 = .ok (.getfield 30, 3) := by decide +kernel
theorem dX6_feeIn_39 : decode cX6_feeIn 39 = .ok (.iload_n 1, 1) := by decide +kernel
theorem dX6_feeIn_40 : decode cX6_feeIn 40 = .ok (.invokevirtual 254, 3) := by decide +kernel
theorem dX6_feeIn_43 : decode cX6_feeIn 43 = .ok (.ifCond .ne 6, 3) := by decide +kernel
theorem dX6_feeIn_46 : decode cX6_feeIn 46 = .ok (.bipush (-2), 2) := by decide +kernel
theorem dX6_feeIn_48 : decode cX6_feeIn 48 = .ok (.ireturn, 1) := by decide +kernel
theorem dX6_feeIn_49 : decode cX6_feeIn 49 = .ok (.aload_n 0, 1) := by decide +kernel
theorem dX6_feeIn_50 : decode cX6_feeIn 50 = .ok (.getfield 12, 3) := by decide +kernel
theorem dX6_feeIn_53 : decode cX6_feeIn 53 = .ok (.getfield 30, 3) := by decide +kernel
theorem dX6_feeIn_56 : decode cX6_feeIn 56 = .ok (.iload_n 1, 1) := by decide +kernel
theorem dX6_feeIn_57 : decode cX6_feeIn 57 = .ok (.iload_n 2, 1) := by decide +kernel
theorem dX6_feeIn_58 : decode cX6_feeIn 58 = .ok (.iload_n 3, 1) := by decide +kernel
theorem dX6_feeIn_59 : decode cX6_feeIn 59 = .ok (.invokevirtual 257, 3) := by decide +kernel
theorem dX6_feeIn_62 : decode cX6_feeIn 62 = .ok (.ireturn, 1) := by decide +kernel
theorem dX6_breaksIn_0 : decode cX6_breaksIn 0 = .ok (.iload_n 1, 1) := by decide +kernel
theorem dX6_breaksIn_1 : decode cX6_breaksIn 1 = .ok (.iconst 0, 1) := by decide +kernel
theorem dX6_breaksIn_2 : decode cX6_breaksIn 2 = .ok (.bipush 11, 2) := by decide +kernel
theorem dX6_breaksIn_4 : decode cX6_breaksIn 4 = .ok (.invokestatic 101, 3) := by decide +kernel
theorem dX6_breaksIn_7 : decode cX6_breaksIn 7 = .ok (.ifCond .ne 22, 3) := by decide +kernel
theorem dX6_breaksIn_10 : decode cX6_breaksIn 10 = .ok (.iload_n 2, 1) := by decide +kernel
theorem dX6_breaksIn_11 : decode cX6_breaksIn 11 = .ok (.iconst 0, 1) := by decide +kernel
theorem dX6_breaksIn_12 : decode cX6_breaksIn 12 = .ok (.bipush 9, 2) := by decide +kernel
theorem dX6_breaksIn_14 : decode cX6_breaksIn 14 = .ok (.invokestatic 101, 3) := by decide +kernel
theorem dX6_breaksIn_17 : decode cX6_breaksIn 17 = .ok (.ifCond .ne 12, 3) := by decide +kernel
theorem dX6_breaksIn_20 : decode cX6_breaksIn 20 = .ok (.iload_n 3, 1) := by decide +kernel
theorem dX6_breaksIn_21 : decode cX6_breaksIn 21 = .ok (.iconst 0, 1) := by decide +kernel
theorem dX6_breaksIn_22 : decode cX6_breaksIn 22 = .ok (.iconst 3, 1) := by decide +kernel
theorem dX6_breaksIn_23 : decode cX6_breaksIn 23 = .ok (.invokestatic 101, 3) := by decide +kernel
theorem dX6_breaksIn_26 : decode cX6_breaksIn 26 = .ok (.ifCond .eq 5, 3) := by decide +kernel
theorem dX6_breaksIn_29 : decode cX6_breaksIn 29 = .ok (.iconst (-1), 1) := by decide +kernel
theorem dX6_breaksIn_30 : decode cX6_breaksIn 30 = .ok (.ireturn, 1) := by decide +kernel
theorem dX6_breaksIn_31 : decode cX6_breaksIn 31 = .ok (.aload_n 0, 1) := by decide +kernel
theorem dX6_breaksIn_32 : decode cX6_breaksIn 32 = .ok (.getfield 12, 3) := by decide +kernel
theorem dX6_breaksIn_35 : decode cX6_breaksIn 35 = .ok (.getfield 30, 3) := by decide +kernel
theorem dX6_breaksIn_38 : decode cX6_breaksIn 38 = .ok (.iload_n 1, 1) := by decide +kernel
theorem dX6_breaksIn_39 : decode cX6_breaksIn 39 = .ok (.invokevirtual 254, 3) := by decide +kernel
theorem dX6_breaksIn_42 : decode cX6_breaksIn 42 = .ok (.ifCond .ne 6, 3) := by decide +kernel
theorem dX6_breaksIn_45 : decode cX6_breaksIn 45 = .ok (.bipush (-2), 2) := by decide +kernel
theorem dX6_breaksIn_47 : decode cX6_breaksIn 47 = .ok (.ireturn, 1) := by decide +kernel
theorem dX6_breaksIn_48 : decode cX6_breaksIn 48 = .ok (.aload_n 0, 1) := by decide +kernel
theorem dX6_breaksIn_49 : decode cX6_breaksIn 49 = .ok (.getfield 12, 3) := by decide +kernel
theorem dX6_breaksIn_52 : decode cX6_breaksIn 52 = .ok (.getfield 30, 3) := by decide +kernel
theorem dX6_breaksIn_55 : decode cX6_breaksIn 55 = .ok (.iload_n 1, 1) := by decide +kernel
theorem dX6_breaksIn_56 : decode cX6_breaksIn 56 = .ok (.iload_n 2, 1) := by decide +kernel
theorem dX6_breaksIn_57 : decode cX6_breaksIn 57 = .ok (.iload_n 3, 1) := by decide +kernel
theorem dX6_breaksIn_58 : decode cX6_breaksIn 58 = .ok (.invokevirtual 260, 3) := by decide +kernel
theorem dX6_breaksIn_61 : decode cX6_breaksIn 61 = .ok (.ireturn, 1) := by decide +kernel
theorem dX6_emptied_0 : decode cX6_emptied 0 = .ok (.iconst 0, 1) := by decide +kernel
theorem dX6_emptied_1 : decode cX6_emptied 1 = .ok (.istore_n 1, 1) := by decide +kernel
theorem dX6_emptied_2 : decode cX6_emptied 2 = .ok (.iconst 0, 1) := by decide +kernel
theorem dX6_emptied_3 : decode cX6_emptied 3 = .ok (.istore_n 2, 1) := by decide +kernel
theorem dX6_emptied_4 : decode cX6_emptied 4 = .ok (.iload_n 2, 1) := by decide +kernel
theorem dX6_emptied_5 : decode cX6_emptied 5 = .ok (.bipush 8, 2) := by decide +kernel
theorem dX6_emptied_7 : decode cX6_emptied 7 = .ok (.if_icmp .ge 29, 3) := by decide +kernel
theorem dX6_emptied_10 : decode cX6_emptied 10 = .ok (.aload_n 0, 1) := by decide +kernel
theorem dX6_emptied_11 : decode cX6_emptied 11 = .ok (.getfield 12, 3) := by decide +kernel
theorem dX6_emptied_14 : decode cX6_emptied 14 = .ok (.getfield 30, 3) := by decide +kernel
theorem dX6_emptied_17 : decode cX6_emptied 17 = .ok (.iload_n 2, 1) := by decide +kernel
theorem dX6_emptied_18 : decode cX6_emptied 18 = .ok (.invokevirtual 263, 3) := by decide +kernel
theorem dX6_emptied_21 : decode cX6_emptied 21 = .ok (.ifCond .lt 9, 3) := by decide +kernel
theorem dX6_emptied_24 : decode cX6_emptied 24 = .ok (.iload_n 1, 1) := by decide +kernel
theorem dX6_emptied_25 : decode cX6_emptied 25 = .ok (.iconst 1, 1) := by decide +kernel
theorem dX6_emptied_26 : decode cX6_emptied 26 = .ok (.iload_n 2, 1) := by decide +kernel
theorem dX6_emptied_27 : decode cX6_emptied 27 = .ok (.ishl, 1) := by decide +kernel
theorem dX6_emptied_28 : decode cX6_emptied 28 = .ok (.ior, 1) := by decide +kernel
theorem dX6_emptied_29 : decode cX6_emptied 29 = .ok (.istore_n 1, 1) := by decide +kernel
theorem dX6_emptied_30 : decode cX6_emptied 30 = .ok (.iinc 2 1, 3) := by decide +kernel
theorem dX6_emptied_33 : decode cX6_emptied 33 = .ok (.goto (-29), 3) := by decide +kernel
theorem dX6_emptied_36 : decode cX6_emptied 36 = .ok (.iload_n 1, 1) := by decide +kernel
theorem dX6_emptied_37 : decode cX6_emptied 37 = .ok (.ireturn, 1) := by decide +kernel
theorem dX6_outside_0 : decode cX6_outside 0 = .ok (.iload_n 0, 1) := by decide +kernel
theorem dX6_outside_1 : decode cX6_outside 1 = .ok (.iload_n 1, 1) := by decide +kernel
theorem dX6_outside_2 : decode cX6_outside 2 = .ok (.if_icmp .lt 8, 3) := by decide +kernel
theorem dX6_outside_5 : decode cX6_outside 5 = .ok (.iload_n 0, 1) := by decide +kernel
theorem dX6_outside_6 : decode cX6_outside 6 = .ok (.iload_n 2, 1) := by decide +kernel
theorem dX6_outside_7 : decode cX6_outside 7 = .ok (.if_icmp .le 7, 3) := by decide +kernel
theorem dX6_outside_10 : decode cX6_outside 10 = .ok (.iconst 1, 1) := by decide +kernel
theorem dX6_outside_11 : decode cX6_outside 11 = .ok (.goto 4, 3) := by decide +kernel
theorem dX6_outside_14 : decode cX6_outside 14 = .ok (.iconst 0, 1) := by decide +kernel
theorem dX6_outside_15 : decode cX6_outside 15 = .ok (.ireturn, 1) := by decide +kernel
theorem dX6_kindOf_0 : decode cX6_kindOf 0 = .ok (.iload_n 0, 1) := by decide +kernel
theorem dX6_kindOf_1 : decode cX6_kindOf 1 = .ok (.bipush 8, 2) := by decide +kernel
theorem dX6_kindOf_3 : decode cX6_kindOf 3 = .ok (.if_icmp .ge 5, 3) := by decide +kernel
theorem dX6_kindOf_6 : decode cX6_kindOf 6 = .ok (.iconst 0, 1) := by decide +kernel
theorem dX6_kindOf_7 : decode cX6_kindOf 7 = .ok (.ireturn, 1) := by decide +kernel
theorem dX6_kindOf_8 : decode cX6_kindOf 8 = .ok (.iload_n 0, 1) := by decide +kernel
theorem dX6_kindOf_9 : decode cX6_kindOf 9 = .ok (.bipush 20, 2) := by decide +kernel
theorem dX6_kindOf_11 : decode cX6_kindOf 11 = .ok (.if_icmp .ge 5, 3) := by decide +kernel
theorem dX6_kindOf_14 : decode cX6_kindOf 14 = .ok (.iconst 1, 1) := by decide +kernel
theorem dX6_kindOf_15 : decode cX6_kindOf 15 = .ok (.ireturn, 1) := by decide +kernel
theorem dX6_kindOf_16 : decode cX6_kindOf 16 = .ok (.iload_n 0, 1) := by decide +kernel
theorem dX6_kindOf_17 : decode cX6_kindOf 17 = .ok (.bipush 22, 2) := by decide +kernel
theorem dX6_kindOf_19 : decode cX6_kindOf 19 = .ok (.if_icmp .ge 5, 3) := by decide +kernel
theorem dX6_kindOf_22 : decode cX6_kindOf 22 = .ok (.iconst 2, 1) := by decide +kernel
theorem dX6_kindOf_23 : decode cX6_kindOf 23 = .ok (.ireturn, 1) := by decide +kernel
theorem dX6_kindOf_24 : decode cX6_kindOf 24 = .ok (.iload_n 0, 1) := by decide +kernel
theorem dX6_kindOf_25 : decode cX6_kindOf 25 = .ok (.bipush 22, 2) := by decide +kernel
theorem dX6_kindOf_27 : decode cX6_kindOf 27 = .ok (.if_icmp .ne 7, 3) := by decide +kernel
theorem dX6_kindOf_30 : decode cX6_kindOf 30 = .ok (.iconst 3, 1) := by decide +kernel
theorem dX6_kindOf_31 : decode cX6_kindOf 31 = .ok (.goto 4, 3) := by decide +kernel
theorem dX6_kindOf_34 : decode cX6_kindOf 34 = .ok (.iconst 4, 1) := by decide +kernel
theorem dX6_kindOf_35 : decode cX6_kindOf 35 = .ok (.ireturn, 1) := by decide +kernel
theorem dX6_ownerOf_0 : decode cX6_ownerOf 0 = .ok (.iload_n 0, 1) := by decide +kernel
theorem dX6_ownerOf_1 : decode cX6_ownerOf 1 = .ok (.invokestatic 209, 3) := by decide +kernel
theorem dX6_ownerOf_4 : decode cX6_ownerOf 4 = .ok (.tableswitch 40 0 2 #[28, 30, 35], 28) := by decide +kernel
theorem dX6_ownerOf_32 : decode cX6_ownerOf 32 = .ok (.iload_n 0, 1) := by decide +kernel
theorem dX6_ownerOf_33 : decode cX6_ownerOf 33 = .ok (.ireturn, 1) := by decide +kernel
theorem dX6_ownerOf_34 : decode cX6_ownerOf 34 = .ok (.iload_n 0, 1) := by decide +kernel
theorem dX6_ownerOf_35 : decode cX6_ownerOf 35 = .ok (.bipush 8, 2) := by decide +kernel
theorem dX6_ownerOf_37 : decode cX6_ownerOf 37 = .ok (.isub, 1) := by decide +kernel
theorem dX6_ownerOf_38 : decode cX6_ownerOf 38 = .ok (.ireturn, 1) := by decide +kernel
theorem dX6_ownerOf_39 : decode cX6_ownerOf 39 = .ok (.iload_n 0, 1) := by decide +kernel
theorem dX6_ownerOf_40 : decode cX6_ownerOf 40 = .ok (.bipush 20, 2) := by decide +kernel
theorem dX6_ownerOf_42 : decode cX6_ownerOf 42 = .ok (.isub, 1) := by decide +kernel
theorem dX6_ownerOf_43 : decode cX6_ownerOf 43 = .ok (.ireturn, 1) := by decide +kernel
theorem dX6_ownerOf_44 : decode cX6_ownerOf 44 = .ok (.bipush (-9), 2) := by decide +kernel
theorem dX6_ownerOf_46 : decode cX6_ownerOf 46 = .ok (.ireturn, 1) := by decide +kernel
theorem dX6_wornBy_0 : decode cX6_wornBy 0 = .ok (.iload_n 0, 1) := by decide +kernel
theorem dX6_wornBy_1 : decode cX6_wornBy 1 = .ok (.bipush 16, 2) := by decide +kernel
theorem dX6_wornBy_3 : decode cX6_wornBy 3 = .ok (.if_icmp .ge 7, 3) := by decide +kernel
theorem dX6_wornBy_6 : decode cX6_wornBy 6 = .ok (.iload_n 1, 1) := by decide +kernel
theorem dX6_wornBy_7 : decode cX6_wornBy 7 = .ok (.goto 6, 3) := by decide +kernel
theorem dX6_wornBy_10 : decode cX6_wornBy 10 = .ok (.iconst 2, 1) := by decide +kernel
theorem dX6_wornBy_11 : decode cX6_wornBy 11 = .ok (.iload_n 1, 1) := by decide +kernel
theorem dX6_wornBy_12 : decode cX6_wornBy 12 = .ok (.imul, 1) := by decide +kernel
theorem dX6_wornBy_13 : decode cX6_wornBy 13 = .ok (.istore_n 3, 1) := by decide +kernel
theorem dX6_wornBy_14 : decode cX6_wornBy 14 = .ok (.bipush 64, 2) := by decide +kernel
theorem dX6_wornBy_16 : decode cX6_wornBy 16 = .ok (.iload_n 0, 1) := by decide +kernel
theorem dX6_wornBy_17 : decode cX6_wornBy 17 = .ok (.iload_n 3, 1) := by decide +kernel
theorem dX6_wornBy_18 : decode cX6_wornBy 18 = .ok (.iadd, 1) := by decide +kernel
theorem dX6_wornBy_19 : decode cX6_wornBy 19 = .ok (.iconst 2, 1) := by decide +kernel
theorem dX6_wornBy_20 : decode cX6_wornBy 20 = .ok (.iload_n 2, 1) := by decide +kernel
theorem dX6_wornBy_21 : decode cX6_wornBy 21 = .ok (.imul, 1) := by decide +kernel
theorem dX6_wornBy_22 : decode cX6_wornBy 22 = .ok (.iadd, 1) := by decide +kernel
theorem dX6_wornBy_23 : decode cX6_wornBy 23 = .ok (.invokestatic 266, 3) := by decide +kernel
theorem dX6_wornBy_26 : decode cX6_wornBy 26 = .ok (.ireturn, 1) := by decide +kernel
theorem dJ7_fill_53178_0 : decode cJ7_fill_53178 0 = .ok (.iconst 0, 1) := by decide +kernel
theorem dJ7_fill_53178_1 : decode cJ7_fill_53178 1 = .ok (.istore_n 2, 1) := by decide +kernel
theorem dJ7_fill_53178_2 : decode cJ7_fill_53178 2 = .ok (.aload_n 0, 1) := by decide +kernel
theorem dJ7_fill_53178_3 : decode cJ7_fill_53178 3 = .ok (.arraylength, 1) := by decide +kernel
theorem dJ7_fill_53178_4 : decode cJ7_fill_53178 4 = .ok (.istore_n 3, 1) := by decide +kernel
theorem dJ7_fill_53178_5 : decode cJ7_fill_53178 5 = .ok (.iload_n 2, 1) := by decide +kernel
theorem dJ7_fill_53178_6 : decode cJ7_fill_53178 6 = .ok (.iload_n 3, 1) := by decide +kernel
theorem dJ7_fill_53178_7 : decode cJ7_fill_53178 7 = .ok (.if_icmp .ge 13, 3) := by decide +kernel
theorem dJ7_fill_53178_10 : decode cJ7_fill_53178 10 = .ok (.aload_n 0, 1) := by decide +kernel
theorem dJ7_fill_53178_11 : decode cJ7_fill_53178 11 = .ok (.iload_n 2, 1) := by decide +kernel
theorem dJ7_fill_53178_12 : decode cJ7_fill_53178 12 = .ok (.iload_n 1, 1) := by decide +kernel
theorem dJ7_fill_53178_13 : decode cJ7_fill_53178 13 = .ok (.iastore, 1) := by decide +kernel
theorem dJ7_fill_53178_14 : decode cJ7_fill_53178 14 = .ok (.iinc 2 1, 3) := by decide +kernel
theorem dJ7_fill_53178_17 : decode cJ7_fill_53178 17 = .ok (.goto (-12), 3) := by decide +kernel
theorem dJ7_fill_53178_20 : decode cJ7_fill_53178 20 = .ok (.return_, 1) := by decide +kernel
