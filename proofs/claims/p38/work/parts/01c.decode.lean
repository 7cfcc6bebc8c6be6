/-! decode rows (printed by TURN) -/
theorem dX0_init_0 : decode cX0_init 0 = .ok (.aload_n 0, 1) := by decide +kernel
theorem dX0_init_1 : decode cX0_init 1 = .ok (.invokespecial 1, 3) := by decide +kernel
theorem dX0_init_4 : decode cX0_init 4 = .ok (.aload_n 0, 1) := by decide +kernel
theorem dX0_init_5 : decode cX0_init 5 = .ok (.bipush 100, 2) := by decide +kernel
theorem dX0_init_7 : decode cX0_init 7 = .ok (.putfield 7, 3) := by decide +kernel
theorem dX0_init_10 : decode cX0_init 10 = .ok (.aload_n 0, 1) := by decide +kernel
theorem dX0_init_11 : decode cX0_init 11 = .ok (.bipush 10, 2) := by decide +kernel
theorem dX0_init_13 : decode cX0_init 13 = .ok (.putfield 13, 3) := by decide +kernel
theorem dX0_init_16 : decode cX0_init 16 = .ok (.return_, 1) := by decide +kernel
theorem dX0_alarms_0 : decode cX0_alarms 0 = .ok (.iload_n 1, 1) := by decide +kernel
theorem dX0_alarms_1 : decode cX0_alarms 1 = .ok (.aload_n 0, 1) := by decide +kernel
theorem dX0_alarms_2 : decode cX0_alarms 2 = .ok (.getfield 7, 3) := by decide +kernel
theorem dX0_alarms_5 : decode cX0_alarms 5 = .ok (.invokestatic 19, 3) := by decide +kernel
theorem dX0_alarms_8 : decode cX0_alarms 8 = .ok (.istore_n 2, 1) := by decide +kernel
theorem dX0_alarms_9 : decode cX0_alarms 9 = .ok (.aload_n 0, 1) := by decide +kernel
theorem dX0_alarms_10 : decode cX0_alarms 10 = .ok (.dup, 1) := by decide +kernel
theorem dX0_alarms_11 : decode cX0_alarms 11 = .ok (.getfield 25, 3) := by decide +kernel
theorem dX0_alarms_14 : decode cX0_alarms 14 = .ok (.iconst 1, 1) := by decide +kernel
theorem dX0_alarms_15 : decode cX0_alarms 15 = .ok (.iadd, 1) := by decide +kernel
theorem dX0_alarms_16 : decode cX0_alarms 16 = .ok (.putfield 25, 3) := by decide +kernel
theorem dX0_alarms_19 : decode cX0_alarms 19 = .ok (.aload_n 0, 1) := by decide +kernel
theorem dX0_alarms_20 : decode cX0_alarms 20 = .ok (.iload_n 2, 1) := by decide +kernel
theorem dX0_alarms_21 : decode cX0_alarms 21 = .ok (.aload_n 0, 1) := by decide +kernel
theorem dX0_alarms_22 : decode cX0_alarms 22 = .ok (.getfield 28, 3) := by decide +kernel
theorem dX0_alarms_25 : decode cX0_alarms 25 = .ok (.if_icmp .ne 12, 3) := by decide +kernel
theorem dX0_alarms_28 : decode cX0_alarms 28 = .ok (.aload_n 0, 1) := by decide +kernel
theorem dX0_alarms_29 : decode cX0_alarms 29 = .ok (.getfield 16, 3) := by decide +kernel
theorem dX0_alarms_32 : decode cX0_alarms 32 = .ok (.iconst 1, 1) := by decide +kernel
theorem dX0_alarms_33 : decode cX0_alarms 33 = .ok (.iadd, 1) := by decide +kernel
theorem dX0_alarms_34 : decode cX0_alarms 34 = .ok (.goto 4, 3) := by decide +kernel
theorem dX0_alarms_37 : decode cX0_alarms 37 = .ok (.iconst 1, 1) := by decide +kernel
theorem dX0_alarms_38 : decode cX0_alarms 38 = .ok (.putfield 16, 3) := by decide +kernel
theorem dX0_alarms_41 : decode cX0_alarms 41 = .ok (.aload_n 0, 1) := by decide +kernel
theorem dX0_alarms_42 : decode cX0_alarms 42 = .ok (.iload_n 2, 1) := by decide +kernel
theorem dX0_alarms_43 : decode cX0_alarms 43 = .ok (.putfield 28, 3) := by decide +kernel
theorem dX0_alarms_46 : decode cX0_alarms 46 = .ok (.iload_n 1, 1) := by decide +kernel
theorem dX0_alarms_47 : decode cX0_alarms 47 = .ok (.aload_n 0, 1) := by decide +kernel
theorem dX0_alarms_48 : decode cX0_alarms 48 = .ok (.getfield 7, 3) := by decide +kernel
theorem dX0_alarms_51 : decode cX0_alarms 51 = .ok (.isub, 1) := by decide +kernel
theorem dX0_alarms_52 : decode cX0_alarms 52 = .ok (.invokestatic 31, 3) := by decide +kernel
theorem dX0_alarms_55 : decode cX0_alarms 55 = .ok (.aload_n 0, 1) := by decide +kernel
theorem dX0_alarms_56 : decode cX0_alarms 56 = .ok (.getfield 13, 3) := by decide +kernel
theorem dX0_alarms_59 : decode cX0_alarms 59 = .ok (.if_icmp .gt 18, 3) := by decide +kernel
theorem dX0_alarms_62 : decode cX0_alarms 62 = .ok (.aload_n 0, 1) := by decide +kernel
theorem dX0_alarms_63 : decode cX0_alarms 63 = .ok (.getfield 28, 3) := by decide +kernel
theorem dX0_alarms_66 : decode cX0_alarms 66 = .ok (.ifCond .eq 15, 3) := by decide +kernel
theorem dX0_alarms_69 : decode cX0_alarms 69 = .ok (.aload_n 0, 1) := by decide +kernel
theorem dX0_alarms_70 : decode cX0_alarms 70 = .ok (.getfield 16, 3) := by decide +kernel
theorem dX0_alarms_73 : decode cX0_alarms 73 = .ok (.iconst 4, 1) := by decide +kernel
theorem dX0_alarms_74 : decode cX0_alarms 74 = .ok (.if_icmp .lt 7, 3) := by decide +kernel
theorem dX0_alarms_77 : decode cX0_alarms 77 = .ok (.iconst 1, 1) := by decide +kernel
theorem dX0_alarms_78 : decode cX0_alarms 78 = .ok (.goto 4, 3) := by decide +kernel
theorem dX0_alarms_81 : decode cX0_alarms 81 = .ok (.iconst 0, 1) := by decide +kernel
theorem dX0_alarms_82 : decode cX0_alarms 82 = .ok (.ireturn, 1) := by decide +kernel
theorem dX1_init_0 : decode cX1_init 0 = .ok (.aload_n 0, 1) := by decide +kernel
theorem dX1_init_1 : decode cX1_init 1 = .ok (.invokespecial 3, 3) := by decide +kernel
theorem dX1_init_4 : decode cX1_init 4 = .ok (.aload_n 0, 1) := by decide +kernel
theorem dX1_init_5 : decode cX1_init 5 = .ok (.aload_n 1, 1) := by decide +kernel
theorem dX1_init_6 : decode cX1_init 6 = .ok (.putfield 9, 3) := by decide +kernel
theorem dX1_init_9 : decode cX1_init 9 = .ok (.aload_n 0, 1) := by decide +kernel
theorem dX1_init_10 : decode cX1_init 10 = .ok (.iload_n 2, 1) := by decide +kernel
theorem dX1_init_11 : decode cX1_init 11 = .ok (.putfield 15, 3) := by decide +kernel
theorem dX1_init_14 : decode cX1_init 14 = .ok (.aload_n 0, 1) := by decide +kernel
theorem dX1_init_15 : decode cX1_init 15 = .ok (.iload_n 3, 1) := by decide +kernel
theorem dX1_init_16 : decode cX1_init 16 = .ok (.putfield 19, 3) := by decide +kernel
theorem dX1_init_19 : decode cX1_init 19 = .ok (.return_, 1) := by decide +kernel
theorem dX1_isFor_0 : decode cX1_isFor 0 = .ok (.aload_n 0, 1) := by decide +kernel
theorem dX1_isFor_1 : decode cX1_isFor 1 = .ok (.getfield 19, 3) := by decide +kernel
theorem dX1_isFor_4 : decode cX1_isFor 4 = .ok (.iconst (-1), 1) := by decide +kernel
theorem dX1_isFor_5 : decode cX1_isFor 5 = .ok (.if_icmp .eq 11, 3) := by decide +kernel
theorem dX1_isFor_8 : decode cX1_isFor 8 = .ok (.aload_n 0, 1) := by decide +kernel
theorem dX1_isFor_9 : decode cX1_isFor 9 = .ok (.getfield 19, 3) := by decide +kernel
theorem dX1_isFor_12 : decode cX1_isFor 12 = .ok (.iload_n 1, 1) := by decide +kernel
theorem dX1_isFor_13 : decode cX1_isFor 13 = .ok (.if_icmp .ne 7, 3) := by decide +kernel
theorem dX1_isFor_16 : decode cX1_isFor 16 = .ok (.iconst 1, 1) := by decide +kernel
theorem dX1_isFor_17 : decode cX1_isFor 17 = .ok (.goto 4, 3) := by decide +kernel
theorem dX1_isFor_20 : decode cX1_isFor 20 = .ok (.iconst 0, 1) := by decide +kernel
theorem dX1_isFor_21 : decode cX1_isFor 21 = .ok (.ireturn, 1) := by decide +kernel
theorem dX2_init_0 : decode cX2_init 0 = .ok (.aload_n 0, 1) := by decide +kernel
theorem dX2_init_1 : decode cX2_init 1 = .ok (.invokespecial 3, 3) := by decide +kernel
theorem dX2_init_4 : decode cX2_init 4 = .ok (.aload_n 0, 1) := by decide +kernel
theorem dX2_init_5 : decode cX2_init 5 = .ok (.iconst (-1), 1) := by decide +kernel
theorem dX2_init_6 : decode cX2_init 6 = .ok (.putfield 9, 3) := by decide +kernel
theorem dX2_init_9 : decode cX2_init 9 = .ok (.return_, 1) := by decide +kernel
theorem dX3_init_0 : decode cX3_init 0 = .ok (.aload_n 0, 1) := by decide +kernel
theorem dX3_init_1 : decode cX3_init 1 = .ok (.invokespecial 1, 3) := by decide +kernel
theorem dX3_init_4 : decode cX3_init 4 = .ok (.aload_n 0, 1) := by decide +kernel
theorem dX3_init_5 : decode cX3_init 5 = .ok (.new 7, 3) := by decide +kernel
theorem dX3_init_8 : decode cX3_init 8 = .ok (.dup, 1) := by decide +kernel
theorem dX3_init_9 : decode cX3_init 9 = .ok (.invokespecial 9, 3) := by decide +kernel
theorem dX3_init_12 : decode cX3_init 12 = .ok (.putfield 10, 3) := by decide +kernel
theorem dX3_init_15 : decode cX3_init 15 = .ok (.aload_n 0, 1) := by decide +kernel
theorem dX3_init_16 : decode cX3_init 16 = .ok (.new 7, 3) := by decide +kernel
theorem dX3_init_19 : decode cX3_init 19 = .ok (.dup, 1) := by decide +kernel
theorem dX3_init_20 : decode cX3_init 20 = .ok (.invokespecial 9, 3) := by decide +kernel
theorem dX3_init_23 : decode cX3_init 23 = .ok (.putfield 16, 3) := by decide +kernel
theorem dX3_init_26 : decode cX3_init 26 = .ok (.aload_n 0, 1) := by decide +kernel
theorem dX3_init_27 : decode cX3_init 27 = .ok (.new 7, 3) := by decide +kernel
theorem dX3_init_30 : decode cX3_init 30 = .ok (.dup, 1) := by decide +kernel
theorem dX3_init_31 : decode cX3_init 31 = .ok (.invokespecial 9, 3) := by decide +kernel
theorem dX3_init_34 : decode cX3_init 34 = .ok (.putfield 19, 3) := by decide +kernel
theorem dX3_init_37 : decode cX3_init 37 = .ok (.aload_n 0, 1) := by decide +kernel
theorem dX3_init_38 : decode cX3_init 38 = .ok (.iload_n 1, 1) := by decide +kernel
theorem dX3_init_39 : decode cX3_init 39 = .ok (.putfield 22, 3) := by decide +kernel
theorem dX3_init_42 : decode cX3_init 42 = .ok (.aload_n 0, 1) := by decide +kernel
theorem dX3_init_43 : decode cX3_init 43 = .ok (.aload_n 2, 1) := by decide +kernel
theorem dX3_init_44 : decode cX3_init 44 = .ok (.putfield 26, 3) := by decide +kernel
theorem dX3_init_47 : decode cX3_init 47 = .ok (.aload_n 0, 1) := by decide +kernel
theorem dX3_init_48 : decode cX3_init 48 = .ok (.iload_n 3, 1) := by decide +kernel
theorem dX3_init_49 : decode cX3_init 49 = .ok (.putfield 30, 3) := by decide +kernel
theorem dX3_init_52 : decode cX3_init 52 = .ok (.aload_n 0, 1) := by decide +kernel
theorem dX3_init_53 : decode cX3_init 53 = .ok (.lload 4, 2) := by decide +kernel
theorem dX3_init_55 : decode cX3_init 55 = .ok (.putfield 33, 3) := by decide +kernel
theorem dX3_init_58 : decode cX3_init 58 = .ok (.aload_n 0, 1) := by decide +kernel
theorem dX3_init_59 : decode cX3_init 59 = .ok (.iload_n 3, 1) := by decide +kernel
theorem dX3_init_60 : decode cX3_init 60 = .ok (.putfield 37, 3) := by decide +kernel
theorem dX3_init_63 : decode cX3_init 63 = .ok (.return_, 1) := by decide +kernel
theorem dX3_take_0 : decode cX3_take 0 = .ok (.aload_n 0, 1) := by decide +kernel
theorem dX3_take_1 : decode cX3_take 1 = .ok (.getfield 37, 3) := by decide +kernel
theorem dX3_take_4 : decode cX3_take 4 = .ok (.ifCond .le 7, 3) := by decide +kernel
theorem dX3_take_7 : decode cX3_take 7 = .ok (.iload_n 1, 1) := by decide +kernel
theorem dX3_take_8 : decode cX3_take 8 = .ok (.ifCond .gt 5, 3) := by decide +kernel
theorem dX3_take_11 : decode cX3_take 11 = .ok (.lconst 0, 1) := by decide +kernel
theorem dX3_take_12 : decode cX3_take 12 = .ok (.lreturn, 1) := by decide +kernel
theorem dX3_take_13 : decode cX3_take 13 = .ok (.aload_n 0, 1) := by decide +kernel
theorem dX3_take_14 : decode cX3_take 14 = .ok (.getfield 33, 3) := by decide +kernel
theorem dX3_take_17 : decode cX3_take 17 = .ok (.iload_n 1, 1) := by decide +kernel
theorem dX3_take_18 : decode cX3_take 18 = .ok (.i2l, 1) := by decide +kernel
theorem dX3_take_19 : decode cX3_take 19 = .ok (.lmul, 1) := by decide +kernel
theorem dX3_take_20 : decode cX3_take 20 = .ok (.aload_n 0, 1) := by decide +kernel
theorem dX3_take_21 : decode cX3_take 21 = .ok (.getfield 37, 3) := by decide +kernel
theorem dX3_take_24 : decode cX3_take 24 = .ok (.i2l, 1) := by decide +kernel
theorem dX3_take_25 : decode cX3_take 25 = .ok (.ldiv, 1) := by decide +kernel
theorem dX3_take_26 : decode cX3_take 26 = .ok (.lstore_n 2, 1) := by decide +kernel
theorem dX3_take_27 : decode cX3_take 27 = .ok (.aload_n 0, 1) := by decide +kernel
theorem dX3_take_28 : decode cX3_take 28 = .ok (.dup, 1) := by decide +kernel
theorem dX3_take_29 : decode cX3_take 29 = .ok (.getfield 37, 3) := by decide +kernel
theorem dX3_take_32 : decode cX3_take 32 = .ok (.iload_n 1, 1) := by decide +kernel
theorem dX3_take_33 : decode cX3_take 33 = .ok (.isub, 1) := by decide +kernel
theorem dX3_take_34 : decode cX3_take 34 = .ok (.putfield 37, 3) := by decide +kernel
theorem dX3_take_37 : decode cX3_take 37 = .ok (.aload_n 0, 1) := by decide +kernel
theorem dX3_take_38 : decode cX3_take 38 = .ok (.dup, 1) := by decide +kernel
theorem dX3_take_39 : decode cX3_take 39 = .ok (.getfield 33, 3) := by decide +kernel
theorem dX3_take_42 : decode cX3_take 42 = .ok (.lload_n 2, 1) := by decide +kernel
theorem dX3_take_43 : decode cX3_take 43 = .ok (.lsub, 1) := by decide +kernel
theorem dX3_take_44 : decode cX3_take 44 = .ok (.putfield 33, 3) := by decide +kernel
theorem dX3_take_47 : decode cX3_take 47 = .ok (.lload_n 2, 1) := by decide +kernel
theorem dX3_take_48 : decode cX3_take 48 = .ok (.lreturn, 1) := by decide +kernel
theorem dX4_init_0 : decode cX4_init 0 = .ok (.aload_n 0, 1) := by decide +kernel
theorem dX4_init_1 : decode cX4_init 1 = .ok (.invokespecial 3, 3) := by decide +kernel
theorem dX4_init_4 : decode cX4_init 4 = .ok (.aload_n 0, 1) := by decide +kernel
theorem dX4_init_5 : decode cX4_init 5 = .ok (.bipush 45, 2) := by decide +kernel
theorem dX4_init_7 : decode cX4_init 7 = .ok (.putfield 9, 3) := by decide +kernel
theorem dX4_init_10 : decode cX4_init 10 = .ok (.aload_n 0, 1) := by decide +kernel
theorem dX4_init_11 : decode cX4_init 11 = .ok (.iconst (-1), 1) := by decide +kernel
theorem dX4_init_12 : decode cX4_init 12 = .ok (.putfield 15, 3) := by decide +kernel
theorem dX4_init_15 : decode cX4_init 15 = .ok (.aload_n 0, 1) := by decide +kernel
theorem dX4_init_16 : decode cX4_init 16 = .ok (.iconst (-1), 1) := by decide +kernel
theorem dX4_init_17 : decode cX4_init 17 = .ok (.putfield 19, 3) := by decide +kernel
theorem dX4_init_20 : decode cX4_init 20 = .ok (.aload_n 0, 1) := by decide +kernel
theorem dX4_init_21 : decode cX4_init 21 = .ok (.iload_n 1, 1) := by decide +kernel
theorem dX4_init_22 : decode cX4_init 22 = .ok (.putfield 22, 3) := by decide +kernel
theorem dX4_init_25 : decode cX4_init 25 = .ok (.aload_n 0, 1) := by decide +kernel
theorem dX4_init_26 : decode cX4_init 26 = .ok (.iload_n 2, 1) := by decide +kernel
theorem dX4_init_27 : decode cX4_init 27 = .ok (.putfield 25, 3) := by decide +kernel
theorem dX4_init_30 : decode cX4_init 30 = .ok (.aload_n 0, 1) := by decide +kernel
theorem dX4_init_31 : decode cX4_init 31 = .ok (.iload_n 3, 1) := by decide +kernel
theorem dX4_init_32 : decode cX4_init 32 = .ok (.putfield 28, 3) := by decide +kernel
theorem dX4_init_35 : decode cX4_init 35 = .ok (.aload_n 0, 1) := by decide +kernel
theorem dX4_init_36 : decode cX4_init 36 = .ok (.iload 4, 2) := by decide +kernel
theorem dX4_init_38 : decode cX4_init 38 = .ok (.putfield 31, 3) := by decide +kernel
theorem dX4_init_41 : decode cX4_init 41 = .ok (.return_, 1) := by decide +kernel
theorem dX4_begin_0 : decode cX4_begin 0 = .ok (.iload_n 2, 1) := by decide +kernel
theorem dX4_begin_1 : decode cX4_begin 1 = .ok (.istore 4, 2) := by decide +kernel
theorem dX4_begin_3 : decode cX4_begin 3 = .ok (.aload_n 0, 1) := by decide +kernel
theorem dX4_begin_4 : decode cX4_begin 4 = .ok (.getfield 15, 3) := by decide +kernel
theorem dX4_begin_7 : decode cX4_begin 7 = .ok (.aload_n 1, 1) := by decide +kernel
theorem dX4_begin_8 : decode cX4_begin 8 = .ok (.getfield 34, 3) := by decide +kernel
theorem dX4_begin_11 : decode cX4_begin 11 = .ok (.getfield 40, 3) := by decide +kernel
theorem dX4_begin_14 : decode cX4_begin 14 = .ok (.if_icmp .eq 23, 3) := by decide +kernel
theorem dX4_begin_17 : decode cX4_begin 17 = .ok (.aload_n 0, 1) := by decide +kernel
theorem dX4_begin_18 : decode cX4_begin 18 = .ok (.aload_n 1, 1) := by decide +kernel
theorem dX4_begin_19 : decode cX4_begin 19 = .ok (.getfield 34, 3) := by decide +kernel
theorem dX4_begin_22 : decode cX4_begin 22 = .ok (.getfield 40, 3) := by decide +kernel
theorem dX4_begin_25 : decode cX4_begin 25 = .ok (.putfield 15, 3) := by decide +kernel
theorem dX4_begin_28 : decode cX4_begin 28 = .ok (.iload 4, 2) := by decide +kernel
theorem dX4_begin_30 : decode cX4_begin 30 = .ok (.aload_n 0, 1) := by decide +kernel
theorem dX4_begin_31 : decode cX4_begin 31 = .ok (.getfield 25, 3) := by decide +kernel
theorem dX4_begin_34 : decode cX4_begin 34 = .ok (.iadd, 1) := by decide +kernel
theorem dX4_begin_35 : decode cX4_begin 35 = .ok (.istore 4, 2) := by decide +kernel
theorem dX4_begin_37 : decode cX4_begin 37 = .ok (.aload_n 0, 1) := by decide +kernel
theorem dX4_begin_38 : decode cX4_begin 38 = .ok (.bipush 111, 2) := by decide +kernel
theorem dX4_begin_40 : decode cX4_begin 40 = .ok (.putfield 9, 3) := by decide +kernel
theorem dX4_begin_43 : decode cX4_begin 43 = .ok (.aload_n 0, 1) := by decide +kernel
theorem dX4_begin_44 : decode cX4_begin 44 = .ok (.aload_n 1, 1) := by decide +kernel
theorem dX4_begin_45 : decode cX4_begin 45 = .ok (.putfield 43, 3) := by decide +kernel
theorem dX4_begin_48 : decode cX4_begin 48 = .ok (.aload_n 0, 1) := by decide +kernel
theorem dX4_begin_49 : decode cX4_begin 49 = .ok (.iload_n 3, 1) := by decide +kernel
theorem dX4_begin_50 : decode cX4_begin 50 = .ok (.putfield 47, 3) := by decide +kernel
theorem dX4_begin_53 : decode cX4_begin 53 = .ok (.aload_n 0, 1) := by decide +kernel
theorem dX4_begin_54 : decode cX4_begin 54 = .ok (.iload_n 3, 1) := by decide +kernel
theorem dX4_begin_55 : decode cX4_begin 55 = .ok (.iconst 1, 1) := by decide +kernel
theorem dX4_begin_56 : decode cX4_begin 56 = .ok (.iload 4, 2) := by decide +kernel
theorem dX4_begin_58 : decode cX4_begin 58 = .ok (.invokestatic 50, 3) := by decide +kernel
theorem dX4_begin_61 : decode cX4_begin 61 = .ok (.iadd, 1) := by decide +kernel
theorem dX4_begin_62 : decode cX4_begin 62 = .ok (.putfield 19, 3) := by decide +kernel
theorem dX4_begin_65 : decode cX4_begin 65 = .ok (.return_, 1) := by decide +kernel
theorem dX4_end_0 : decode cX4_end 0 = .ok (.aload_n 0, 1) := by decide +kernel
theorem dX4_end_1 : decode cX4_end 1 = .ok (.dup, 1) := by decide +kernel
theorem dX4_end_2 : decode cX4_end 2 = .ok (.getfield 56, 3) := by decide +kernel
theorem dX4_end_5 : decode cX4_end 5 = .ok (.iload_n 2, 1) := by decide +kernel
theorem dX4_end_6 : decode cX4_end 6 = .ok (.aload_n 0, 1) := by decide +kernel
theorem dX4_end_7 : decode cX4_end 7 = .ok (.getfield 47, 3) := by decide +kernel
theorem dX4_end_10 : decode cX4_end 10 = .ok (.isub, 1) := by decide +kernel
theorem dX4_end_11 : decode cX4_end 11 = .ok (.iadd, 1) := by decide +kernel
theorem dX4_end_12 : decode cX4_end 12 = .ok (.putfield 56, 3) := by decide +kernel
theorem dX4_end_15 : decode cX4_end 15 = .ok (.aload_n 0, 1) := by decide +kernel
theorem dX4_end_16 : decode cX4_end 16 = .ok (.aconst_null, 1) := by decide +kernel
theorem dX4_end_17 : decode cX4_end 17 = .ok (.putfield 43, 3) := by decide +kernel
theorem dX4_end_20 : decode cX4_end 20 = .ok (.aload_n 0, 1) := by decide +kernel
theorem dX4_end_21 : decode cX4_end 21 = .ok (.bipush 45, 2) := by decide +kernel
theorem dX4_end_23 : decode cX4_end 23 = .ok (.putfield 9, 3) := by decide +kernel
theorem dX4_end_26 : decode cX4_end 26 = .ok (.aload_n 0, 1) := by decide +kernel
theorem dX4_end_27 : decode cX4_end 27 = .ok (.dup, 1) := by decide +kernel
theorem dX4_end_28 : decode cX4_end 28 = .ok (.getfield 59, 3) := by decide +kernel
theorem dX4_end_31 : decode cX4_end 31 = .ok (.iload_n 1, 1) := by decide +kernel
theorem dX4_end_32 : decode cX4_end 32 = .ok (.iadd, 1) := by decide +kernel
theorem dX4_end_33 : decode cX4_end 33 = .ok (.putfield 59, 3) := by decide +kernel
theorem dX4_end_36 : decode cX4_end 36 = .ok (.aload_n 0, 1) := by decide +kernel
theorem dX4_end_37 : decode cX4_end 37 = .ok (.getfield 59, 3) := by decide +kernel
theorem dX4_end_40 : decode cX4_end 40 = .ok (.aload_n 0, 1) := by decide +kernel
theorem dX4_end_41 : decode cX4_end 41 = .ok (.getfield 28, 3) := by decide +kernel
theorem dX4_end_44 : decode cX4_end 44 = .ok (.if_icmp .lt 24, 3) := by decide +kernel
theorem dX4_end_47 : decode cX4_end 47 = .ok (.aload_n 0, 1) := by decide +kernel
theorem dX4_end_48 : decode cX4_end 48 = .ok (.iconst 0, 1) := by decide +kernel
theorem dX4_end_49 : decode cX4_end 49 = .ok (.putfield 59, 3) := by decide +kernel
theorem dX4_end_52 : decode cX4_end 52 = .ok (.aload_n 0, 1) := by decide +kernel
theorem dX4_end_53 : decode cX4_end 53 = .ok (.bipush 98, 2) := by decide +kernel
theorem dX4_end_55 : decode cX4_end 55 = .ok (.putfield 9, 3) := by decide +kernel
theorem dX4_end_58 : decode cX4_end 58 = .ok (.aload_n 0, 1) := by decide +kernel
theorem dX4_end_59 : decode cX4_end 59 = .ok (.iload_n 2, 1) := by decide +kernel
theorem dX4_end_60 : decode cX4_end 60 = .ok (.aload_n 0, 1) := by decide +kernel
theorem dX4_end_61 : decode cX4_end 61 = .ok (.getfield 31, 3) := by decide +kernel
theorem dX4_end_64 : decode cX4_end 64 = .ok (.iadd, 1) := by decide +kernel
theorem dX4_end_65 : decode cX4_end 65 = .ok (.putfield 19, 3) := by decide +kernel
theorem dX4_end_68 : decode cX4_end 68 = .ok (.return_, 1) := by decide +kernel
theorem dX4_busyUntil_0 : decode cX4_busyUntil 0 = .ok (.aload_n 0, 1) := by decide +kernel
theorem dX4_busyUntil_1 : decode cX4_busyUntil 1 = .ok (.getfield 43, 3) := by decide +kernel
theorem dX4_busyUntil_4 : decode cX4_busyUntil 4 = .ok (.ifnull 17, 3) := by decide +kernel
theorem dX4_busyUntil_7 : decode cX4_busyUntil 7 = .ok (.aload_n 0, 1) := by decide +kernel
theorem dX4_busyUntil_8 : decode cX4_busyUntil 8 = .ok (.getfield 56, 3) := by decide +kernel
theorem dX4_busyUntil_11 : decode cX4_busyUntil 11 = .ok (.iload_n 1, 1) := by decide +kernel
theorem dX4_busyUntil_12 : decode cX4_busyUntil 12 = .ok (.iadd, 1) := by decide +kernel
theorem dX4_busyUntil_13 : decode cX4_busyUntil 13 = .ok (.aload_n 0, 1) := by decide +kernel
theorem dX4_busyUntil_14 : decode cX4_busyUntil 14 = .ok (.getfield 47, 3) := by decide +kernel
theorem dX4_busyUntil_17 : decode cX4_busyUntil 17 = .ok (.isub, 1) := by decide +kernel
theorem dX4_busyUntil_18 : decode cX4_busyUntil 18 = .ok (.goto 7, 3) := by decide +kernel
theorem dX4_busyUntil_21 : decode cX4_busyUntil 21 = .ok (.aload_n 0, 1) := by decide +kernel
theorem dX4_busyUntil_22 : decode cX4_busyUntil 22 = .ok (.getfield 56, 3) := by decide +kernel
theorem dX4_busyUntil_25 : decode cX4_busyUntil 25 = .ok (.ireturn, 1) := by decide +kernel
theorem dX5_init_0 : decode cX5_init 0 = .ok (.aload_n 0, 1) := by decide +kernel
theorem dX5_init_1 : decode cX5_init 1 = .ok (.invokespecial 1, 3) := by decide +kernel
theorem dX5_init_4 : decode cX5_init 4 = .ok (.return_, 1) := by decide +kernel
theorem dX5_add_0 : decode cX5_add 0 = .ok (.iload_n 1, 1) := by decide +kernel
theorem dX5_add_1 : decode cX5_add 1 = .ok (.ifCond .lt 24, 3) := by decide +kernel
theorem dX5_add_4 : decode cX5_add 4 = .ok (.iload_n 1, 1) := by decide +kernel
theorem dX5_add_5 : decode cX5_add 5 = .ok (.bipush 64, 2) := by decide +kernel
theorem dX5_add_7 : decode cX5_add 7 = .ok (.if_icmp .ge 18, 3) := by decide +kernel
theorem dX5_add_10 : decode cX5_add 10 = .ok (.aload_n 0, 1) := by decide +kernel
theorem dX5_add_11 : decode cX5_add 11 = .ok (.dup, 1) := by decide +kernel
theorem dX5_add_12 : decode cX5_add 12 = .ok (.getfield 7, 3) := by decide +kernel
theorem dX5_add_15 : decode cX5_add 15 = .ok (.lconst 1, 1) := by decide +kernel
theorem dX5_add_16 : decode cX5_add 16 = .ok (.iload_n 1, 1) := by decide +kernel
theorem dX5_add_17 : decode cX5_add 17 = .ok (.lshl, 1) := by decide +kernel
theorem dX5_add_18 : decode cX5_add 18 = .ok (.lor, 1) := by decide +kernel
theorem dX5_add_19 : decode cX5_add 19 = .ok (.putfield 7, 3) := by decide +kernel
theorem dX5_add_22 : decode cX5_add 22 = .ok (.goto 31, 3) := by decide +kernel
theorem dX5_add_25 : decode cX5_add 25 = .ok (.iload_n 1, 1) := by decide +kernel
theorem dX5_add_26 : decode cX5_add 26 = .ok (.bipush 64, 2) := by decide +kernel
theorem dX5_add_28 : decode cX5_add 28 = .ok (.if_icmp .lt 25, 3) := by decide +kernel
theorem dX5_add_31 : decode cX5_add 31 = .ok (.iload_n 1, 1) := by decide +kernel
theorem dX5_add_32 : decode cX5_add 32 = .ok (.sipush 128, 3) := by decide +kernel
theorem dX5_add_35 : decode cX5_add 35 = .ok (.if_icmp .ge 18, 3) := by decide +kernel
theorem dX5_add_38 : decode cX5_add 38 = .ok (.aload_n 0, 1) := by decide +kernel
theorem dX5_add_39 : decode cX5_add 39 = .ok (.dup, 1) := by decide +kernel
theorem dX5_add_40 : decode cX5_add 40 = .ok (.getfield 13, 3) := by decide +kernel
theorem dX5_add_43 : decode cX5_add 43 = .ok (.lconst 1, 1) := by decide +kernel
theorem dX5_add_44 : decode cX5_add 44 = .ok (.iload_n 1, 1) := by decide +kernel
theorem dX5_add_45 : decode cX5_add 45 = .ok (.bipush 64, 2) := by decide +kernel
theorem dX5_add_47 : decode cX5_add 47 = .ok (.isub, 1) := by decide +kernel
theorem dX5_add_48 : decode cX5_add 48 = .ok (.lshl, 1) := by decide +kernel
theorem dX5_add_49 : decode cX5_add 49 = .ok (.lor, 1) := by decide +kernel
theorem dX5_add_50 : decode cX5_add 50 = .ok (.putfield 13, 3) := by decide +kernel
theorem dX5_add_53 : decode cX5_add 53 = .ok (.return_, 1) := by decide +kernel
theorem dX5_remove_0 : decode cX5_remove 0 = .ok (.iload_n 1, 1) := by decide +kernel
theorem dX5_remove_1 : decode cX5_remove 1 = .ok (.ifCond .lt 28, 3) := by decide +kernel
theorem dX5_remove_4 : decode cX5_remove 4 = .ok (.iload_n 1, 1) := by decide +kernel
theorem dX5_remove_5 : decode cX5_remove 5 = .ok (.bipush 64, 2) := by decide +kernel
theorem dX5_remove_7 : decode cX5_remove 7 = .ok (.if_icmp .ge 22, 3) := by decide +kernel
theorem dX5_remove_10 : decode cX5_remove 10 = .ok (.aload_n 0, 1) := by decide +kernel
theorem dX5_remove_11 : decode cX5_remove 11 = .ok (.dup, 1) := by decide +kernel
theorem dX5_remove_12 : decode cX5_remove 12 = .ok (.getfield 7, 3) := by decide +kernel
theorem dX5_remove_15 : decode cX5_remove 15 = .ok (.lconst 1, 1) := by decide +kernel
theorem dX5_remove_16 : decode cX5_remove 16 = .ok (.iload_n 1, 1) := by decide +kernel
theorem dX5_remove_17 : decode cX5_remove 17 = .ok (.lshl, 1) := by decide +kernel
theorem dX5_remove_18 : decode cX5_remove 18 = .ok (.ldc2_w 16, 3) := by decide +kernel
theorem dX5_remove_21 : decode cX5_remove 21 = .ok (.lxor, 1) := by decide +kernel
theorem dX5_remove_22 : decode cX5_remove 22 = .ok (.land, 1) := by decide +kernel
theorem dX5_remove_23 : decode cX5_remove 23 = .ok (.putfield 7, 3) := by decide +kernel
theorem dX5_remove_26 : decode cX5_remove 26 = .ok (.goto 35, 3) := by decide +kernel
theorem dX5_remove_29 : decode cX5_remove 29 = .ok (.iload_n 1, 1) := by decide +kernel
theorem dX5_remove_30 : decode cX5_remove 30 = .ok (.bipush 64, 2) := by decide +kernel
theorem dX5_remove_32 : decode cX5_remove 32 = .ok (.if_icmp .lt 29, 3) := by decide +kernel
theorem dX5_remove_35 : decode cX5_remove 35 = .ok (.iload_n 1, 1) := by decide +kernel
theorem dX5_remove_36 : decode cX5_remove 36 = .ok (.sipush 128, 3) := by decide +kernel
theorem dX5_remove_39 : decode cX5_remove 39 = .ok (.if_icmp .ge 22, 3) := by decide +kernel
theorem dX5_remove_42 : decode cX5_remove 42 = .ok (.aload_n 0, 1) := by decide +kernel
theorem dX5_remove_43 : decode cX5_remove 43 = .ok (.dup, 1) := by decide +kernel
theorem dX5_remove_44 : decode cX5_remove 44 = .ok (.getfield 13, 3) := by decide +kernel
theorem dX5_remove_47 : decode cX5_remove 47 = .ok (.lconst 1, 1) := by decide +kernel
theorem dX5_remove_48 : decode cX5_remove 48 = .ok (.iload_n 1, 1) := by decide +kernel
theorem dX5_remove_49 : decode cX5_remove 49 = .ok (.bipush 64, 2) := by decide +kernel
theorem dX5_remove_51 : decode cX5_remove 51 = .ok (.isub, 1) := by decide +kernel
theorem dX5_remove_52 : decode cX5_remove 52 = .ok (.lshl, 1) := by decide +kernel
theorem dX5_remove_53 : decode cX5_remove 53 = .ok (.ldc2_w 16, 3) := by decide +kernel
theorem dX5_remove_56 : decode cX5_remove 56 = .ok (.lxor, 1) := by decide +kernel
theorem dX5_remove_57 : decode cX5_remove 57 = .ok (.land, 1) := by decide +kernel
theorem dX5_remove_58 : decode cX5_remove 58 = .ok (.putfield 13, 3) := by decide +kernel
theorem dX5_remove_61 : decode cX5_remove 61 = .ok (.return_, 1) := by decide +kernel
theorem dX5_has_0 : decode cX5_has 0 = .ok (.iload_n 1, 1) := by decide +kernel
theorem dX5_has_1 : decode cX5_has 1 = .ok (.ifCond .lt 28, 3) := by decide +kernel
theorem dX5_has_4 : decode cX5_has 4 = .ok (.iload_n 1, 1) := by decide +kernel
theorem dX5_has_5 : decode cX5_has 5 = .ok (.bipush 64, 2) := by decide +kernel
theorem dX5_has_7 : decode cX5_has 7 = .ok (.if_icmp .ge 22, 3) := by decide +kernel
theorem dX5_has_10 : decode cX5_has 10 = .ok (.aload_n 0, 1) := by decide +kernel
theorem dX5_has_11 : decode cX5_has 11 = .ok (.getfield 7, 3) := by decide +kernel
theorem dX5_has_14 : decode cX5_has 14 = .ok (.iload_n 1, 1) := by decide +kernel
theorem dX5_has_15 : decode cX5_has 15 = .ok (.lushr, 1) := by decide +kernel
theorem dX5_has_16 : decode cX5_has 16 = .ok (.lconst 1, 1) := by decide +kernel
theorem dX5_has_17 : decode cX5_has 17 = .ok (.land, 1) := by decide +kernel
theorem dX5_has_18 : decode cX5_has 18 = .ok (.lconst 0, 1) := by decide +kernel
theorem dX5_has_19 : decode cX5_has 19 = .ok (.lcmp, 1) := by decide +kernel
theorem dX5_has_20 : decode cX5_has 20 = .ok (.ifCond .eq 7, 3) := by decide +kernel
theorem dX5_has_23 : decode cX5_has 23 = .ok (.iconst 1, 1) := by decide +kernel
theorem dX5_has_24 : decode cX5_has 24 = .ok (.goto 4, 3) := by decide +kernel
theorem dX5_has_27 : decode cX5_has 27 = .ok (.iconst 0, 1) := by decide +kernel
theorem dX5_has_28 : decode cX5_has 28 = .ok (.ireturn, 1) := by decide +kernel
theorem dX5_has_29 : decode cX5_has 29 = .ok (.iload_n 1, 1) := by decide +kernel
theorem dX5_has_30 : decode cX5_has 30 = .ok (.bipush 64, 2) := by decide +kernel
theorem dX5_has_32 : decode cX5_has 32 = .ok (.if_icmp .lt 30, 3) := by decide +kernel
theorem dX5_has_35 : decode cX5_has 35 = .ok (.iload_n 1, 1) := by decide +kernel
theorem dX5_has_36 : decode cX5_has 36 = .ok (.sipush 128, 3) := by decide +kernel
theorem dX5_has_39 : decode cX5_has 39 = .ok (.if_icmp .ge 23, 3) := by decide +kernel
theorem dX5_has_42 : decode cX5_has 42 = .ok (.aload_n 0, 1) := by decide +kernel
theorem dX5_has_43 : decode cX5_has 43 = .ok (.getfield 13, 3) := by decide +kernel
theorem dX5_has_46 : decode cX5_has 46 = .ok (.iload_n 1, 1) := by decide +kernel
theorem dX5_has_47 : decode cX5_has 47 = .ok (.bipush 64, 2) := by decide +kernel
theorem dX5_has_49 : decode cX5_has 49 = .ok (.isub, 1) := by decide +kernel
theorem dX5_has_50 : decode cX5_has 50 = .ok (.lushr, 1) := by decide +kernel
theorem dX5_has_51 : decode cX5_has 51 = .ok (.lconst 1, 1) := by decide +kernel
theorem dX5_has_52 : decode cX5_has 52 = .ok (.land, 1) := by decide +kernel
theorem dX5_has_53 : decode cX5_has 53 = .ok (.lconst 0, 1) := by decide +kernel
theorem dX5_has_54 : decode cX5_has 54 = .ok (.lcmp, 1) := by decide +kernel
theorem dX5_has_55 : decode cX5_has 55 = .ok (.ifCond .eq 7, 3) := by decide +kernel
theorem dX5_has_58 : decode cX5_has 58 = .ok (.iconst 1, 1) := by decide +kernel
theorem dX5_has_59 : decode cX5_has 59 = .ok (.goto 4, 3) := by decide +kernel
theorem dX5_has_62 : decode cX5_has 62 = .ok (.iconst 0, 1) := by decide +kernel
theorem dX5_has_63 : decode cX5_has 63 = .ok (.ireturn, 1) := by decide +kernel
theorem dX5_meets_0 : decode cX5_meets 0 = .ok (.aload_n 0, 1) := by decide +kernel
theorem dX5_meets_1 : decode cX5_meets 1 = .ok (.getfield 7, 3) := by decide +kernel
theorem dX5_meets_4 : decode cX5_meets 4 = .ok (.aload_n 1, 1) := by decide +kernel
theorem dX5_meets_5 : decode cX5_meets 5 = .ok (.getfield 7, 3) := by decide +kernel
theorem dX5_meets_8 : decode cX5_meets 8 = .ok (.land, 1) := by decide +kernel
theorem dX5_meets_9 : decode cX5_meets 9 = .ok (.lconst 0, 1) := by decide +kernel
theorem dX5_meets_10 : decode cX5_meets 10 = .ok (.lcmp, 1) := by decide +kernel
theorem dX5_meets_11 : decode cX5_meets 11 = .ok (.ifCond .ne 17, 3) := by decide +kernel
theorem dX5_meets_14 : decode cX5_meets 14 = .ok (.aload_n 0, 1) := by decide +kernel
theorem dX5_meets_15 : decode cX5_meets 15 = .ok (.getfield 13, 3) := by decide +kernel
theorem dX5_meets_18 : decode cX5_meets 18 = .ok (.aload_n 1, 1) := by decide +kernel
theorem dX5_meets_19 : decode cX5_meets 19 = .ok (.getfield 13, 3) := by decide +kernel
theorem dX5_meets_22 : decode cX5_meets 22 = .ok (.land, 1) := by decide +kernel
theorem dX5_meets_23 : decode cX5_meets 23 = .ok (.lconst 0, 1) := by decide +kernel
theorem dX5_meets_24 : decode cX5_meets 24 = .ok (.lcmp, 1) := by decide +kernel
theorem dX5_meets_25 : decode cX5_meets 25 = .ok (.ifCond .eq 7, 3) := by decide +kernel
theorem dX5_meets_28 : decode cX5_meets 28 = .ok (.iconst 1, 1) := by decide +kernel
theorem dX5_meets_29 : decode cX5_meets 29 = .ok (.goto 4, 3) := by decide +kernel
theorem dX5_meets_32 : decode cX5_meets 32 = .ok (.iconst 0, 1) := by decide +kernel
theorem dX5_meets_33 : decode cX5_meets 33 = .ok (.ireturn, 1) := by decide +kernel
theorem dX5_addWith_0 : decode cX5_addWith 0 = .ok (.aload_n 0, 1) := by decide +kernel
theorem dX5_addWith_1 : decode cX5_addWith 1 = .ok (.aload_n 1, 1) := by decide +kernel
theorem dX5_addWith_2 : decode cX5_addWith 2 = .ok (.getfield 18, 3) := by decide +kernel
theorem dX5_addWith_5 : decode cX5_addWith 5 = .ok (.invokevirtual 24, 3) := by decide +kernel
theorem dX5_addWith_8 : decode cX5_addWith 8 = .ok (.aload_n 0, 1) := by decide +kernel
theorem dX5_addWith_9 : decode cX5_addWith 9 = .ok (.dup, 1) := by decide +kernel
theorem dX5_addWith_10 : decode cX5_addWith 10 = .ok (.getfield 7, 3) := by decide +kernel
theorem dX5_addWith_13 : decode cX5_addWith 13 = .ok (.aload_n 1, 1) := by decide +kernel
theorem dX5_addWith_14 : decode cX5_addWith 14 = .ok (.getfield 28, 3) := by decide +kernel
theorem dX5_addWith_17 : decode cX5_addWith 17 = .ok (.getfield 7, 3) := by decide +kernel
theorem dX5_addWith_20 : decode cX5_addWith 20 = .ok (.lor, 1) := by decide +kernel
theorem dX5_addWith_21 : decode cX5_addWith 21 = .ok (.putfield 7, 3) := by decide +kernel
theorem dX5_addWith_24 : decode cX5_addWith 24 = .ok (.aload_n 0, 1) := by decide +kernel
theorem dX5_addWith_25 : decode cX5_addWith 25 = .ok (.dup, 1) := by decide +kernel
theorem dX5_addWith_26 : decode cX5_addWith 26 = .ok (.getfield 13, 3) := by decide +kernel
theorem dX5_addWith_29 : decode cX5_addWith 29 = .ok (.aload_n 1, 1) := by decide +kernel
theorem dX5_addWith_30 : decode cX5_addWith 30 = .ok (.getfield 28, 3) := by decide +kernel
theorem dX5_addWith_33 : decode cX5_addWith 33 = .ok (.getfield 13, 3) := by decide +kernel
theorem dX5_addWith_36 : decode cX5_addWith 36 = .ok (.lor, 1) := by decide +kernel
theorem dX5_addWith_37 : decode cX5_addWith 37 = .ok (.putfield 13, 3) := by decide +kernel
theorem dX5_addWith_40 : decode cX5_addWith 40 = .ok (.return_, 1) := by decide +kernel
theorem dX5_size_0 : decode cX5_size 0 = .ok (.aload_n 0, 1) := by decide +kernel
theorem dX5_size_1 : decode cX5_size 1 = .ok (.getfield 7, 3) := by decide +kernel
theorem dX5_size_4 : decode cX5_size 4 = .ok (.invokestatic 32, 3) := by decide +kernel
theorem dX5_size_7 : decode cX5_size 7 = .ok (.aload_n 0, 1) := by decide +kernel
theorem dX5_size_8 : decode cX5_size 8 = .ok (.getfield 13, 3) := by decide +kernel
theorem dX5_size_11 : decode cX5_size 11 = .ok (.invokestatic 32, 3) := by decide +kernel
theorem dX5_size_14 : decode cX5_size 14 = .ok (.iadd, 1) := by decide +kernel
theorem dX5_size_15 : decode cX5_size 15 = .ok (.ireturn, 1) := by decide +kernel
theorem dX6_init_0 : decode cX6_init 0 = .ok (.aload_n 0, 1) := by decide +kernel
theorem dX6_init_1 : decode cX6_init 1 = .ok (.invokespecial 1, 3) := by decide +kernel
theorem dX6_init_4 : decode cX6_init 4 = .ok (.aload_n 0, 1) := by decide +kernel
theorem dX6_init_5 : decode cX6_init 5 = .ok (.aload_n 1, 1) := by decide +kernel
theorem dX6_init_6 : decode cX6_init 6 = .ok (.putfield 7, 3) := by decide +kernel
theorem dX6_init_9 : decode cX6_init 9 = .ok (.aload_n 0, 1) := by decide +kernel
theorem dX6_init_10 : decode cX6_init 10 = .ok (.aload_n 2, 1) := by decide +kernel
theorem dX6_init_11 : decode cX6_init 11 = .ok (.putfield 13, 3) := by decide +kernel
theorem dX6_init_14 : decode cX6_init 14 = .ok (.aload_n 0, 1) := by decide +kernel
theorem dX6_init_15 : decode cX6_init 15 = .ok (.iload_n 3, 1) := by decide +kernel
theorem dX6_init_16 : decode cX6_init 16 = .ok (.putfield 16, 3) := by decide +kernel
theorem dX6_init_19 : decode cX6_init 19 = .ok (.return_, 1) := by decide +kernel
theorem dX7_init_0 : decode cX7_init 0 = .ok (.aload_n 0, 1) := by decide +kernel
theorem dX7_init_1 : decode cX7_init 1 = .ok (.invokespecial 3, 3) := by decide +kernel
theorem dX7_init_4 : decode cX7_init 4 = .ok (.aload_n 0, 1) := by decide +kernel
theorem dX7_init_5 : decode cX7_init 5 = .ok (.new 9, 3) := by decide +kernel
theorem dX7_init_8 : decode cX7_init 8 = .ok (.dup, 1) := by decide +kernel
theorem dX7_init_9 : decode cX7_init 9 = .ok (.invokespecial 11, 3) := by decide +kernel
theorem dX7_init_12 : decode cX7_init 12 = .ok (.putfield 12, 3) := by decide +kernel
theorem dX7_init_15 : decode cX7_init 15 = .ok (.aload_n 0, 1) := by decide +kernel
theorem dX7_init_16 : decode cX7_init 16 = .ok (.new 18, 3) := by decide +kernel
theorem dX7_init_19 : decode cX7_init 19 = .ok (.dup, 1) := by decide +kernel
theorem dX7_init_20 : decode cX7_init 20 = .ok (.invokespecial 20, 3) := by decide +kernel
theorem dX7_init_23 : decode cX7_init 23 = .ok (.putfield 21, 3) := by decide +kernel
theorem dX7_init_26 : decode cX7_init 26 = .ok (.aload_n 0, 1) := by decide +kernel
theorem dX7_init_27 : decode cX7_init 27 = .ok (.bipush 90, 2) := by decide +kernel
theorem dX7_init_29 : decode cX7_init 29 = .ok (.newarray .int, 2) := by decide +kernel
theorem dX7_init_31 : decode cX7_init 31 = .ok (.putfield 25, 3) := by decide +kernel
theorem dX7_init_34 : decode cX7_init 34 = .ok (.aload_n 0, 1) := by decide +kernel
theorem dX7_init_35 : decode cX7_init 35 = .ok (.bipush 45, 2) := by decide +kernel
theorem dX7_init_37 : decode cX7_init 37 = .ok (.putfield 29, 3) := by decide +kernel
theorem dX7_init_40 : decode cX7_init 40 = .ok (.aload_n 0, 1) := by decide +kernel
theorem dX7_init_41 : decode cX7_init 41 = .ok (.iload_n 1, 1) := by decide +kernel
theorem dX7_init_42 : decode cX7_init 42 = .ok (.putfield 33, 3) := by decide +kernel
theorem dX7_init_45 : decode cX7_init 45 = .ok (.aload_n 0, 1) := by decide +kernel
theorem dX7_init_46 : decode cX7_init 46 = .ok (.aload_n 2, 1) := by decide +kernel
theorem dX7_init_47 : decode cX7_init 47 = .ok (.putfield 37, 3) := by decide +kernel
theorem dX7_init_50 : decode cX7_init 50 = .ok (.aload_n 0, 1) := by decide +kernel
theorem dX7_init_51 : decode cX7_init 51 = .ok (.iload_n 3, 1) := by decide +kernel
theorem dX7_init_52 : decode cX7_init 52 = .ok (.putfield 41, 3) := by decide +kernel
theorem dX7_init_55 : decode cX7_init 55 = .ok (.aload_n 0, 1) := by decide +kernel
theorem dX7_init_56 : decode cX7_init 56 = .ok (.iload 4, 2) := by decide +kernel
theorem dX7_init_58 : decode cX7_init 58 = .ok (.putfield 44, 3) := by decide +kernel
theorem dX7_init_61 : decode cX7_init 61 = .ok (.aload_n 0, 1) := by decide +kernel
theorem dX7_init_62 : decode cX7_init 62 = .ok (.iload 5, 2) := by decide +kernel
theorem dX7_init_64 : decode cX7_init 64 = .ok (.putfield 47, 3) := by decide +kernel
theorem dX7_init_67 : decode cX7_init 67 = .ok (.return_, 1) := by decide +kernel
theorem dX7_piecesOf_0 : decode cX7_piecesOf 0 = .ok (.aload_n 1, 1) := by decide +kernel
theorem dX7_piecesOf_1 : decode cX7_piecesOf 1 = .ok (.getfield 50, 3) := by decide +kernel
theorem dX7_piecesOf_4 : decode cX7_piecesOf 4 = .ok (.istore_n 2, 1) := by decide +kernel
theorem dX7_piecesOf_5 : decode cX7_piecesOf 5 = .ok (.iload_n 2, 1) := by decide +kernel
theorem dX7_piecesOf_6 : decode cX7_piecesOf 6 = .ok (.ifCond .lt 21, 3) := by decide +kernel
theorem dX7_piecesOf_9 : decode cX7_piecesOf 9 = .ok (.iload_n 2, 1) := by decide +kernel
theorem dX7_piecesOf_10 : decode cX7_piecesOf 10 = .ok (.aload_n 0, 1) := by decide +kernel
theorem dX7_piecesOf_11 : decode cX7_piecesOf 11 = .ok (.getfield 25, 3) := by decide +kernel
theorem dX7_piecesOf_14 : decode cX7_piecesOf 14 = .ok (.arraylength, 1) := by decide +kernel
theorem dX7_piecesOf_15 : decode cX7_piecesOf 15 = .ok (.if_icmp .ge 12, 3) := by decide +kernel
theorem dX7_piecesOf_18 : decode cX7_piecesOf 18 = .ok (.aload_n 0, 1) := by decide +kernel
theorem dX7_piecesOf_19 : decode cX7_piecesOf 19 = .ok (.getfield 25, 3) := by decide +kernel
theorem dX7_piecesOf_22 : decode cX7_piecesOf 22 = .ok (.iload_n 2, 1) := by decide +kernel
theorem dX7_piecesOf_23 : decode cX7_piecesOf 23 = .ok (.iaload, 1) := by decide +kernel
theorem dX7_piecesOf_24 : decode cX7_piecesOf 24 = .ok (.goto 4, 3) := by decide +kernel
theorem dX7_piecesOf_27 : decode cX7_piecesOf 27 = .ok (.iconst 0, 1) := by decide +kernel
theorem dX7_piecesOf_28 : decode cX7_piecesOf 28 = .ok (.ireturn, 1) := by decide +kernel
theorem dX7_addPieces_0 : decode cX7_addPieces 0 = .ok (.aload_n 1, 1) := by decide +kernel
theorem dX7_addPieces_1 : decode cX7_addPieces 1 = .ok (.getfield 50, 3) := by decide +kernel
theorem dX7_addPieces_4 : decode cX7_addPieces 4 = .ok (.istore_n 3, 1) := by decide +kernel
theorem dX7_addPieces_5 : decode cX7_addPieces 5 = .ok (.iload_n 3, 1) := by decide +kernel
theorem dX7_addPieces_6 : decode cX7_addPieces 6 = .ok (.ifCond .lt 22, 3) := by decide +kernel
theorem dX7_addPieces_9 : decode cX7_addPieces 9 = .ok (.iload_n 3, 1) := by decide +kernel
theorem dX7_addPieces_10 : decode cX7_addPieces 10 = .ok (.aload_n 0, 1) := by decide +kernel
theorem dX7_addPieces_11 : decode cX7_addPieces 11 = .ok (.getfield 25, 3) := by decide +kernel
theorem dX7_addPieces_14 : decode cX7_addPieces 14 = .ok (.arraylength, 1) := by decide +kernel
theorem dX7_addPieces_15 : decode cX7_addPieces 15 = .ok (.if_icmp .ge 13, 3) := by decide +kernel
theorem dX7_addPieces_18 : decode cX7_addPieces 18 = .ok (.aload_n 0, 1) := by decide +kernel
theorem dX7_addPieces_19 : decode cX7_addPieces 19 = .ok (.getfield 25, 3) := by decide +kernel
theorem dX7_addPieces_22 : decode cX7_addPieces 22 = .ok (.iload_n 3, 1) := by decide +kernel
theorem dX7_addPieces_23 : decode cX7_addPieces 23 = .ok (.dup2, 1) := by decide +kernel
theorem dX7_addPieces_24 : decode cX7_addPieces 24 = .ok (.iaload, 1) := by decide +kernel
theorem dX7_addPieces_25 : decode cX7_addPieces 25 = .ok (.iload_n 2, 1) := by decide +kernel
theorem dX7_addPieces_26 : decode cX7_addPieces 26 = .ok (.iadd, 1) := by decide +kernel
theorem dX7_addPieces_27 : decode cX7_addPieces 27 = .ok (.iastore, 1) := by decide +kernel
theorem dX7_addPieces_28 : decode cX7_addPieces 28 = .ok (.return_, 1) := by decide +kernel
theorem dX7_isInWork_0 : decode cX7_isInWork 0 = .ok (.aload_n 0, 1) := by decide +kernel
theorem dX7_isInWork_1 : decode cX7_isInWork 1 = .ok (.getfield 29, 3) := by decide +kernel
theorem dX7_isInWork_4 : decode cX7_isInWork 4 = .ok (.bipush 119, 2) := by decide +kernel
theorem dX7_isInWork_6 : decode cX7_isInWork 6 = .ok (.if_icmp .eq 12, 3) := by decide +kernel
theorem dX7_isInWork_9 : decode cX7_isInWork 9 = .ok (.aload_n 0, 1) := by decide +kernel
theorem dX7_isInWork_10 : decode cX7_isInWork 10 = .ok (.getfield 29, 3) := by decide +kernel
theorem dX7_isInWork_13 : decode cX7_isInWork 13 = .ok (.bipush 111, 2) := by decide +kernel
theorem dX7_isInWork_15 : decode cX7_isInWork 15 = .ok (.if_icmp .ne 7, 3) := by decide +kernel
theorem dX7_isInWork_18 : decode cX7_isInWork 18 = .ok (.iconst 1, 1) := by decide +kernel
theorem dX7_isInWork_19 : decode cX7_isInWork 19 = .ok (.goto 4, 3) := by decide +kernel
theorem dX7_isInWork_22 : decode cX7_isInWork 22 = .ok (.iconst 0, 1) := by decide +kernel
theorem dX7_isInWork_23 : decode cX7_isInWork 23 = .ok (.ireturn, 1) := by decide +kernel
theorem dX7_isSoundAlone_0 : decode cX7_isSoundAlone 0 = .ok (.aload_n 0, 1) := by decide +kernel
theorem dX7_isSoundAlone_1 : decode cX7_isSoundAlone 1 = .ok (.invokevirtual 53, 3) := by decide +kernel
theorem dX7_isSoundAlone_4 : decode cX7_isSoundAlone 4 = .ok (.ifCond .ne 14, 3) := by decide +kernel
theorem dX7_isSoundAlone_7 : decode cX7_isSoundAlone 7 = .ok (.aload_n 0, 1) := by decide +kernel
theorem dX7_isSoundAlone_8 : decode cX7_isSoundAlone 8 = .ok (.getfield 12, 3) := by decide +kernel
theorem dX7_isSoundAlone_11 : decode cX7_isSoundAlone 11 = .ok (.getfield 57, 3) := by decide +kernel
theorem dX7_isSoundAlone_14 : decode cX7_isSoundAlone 14 = .ok (.iconst (-1), 1) := by decide +kernel
theorem dX7_isSoundAlone_15 : decode cX7_isSoundAlone 15 = .ok (.if_icmp .eq 7, 3) := by decide +kernel
theorem dX7_isSoundAlone_18 : decode cX7_isSoundAlone 18 = .ok (.iconst 1, 1) := by decide +kernel
theorem dX7_isSoundAlone_19 : decode cX7_isSoundAlone 19 = .ok (.goto 4, 3) := by decide +kernel
theorem dX7_isSoundAlone_22 : decode cX7_isSoundAlone 22 = .ok (.iconst 0, 1) := by decide +kernel
theorem dX7_isSoundAlone_23 : decode cX7_isSoundAlone 23 = .ok (.istore_n 1, 1) := by decide +kernel
theorem dX7_isSoundAlone_24 : decode cX7_isSoundAlone 24 = .ok (.aload_n 0, 1) := by decide +kernel
theorem dX7_isSoundAlone_25 : decode cX7_isSoundAlone 25 = .ok (.getfield 12, 3) := by decide +kernel
theorem dX7_isSoundAlone_28 : decode cX7_isSoundAlone 28 = .ok (.getfield 60, 3) := by decide +kernel
theorem dX7_isSoundAlone_31 : decode cX7_isSoundAlone 31 = .ok (.aload_n 0, 1) := by decide +kernel
theorem dX7_isSoundAlone_32 : decode cX7_isSoundAlone 32 = .ok (.getfield 12, 3) := by decide +kernel
theorem dX7_isSoundAlone_35 : decode cX7_isSoundAlone 35 = .ok (.getfield 62, 3) := by decide +kernel
theorem dX7_isSoundAlone_38 : decode cX7_isSoundAlone 38 = .ok (.iadd, 1) := by decide +kernel
theorem dX7_isSoundAlone_39 : decode cX7_isSoundAlone 39 = .ok (.iload_n 1, 1) := by decide +kernel
theorem dX7_isSoundAlone_40 : decode cX7_isSoundAlone 40 = .ok (.ifCond .eq 10, 3) := by decide +kernel
theorem dX7_isSoundAlone_43 : decode cX7_isSoundAlone 43 = .ok (.aload_n 0, 1) := by decide +kernel
theorem dX7_isSoundAlone_44 : decode cX7_isSoundAlone 44 = .ok (.getfield 41, 3) := by decide +kernel
theorem dX7_isSoundAlone_47 : decode cX7_isSoundAlone 47 = .ok (.goto 4, 3) := by decide +kernel
theorem dX7_isSoundAlone_50 : decode cX7_isSoundAlone 50 = .ok (.iconst 0, 1) := by decide +kernel
theorem dX7_isSoundAlone_51 : decode cX7_isSoundAlone 51 = .ok (.if_icmp .ne 7, 3) := by decide +kernel
theorem dX7_isSoundAlone_54 : decode cX7_isSoundAlone 54 = .ok (.iconst 1, 1) := by decide +kernel
theorem dX7_isSoundAlone_55 : decode cX7_isSoundAlone 55 = .ok (.goto 4, 3) := by decide +kernel
theorem dX7_isSoundAlone_58 : decode cX7_isSoundAlone 58 = .ok (.iconst 0, 1) := by decide +kernel
theorem dX7_isSoundAlone_59 : decode cX7_isSoundAlone 59 = .ok (.istore_n 2, 1) := by decide +kernel
theorem dX7_isSoundAlone_60 : decode cX7_isSoundAlone 60 = .ok (.aload_n 0, 1) := by decide +kernel
theorem dX7_isSoundAlone_61 : decode cX7_isSoundAlone 61 = .ok (.getfield 12, 3) := by decide +kernel
theorem dX7_isSoundAlone_64 : decode cX7_isSoundAlone 64 = .ok (.getfield 65, 3) := by decide +kernel
theorem dX7_isSoundAlone_67 : decode cX7_isSoundAlone 67 = .ok (.ifnull 23, 3) := by decide +kernel
theorem dX7_isSoundAlone_70 : decode cX7_isSoundAlone 70 = .ok (.aload_n 0, 1) := by decide +kernel
theorem dX7_isSoundAlone_71 : decode cX7_isSoundAlone 71 = .ok (.getfield 12, 3) := by decide +kernel
theorem dX7_isSoundAlone_74 : decode cX7_isSoundAlone 74 = .ok (.getfield 65, 3) := by decide +kernel
theorem dX7_isSoundAlone_77 : decode cX7_isSoundAlone 77 = .ok (.getfield 69, 3) := by decide +kernel
theorem dX7_isSoundAlone_80 : decode cX7_isSoundAlone 80 = .ok (.aload_n 0, 1) := by decide +kernel
theorem dX7_isSoundAlone_81 : decode cX7_isSoundAlone 81 = .ok (.getfield 12, 3) := by decide +kernel
theorem dX7_isSoundAlone_84 : decode cX7_isSoundAlone 84 = .ok (.getfield 60, 3) := by decide +kernel
theorem dX7_isSoundAlone_87 : decode cX7_isSoundAlone 87 = .ok (.if_icmp .ne 7, 3) := by decide +kernel
theorem dX7_isSoundAlone_90 : decode cX7_isSoundAlone 90 = .ok (.iconst 1, 1) := by decide +kernel
theorem dX7_isSoundAlone_91 : decode cX7_isSoundAlone 91 = .ok (.goto 4, 3) := by decide +kernel
theorem dX7_isSoundAlone_94 : decode cX7_isSoundAlone 94 = .ok (.iconst 0, 1) := by decide +kernel
theorem dX7_isSoundAlone_95 : decode cX7_isSoundAlone 95 = .ok (.istore_n 3, 1) := by decide +kernel
theorem dX7_isSoundAlone_96 : decode cX7_isSoundAlone 96 = .ok (.iload_n 2, 1) := by decide +kernel
theorem dX7_isSoundAlone_97 : decode cX7_isSoundAlone 97 = .ok (.ifCond .eq 35, 3) := by decide +kernel
theorem dX7_isSoundAlone_100 : decode cX7_isSoundAlone 100 = .ok (.iload_n 3, 1) := by decide +kernel
theorem dX7_isSoundAlone_101 : decode cX7_isSoundAlone 101 = .ok (.ifCond .eq 31, 3) := by decide +kernel
theorem dX7_isSoundAlone_104 : decode cX7_isSoundAlone 104 = .ok (.aload_n 0, 1) := by decide +kernel
theorem dX7_isSoundAlone_105 : decode cX7_isSoundAlone 105 = .ok (.getfield 70, 3) := by decide +kernel
theorem dX7_isSoundAlone_108 : decode cX7_isSoundAlone 108 = .ok (.aload_n 0, 1) := by decide +kernel
theorem dX7_isSoundAlone_109 : decode cX7_isSoundAlone 109 = .ok (.getfield 29, 3) := by decide +kernel
theorem dX7_isSoundAlone_112 : decode cX7_isSoundAlone 112 = .ok (.bipush 100, 2) := by decide +kernel
theorem dX7_isSoundAlone_114 : decode cX7_isSoundAlone 114 = .ok (.if_icmp .ne 10, 3) := by decide +kernel
theorem dX7_isSoundAlone_117 : decode cX7_isSoundAlone 117 = .ok (.aload_n 0, 1) := by decide +kernel
theorem dX7_isSoundAlone_118 : decode cX7_isSoundAlone 118 = .ok (.getfield 41, 3) := by decide +kernel
theorem dX7_isSoundAlone_121 : decode cX7_isSoundAlone 121 = .ok (.goto 4, 3) := by decide +kernel
theorem dX7_isSoundAlone_124 : decode cX7_isSoundAlone 124 = .ok (.iconst 0, 1) := by decide +kernel
theorem dX7_isSoundAlone_125 : decode cX7_isSoundAlone 125 = .ok (.if_icmp .ne 7, 3) := by decide +kernel
theorem dX7_isSoundAlone_128 : decode cX7_isSoundAlone 128 = .ok (.iconst 1, 1) := by decide +kernel
theorem dX7_isSoundAlone_129 : decode cX7_isSoundAlone 129 = .ok (.goto 4, 3) := by decide +kernel
theorem dX7_isSoundAlone_132 : decode cX7_isSoundAlone 132 = .ok (.iconst 0, 1) := by decide +kernel
theorem dX7_isSoundAlone_133 : decode cX7_isSoundAlone 133 = .ok (.ireturn, 1) := by decide +kernel
theorem dX8_init_0 : decode cX8_init 0 = .ok (.aload_n 0, 1) := by decide +kernel
theorem dX8_init_1 : decode cX8_init 1 = .ok (.invokespecial 3, 3) := by decide +kernel
theorem dX8_init_4 : decode cX8_init 4 = .ok (.aload_n 0, 1) := by decide +kernel
theorem dX8_init_5 : decode cX8_init 5 = .ok (.iconst 4, 1) := by decide +kernel
theorem dX8_init_6 : decode cX8_init 6 = .ok (.anewarray 9, 3) := by decide +kernel
theorem dX8_init_9 : decode cX8_init 9 = .ok (.putfield 11, 3) := by decide +kernel
theorem dX8_init_12 : decode cX8_init 12 = .ok (.aload_n 0, 1) := by decide +kernel
theorem dX8_init_13 : decode cX8_init 13 = .ok (.iconst 3, 1) := by decide +kernel
theorem dX8_init_14 : decode cX8_init 14 = .ok (.anewarray 17, 3) := by decide +kernel
theorem dX8_init_17 : decode cX8_init 17 = .ok (.putfield 19, 3) := by decide +kernel
theorem dX8_init_20 : decode cX8_init 20 = .ok (.aload_n 0, 1) := by decide +kernel
theorem dX8_init_21 : decode cX8_init 21 = .ok (.new 23, 3) := by decide +kernel
theorem dX8_init_24 : decode cX8_init 24 = .ok (.dup, 1) := by decide +kernel
theorem dX8_init_25 : decode cX8_init 25 = .ok (.invokespecial 25, 3) := by decide +kernel
theorem dX8_init_28 : decode cX8_init 28 = .ok (.putfield 26, 3) := by decide +kernel
theorem dX8_init_31 : decode cX8_init 31 = .ok (.aload_n 0, 1) := by decide +kernel
theorem dX8_init_32 : decode cX8_init 32 = .ok (.iload_n 1, 1) := by decide +kernel
theorem dX8_init_33 : decode cX8_init 33 = .ok (.putfield 30, 3) := by decide +kernel
theorem dX8_init_36 : decode cX8_init 36 = .ok (.aload_n 0, 1) := by decide +kernel
theorem dX8_init_37 : decode cX8_init 37 = .ok (.iload_n 2, 1) := by decide +kernel
theorem dX8_init_38 : decode cX8_init 38 = .ok (.putfield 34, 3) := by decide +kernel
theorem dX8_init_41 : decode cX8_init 41 = .ok (.aload_n 0, 1) := by decide +kernel
theorem dX8_init_42 : decode cX8_init 42 = .ok (.iload_n 3, 1) := by decide +kernel
theorem dX8_init_43 : decode cX8_init 43 = .ok (.putfield 38, 3) := by decide +kernel
theorem dX8_init_46 : decode cX8_init 46 = .ok (.return_, 1) := by decide +kernel
theorem dX8_hasRoomForComponent_0 : decode cX8_hasRoomForComponent 0 = .ok (.aload_n 0, 1) := by decide +kernel
theorem dX8_hasRoomForComponent_1 : decode cX8_hasRoomForComponent 1 = .ok (.getfield 41, 3) := by decide +kernel
theorem dX8_hasRoomForComponent_4 : decode cX8_hasRoomForComponent 4 = .ok (.aload_n 0, 1) := by decide +kernel
theorem dX8_hasRoomForComponent_5 : decode cX8_hasRoomForComponent 5 = .ok (.getfield 11, 3) := by decide +kernel
theorem dX8_hasRoomForComponent_8 : decode cX8_hasRoomForComponent 8 = .ok (.arraylength, 1) := by decide +kernel
theorem dX8_hasRoomForComponent_9 : decode cX8_hasRoomForComponent 9 = .ok (.if_icmp .ge 7, 3) := by decide +kernel
theorem dX8_hasRoomForComponent_12 : decode cX8_hasRoomForComponent 12 = .ok (.iconst 1, 1) := by decide +kernel
theorem dX8_hasRoomForComponent_13 : decode cX8_hasRoomForComponent 13 = .ok (.goto 4, 3) := by decide +kernel
theorem dX8_hasRoomForComponent_16 : decode cX8_hasRoomForComponent 16 = .ok (.iconst 0, 1) := by decide +kernel
theorem dX8_hasRoomForComponent_17 : decode cX8_hasRoomForComponent 17 = .ok (.ireturn, 1) := by decide +kernel
theorem dX8_putComponent_0 : decode cX8_putComponent 0 = .ok (.aload_n 0, 1) := by decide +kernel
theorem dX8_putComponent_1 : decode cX8_putComponent 1 = .ok (.invokevirtual 44, 3) := by decide +kernel
theorem dX8_putComponent_4 : decode cX8_putComponent 4 = .ok (.ifCond .eq 23, 3) := by decide +kernel
theorem dX8_putComponent_7 : decode cX8_putComponent 7 = .ok (.aload_n 0, 1) := by decide +kernel
theorem dX8_putComponent_8 : decode cX8_putComponent 8 = .ok (.getfield 11, 3) := by decide +kernel
theorem dX8_putComponent_11 : decode cX8_putComponent 11 = .ok (.aload_n 0, 1) := by decide +kernel
theorem dX8_putComponent_12 : decode cX8_putComponent 12 = .ok (.getfield 41, 3) := by decide +kernel
theorem dX8_putComponent_15 : decode cX8_putComponent 15 = .ok (.aload_n 1, 1) := by decide +kernel
theorem dX8_putComponent_16 : decode cX8_putComponent 16 = .ok (.aastore, 1) := by decide +kernel
theorem dX8_putComponent_17 : decode cX8_putComponent 17 = .ok (.aload_n 0, 1) := by decide +kernel
theorem dX8_putComponent_18 : decode cX8_putComponent 18 = .ok (.dup, 1) := by decide +kernel
theorem dX8_putComponent_19 : decode cX8_putComponent 19 = .ok (.getfield 41, 3) := by decide +kernel
theorem dX8_putComponent_22 : decode cX8_putComponent 22 = .ok (.iconst 1, 1) := by decide +kernel
theorem dX8_putComponent_23 : decode cX8_putComponent 23 = .ok (.iadd, 1) := by decide +kernel
theorem dX8_putComponent_24 : decode cX8_putComponent 24 = .ok (.putfield 41, 3) := by decide +kernel
theorem dX8_putComponent_27 : decode cX8_putComponent 27 = .ok (.aload_n 0, 1) := by decide +kernel
theorem dX8_putComponent_28 : decode cX8_putComponent 28 = .ok (.getfield 41, 3) := by decide +kernel
theorem dX8_putComponent_31 : decode cX8_putComponent 31 = .ok (.ireturn, 1) := by decide +kernel
theorem dX8_hasRoomForOperation_0 : decode cX8_hasRoomForOperation 0 = .ok (.aload_n 0, 1) := by decide +kernel
theorem dX8_hasRoomForOperation_1 : decode cX8_hasRoomForOperation 1 = .ok (.getfield 48, 3) := by decide +kernel
theorem dX8_hasRoomForOperation_4 : decode cX8_hasRoomForOperation 4 = .ok (.aload_n 0, 1) := by decide +kernel
theorem dX8_hasRoomForOperation_5 : decode cX8_hasRoomForOperation 5 = .ok (.getfield 19, 3) := by decide +kernel
theorem dX8_hasRoomForOperation_8 : decode cX8_hasRoomForOperation 8 = .ok (.arraylength, 1) := by decide +kernel
theorem dX8_hasRoomForOperation_9 : decode cX8_hasRoomForOperation 9 = .ok (.if_icmp .ge 7, 3) := by decide +kernel
theorem dX8_hasRoomForOperation_12 : decode cX8_hasRoomForOperation 12 = .ok (.iconst 1, 1) := by decide +kernel
theorem dX8_hasRoomForOperation_13 : decode cX8_hasRoomForOperation 13 = .ok (.goto 4, 3) := by decide +kernel
theorem dX8_hasRoomForOperation_16 : decode cX8_hasRoomForOperation 16 = .ok (.iconst 0, 1) := by decide +kernel
theorem dX8_hasRoomForOperation_17 : decode cX8_hasRoomForOperation 17 = .ok (.ireturn, 1) := by decide +kernel
theorem dX8_putOperation_0 : decode cX8_putOperation 0 = .ok (.aload_n 0, 1) := by decide +kernel
theorem dX8_putOperation_1 : decode cX8_putOperation 1 = .ok (.invokevirtual 51, 3) := by decide +kernel
theorem dX8_putOperation_4 : decode cX8_putOperation 4 = .ok (.ifCond .eq 23, 3) := by decide +kernel
theorem dX8_putOperation_7 : decode cX8_putOperation 7 = .ok (.aload_n 0, 1) := by decide +kernel
theorem dX8_putOperation_8 : decode cX8_putOperation 8 = .ok (.getfield 19, 3) := by decide +kernel
theorem dX8_putOperation_11 : decode cX8_putOperation 11 = .ok (.aload_n 0, 1) := by decide +kernel
theorem dX8_putOperation_12 : decode cX8_putOperation 12 = .ok (.getfield 48, 3) := by decide +kernel
theorem dX8_putOperation_15 : decode cX8_putOperation 15 = .ok (.aload_n 1, 1) := by decide +kernel
theorem dX8_putOperation_16 : decode cX8_putOperation 16 = .ok (.aastore, 1) := by decide +kernel
theorem dX8_putOperation_17 : decode cX8_putOperation 17 = .ok (.aload_n 0, 1) := by decide +kernel
theorem dX8_putOperation_18 : decode cX8_putOperation 18 = .ok (.dup, 1) := by decide +kernel
theorem dX8_putOperation_19 : decode cX8_putOperation 19 = .ok (.getfield 48, 3) := by decide +kernel
theorem dX8_putOperation_22 : decode cX8_putOperation 22 = .ok (.iconst 1, 1) := by decide +kernel
theorem dX8_putOperation_23 : decode cX8_putOperation 23 = .ok (.iadd, 1) := by decide +kernel
theorem dX8_putOperation_24 : decode cX8_putOperation 24 = .ok (.putfield 48, 3) := by decide +kernel
theorem dX8_putOperation_27 : decode cX8_putOperation 27 = .ok (.aload_n 0, 1) := by decide +kernel
theorem dX8_putOperation_28 : decode cX8_putOperation 28 = .ok (.getfield 48, 3) := by decide +kernel
theorem dX8_putOperation_31 : decode cX8_putOperation 31 = .ok (.ireturn, 1) := by decide +kernel
theorem dX8_operationAt_0 : decode cX8_operationAt 0 = .ok (.iload_n 1, 1) := by decide +kernel
theorem dX8_operationAt_1 : decode cX8_operationAt 1 = .ok (.ifCond .lt 21, 3) := by decide +kernel
theorem dX8_operationAt_4 : decode cX8_operationAt 4 = .ok (.iload_n 1, 1) := by decide +kernel
theorem dX8_operationAt_5 : decode cX8_operationAt 5 = .ok (.aload_n 0, 1) := by decide +kernel
theorem dX8_operationAt_6 : decode cX8_operationAt 6 = .ok (.getfield 19, 3) := by decide +kernel
theorem dX8_operationAt_9 : decode cX8_operationAt 9 = .ok (.arraylength, 1) := by decide +kernel
theorem dX8_operationAt_10 : decode cX8_operationAt 10 = .ok (.if_icmp .ge 12, 3) := by decide +kernel
theorem dX8_operationAt_13 : decode cX8_operationAt 13 = .ok (.aload_n 0, 1) := by decide +kernel
theorem dX8_operationAt_14 : decode cX8_operationAt 14 = .ok (.getfield 19, 3) := by decide +kernel
theorem dX8_operationAt_17 : decode cX8_operationAt 17 = .ok (.iload_n 1, 1) := by decide +kernel
theorem dX8_operationAt_18 : decode cX8_operationAt 18 = .ok (.aaload, 1) := by decide +kernel
theorem dX8_operationAt_19 : decode cX8_operationAt 19 = .ok (.goto 4, 3) := by decide +kernel
theorem dX8_operationAt_22 : decode cX8_operationAt 22 = .ok (.aconst_null, 1) := by decide +kernel
theorem dX8_operationAt_23 : decode cX8_operationAt 23 = .ok (.areturn, 1) := by decide +kernel
theorem dX9_init_0 : decode cX9_init 0 = .ok (.aload_n 0, 1) := by decide +kernel
theorem dX9_init_1 : decode cX9_init 1 = .ok (.invokespecial 3, 3) := by decide +kernel
theorem dX9_init_4 : decode cX9_init 4 = .ok (.aload_n 0, 1) := by decide +kernel
theorem dX9_init_5 : decode cX9_init 5 = .ok (.bipush 110, 2) := by decide +kernel
theorem dX9_init_7 : decode cX9_init 7 = .ok (.putfield 9, 3) := by decide +kernel
theorem dX9_init_10 : decode cX9_init 10 = .ok (.return_, 1) := by decide +kernel
theorem dX9_refuses_0 : decode cX9_refuses 0 = .ok (.iload_n 1, 1) := by decide +kernel
theorem dX9_refuses_1 : decode cX9_refuses 1 = .ok (.aload_n 0, 1) := by decide +kernel
theorem dX9_refuses_2 : decode cX9_refuses 2 = .ok (.invokevirtual 15, 3) := by decide +kernel
theorem dX9_refuses_5 : decode cX9_refuses 5 = .ok (.if_icmp .le 7, 3) := by decide +kernel
theorem dX9_refuses_8 : decode cX9_refuses 8 = .ok (.iconst 1, 1) := by decide +kernel
theorem dX9_refuses_9 : decode cX9_refuses 9 = .ok (.goto 4, 3) := by decide +kernel
theorem dX9_refuses_12 : decode cX9_refuses 12 = .ok (.iconst 0, 1) := by decide +kernel
theorem dX9_refuses_13 : decode cX9_refuses 13 = .ok (.istore_n 2, 1) := by decide +kernel
theorem dX9_refuses_14 : decode cX9_refuses 14 = .ok (.aload_n 0, 1) := by decide +kernel
theorem dX9_refuses_15 : decode cX9_refuses 15 = .ok (.aload_n 0, 1) := by decide +kernel
theorem dX9_refuses_16 : decode cX9_refuses 16 = .ok (.getfield 19, 3) := by decide +kernel
theorem dX9_refuses_19 : decode cX9_refuses 19 = .ok (.iconst 1, 1) := by decide +kernel
theorem dX9_refuses_20 : decode cX9_refuses 20 = .ok (.ishl, 1) := by decide +kernel
theorem dX9_refuses_21 : decode cX9_refuses 21 = .ok (.bipush 31, 2) := by decide +kernel
theorem dX9_refuses_23 : decode cX9_refuses 23 = .ok (.iand, 1) := by decide +kernel
theorem dX9_refuses_24 : decode cX9_refuses 24 = .ok (.iload_n 2, 1) := by decide +kernel
theorem dX9_refuses_25 : decode cX9_refuses 25 = .ok (.ifCond .eq 7, 3) := by decide +kernel
theorem dX9_refuses_28 : decode cX9_refuses 28 = .ok (.iconst 1, 1) := by decide +kernel
theorem dX9_refuses_29 : decode cX9_refuses 29 = .ok (.goto 4, 3) := by decide +kernel
theorem dX9_refuses_32 : decode cX9_refuses 32 = .ok (.iconst 0, 1) := by decide +kernel
theorem dX9_refuses_33 : decode cX9_refuses 33 = .ok (.ior, 1) := by decide +kernel
theorem dX9_refuses_34 : decode cX9_refuses 34 = .ok (.putfield 19, 3) := by decide +kernel
theorem dX9_refuses_37 : decode cX9_refuses 37 = .ok (.aload_n 0, 1) := by decide +kernel
theorem dX9_refuses_38 : decode cX9_refuses 38 = .ok (.dup, 1) := by decide +kernel
theorem dX9_refuses_39 : decode cX9_refuses 39 = .ok (.getfield 23, 3) := by decide +kernel
theorem dX9_refuses_42 : decode cX9_refuses 42 = .ok (.iconst 1, 1) := by decide +kernel
theorem dX9_refuses_43 : decode cX9_refuses 43 = .ok (.iadd, 1) := by decide +kernel
theorem dX9_refuses_44 : decode cX9_refuses 44 = .ok (.putfield 23, 3) := by decide +kernel
theorem dX9_refuses_47 : decode cX9_refuses 47 = .ok (.aload_n 0, 1) := by decide +kernel
theorem dX9_refuses_48 : decode cX9_refuses 48 = .ok (.iload_n 2, 1) := by decide +kernel
theorem dX9_refuses_49 : decode cX9_refuses 49 = .ok (.invokevirtual 26, 3) := by decide +kernel
theorem dX9_refuses_52 : decode cX9_refuses 52 = .ok (.istore_n 3, 1) := by decide +kernel
theorem dX9_refuses_53 : decode cX9_refuses 53 = .ok (.iload_n 3, 1) := by decide +kernel
theorem dX9_refuses_54 : decode cX9_refuses 54 = .ok (.aload_n 0, 1) := by decide +kernel
theorem dX9_refuses_55 : decode cX9_refuses 55 = .ok (.getfield 9, 3) := by decide +kernel
theorem dX9_refuses_58 : decode cX9_refuses 58 = .ok (.if_icmp .eq 18, 3) := by decide +kernel
theorem dX9_refuses_61 : decode cX9_refuses 61 = .ok (.aload_n 0, 1) := by decide +kernel
theorem dX9_refuses_62 : decode cX9_refuses 62 = .ok (.iload_n 3, 1) := by decide +kernel
theorem dX9_refuses_63 : decode cX9_refuses 63 = .ok (.putfield 9, 3) := by decide +kernel
theorem dX9_refuses_66 : decode cX9_refuses 66 = .ok (.aload_n 0, 1) := by decide +kernel
theorem dX9_refuses_67 : decode cX9_refuses 67 = .ok (.iconst 0, 1) := by decide +kernel
theorem dX9_refuses_68 : decode cX9_refuses 68 = .ok (.putfield 19, 3) := by decide +kernel
theorem dX9_refuses_71 : decode cX9_refuses 71 = .ok (.aload_n 0, 1) := by decide +kernel
theorem dX9_refuses_72 : decode cX9_refuses 72 = .ok (.iconst 0, 1) := by decide +kernel
theorem dX9_refuses_73 : decode cX9_refuses 73 = .ok (.putfield 23, 3) := by decide +kernel
theorem dX9_refuses_76 : decode cX9_refuses 76 = .ok (.iload_n 2, 1) := by decide +kernel
theorem dX9_refuses_77 : decode cX9_refuses 77 = .ok (.ireturn, 1) := by decide +kernel
theorem dX9_mostBad_0 : decode cX9_mostBad 0 = .ok (.aload_n 0, 1) := by decide +kernel
theorem dX9_mostBad_1 : decode cX9_mostBad 1 = .ok (.getfield 9, 3) := by decide +kernel
theorem dX9_mostBad_4 : decode cX9_mostBad 4 = .ok (.bipush 116, 2) := by decide +kernel
theorem dX9_mostBad_6 : decode cX9_mostBad 6 = .ok (.if_icmp .ne 5, 3) := by decide +kernel
theorem dX9_mostBad_9 : decode cX9_mostBad 9 = .ok (.iconst 1, 1) := by decide +kernel
theorem dX9_mostBad_10 : decode cX9_mostBad 10 = .ok (.ireturn, 1) := by decide +kernel
theorem dX9_mostBad_11 : decode cX9_mostBad 11 = .ok (.aload_n 0, 1) := by decide +kernel
theorem dX9_mostBad_12 : decode cX9_mostBad 12 = .ok (.getfield 9, 3) := by decide +kernel
theorem dX9_mostBad_15 : decode cX9_mostBad 15 = .ok (.bipush 114, 2) := by decide +kernel
theorem dX9_mostBad_17 : decode cX9_mostBad 17 = .ok (.if_icmp .ne 7, 3) := by decide +kernel
theorem dX9_mostBad_20 : decode cX9_mostBad 20 = .ok (.iconst 4, 1) := by decide +kernel
theorem dX9_mostBad_21 : decode cX9_mostBad 21 = .ok (.goto 4, 3) := by decide +kernel
theorem dX9_mostBad_24 : decode cX9_mostBad 24 = .ok (.iconst 2, 1) := by decide +kernel
theorem dX9_mostBad_25 : decode cX9_mostBad 25 = .ok (.ireturn, 1) := by decide +kernel
theorem dX9_nextRule_0 : decode cX9_nextRule 0 = .ok (.aload_n 0, 1) := by decide +kernel
theorem dX9_nextRule_1 : decode cX9_nextRule 1 = .ok (.getfield 9, 3) := by decide +kernel
theorem dX9_nextRule_4 : decode cX9_nextRule 4 = .ok (.bipush 116, 2) := by decide +kernel
theorem dX9_nextRule_6 : decode cX9_nextRule 6 = .ok (.if_icmp .ne 19, 3) := by decide +kernel
theorem dX9_nextRule_9 : decode cX9_nextRule 9 = .ok (.aload_n 0, 1) := by decide +kernel
theorem dX9_nextRule_10 : decode cX9_nextRule 10 = .ok (.iconst 3, 1) := by decide +kernel
theorem dX9_nextRule_11 : decode cX9_nextRule 11 = .ok (.invokevirtual 30, 3) := by decide +kernel
theorem dX9_nextRule_14 : decode cX9_nextRule 14 = .ok (.ifCond .eq 8, 3) := by decide +kernel
theorem dX9_nextRule_17 : decode cX9_nextRule 17 = .ok (.bipush 110, 2) := by decide +kernel
theorem dX9_nextRule_19 : decode cX9_nextRule 19 = .ok (.goto 5, 3) := by decide +kernel
theorem dX9_nextRule_22 : decode cX9_nextRule 22 = .ok (.bipush 116, 2) := by decide +kernel
theorem dX9_nextRule_24 : decode cX9_nextRule 24 = .ok (.ireturn, 1) := by decide +kernel
theorem dX9_nextRule_25 : decode cX9_nextRule 25 = .ok (.aload_n 0, 1) := by decide +kernel
theorem dX9_nextRule_26 : decode cX9_nextRule 26 = .ok (.getfield 9, 3) := by decide +kernel
theorem dX9_nextRule_29 : decode cX9_nextRule 29 = .ok (.bipush 114, 2) := by decide +kernel
theorem dX9_nextRule_31 : decode cX9_nextRule 31 = .ok (.if_icmp .ne 15, 3) := by decide +kernel
theorem dX9_nextRule_34 : decode cX9_nextRule 34 = .ok (.iload_n 1, 1) := by decide +kernel
theorem dX9_nextRule_35 : decode cX9_nextRule 35 = .ok (.ifCond .eq 8, 3) := by decide +kernel
theorem dX9_nextRule_38 : decode cX9_nextRule 38 = .ok (.bipush 110, 2) := by decide +kernel
theorem dX9_nextRule_40 : decode cX9_nextRule 40 = .ok (.goto 5, 3) := by decide +kernel
theorem dX9_nextRule_43 : decode cX9_nextRule 43 = .ok (.bipush 114, 2) := by decide +kernel
theorem dX9_nextRule_45 : decode cX9_nextRule 45 = .ok (.ireturn, 1) := by decide +kernel
theorem dX9_nextRule_46 : decode cX9_nextRule 46 = .ok (.aload_n 0, 1) := by decide +kernel
theorem dX9_nextRule_47 : decode cX9_nextRule 47 = .ok (.getfield 19, 3) := by decide +kernel
theorem dX9_nextRule_50 : decode cX9_nextRule 50 = .ok (.invokestatic 34, 3) := by decide +kernel
theorem dX9_nextRule_53 : decode cX9_nextRule 53 = .ok (.iconst 2, 1) := by decide +kernel
theorem dX9_nextRule_54 : decode cX9_nextRule 54 = .ok (.if_icmp .lt 6, 3) := by decide +kernel
theorem dX9_nextRule_57 : decode cX9_nextRule 57 = .ok (.bipush 116, 2) := by decide +kernel
theorem dX9_nextRule_59 : decode cX9_nextRule 59 = .ok (.ireturn, 1) := by decide +kernel
theorem dX9_nextRule_60 : decode cX9_nextRule 60 = .ok (.aload_n 0, 1) := by decide +kernel
theorem dX9_nextRule_61 : decode cX9_nextRule 61 = .ok (.iconst 4, 1) := by decide +kernel
theorem dX9_nextRule_62 : decode cX9_nextRule 62 = .ok (.invokevirtual 30, 3) := by decide +kernel
theorem dX9_nextRule_65 : decode cX9_nextRule 65 = .ok (.ifCond .eq 8, 3) := by decide +kernel
theorem dX9_nextRule_68 : decode cX9_nextRule 68 = .ok (.bipush 114, 2) := by decide +kernel
theorem dX9_nextRule_70 : decode cX9_nextRule 70 = .ok (.goto 5, 3) := by decide +kernel
theorem dX9_nextRule_73 : decode cX9_nextRule 73 = .ok (.bipush 110, 2) := by decide +kernel
theorem dX9_nextRule_75 : decode cX9_nextRule 75 = .ok (.ireturn, 1) := by decide +kernel
theorem dX9_areAccepted_0 : decode cX9_areAccepted 0 = .ok (.aload_n 0, 1) := by decide +kernel
theorem dX9_areAccepted_1 : decode cX9_areAccepted 1 = .ok (.getfield 23, 3) := by decide +kernel
theorem dX9_areAccepted_4 : decode cX9_areAccepted 4 = .ok (.iload_n 1, 1) := by decide +kernel
theorem dX9_areAccepted_5 : decode cX9_areAccepted 5 = .ok (.if_icmp .lt 20, 3) := by decide +kernel
theorem dX9_areAccepted_8 : decode cX9_areAccepted 8 = .ok (.aload_n 0, 1) := by decide +kernel
theorem dX9_areAccepted_9 : decode cX9_areAccepted 9 = .ok (.getfield 19, 3) := by decide +kernel
theorem dX9_areAccepted_12 : decode cX9_areAccepted 12 = .ok (.iconst 1, 1) := by decide +kernel
theorem dX9_areAccepted_13 : decode cX9_areAccepted 13 = .ok (.iload_n 1, 1) := by decide +kernel
theorem dX9_areAccepted_14 : decode cX9_areAccepted 14 = .ok (.ishl, 1) := by decide +kernel
theorem dX9_areAccepted_15 : decode cX9_areAccepted 15 = .ok (.iconst 1, 1) := by decide +kernel
theorem dX9_areAccepted_16 : decode cX9_areAccepted 16 = .ok (.isub, 1) := by decide +kernel
theorem dX9_areAccepted_17 : decode cX9_areAccepted 17 = .ok (.iand, 1) := by decide +kernel
theorem dX9_areAccepted_18 : decode cX9_areAccepted 18 = .ok (.ifCond .ne 7, 3) := by decide +kernel
theorem dX9_areAccepted_21 : decode cX9_areAccepted 21 = .ok (.iconst 1, 1) := by decide +kernel
theorem dX9_areAccepted_22 : decode cX9_areAccepted 22 = .ok (.goto 4, 3) := by decide +kernel
theorem dX9_areAccepted_25 : decode cX9_areAccepted 25 = .ok (.iconst 0, 1) := by decide +kernel
theorem dX9_areAccepted_26 : decode cX9_areAccepted 26 = .ok (.ireturn, 1) := by decide +kernel
theorem dX10_init_0 : decode cX10_init 0 = .ok (.aload_n 0, 1) := by decide +kernel
theorem dX10_init_1 : decode cX10_init 1 = .ok (.invokespecial 1, 3) := by decide +kernel
theorem dX10_init_4 : decode cX10_init 4 = .ok (.aload_n 0, 1) := by decide +kernel
theorem dX10_init_5 : decode cX10_init 5 = .ok (.iconst 5, 1) := by decide +kernel
theorem dX10_init_6 : decode cX10_init 6 = .ok (.anewarray 9, 3) := by decide +kernel
theorem dX10_init_9 : decode cX10_init 9 = .ok (.putfield 11, 3) := by decide +kernel
theorem dX10_init_12 : decode cX10_init 12 = .ok (.aload_n 0, 1) := by decide +kernel
theorem dX10_init_13 : decode cX10_init 13 = .ok (.bipush 12, 2) := by decide +kernel
theorem dX10_init_15 : decode cX10_init 15 = .ok (.anewarray 15, 3) := by decide +kernel
theorem dX10_init_18 : decode cX10_init 18 = .ok (.putfield 17, 3) := by decide +kernel
theorem dX10_init_21 : decode cX10_init 21 = .ok (.aload_n 0, 1) := by decide +kernel
theorem dX10_init_22 : decode cX10_init 22 = .ok (.iconst 4, 1) := by decide +kernel
theorem dX10_init_23 : decode cX10_init 23 = .ok (.anewarray 21, 3) := by decide +kernel
theorem dX10_init_26 : decode cX10_init 26 = .ok (.putfield 23, 3) := by decide +kernel
theorem dX10_init_29 : decode cX10_init 29 = .ok (.aload_n 0, 1) := by decide +kernel
theorem dX10_init_30 : decode cX10_init 30 = .ok (.bipush 90, 2) := by decide +kernel
theorem dX10_init_32 : decode cX10_init 32 = .ok (.anewarray 27, 3) := by decide +kernel
theorem dX10_init_35 : decode cX10_init 35 = .ok (.putfield 29, 3) := by decide +kernel
theorem dX10_init_38 : decode cX10_init 38 = .ok (.aload_n 0, 1) := by decide +kernel
theorem dX10_init_39 : decode cX10_init 39 = .ok (.bipush 30, 2) := by decide +kernel
theorem dX10_init_41 : decode cX10_init 41 = .ok (.anewarray 33, 3) := by decide +kernel
theorem dX10_init_44 : decode cX10_init 44 = .ok (.putfield 35, 3) := by decide +kernel
theorem dX10_init_47 : decode cX10_init 47 = .ok (.aload_n 0, 1) := by decide +kernel
theorem dX10_init_48 : decode cX10_init 48 = .ok (.new 39, 3) := by decide +kernel
theorem dX10_init_51 : decode cX10_init 51 = .ok (.dup, 1) := by decide +kernel
theorem dX10_init_52 : decode cX10_init 52 = .ok (.invokespecial 41, 3) := by decide +kernel
theorem dX10_init_55 : decode cX10_init 55 = .ok (.putfield 42, 3) := by decide +kernel
theorem dX10_init_58 : decode cX10_init 58 = .ok (.iconst 0, 1) := by decide +kernel
theorem dX10_init_59 : decode cX10_init 59 = .ok (.istore_n 1, 1) := by decide +kernel
theorem dX10_init_60 : decode cX10_init 60 = .ok (.iload_n 1, 1) := by decide +kernel
theorem dX10_init_61 : decode cX10_init 61 = .ok (.aload_n 0, 1) := by decide +kernel
theorem dX10_init_62 : decode cX10_init 62 = .ok (.getfield 23, 3) := by decide +kernel
theorem dX10_init_65 : decode cX10_init 65 = .ok (.arraylength, 1) := by decide +kernel
theorem dX10_init_66 : decode cX10_init 66 = .ok (.if_icmp .ge 22, 3) := by decide +kernel
theorem dX10_init_69 : decode cX10_init 69 = .ok (.aload_n 0, 1) := by decide +kernel
theorem dX10_init_70 : decode cX10_init 70 = .ok (.getfield 23, 3) := by decide +kernel
theorem dX10_init_73 : decode cX10_init 73 = .ok (.iload_n 1, 1) := by decide +kernel
theorem dX10_init_74 : decode cX10_init 74 = .ok (.new 21, 3) := by decide +kernel
theorem dX10_init_77 : decode cX10_init 77 = .ok (.dup, 1) := by decide +kernel
theorem dX10_init_78 : decode cX10_init 78 = .ok (.invokespecial 46, 3) := by decide +kernel
theorem dX10_init_81 : decode cX10_init 81 = .ok (.aastore, 1) := by decide +kernel
theorem dX10_init_82 : decode cX10_init 82 = .ok (.iinc 1 1, 3) := by decide +kernel
theorem dX10_init_85 : decode cX10_init 85 = .ok (.goto (-25), 3) := by decide +kernel
theorem dX10_init_88 : decode cX10_init 88 = .ok (.return_, 1) := by decide +kernel
theorem dX10_addMachine_0 : decode cX10_addMachine 0 = .ok (.iload_n 1, 1) := by decide +kernel
theorem dX10_addMachine_1 : decode cX10_addMachine 1 = .ok (.iconst 0, 1) := by decide +kernel
theorem dX10_addMachine_2 : decode cX10_addMachine 2 = .ok (.bipush 20, 2) := by decide +kernel
theorem dX10_addMachine_4 : decode cX10_addMachine 4 = .ok (.invokestatic 47, 3) := by decide +kernel
theorem dX10_addMachine_7 : decode cX10_addMachine 7 = .ok (.ifCond .eq 35, 3) := by decide +kernel
theorem dX10_addMachine_10 : decode cX10_addMachine 10 = .ok (.iload_n 2, 1) := by decide +kernel
theorem dX10_addMachine_11 : decode cX10_addMachine 11 = .ok (.iconst 0, 1) := by decide +kernel
theorem dX10_addMachine_12 : decode cX10_addMachine 12 = .ok (.bipush 50, 2) := by decide +kernel
theorem dX10_addMachine_14 : decode cX10_addMachine 14 = .ok (.invokestatic 47, 3) := by decide +kernel
theorem dX10_addMachine_17 : decode cX10_addMachine 17 = .ok (.ifCond .eq 25, 3) := by decide +kernel
theorem dX10_addMachine_20 : decode cX10_addMachine 20 = .ok (.iload_n 3, 1) := by decide +kernel
theorem dX10_addMachine_21 : decode cX10_addMachine 21 = .ok (.iconst 5, 1) := by decide +kernel
theorem dX10_addMachine_22 : decode cX10_addMachine 22 = .ok (.sipush 500, 3) := by decide +kernel
theorem dX10_addMachine_25 : decode cX10_addMachine 25 = .ok (.invokestatic 47, 3) := by decide +kernel
theorem dX10_addMachine_28 : decode cX10_addMachine 28 = .ok (.ifCond .eq 14, 3) := by decide +kernel
theorem dX10_addMachine_31 : decode cX10_addMachine 31 = .ok (.iload 4, 2) := by decide +kernel
theorem dX10_addMachine_33 : decode cX10_addMachine 33 = .ok (.iconst 1, 1) := by decide +kernel
theorem dX10_addMachine_34 : decode cX10_addMachine 34 = .ok (.bipush 99, 2) := by decide +kernel
theorem dX10_addMachine_36 : decode cX10_addMachine 36 = .ok (.invokestatic 47, 3) := by decide +kernel
theorem dX10_addMachine_39 : decode cX10_addMachine 39 = .ok (.ifCond .ne 13, 3) := by decide +kernel
theorem dX10_addMachine_42 : decode cX10_addMachine 42 = .ok (.new 51, 3) := by decide +kernel
theorem dX10_addMachine_45 : decode cX10_addMachine 45 = .ok (.dup, 1) := by decide +kernel
theorem dX10_addMachine_46 : decode cX10_addMachine 46 = .ok (.ldc 53, 2) := by decide +kernel
theorem dX10_addMachine_48 : decode cX10_addMachine 48 = .ok (.invokespecial 55, 3) := by decide +kernel
theorem dX10_addMachine_51 : decode cX10_addMachine 51 = .ok (.athrow, 1) := by decide +kernel
theorem dX10_addMachine_52 : decode cX10_addMachine 52 = .ok (.aload_n 0, 1) := by decide +kernel
theorem dX10_addMachine_53 : decode cX10_addMachine 53 = .ok (.getfield 58, 3) := by decide +kernel
theorem dX10_addMachine_56 : decode cX10_addMachine 56 = .ok (.aload_n 0, 1) := by decide +kernel
theorem dX10_addMachine_57 : decode cX10_addMachine 57 = .ok (.getfield 11, 3) := by decide +kernel
theorem dX10_addMachine_60 : decode cX10_addMachine 60 = .ok (.arraylength, 1) := by decide +kernel
theorem dX10_addMachine_61 : decode cX10_addMachine 61 = .ok (.if_icmp .lt 13, 3) := by decide +kernel
theorem dX10_addMachine_64 : decode cX10_addMachine 64 = .ok (.new 62, 3) := by decide +kernel
theorem dX10_addMachine_67 : decode cX10_addMachine 67 = .ok (.dup, 1) := by decide +kernel
theorem dX10_addMachine_68 : decode cX10_addMachine 68 = .ok (.ldc 64, 2) := by decide +kernel
theorem dX10_addMachine_70 : decode cX10_addMachine 70 = .ok (.invokespecial 66, 3) := by decide +kernel
theorem dX10_addMachine_73 : decode cX10_addMachine 73 = .ok (.athrow, 1) := by decide +kernel
theorem dX10_addMachine_74 : decode cX10_addMachine 74 = .ok (.aload_n 0, 1) := by decide +kernel
theorem dX10_addMachine_75 : decode cX10_addMachine 75 = .ok (.getfield 11, 3) := by decide +kernel
theorem dX10_addMachine_78 : decode cX10_addMachine 78 = .ok (.aload_n 0, 1) := by decide +kernel
theorem dX10_addMachine_79 : decode cX10_addMachine 79 = .ok (.getfield 58, 3) := by decide +kernel
theorem dX10_addMachine_82 : decode cX10_addMachine 82 = .ok (.new 9, 3) := by decide +kernel
theorem dX10_addMachine_85 : decode cX10_addMachine 85 = .ok (.dup, 1) := by decide +kernel
theorem dX10_addMachine_86 : decode cX10_addMachine 86 = .ok (.iload_n 1, 1) := by decide +kernel
theorem dX10_addMachine_87 : decode cX10_addMachine 87 = .ok (.iload_n 2, 1) := by decide +kernel
theorem dX10_addMachine_88 : decode cX10_addMachine 88 = .ok (.iload_n 3, 1) := by decide +kernel
theorem dX10_addMachine_89 : decode cX10_addMachine 89 = .ok (.iload 4, 2) := by decide +kernel
theorem dX10_addMachine_91 : decode cX10_addMachine 91 = .ok (.invokespecial 67, 3) := by decide +kernel
theorem dX10_addMachine_94 : decode cX10_addMachine 94 = .ok (.aastore, 1) := by decide +kernel
theorem dX10_addMachine_95 : decode cX10_addMachine 95 = .ok (.aload_n 0, 1) := by decide +kernel
theorem dX10_addMachine_96 : decode cX10_addMachine 96 = .ok (.dup, 1) := by decide +kernel
theorem dX10_addMachine_97 : decode cX10_addMachine 97 = .ok (.getfield 58, 3) := by decide +kernel
theorem dX10_addMachine_100 : decode cX10_addMachine 100 = .ok (.iconst 1, 1) := by decide +kernel
theorem dX10_addMachine_101 : decode cX10_addMachine 101 = .ok (.iadd, 1) := by decide +kernel
theorem dX10_addMachine_102 : decode cX10_addMachine 102 = .ok (.putfield 58, 3) := by decide +kernel
theorem dX10_addMachine_105 : decode cX10_addMachine 105 = .ok (.aload_n 0, 1) := by decide +kernel
theorem dX10_addMachine_106 : decode cX10_addMachine 106 = .ok (.getfield 58, 3) := by decide +kernel
theorem dX10_addMachine_109 : decode cX10_addMachine 109 = .ok (.iconst 1, 1) := by decide +kernel
theorem dX10_addMachine_110 : decode cX10_addMachine 110 = .ok (.isub, 1) := by decide +kernel
theorem dX10_addMachine_111 : decode cX10_addMachine 111 = .ok (.ireturn, 1) := by decide +kernel
theorem dX10_addPart_0 : decode cX10_addPart 0 = .ok (.iload_n 2, 1) := by decide +kernel
theorem dX10_addPart_1 : decode cX10_addPart 1 = .ok (.iconst 0, 1) := by decide +kernel
theorem dX10_addPart_2 : decode cX10_addPart 2 = .ok (.iconst 3, 1) := by decide +kernel
theorem dX10_addPart_3 : decode cX10_addPart 3 = .ok (.invokestatic 47, 3) := by decide +kernel
theorem dX10_addPart_6 : decode cX10_addPart 6 = .ok (.ifCond .ne 13, 3) := by decide +kernel
theorem dX10_addPart_9 : decode cX10_addPart 9 = .ok (.new 51, 3) := by decide +kernel
theorem dX10_addPart_12 : decode cX10_addPart 12 = .ok (.dup, 1) := by decide +kernel
theorem dX10_addPart_13 : decode cX10_addPart 13 = .ok (.ldc 70, 2) := by decide +kernel
theorem dX10_addPart_15 : decode cX10_addPart 15 = .ok (.invokespecial 55, 3) := by decide +kernel
theorem dX10_addPart_18 : decode cX10_addPart 18 = .ok (.athrow, 1) := by decide +kernel
theorem dX10_addPart_19 : decode cX10_addPart 19 = .ok (.aload_n 0, 1) := by decide +kernel
theorem dX10_addPart_20 : decode cX10_addPart 20 = .ok (.getfield 72, 3) := by decide +kernel
theorem dX10_addPart_23 : decode cX10_addPart 23 = .ok (.aload_n 0, 1) := by decide +kernel
theorem dX10_addPart_24 : decode cX10_addPart 24 = .ok (.getfield 17, 3) := by decide +kernel
theorem dX10_addPart_27 : decode cX10_addPart 27 = .ok (.arraylength, 1) := by decide +kernel
theorem dX10_addPart_28 : decode cX10_addPart 28 = .ok (.if_icmp .lt 13, 3) := by decide +kernel
theorem dX10_addPart_31 : decode cX10_addPart 31 = .ok (.new 62, 3) := by decide +kernel
theorem dX10_addPart_34 : decode cX10_addPart 34 = .ok (.dup, 1) := by decide +kernel
theorem dX10_addPart_35 : decode cX10_addPart 35 = .ok (.ldc 75, 2) := by decide +kernel
theorem dX10_addPart_37 : decode cX10_addPart 37 = .ok (.invokespecial 66, 3) := by decide +kernel
theorem dX10_addPart_40 : decode cX10_addPart 40 = .ok (.athrow, 1) := by decide +kernel
theorem dX10_addPart_41 : decode cX10_addPart 41 = .ok (.aload_n 0, 1) := by decide +kernel
theorem dX10_addPart_42 : decode cX10_addPart 42 = .ok (.getfield 17, 3) := by decide +kernel
theorem dX10_addPart_45 : decode cX10_addPart 45 = .ok (.aload_n 0, 1) := by decide +kernel
theorem dX10_addPart_46 : decode cX10_addPart 46 = .ok (.getfield 72, 3) := by decide +kernel
theorem dX10_addPart_49 : decode cX10_addPart 49 = .ok (.new 15, 3) := by decide +kernel
theorem dX10_addPart_52 : decode cX10_addPart 52 = .ok (.dup, 1) := by decide +kernel
theorem dX10_addPart_53 : decode cX10_addPart 53 = .ok (.aload_n 0, 1) := by decide +kernel
theorem dX10_addPart_54 : decode cX10_addPart 54 = .ok (.getfield 72, 3) := by decide +kernel
theorem dX10_addPart_57 : decode cX10_addPart 57 = .ok (.iload_n 1, 1) := by decide +kernel
theorem dX10_addPart_58 : decode cX10_addPart 58 = .ok (.iload_n 2, 1) := by decide +kernel
theorem dX10_addPart_59 : decode cX10_addPart 59 = .ok (.invokespecial 77, 3) := by decide +kernel
theorem dX10_addPart_62 : decode cX10_addPart 62 = .ok (.aastore, 1) := by decide +kernel
theorem dX10_addPart_63 : decode cX10_addPart 63 = .ok (.aload_n 0, 1) := by decide +kernel
theorem dX10_addPart_64 : decode cX10_addPart 64 = .ok (.dup, 1) := by decide +kernel
theorem dX10_addPart_65 : decode cX10_addPart 65 = .ok (.getfield 72, 3) := by decide +kernel
theorem dX10_addPart_68 : decode cX10_addPart 68 = .ok (.iconst 1, 1) := by decide +kernel
theorem dX10_addPart_69 : decode cX10_addPart 69 = .ok (.iadd, 1) := by decide +kernel
theorem dX10_addPart_70 : decode cX10_addPart 70 = .ok (.putfield 72, 3) := by decide +kernel
theorem dX10_addPart_73 : decode cX10_addPart 73 = .ok (.aload_n 0, 1) := by decide +kernel
theorem dX10_addPart_74 : decode cX10_addPart 74 = .ok (.getfield 72, 3) := by decide +kernel
theorem dX10_addPart_77 : decode cX10_addPart 77 = .ok (.iconst 1, 1) := by decide +kernel
theorem dX10_addPart_78 : decode cX10_addPart 78 = .ok (.isub, 1) := by decide +kernel
theorem dX10_addPart_79 : decode cX10_addPart 79 = .ok (.ireturn, 1) := by decide +kernel
theorem dX10_addComponent_0 : decode cX10_addComponent 0 = .ok (.aload_n 0, 1) := by decide +kernel
theorem dX10_addComponent_1 : decode cX10_addComponent 1 = .ok (.iload_n 1, 1) := by decide +kernel
theorem dX10_addComponent_2 : decode cX10_addComponent 2 = .ok (.invokevirtual 80, 3) := by decide +kernel
theorem dX10_addComponent_5 : decode cX10_addComponent 5 = .ok (.astore 5, 2) := by decide +kernel
theorem dX10_addComponent_7 : decode cX10_addComponent 7 = .ok (.aload_n 0, 1) := by decide +kernel
theorem dX10_addComponent_8 : decode cX10_addComponent 8 = .ok (.iload_n 2, 1) := by decide +kernel
theorem dX10_addComponent_9 : decode cX10_addComponent 9 = .ok (.invokevirtual 80, 3) := by decide +kernel
theorem dX10_addComponent_12 : decode cX10_addComponent 12 = .ok (.astore 6, 2) := by decide +kernel
theorem dX10_addComponent_14 : decode cX10_addComponent 14 = .ok (.aload 5, 2) := by decide +kernel
theorem dX10_addComponent_16 : decode cX10_addComponent 16 = .ok (.getfield 84, 3) := by decide +kernel
theorem dX10_addComponent_19 : decode cX10_addComponent 19 = .ok (.ifCond .eq 8, 3) := by decide +kernel
theorem dX10_addComponent_22 : decode cX10_addComponent 22 = .ok (.iload_n 2, 1) := by decide +kernel
theorem dX10_addComponent_23 : decode cX10_addComponent 23 = .ok (.iload_n 1, 1) := by decide +kernel
theorem dX10_addComponent_24 : decode cX10_addComponent 24 = .ok (.if_icmp .lt 13, 3) := by decide +kernel
theorem dX10_addComponent_27 : decode cX10_addComponent 27 = .ok (.new 88, 3) := by decide +kernel
theorem dX10_addComponent_30 : decode cX10_addComponent 30 = .ok (.dup, 1) := by decide +kernel
theorem dX10_addComponent_31 : decode cX10_addComponent 31 = .ok (.ldc 90, 2) := by decide +kernel
theorem dX10_addComponent_33 : decode cX10_addComponent 33 = .ok (.invokespecial 92, 3) := by decide +kernel
theorem dX10_addComponent_36 : decode cX10_addComponent 36 = .ok (.athrow, 1) := by decide +kernel
theorem dX10_addComponent_37 : decode cX10_addComponent 37 = .ok (.iload_n 3, 1) := by decide +kernel
theorem dX10_addComponent_38 : decode cX10_addComponent 38 = .ok (.iconst 1, 1) := by decide +kernel
theorem dX10_addComponent_39 : decode cX10_addComponent 39 = .ok (.bipush 9, 2) := by decide +kernel
theorem dX10_addComponent_41 : decode cX10_addComponent 41 = .ok (.invokestatic 47, 3) := by decide +kernel
theorem dX10_addComponent_44 : decode cX10_addComponent 44 = .ok (.ifCond .eq 13, 3) := by decide +kernel
theorem dX10_addComponent_47 : decode cX10_addComponent 47 = .ok (.iload 4, 2) := by decide +kernel
theorem dX10_addComponent_49 : decode cX10_addComponent 49 = .ok (.iconst (-1), 1) := by decide +kernel
theorem dX10_addComponent_50 : decode cX10_addComponent 50 = .ok (.iconst 2, 1) := by decide +kernel
theorem dX10_addComponent_51 : decode cX10_addComponent 51 = .ok (.invokestatic 47, 3) := by decide +kernel
theorem dX10_addComponent_54 : decode cX10_addComponent 54 = .ok (.ifCond .ne 13, 3) := by decide +kernel
theorem dX10_addComponent_57 : decode cX10_addComponent 57 = .ok (.new 51, 3) := by decide +kernel
theorem dX10_addComponent_60 : decode cX10_addComponent 60 = .ok (.dup, 1) := by decide +kernel
theorem dX10_addComponent_61 : decode cX10_addComponent 61 = .ok (.ldc 93, 2) := by decide +kernel
theorem dX10_addComponent_63 : decode cX10_addComponent 63 = .ok (.invokespecial 55, 3) := by decide +kernel
theorem dX10_addComponent_66 : decode cX10_addComponent 66 = .ok (.athrow, 1) := by decide +kernel
theorem dX10_addComponent_67 : decode cX10_addComponent 67 = .ok (.aload 5, 2) := by decide +kernel
theorem dX10_addComponent_69 : decode cX10_addComponent 69 = .ok (.invokevirtual 95, 3) := by decide +kernel
theorem dX10_addComponent_72 : decode cX10_addComponent 72 = .ok (.ifCond .ne 13, 3) := by decide +kernel
theorem dX10_addComponent_75 : decode cX10_addComponent 75 = .ok (.new 62, 3) := by decide +kernel
theorem dX10_addComponent_78 : decode cX10_addComponent 78 = .ok (.dup, 1) := by decide +kernel
theorem dX10_addComponent_79 : decode cX10_addComponent 79 = .ok (.ldc 99, 2) := by decide +kernel
theorem dX10_addComponent_81 : decode cX10_addComponent 81 = .ok (.invokespecial 66, 3) := by decide +kernel
theorem dX10_addComponent_84 : decode cX10_addComponent 84 = .ok (.athrow, 1) := by decide +kernel
theorem dX10_addComponent_85 : decode cX10_addComponent 85 = .ok (.aload 5, 2) := by decide +kernel
theorem dX10_addComponent_87 : decode cX10_addComponent 87 = .ok (.new 101, 3) := by decide +kernel
theorem dX10_addComponent_90 : decode cX10_addComponent 90 = .ok (.dup, 1) := by decide +kernel
theorem dX10_addComponent_91 : decode cX10_addComponent 91 = .ok (.aload 6, 2) := by decide +kernel
theorem dX10_addComponent_93 : decode cX10_addComponent 93 = .ok (.iload_n 3, 1) := by decide +kernel
theorem dX10_addComponent_94 : decode cX10_addComponent 94 = .ok (.iload 4, 2) := by decide +kernel
theorem dX10_addComponent_96 : decode cX10_addComponent 96 = .ok (.invokespecial 103, 3) := by decide +kernel
theorem dX10_addComponent_99 : decode cX10_addComponent 99 = .ok (.invokevirtual 106, 3) := by decide +kernel
theorem dX10_addComponent_102 : decode cX10_addComponent 102 = .ok (.ireturn, 1) := by decide +kernel
theorem dX10_addOperation_0 : decode cX10_addOperation 0 = .ok (.aload_n 0, 1) := by decide +kernel
theorem dX10_addOperation_1 : decode cX10_addOperation 1 = .ok (.iload_n 1, 1) := by decide +kernel
theorem dX10_addOperation_2 : decode cX10_addOperation 2 = .ok (.invokevirtual 80, 3) := by decide +kernel
theorem dX10_addOperation_5 : decode cX10_addOperation 5 = .ok (.astore 5, 2) := by decide +kernel
theorem dX10_addOperation_7 : decode cX10_addOperation 7 = .ok (.aload_n 0, 1) := by decide +kernel
theorem dX10_addOperation_8 : decode cX10_addOperation 8 = .ok (.iload_n 2, 1) := by decide +kernel
theorem dX10_addOperation_9 : decode cX10_addOperation 9 = .ok (.invokevirtual 110, 3) := by decide +kernel
theorem dX10_addOperation_12 : decode cX10_addOperation 12 = .ok (.astore 6, 2) := by decide +kernel
theorem dX10_addOperation_14 : decode cX10_addOperation 14 = .ok (.iload_n 3, 1) := by decide +kernel
theorem dX10_addOperation_15 : decode cX10_addOperation 15 = .ok (.iconst (-1), 1) := by decide +kernel
theorem dX10_addOperation_16 : decode cX10_addOperation 16 = .ok (.if_icmp .ne 7, 3) := by decide +kernel
theorem dX10_addOperation_19 : decode cX10_addOperation 19 = .ok (.aconst_null, 1) := by decide +kernel
theorem dX10_addOperation_20 : decode cX10_addOperation 20 = .ok (.goto 8, 3) := by decide +kernel
theorem dX10_addOperation_23 : decode cX10_addOperation 23 = .ok (.aload_n 0, 1) := by decide +kernel
theorem dX10_addOperation_24 : decode cX10_addOperation 24 = .ok (.iload_n 3, 1) := by decide +kernel
theorem dX10_addOperation_25 : decode cX10_addOperation 25 = .ok (.invokevirtual 110, 3) := by decide +kernel
theorem dX10_addOperation_28 : decode cX10_addOperation 28 = .ok (.astore 7, 2) := by decide +kernel
theorem dX10_addOperation_30 : decode cX10_addOperation 30 = .ok (.aload 5, 2) := by decide +kernel
theorem dX10_addOperation_32 : decode cX10_addOperation 32 = .ok (.getfield 84, 3) := by decide +kernel
theorem dX10_addOperation_35 : decode cX10_addOperation 35 = .ok (.ifCond .ne 13, 3) := by decide +kernel
theorem dX10_addOperation_38 : decode cX10_addOperation 38 = .ok (.new 88, 3) := by decide +kernel
theorem dX10_addOperation_41 : decode cX10_addOperation 41 = .ok (.dup, 1) := by decide +kernel
theorem dX10_addOperation_42 : decode cX10_addOperation 42 = .ok (.ldc 114, 2) := by decide +kernel
theorem dX10_addOperation_44 : decode cX10_addOperation 44 = .ok (.invokespecial 92, 3) := by decide +kernel
theorem dX10_addOperation_47 : decode cX10_addOperation 47 = .ok (.athrow, 1) := by decide +kernel
theorem dX10_addOperation_48 : decode cX10_addOperation 48 = .ok (.iload 4, 2) := by decide +kernel
theorem dX10_addOperation_50 : decode cX10_addOperation 50 = .ok (.iconst 1, 1) := by decide +kernel
theorem dX10_addOperation_51 : decode cX10_addOperation 51 = .ok (.bipush 20, 2) := by decide +kernel
theorem dX10_addOperation_53 : decode cX10_addOperation 53 = .ok (.invokestatic 47, 3) := by decide +kernel
theorem dX10_addOperation_56 : decode cX10_addOperation 56 = .ok (.ifCond .ne 13, 3) := by decide +kernel
theorem dX10_addOperation_59 : decode cX10_addOperation 59 = .ok (.new 51, 3) := by decide +kernel
theorem dX10_addOperation_62 : decode cX10_addOperation 62 = .ok (.dup, 1) := by decide +kernel
theorem dX10_addOperation_63 : decode cX10_addOperation 63 = .ok (.ldc 116, 2) := by decide +kernel
theorem dX10_addOperation_65 : decode cX10_addOperation 65 = .ok (.invokespecial 55, 3) := by decide +kernel
theorem dX10_addOperation_68 : decode cX10_addOperation 68 = .ok (.athrow, 1) := by decide +kernel
theorem dX10_addOperation_69 : decode cX10_addOperation 69 = .ok (.aload 5, 2) := by decide +kernel
theorem dX10_addOperation_71 : decode cX10_addOperation 71 = .ok (.invokevirtual 118, 3) := by decide +kernel
theorem dX10_addOperation_74 : decode cX10_addOperation 74 = .ok (.ifCond .ne 13, 3) := by decide +kernel
theorem dX10_addOperation_77 : decode cX10_addOperation 77 = .ok (.new 62, 3) := by decide +kernel
theorem dX10_addOperation_80 : decode cX10_addOperation 80 = .ok (.dup, 1) := by decide +kernel
theorem dX10_addOperation_81 : decode cX10_addOperation 81 = .ok (.ldc 121, 2) := by decide +kernel
theorem dX10_addOperation_83 : decode cX10_addOperation 83 = .ok (.invokespecial 66, 3) := by decide +kernel
theorem dX10_addOperation_86 : decode cX10_addOperation 86 = .ok (.athrow, 1) := by decide +kernel
theorem dX10_addOperation_87 : decode cX10_addOperation 87 = .ok (.aload 5, 2) := by decide +kernel
theorem dX10_addOperation_89 : decode cX10_addOperation 89 = .ok (.new 123, 3) := by decide +kernel
theorem dX10_addOperation_92 : decode cX10_addOperation 92 = .ok (.dup, 1) := by decide +kernel
theorem dX10_addOperation_93 : decode cX10_addOperation 93 = .ok (.aload 6, 2) := by decide +kernel
theorem dX10_addOperation_95 : decode cX10_addOperation 95 = .ok (.aload 7, 2) := by decide +kernel
theorem dX10_addOperation_97 : decode cX10_addOperation 97 = .ok (.iload 4, 2) := by decide +kernel
theorem dX10_addOperation_99 : decode cX10_addOperation 99 = .ok (.invokespecial 125, 3) := by decide +kernel
theorem dX10_addOperation_102 : decode cX10_addOperation 102 = .ok (.invokevirtual 128, 3) := by decide +kernel
theorem dX10_addOperation_105 : decode cX10_addOperation 105 = .ok (.ireturn, 1) := by decide +kernel
theorem dX10_receive_0 : decode cX10_receive 0 = .ok (.aload_n 0, 1) := by decide +kernel
theorem dX10_receive_1 : decode cX10_receive 1 = .ok (.iload_n 1, 1) := by decide +kernel
theorem dX10_receive_2 : decode cX10_receive 2 = .ok (.invokevirtual 80, 3) := by decide +kernel
theorem dX10_receive_5 : decode cX10_receive 5 = .ok (.astore 6, 2) := by decide +kernel
theorem dX10_receive_7 : decode cX10_receive 7 = .ok (.aload_n 0, 1) := by decide +kernel
theorem dX10_receive_8 : decode cX10_receive 8 = .ok (.iload 4, 2) := by decide +kernel
theorem dX10_receive_10 : decode cX10_receive 10 = .ok (.invokevirtual 132, 3) := by decide +kernel
theorem dX10_receive_13 : decode cX10_receive 13 = .ok (.astore 7, 2) := by decide +kernel
theorem dX10_receive_15 : decode cX10_receive 15 = .ok (.aload 6, 2) := by decide +kernel
theorem dX10_receive_17 : decode cX10_receive 17 = .ok (.getfield 84, 3) := by decide +kernel
theorem dX10_receive_20 : decode cX10_receive 20 = .ok (.ifCond .eq 13, 3) := by decide +kernel
theorem dX10_receive_23 : decode cX10_receive 23 = .ok (.new 88, 3) := by decide +kernel
theorem dX10_receive_26 : decode cX10_receive 26 = .ok (.dup, 1) := by decide +kernel
theorem dX10_receive_27 : decode cX10_receive 27 = .ok (.ldc 136, 2) := by decide +kernel
theorem dX10_receive_29 : decode cX10_receive 29 = .ok (.invokespecial 92, 3) := by decide +kernel
theorem dX10_receive_32 : decode cX10_receive 32 = .ok (.athrow, 1) := by decide +kernel
theorem dX10_receive_33 : decode cX10_receive 33 = .ok (.aload 7, 2) := by decide +kernel
theorem dX10_receive_35 : decode cX10_receive 35 = .ok (.ifnull 36, 3) := by decide +kernel
theorem dX10_receive_38 : decode cX10_receive 38 = .ok (.iload_n 2, 1) := by decide +kernel
theorem dX10_receive_39 : decode cX10_receive 39 = .ok (.iconst 1, 1) := by decide +kernel
theorem dX10_receive_40 : decode cX10_receive 40 = .ok (.sipush 500, 3) := by decide +kernel
theorem dX10_receive_43 : decode cX10_receive 43 = .ok (.invokestatic 47, 3) := by decide +kernel
theorem dX10_receive_46 : decode cX10_receive 46 = .ok (.ifCond .eq 25, 3) := by decide +kernel
theorem dX10_receive_49 : decode cX10_receive 49 = .ok (.iload_n 3, 1) := by decide +kernel
theorem dX10_receive_50 : decode cX10_receive 50 = .ok (.iconst 0, 1) := by decide +kernel
theorem dX10_receive_51 : decode cX10_receive 51 = .ok (.sipush 999, 3) := by decide +kernel
theorem dX10_receive_54 : decode cX10_receive 54 = .ok (.invokestatic 47, 3) := by decide +kernel
theorem dX10_receive_57 : decode cX10_receive 57 = .ok (.ifCond .eq 14, 3) := by decide +kernel
theorem dX10_receive_60 : decode cX10_receive 60 = .ok (.iload 5, 2) := by decide +kernel
theorem dX10_receive_62 : decode cX10_receive 62 = .ok (.iconst 0, 1) := by decide +kernel
theorem dX10_receive_63 : decode cX10_receive 63 = .ok (.bipush 20, 2) := by decide +kernel
theorem dX10_receive_65 : decode cX10_receive 65 = .ok (.invokestatic 47, 3) := by decide +kernel
theorem dX10_receive_68 : decode cX10_receive 68 = .ok (.ifCond .ne 13, 3) := by decide +kernel
theorem dX10_receive_71 : decode cX10_receive 71 = .ok (.new 51, 3) := by decide +kernel
theorem dX10_receive_74 : decode cX10_receive 74 = .ok (.dup, 1) := by decide +kernel
theorem dX10_receive_75 : decode cX10_receive 75 = .ok (.ldc 138, 2) := by decide +kernel
theorem dX10_receive_77 : decode cX10_receive 77 = .ok (.invokespecial 55, 3) := by decide +kernel
theorem dX10_receive_80 : decode cX10_receive 80 = .ok (.athrow, 1) := by decide +kernel
theorem dX10_receive_81 : decode cX10_receive 81 = .ok (.aload_n 0, 1) := by decide +kernel
theorem dX10_receive_82 : decode cX10_receive 82 = .ok (.getfield 140, 3) := by decide +kernel
theorem dX10_receive_85 : decode cX10_receive 85 = .ok (.bipush 60, 2) := by decide +kernel
theorem dX10_receive_87 : decode cX10_receive 87 = .ok (.if_icmp .lt 13, 3) := by decide +kernel
theorem dX10_receive_90 : decode cX10_receive 90 = .ok (.new 62, 3) := by decide +kernel
theorem dX10_receive_93 : decode cX10_receive 93 = .ok (.dup, 1) := by decide +kernel
theorem dX10_receive_94 : decode cX10_receive 94 = .ok (.ldc 143, 2) := by decide +kernel
theorem dX10_receive_96 : decode cX10_receive 96 = .ok (.invokespecial 66, 3) := by decide +kernel
theorem dX10_receive_99 : decode cX10_receive 99 = .ok (.athrow, 1) := by decide +kernel
theorem dX10_receive_100 : decode cX10_receive 100 = .ok (.aload_n 0, 1) := by decide +kernel
theorem dX10_receive_101 : decode cX10_receive 101 = .ok (.dup, 1) := by decide +kernel
theorem dX10_receive_102 : decode cX10_receive 102 = .ok (.getfield 140, 3) := by decide +kernel
theorem dX10_receive_105 : decode cX10_receive 105 = .ok (.iconst 1, 1) := by decide +kernel
theorem dX10_receive_106 : decode cX10_receive 106 = .ok (.iadd, 1) := by decide +kernel
theorem dX10_receive_107 : decode cX10_receive 107 = .ok (.putfield 140, 3) := by decide +kernel
theorem dX10_receive_110 : decode cX10_receive 110 = .ok (.iload_n 2, 1) := by decide +kernel
theorem dX10_receive_111 : decode cX10_receive 111 = .ok (.i2l, 1) := by decide +kernel
theorem dX10_receive_112 : decode cX10_receive 112 = .ok (.iload_n 3, 1) := by decide +kernel
theorem dX10_receive_113 : decode cX10_receive 113 = .ok (.i2l, 1) := by decide +kernel
theorem dX10_receive_114 : decode cX10_receive 114 = .ok (.lmul, 1) := by decide +kernel
theorem dX10_receive_115 : decode cX10_receive 115 = .ok (.lstore 8, 2) := by decide +kernel
theorem dX10_receive_117 : decode cX10_receive 117 = .ok (.aload_n 0, 1) := by decide +kernel
theorem dX10_receive_118 : decode cX10_receive 118 = .ok (.dup, 1) := by decide +kernel
theorem dX10_receive_119 : decode cX10_receive 119 = .ok (.getfield 145, 3) := by decide +kernel
theorem dX10_receive_122 : decode cX10_receive 122 = .ok (.lload 8, 2) := by decide +kernel
theorem dX10_receive_124 : decode cX10_receive 124 = .ok (.ladd, 1) := by decide +kernel
theorem dX10_receive_125 : decode cX10_receive 125 = .ok (.putfield 145, 3) := by decide +kernel
theorem dX10_receive_128 : decode cX10_receive 128 = .ok (.aload_n 0, 1) := by decide +kernel
theorem dX10_receive_129 : decode cX10_receive 129 = .ok (.aload 6, 2) := by decide +kernel
theorem dX10_receive_131 : decode cX10_receive 131 = .ok (.iload_n 2, 1) := by decide +kernel
theorem dX10_receive_132 : decode cX10_receive 132 = .ok (.lload 8, 2) := by decide +kernel
theorem dX10_receive_134 : decode cX10_receive 134 = .ok (.invokevirtual 149, 3) := by decide +kernel
theorem dX10_receive_137 : decode cX10_receive 137 = .ok (.astore 10, 2) := by decide +kernel
theorem dX10_receive_139 : decode cX10_receive 139 = .ok (.aload 7, 2) := by decide +kernel
theorem dX10_receive_141 : decode cX10_receive 141 = .ok (.iload 5, 2) := by decide +kernel
theorem dX10_receive_143 : decode cX10_receive 143 = .ok (.invokevirtual 153, 3) := by decide +kernel
theorem dX10_receive_146 : decode cX10_receive 146 = .ok (.ifCond .eq 15, 3) := by decide +kernel
theorem dX10_receive_149 : decode cX10_receive 149 = .ok (.aload_n 0, 1) := by decide +kernel
theorem dX10_receive_150 : decode cX10_receive 150 = .ok (.getfield 42, 3) := by decide +kernel
theorem dX10_receive_153 : decode cX10_receive 153 = .ok (.aload 10, 2) := by decide +kernel
theorem dX10_receive_155 : decode cX10_receive 155 = .ok (.getfield 157, 3) := by decide +kernel
theorem dX10_receive_158 : decode cX10_receive 158 = .ok (.invokevirtual 160, 3) := by decide +kernel
theorem dX10_receive_161 : decode cX10_receive 161 = .ok (.aload 10, 2) := by decide +kernel
theorem dX10_receive_163 : decode cX10_receive 163 = .ok (.getfield 157, 3) := by decide +kernel
theorem dX10_receive_166 : decode cX10_receive 166 = .ok (.ireturn, 1) := by decide +kernel
theorem dX10_hold_0 : decode cX10_hold 0 = .ok (.aload_n 0, 1) := by decide +kernel
theorem dX10_hold_1 : decode cX10_hold 1 = .ok (.iload_n 1, 1) := by decide +kernel
theorem dX10_hold_2 : decode cX10_hold 2 = .ok (.invokevirtual 173, 3) := by decide +kernel
theorem dX10_hold_5 : decode cX10_hold 5 = .ok (.astore_n 3, 1) := by decide +kernel
theorem dX10_hold_6 : decode cX10_hold 6 = .ok (.iload_n 2, 1) := by decide +kernel
theorem dX10_hold_7 : decode cX10_hold 7 = .ok (.ifCond .eq 9, 3) := by decide +kernel
theorem dX10_hold_10 : decode cX10_hold 10 = .ok (.aload_n 0, 1) := by decide +kernel
theorem dX10_hold_11 : decode cX10_hold 11 = .ok (.aload_n 3, 1) := by decide +kernel
theorem dX10_hold_12 : decode cX10_hold 12 = .ok (.invokevirtual 177, 3) := by decide +kernel
theorem dX10_hold_15 : decode cX10_hold 15 = .ok (.ireturn, 1) := by decide +kernel
theorem dX10_hold_16 : decode cX10_hold 16 = .ok (.aload_n 0, 1) := by decide +kernel
theorem dX10_hold_17 : decode cX10_hold 17 = .ok (.getfield 42, 3) := by decide +kernel
theorem dX10_hold_20 : decode cX10_hold 20 = .ok (.iload_n 1, 1) := by decide +kernel
theorem dX10_hold_21 : decode cX10_hold 21 = .ok (.invokevirtual 181, 3) := by decide +kernel
theorem dX10_hold_24 : decode cX10_hold 24 = .ok (.iconst 0, 1) := by decide +kernel
theorem dX10_hold_25 : decode cX10_hold 25 = .ok (.ireturn, 1) := by decide +kernel
theorem dX10_isHeld_0 : decode cX10_isHeld 0 = .ok (.aload_n 0, 1) := by decide +kernel
theorem dX10_isHeld_1 : decode cX10_isHeld 1 = .ok (.aload_n 0, 1) := by decide +kernel
theorem dX10_isHeld_2 : decode cX10_isHeld 2 = .ok (.iload_n 1, 1) := by decide +kernel
theorem dX10_isHeld_3 : decode cX10_isHeld 3 = .ok (.invokevirtual 173, 3) := by decide +kernel
theorem dX10_isHeld_6 : decode cX10_isHeld 6 = .ok (.invokevirtual 184, 3) := by decide +kernel
theorem dX10_isHeld_9 : decode cX10_isHeld 9 = .ok (.ireturn, 1) := by decide +kernel
theorem dX10_measure_0 : decode cX10_measure 0 = .ok (.aload_n 0, 1) := by decide +kernel
theorem dX10_measure_1 : decode cX10_measure 1 = .ok (.iload_n 1, 1) := by decide +kernel
theorem dX10_measure_2 : decode cX10_measure 2 = .ok (.invokevirtual 173, 3) := by decide +kernel
theorem dX10_measure_5 : decode cX10_measure 5 = .ok (.astore_n 3, 1) := by decide +kernel
theorem dX10_measure_6 : decode cX10_measure 6 = .ok (.iload_n 2, 1) := by decide +kernel
theorem dX10_measure_7 : decode cX10_measure 7 = .ok (.iconst 0, 1) := by decide +kernel
theorem dX10_measure_8 : decode cX10_measure 8 = .ok (.sipush 2000, 3) := by decide +kernel
theorem dX10_measure_11 : decode cX10_measure 11 = .ok (.invokestatic 47, 3) := by decide +kernel
theorem dX10_measure_14 : decode cX10_measure 14 = .ok (.ifCond .ne 13, 3) := by decide +kernel
theorem dX10_measure_17 : decode cX10_measure 17 = .ok (.new 51, 3) := by decide +kernel
theorem dX10_measure_20 : decode cX10_measure 20 = .ok (.dup, 1) := by decide +kernel
theorem dX10_measure_21 : decode cX10_measure 21 = .ok (.ldc 203, 2) := by decide +kernel
theorem dX10_measure_23 : decode cX10_measure 23 = .ok (.invokespecial 55, 3) := by decide +kernel
theorem dX10_measure_26 : decode cX10_measure 26 = .ok (.athrow, 1) := by decide +kernel
theorem dX10_measure_27 : decode cX10_measure 27 = .ok (.aload_n 3, 1) := by decide +kernel
theorem dX10_measure_28 : decode cX10_measure 28 = .ok (.getfield 205, 3) := by decide +kernel
theorem dX10_measure_31 : decode cX10_measure 31 = .ok (.getfield 190, 3) := by decide +kernel
theorem dX10_measure_34 : decode cX10_measure 34 = .ok (.iload_n 2, 1) := by decide +kernel
theorem dX10_measure_35 : decode cX10_measure 35 = .ok (.invokevirtual 209, 3) := by decide +kernel
theorem dX10_measure_38 : decode cX10_measure 38 = .ok (.istore 4, 2) := by decide +kernel
theorem dX10_measure_40 : decode cX10_measure 40 = .ok (.iload 4, 2) := by decide +kernel
theorem dX10_measure_42 : decode cX10_measure 42 = .ok (.ifCond .eq 14, 3) := by decide +kernel
theorem dX10_measure_45 : decode cX10_measure 45 = .ok (.aload_n 0, 1) := by decide +kernel
theorem dX10_measure_46 : decode cX10_measure 46 = .ok (.getfield 42, 3) := by decide +kernel
theorem dX10_measure_49 : decode cX10_measure 49 = .ok (.iload_n 1, 1) := by decide +kernel
theorem dX10_measure_50 : decode cX10_measure 50 = .ok (.invokevirtual 212, 3) := by decide +kernel
theorem dX10_measure_53 : decode cX10_measure 53 = .ok (.ifCond .eq 5, 3) := by decide +kernel
theorem dX10_measure_56 : decode cX10_measure 56 = .ok (.iconst 0, 1) := by decide +kernel
theorem dX10_measure_57 : decode cX10_measure 57 = .ok (.ireturn, 1) := by decide +kernel
theorem dX10_measure_58 : decode cX10_measure 58 = .ok (.aload_n 0, 1) := by decide +kernel
theorem dX10_measure_59 : decode cX10_measure 59 = .ok (.aload_n 3, 1) := by decide +kernel
theorem dX10_measure_60 : decode cX10_measure 60 = .ok (.invokevirtual 177, 3) := by decide +kernel
theorem dX10_measure_63 : decode cX10_measure 63 = .ok (.pop, 1) := by decide +kernel
theorem dX10_measure_64 : decode cX10_measure 64 = .ok (.iconst 1, 1) := by decide +kernel
theorem dX10_measure_65 : decode cX10_measure 65 = .ok (.ireturn, 1) := by decide +kernel
theorem dX10_lots_0 : decode cX10_lots 0 = .ok (.aload_n 0, 1) := by decide +kernel
theorem dX10_lots_1 : decode cX10_lots 1 = .ok (.getfield 215, 3) := by decide +kernel
theorem dX10_lots_4 : decode cX10_lots 4 = .ok (.ireturn, 1) := by decide +kernel
theorem dX10_partOf_0 : decode cX10_partOf 0 = .ok (.aload_n 0, 1) := by decide +kernel
theorem dX10_partOf_1 : decode cX10_partOf 1 = .ok (.iload_n 1, 1) := by decide +kernel
theorem dX10_partOf_2 : decode cX10_partOf 2 = .ok (.invokevirtual 173, 3) := by decide +kernel
theorem dX10_partOf_5 : decode cX10_partOf 5 = .ok (.getfield 205, 3) := by decide +kernel
theorem dX10_partOf_8 : decode cX10_partOf 8 = .ok (.getfield 218, 3) := by decide +kernel
theorem dX10_partOf_11 : decode cX10_partOf 11 = .ok (.ireturn, 1) := by decide +kernel
theorem dX10_rest_0 : decode cX10_rest 0 = .ok (.aload_n 0, 1) := by decide +kernel
theorem dX10_rest_1 : decode cX10_rest 1 = .ok (.iload_n 1, 1) := by decide +kernel
theorem dX10_rest_2 : decode cX10_rest 2 = .ok (.invokevirtual 173, 3) := by decide +kernel
theorem dX10_rest_5 : decode cX10_rest 5 = .ok (.getfield 219, 3) := by decide +kernel
theorem dX10_rest_8 : decode cX10_rest 8 = .ok (.ireturn, 1) := by decide +kernel
theorem dX10_reserved_0 : decode cX10_reserved 0 = .ok (.aload_n 0, 1) := by decide +kernel
theorem dX10_reserved_1 : decode cX10_reserved 1 = .ok (.iload_n 1, 1) := by decide +kernel
theorem dX10_reserved_2 : decode cX10_reserved 2 = .ok (.invokevirtual 173, 3) := by decide +kernel
theorem dX10_reserved_5 : decode cX10_reserved 5 = .ok (.getfield 222, 3) := by decide +kernel
theorem dX10_reserved_8 : decode cX10_reserved 8 = .ok (.ireturn, 1) := by decide +kernel
theorem dX10_costOf_0 : decode cX10_costOf 0 = .ok (.aload_n 0, 1) := by decide +kernel
theorem dX10_costOf_1 : decode cX10_costOf 1 = .ok (.iload_n 1, 1) := by decide +kernel
theorem dX10_costOf_2 : decode cX10_costOf 2 = .ok (.invokevirtual 173, 3) := by decide +kernel
theorem dX10_costOf_5 : decode cX10_costOf 5 = .ok (.getfield 225, 3) := by decide +kernel
theorem dX10_costOf_8 : decode cX10_costOf 8 = .ok (.lreturn, 1) := by decide +kernel
theorem dX10_order_0 : decode cX10_order 0 = .ok (.aload_n 0, 1) := by decide +kernel
theorem dX10_order_1 : decode cX10_order 1 = .ok (.iload_n 1, 1) := by decide +kernel
theorem dX10_order_2 : decode cX10_order 2 = .ok (.invokevirtual 80, 3) := by decide +kernel
theorem dX10_order_5 : decode cX10_order 5 = .ok (.astore 5, 2) := by decide +kernel
theorem dX10_order_7 : decode cX10_order 7 = .ok (.iload_n 2, 1) := by decide +kernel
theorem dX10_order_8 : decode cX10_order 8 = .ok (.iconst 1, 1) := by decide +kernel
theorem dX10_order_9 : decode cX10_order 9 = .ok (.bipush 100, 2) := by decide +kernel
theorem dX10_order_11 : decode cX10_order 11 = .ok (.invokestatic 47, 3) := by decide +kernel
theorem dX10_order_14 : decode cX10_order 14 = .ok (.ifCond .eq 24, 3) := by decide +kernel
theorem dX10_order_17 : decode cX10_order 17 = .ok (.iload_n 3, 1) := by decide +kernel
theorem dX10_order_18 : decode cX10_order 18 = .ok (.iconst 0, 1) := by decide +kernel
theorem dX10_order_19 : decode cX10_order 19 = .ok (.iconst 2, 1) := by decide +kernel
theorem dX10_order_20 : decode cX10_order 20 = .ok (.invokestatic 47, 3) := by decide +kernel
theorem dX10_order_23 : decode cX10_order 23 = .ok (.ifCond .eq 15, 3) := by decide +kernel
theorem dX10_order_26 : decode cX10_order 26 = .ok (.iload 4, 2) := by decide +kernel
theorem dX10_order_28 : decode cX10_order 28 = .ok (.iconst 0, 1) := by decide +kernel
theorem dX10_order_29 : decode cX10_order 29 = .ok (.sipush 9999, 3) := by decide +kernel
theorem dX10_order_32 : decode cX10_order 32 = .ok (.invokestatic 47, 3) := by decide +kernel
theorem dX10_order_35 : decode cX10_order 35 = .ok (.ifCond .ne 13, 3) := by decide +kernel
theorem dX10_order_38 : decode cX10_order 38 = .ok (.new 51, 3) := by decide +kernel
theorem dX10_order_41 : decode cX10_order 41 = .ok (.dup, 1) := by decide +kernel
theorem dX10_order_42 : decode cX10_order 42 = .ok (.ldc 228, 2) := by decide +kernel
theorem dX10_order_44 : decode cX10_order 44 = .ok (.invokespecial 55, 3) := by decide +kernel
theorem dX10_order_47 : decode cX10_order 47 = .ok (.athrow, 1) := by decide +kernel
theorem dX10_order_48 : decode cX10_order 48 = .ok (.aload_n 0, 1) := by decide +kernel
theorem dX10_order_49 : decode cX10_order 49 = .ok (.getfield 230, 3) := by decide +kernel
theorem dX10_order_52 : decode cX10_order 52 = .ok (.aload_n 0, 1) := by decide +kernel
theorem dX10_order_53 : decode cX10_order 53 = .ok (.getfield 35, 3) := by decide +kernel
theorem dX10_order_56 : decode cX10_order 56 = .ok (.arraylength, 1) := by decide +kernel
theorem dX10_order_57 : decode cX10_order 57 = .ok (.if_icmp .lt 13, 3) := by decide +kernel
theorem dX10_order_60 : decode cX10_order 60 = .ok (.new 62, 3) := by decide +kernel
theorem dX10_order_63 : decode cX10_order 63 = .ok (.dup, 1) := by decide +kernel
theorem dX10_order_64 : decode cX10_order 64 = .ok (.ldc 233, 2) := by decide +kernel
theorem dX10_order_66 : decode cX10_order 66 = .ok (.invokespecial 66, 3) := by decide +kernel
theorem dX10_order_69 : decode cX10_order 69 = .ok (.athrow, 1) := by decide +kernel
theorem dX10_order_70 : decode cX10_order 70 = .ok (.aload_n 0, 1) := by decide +kernel
theorem dX10_order_71 : decode cX10_order 71 = .ok (.getfield 35, 3) := by decide +kernel
theorem dX10_order_74 : decode cX10_order 74 = .ok (.aload_n 0, 1) := by decide +kernel
theorem dX10_order_75 : decode cX10_order 75 = .ok (.getfield 230, 3) := by decide +kernel
theorem dX10_order_78 : decode cX10_order 78 = .ok (.new 33, 3) := by decide +kernel
theorem dX10_order_81 : decode cX10_order 81 = .ok (.dup, 1) := by decide +kernel
theorem dX10_order_82 : decode cX10_order 82 = .ok (.aload_n 0, 1) := by decide +kernel
theorem dX10_order_83 : decode cX10_order 83 = .ok (.getfield 230, 3) := by decide +kernel
theorem dX10_order_86 : decode cX10_order 86 = .ok (.aload 5, 2) := by decide +kernel
theorem dX10_order_88 : decode cX10_order 88 = .ok (.iload_n 2, 1) := by decide +kernel
theorem dX10_order_89 : decode cX10_order 89 = .ok (.iload_n 3, 1) := by decide +kernel
theorem dX10_order_90 : decode cX10_order 90 = .ok (.iload 4, 2) := by decide +kernel
theorem dX10_order_92 : decode cX10_order 92 = .ok (.invokespecial 235, 3) := by decide +kernel
theorem dX10_order_95 : decode cX10_order 95 = .ok (.aastore, 1) := by decide +kernel
theorem dX10_order_96 : decode cX10_order 96 = .ok (.aload_n 0, 1) := by decide +kernel
theorem dX10_order_97 : decode cX10_order 97 = .ok (.dup, 1) := by decide +kernel
theorem dX10_order_98 : decode cX10_order 98 = .ok (.getfield 230, 3) := by decide +kernel
theorem dX10_order_101 : decode cX10_order 101 = .ok (.iconst 1, 1) := by decide +kernel
theorem dX10_order_102 : decode cX10_order 102 = .ok (.iadd, 1) := by decide +kernel
theorem dX10_order_103 : decode cX10_order 103 = .ok (.putfield 230, 3) := by decide +kernel
theorem dX10_order_106 : decode cX10_order 106 = .ok (.aload_n 0, 1) := by decide +kernel
theorem dX10_order_107 : decode cX10_order 107 = .ok (.getfield 230, 3) := by decide +kernel
theorem dX10_order_110 : decode cX10_order 110 = .ok (.iconst 1, 1) := by decide +kernel
theorem dX10_order_111 : decode cX10_order 111 = .ok (.isub, 1) := by decide +kernel
theorem dX10_order_112 : decode cX10_order 112 = .ok (.ireturn, 1) := by decide +kernel
theorem dX10_promise_0 : decode cX10_promise 0 = .ok (.aload_n 0, 1) := by decide +kernel
theorem dX10_promise_1 : decode cX10_promise 1 = .ok (.iload_n 1, 1) := by decide +kernel
theorem dX10_promise_2 : decode cX10_promise 2 = .ok (.invokevirtual 238, 3) := by decide +kernel
theorem dX10_promise_5 : decode cX10_promise 5 = .ok (.astore_n 2, 1) := by decide +kernel
theorem dX10_promise_6 : decode cX10_promise 6 = .ok (.aload_n 2, 1) := by decide +kernel
theorem dX10_promise_7 : decode cX10_promise 7 = .ok (.getfield 242, 3) := by decide +kernel
theorem dX10_promise_10 : decode cX10_promise 10 = .ok (.getfield 84, 3) := by decide +kernel
theorem dX10_promise_13 : decode cX10_promise 13 = .ok (.ifCond .eq 12, 3) := by decide +kernel
theorem dX10_promise_16 : decode cX10_promise 16 = .ok (.aload_n 2, 1) := by decide +kernel
theorem dX10_promise_17 : decode cX10_promise 17 = .ok (.getfield 243, 3) := by decide +kernel
theorem dX10_promise_20 : decode cX10_promise 20 = .ok (.bipush 45, 2) := by decide +kernel
theorem dX10_promise_22 : decode cX10_promise 22 = .ok (.if_icmp .eq 13, 3) := by decide +kernel
theorem dX10_promise_25 : decode cX10_promise 25 = .ok (.new 88, 3) := by decide +kernel
theorem dX10_promise_28 : decode cX10_promise 28 = .ok (.dup, 1) := by decide +kernel
theorem dX10_promise_29 : decode cX10_promise 29 = .ok (.ldc 246, 2) := by decide +kernel
theorem dX10_promise_31 : decode cX10_promise 31 = .ok (.invokespecial 92, 3) := by decide +kernel
theorem dX10_promise_34 : decode cX10_promise 34 = .ok (.athrow, 1) := by decide +kernel
theorem dX10_promise_35 : decode cX10_promise 35 = .ok (.aload_n 0, 1) := by decide +kernel
theorem dX10_promise_36 : decode cX10_promise 36 = .ok (.aload_n 2, 1) := by decide +kernel
theorem dX10_promise_37 : decode cX10_promise 37 = .ok (.invokevirtual 248, 3) := by decide +kernel
theorem dX10_promise_40 : decode cX10_promise 40 = .ok (.ireturn, 1) := by decide +kernel
theorem dX10_withdraw_0 : decode cX10_withdraw 0 = .ok (.aload_n 0, 1) := by decide +kernel
theorem dX10_withdraw_1 : decode cX10_withdraw 1 = .ok (.iload_n 1, 1) := by decide +kernel
theorem dX10_withdraw_2 : decode cX10_withdraw 2 = .ok (.invokevirtual 238, 3) := by decide +kernel
theorem dX10_withdraw_5 : decode cX10_withdraw 5 = .ok (.astore_n 2, 1) := by decide +kernel
theorem dX10_withdraw_6 : decode cX10_withdraw 6 = .ok (.aload_n 2, 1) := by decide +kernel
theorem dX10_withdraw_7 : decode cX10_withdraw 7 = .ok (.getfield 243, 3) := by decide +kernel
theorem dX10_withdraw_10 : decode cX10_withdraw 10 = .ok (.bipush 112, 2) := by decide +kernel
theorem dX10_withdraw_12 : decode cX10_withdraw 12 = .ok (.if_icmp .eq 13, 3) := by decide +kernel
theorem dX10_withdraw_15 : decode cX10_withdraw 15 = .ok (.new 88, 3) := by decide +kernel
theorem dX10_withdraw_18 : decode cX10_withdraw 18 = .ok (.dup, 1) := by decide +kernel
theorem dX10_withdraw_19 : decode cX10_withdraw 19 = .ok (.ldc 252, 2) := by decide +kernel
theorem dX10_withdraw_21 : decode cX10_withdraw 21 = .ok (.invokespecial 92, 3) := by decide +kernel
theorem dX10_withdraw_24 : decode cX10_withdraw 24 = .ok (.athrow, 1) := by decide +kernel
theorem dX10_withdraw_25 : decode cX10_withdraw 25 = .ok (.aload_n 0, 1) := by decide +kernel
theorem dX10_withdraw_26 : decode cX10_withdraw 26 = .ok (.aload_n 2, 1) := by decide +kernel
theorem dX10_withdraw_27 : decode cX10_withdraw 27 = .ok (.invokevirtual 254, 3) := by decide +kernel
theorem dX10_withdraw_30 : decode cX10_withdraw 30 = .ok (.ireturn, 1) := by decide +kernel
theorem dX10_release_0 : decode cX10_release 0 = .ok (.aload_n 0, 1) := by decide +kernel
theorem dX10_release_1 : decode cX10_release 1 = .ok (.iload_n 1, 1) := by decide +kernel
theorem dX10_release_2 : decode cX10_release 2 = .ok (.invokevirtual 238, 3) := by decide +kernel
theorem dX10_release_5 : decode cX10_release 5 = .ok (.astore_n 2, 1) := by decide +kernel
theorem dX10_release_6 : decode cX10_release 6 = .ok (.aload_n 2, 1) := by decide +kernel
theorem dX10_release_7 : decode cX10_release 7 = .ok (.getfield 242, 3) := by decide +kernel
theorem dX10_release_10 : decode cX10_release 10 = .ok (.getfield 84, 3) := by decide +kernel
theorem dX10_release_13 : decode cX10_release 13 = .ok (.ifCond .eq 21, 3) := by decide +kernel
theorem dX10_release_16 : decode cX10_release 16 = .ok (.aload_n 2, 1) := by decide +kernel
theorem dX10_release_17 : decode cX10_release 17 = .ok (.getfield 243, 3) := by decide +kernel
theorem dX10_release_20 : decode cX10_release 20 = .ok (.bipush 45, 2) := by decide +kernel
theorem dX10_release_22 : decode cX10_release 22 = .ok (.if_icmp .eq 23, 3) := by decide +kernel
theorem dX10_release_25 : decode cX10_release 25 = .ok (.aload_n 2, 1) := by decide +kernel
theorem dX10_release_26 : decode cX10_release 26 = .ok (.getfield 243, 3) := by decide +kernel
theorem dX10_release_29 : decode cX10_release 29 = .ok (.bipush 112, 2) := by decide +kernel
theorem dX10_release_31 : decode cX10_release 31 = .ok (.if_icmp .eq 14, 3) := by decide +kernel
theorem dX10_release_34 : decode cX10_release 34 = .ok (.new 88, 3) := by decide +kernel
theorem dX10_release_37 : decode cX10_release 37 = .ok (.dup, 1) := by decide +kernel
theorem dX10_release_38 : decode cX10_release 38 = .ok (.ldc_w 258, 3) := by decide +kernel
theorem dX10_release_41 : decode cX10_release 41 = .ok (.invokespecial 92, 3) := by decide +kernel
theorem dX10_release_44 : decode cX10_release 44 = .ok (.athrow, 1) := by decide +kernel
theorem dX10_release_45 : decode cX10_release 45 = .ok (.aload_n 2, 1) := by decide +kernel
theorem dX10_release_46 : decode cX10_release 46 = .ok (.getfield 243, 3) := by decide +kernel
theorem dX10_release_49 : decode cX10_release 49 = .ok (.bipush 112, 2) := by decide +kernel
theorem dX10_release_51 : decode cX10_release 51 = .ok (.if_icmp .eq 13, 3) := by decide +kernel
theorem dX10_release_54 : decode cX10_release 54 = .ok (.aload_n 0, 1) := by decide +kernel
theorem dX10_release_55 : decode cX10_release 55 = .ok (.aload_n 2, 1) := by decide +kernel
theorem dX10_release_56 : decode cX10_release 56 = .ok (.invokevirtual 248, 3) := by decide +kernel
theorem dX10_release_59 : decode cX10_release 59 = .ok (.ifCond .ne 5, 3) := by decide +kernel
theorem dX10_release_62 : decode cX10_release 62 = .ok (.iconst 0, 1) := by decide +kernel
theorem dX10_release_63 : decode cX10_release 63 = .ok (.ireturn, 1) := by decide +kernel
theorem dX10_release_64 : decode cX10_release 64 = .ok (.aload_n 0, 1) := by decide +kernel
theorem dX10_release_65 : decode cX10_release 65 = .ok (.aload_n 2, 1) := by decide +kernel
theorem dX10_release_66 : decode cX10_release 66 = .ok (.invokevirtual 260, 3) := by decide +kernel
theorem dX10_release_69 : decode cX10_release 69 = .ok (.aload_n 0, 1) := by decide +kernel
theorem dX10_release_70 : decode cX10_release 70 = .ok (.aload_n 2, 1) := by decide +kernel
theorem dX10_release_71 : decode cX10_release 71 = .ok (.invokevirtual 264, 3) := by decide +kernel
theorem dX10_release_74 : decode cX10_release 74 = .ok (.astore_n 3, 1) := by decide +kernel
theorem dX10_release_75 : decode cX10_release 75 = .ok (.aload_n 3, 1) := by decide +kernel
theorem dX10_release_76 : decode cX10_release 76 = .ok (.ifnonnull 11, 3) := by decide +kernel
theorem dX10_release_79 : decode cX10_release 79 = .ok (.aload_n 0, 1) := by decide +kernel
theorem dX10_release_80 : decode cX10_release 80 = .ok (.aload_n 2, 1) := by decide +kernel
theorem dX10_release_81 : decode cX10_release 81 = .ok (.invokevirtual 268, 3) := by decide +kernel
theorem dX10_release_84 : decode cX10_release 84 = .ok (.goto 8, 3) := by decide +kernel
theorem dX10_release_87 : decode cX10_release 87 = .ok (.aload_n 0, 1) := by decide +kernel
theorem dX10_release_88 : decode cX10_release 88 = .ok (.aload_n 3, 1) := by decide +kernel
theorem dX10_release_89 : decode cX10_release 89 = .ok (.invokevirtual 271, 3) := by decide +kernel
theorem dX10_release_92 : decode cX10_release 92 = .ok (.iconst 1, 1) := by decide +kernel
theorem dX10_release_93 : decode cX10_release 93 = .ok (.ireturn, 1) := by decide +kernel
theorem dX10_scrap_0 : decode cX10_scrap 0 = .ok (.aload_n 0, 1) := by decide +kernel
theorem dX10_scrap_1 : decode cX10_scrap 1 = .ok (.iload_n 1, 1) := by decide +kernel
theorem dX10_scrap_2 : decode cX10_scrap 2 = .ok (.invokevirtual 238, 3) := by decide +kernel
theorem dX10_scrap_5 : decode cX10_scrap 5 = .ok (.astore_n 3, 1) := by decide +kernel
theorem dX10_scrap_6 : decode cX10_scrap 6 = .ok (.aload_n 3, 1) := by decide +kernel
theorem dX10_scrap_7 : decode cX10_scrap 7 = .ok (.invokevirtual 275, 3) := by decide +kernel
theorem dX10_scrap_10 : decode cX10_scrap 10 = .ok (.ifCond .ne 14, 3) := by decide +kernel
theorem dX10_scrap_13 : decode cX10_scrap 13 = .ok (.new 88, 3) := by decide +kernel
theorem dX10_scrap_16 : decode cX10_scrap 16 = .ok (.dup, 1) := by decide +kernel
theorem dX10_scrap_17 : decode cX10_scrap 17 = .ok (.ldc_w 278, 3) := by decide +kernel
theorem dX10_scrap_20 : decode cX10_scrap 20 = .ok (.invokespecial 92, 3) := by decide +kernel
theorem dX10_scrap_23 : decode cX10_scrap 23 = .ok (.athrow, 1) := by decide +kernel
theorem dX10_scrap_24 : decode cX10_scrap 24 = .ok (.aload_n 3, 1) := by decide +kernel
theorem dX10_scrap_25 : decode cX10_scrap 25 = .ok (.getfield 280, 3) := by decide +kernel
theorem dX10_scrap_28 : decode cX10_scrap 28 = .ok (.astore 4, 2) := by decide +kernel
theorem dX10_scrap_30 : decode cX10_scrap 30 = .ok (.iload_n 2, 1) := by decide +kernel
theorem dX10_scrap_31 : decode cX10_scrap 31 = .ok (.iconst 1, 1) := by decide +kernel
theorem dX10_scrap_32 : decode cX10_scrap 32 = .ok (.aload 4, 2) := by decide +kernel
theorem dX10_scrap_34 : decode cX10_scrap 34 = .ok (.getfield 284, 3) := by decide +kernel
theorem dX10_scrap_37 : decode cX10_scrap 37 = .ok (.invokestatic 47, 3) := by decide +kernel
theorem dX10_scrap_40 : decode cX10_scrap 40 = .ok (.ifCond .ne 14, 3) := by decide +kernel
theorem dX10_scrap_43 : decode cX10_scrap 43 = .ok (.new 51, 3) := by decide +kernel
theorem dX10_scrap_46 : decode cX10_scrap 46 = .ok (.dup, 1) := by decide +kernel
theorem dX10_scrap_47 : decode cX10_scrap 47 = .ok (.ldc_w 289, 3) := by decide +kernel
theorem dX10_scrap_50 : decode cX10_scrap 50 = .ok (.invokespecial 55, 3) := by decide +kernel
theorem dX10_scrap_53 : decode cX10_scrap 53 = .ok (.athrow, 1) := by decide +kernel
theorem dX10_scrap_54 : decode cX10_scrap 54 = .ok (.aload 4, 2) := by decide +kernel
theorem dX10_scrap_56 : decode cX10_scrap 56 = .ok (.dup, 1) := by decide +kernel
theorem dX10_scrap_57 : decode cX10_scrap 57 = .ok (.getfield 284, 3) := by decide +kernel
theorem dX10_scrap_60 : decode cX10_scrap 60 = .ok (.iload_n 2, 1) := by decide +kernel
theorem dX10_scrap_61 : decode cX10_scrap 61 = .ok (.isub, 1) := by decide +kernel
theorem dX10_scrap_62 : decode cX10_scrap 62 = .ok (.putfield 284, 3) := by decide +kernel
theorem dX10_scrap_65 : decode cX10_scrap 65 = .ok (.aload 4, 2) := by decide +kernel
theorem dX10_scrap_67 : decode cX10_scrap 67 = .ok (.dup, 1) := by decide +kernel
theorem dX10_scrap_68 : decode cX10_scrap 68 = .ok (.getfield 291, 3) := by decide +kernel
theorem dX10_scrap_71 : decode cX10_scrap 71 = .ok (.iload_n 2, 1) := by decide +kernel
theorem dX10_scrap_72 : decode cX10_scrap 72 = .ok (.iadd, 1) := by decide +kernel
theorem dX10_scrap_73 : decode cX10_scrap 73 = .ok (.putfield 291, 3) := by decide +kernel
theorem dX10_scrap_76 : decode cX10_scrap 76 = .ok (.aload 4, 2) := by decide +kernel
theorem dX10_scrap_78 : decode cX10_scrap 78 = .ok (.getfield 284, 3) := by decide +kernel
theorem dX10_scrap_81 : decode cX10_scrap 81 = .ok (.ireturn, 1) := by decide +kernel
theorem dX10_advance_0 : decode cX10_advance 0 = .ok (.iload_n 1, 1) := by decide +kernel
theorem dX10_advance_1 : decode cX10_advance 1 = .ok (.iconst 1, 1) := by decide +kernel
theorem dX10_advance_2 : decode cX10_advance 2 = .ok (.sipush 500, 3) := by decide +kernel
theorem dX10_advance_5 : decode cX10_advance 5 = .ok (.invokestatic 47, 3) := by decide +kernel
theorem dX10_advance_8 : decode cX10_advance 8 = .ok (.ifCond .ne 13, 3) := by decide +kernel
theorem dX10_advance_11 : decode cX10_advance 11 = .ok (.new 51, 3) := by decide +kernel
theorem dX10_advance_14 : decode cX10_advance 14 = .ok (.dup, 1) := by decide +kernel
theorem dX10_advance_15 : decode cX10_advance 15 = .ok (.ldc 116, 2) := by decide +kernel
theorem dX10_advance_17 : decode cX10_advance 17 = .ok (.invokespecial 55, 3) := by decide +kernel
theorem dX10_advance_20 : decode cX10_advance 20 = .ok (.athrow, 1) := by decide +kernel
theorem dX10_advance_21 : decode cX10_advance 21 = .ok (.aload_n 0, 1) := by decide +kernel
theorem dX10_advance_22 : decode cX10_advance 22 = .ok (.getfield 294, 3) := by decide +kernel
theorem dX10_advance_25 : decode cX10_advance 25 = .ok (.iload_n 1, 1) := by decide +kernel
theorem dX10_advance_26 : decode cX10_advance 26 = .ok (.iadd, 1) := by decide +kernel
theorem dX10_advance_27 : decode cX10_advance 27 = .ok (.sipush 5000, 3) := by decide +kernel
theorem dX10_advance_30 : decode cX10_advance 30 = .ok (.if_icmp .le 14, 3) := by decide +kernel
theorem dX10_advance_33 : decode cX10_advance 33 = .ok (.new 62, 3) := by decide +kernel
theorem dX10_advance_36 : decode cX10_advance 36 = .ok (.dup, 1) := by decide +kernel
theorem dX10_advance_37 : decode cX10_advance 37 = .ok (.ldc_w 297, 3) := by decide +kernel
theorem dX10_advance_40 : decode cX10_advance 40 = .ok (.invokespecial 66, 3) := by decide +kernel
theorem dX10_advance_43 : decode cX10_advance 43 = .ok (.athrow, 1) := by decide +kernel
theorem dX10_advance_44 : decode cX10_advance 44 = .ok (.iconst 0, 1) := by decide +kernel
theorem dX10_advance_45 : decode cX10_advance 45 = .ok (.istore_n 2, 1) := by decide +kernel
theorem dX10_advance_46 : decode cX10_advance 46 = .ok (.iload_n 2, 1) := by decide +kernel
theorem dX10_advance_47 : decode cX10_advance 47 = .ok (.iload_n 1, 1) := by decide +kernel
theorem dX10_advance_48 : decode cX10_advance 48 = .ok (.if_icmp .ge 13, 3) := by decide +kernel
theorem dX10_advance_51 : decode cX10_advance 51 = .ok (.aload_n 0, 1) := by decide +kernel
theorem dX10_advance_52 : decode cX10_advance 52 = .ok (.invokevirtual 299, 3) := by decide +kernel
theorem dX10_advance_55 : decode cX10_advance 55 = .ok (.iinc 2 1, 3) := by decide +kernel
theorem dX10_advance_58 : decode cX10_advance 58 = .ok (.goto (-12), 3) := by decide +kernel
theorem dX10_advance_61 : decode cX10_advance 61 = .ok (.aload_n 0, 1) := by decide +kernel
theorem dX10_advance_62 : decode cX10_advance 62 = .ok (.getfield 294, 3) := by decide +kernel
theorem dX10_advance_65 : decode cX10_advance 65 = .ok (.ireturn, 1) := by decide +kernel
theorem dX10_deliver_0 : decode cX10_deliver 0 = .ok (.aload_n 0, 1) := by decide +kernel
theorem dX10_deliver_1 : decode cX10_deliver 1 = .ok (.iload_n 1, 1) := by decide +kernel
theorem dX10_deliver_2 : decode cX10_deliver 2 = .ok (.invokevirtual 238, 3) := by decide +kernel
theorem dX10_deliver_5 : decode cX10_deliver 5 = .ok (.astore_n 2, 1) := by decide +kernel
theorem dX10_deliver_6 : decode cX10_deliver 6 = .ok (.aload_n 2, 1) := by decide +kernel
theorem dX10_deliver_7 : decode cX10_deliver 7 = .ok (.getfield 243, 3) := by decide +kernel
theorem dX10_deliver_10 : decode cX10_deliver 10 = .ok (.bipush 100, 2) := by decide +kernel
theorem dX10_deliver_12 : decode cX10_deliver 12 = .ok (.if_icmp .eq 22, 3) := by decide +kernel
theorem dX10_deliver_15 : decode cX10_deliver 15 = .ok (.aload_n 2, 1) := by decide +kernel
theorem dX10_deliver_16 : decode cX10_deliver 16 = .ok (.getfield 242, 3) := by decide +kernel
theorem dX10_deliver_19 : decode cX10_deliver 19 = .ok (.getfield 84, 3) := by decide +kernel
theorem dX10_deliver_22 : decode cX10_deliver 22 = .ok (.ifCond .eq 23, 3) := by decide +kernel
theorem dX10_deliver_25 : decode cX10_deliver 25 = .ok (.aload_n 2, 1) := by decide +kernel
theorem dX10_deliver_26 : decode cX10_deliver 26 = .ok (.getfield 243, 3) := by decide +kernel
theorem dX10_deliver_29 : decode cX10_deliver 29 = .ok (.bipush 102, 2) := by decide +kernel
theorem dX10_deliver_31 : decode cX10_deliver 31 = .ok (.if_icmp .eq 14, 3) := by decide +kernel
theorem dX10_deliver_34 : decode cX10_deliver 34 = .ok (.new 88, 3) := by decide +kernel
theorem dX10_deliver_37 : decode cX10_deliver 37 = .ok (.dup, 1) := by decide +kernel
theorem dX10_deliver_38 : decode cX10_deliver 38 = .ok (.ldc_w 302, 3) := by decide +kernel
theorem dX10_deliver_41 : decode cX10_deliver 41 = .ok (.invokespecial 92, 3) := by decide +kernel
theorem dX10_deliver_44 : decode cX10_deliver 44 = .ok (.athrow, 1) := by decide +kernel
theorem dX10_deliver_45 : decode cX10_deliver 45 = .ok (.aload_n 0, 1) := by decide +kernel
theorem dX10_deliver_46 : decode cX10_deliver 46 = .ok (.aload_n 2, 1) := by decide +kernel
theorem dX10_deliver_47 : decode cX10_deliver 47 = .ok (.getfield 242, 3) := by decide +kernel
theorem dX10_deliver_50 : decode cX10_deliver 50 = .ok (.invokevirtual 304, 3) := by decide +kernel
theorem dX10_deliver_53 : decode cX10_deliver 53 = .ok (.aload_n 2, 1) := by decide +kernel
theorem dX10_deliver_54 : decode cX10_deliver 54 = .ok (.getfield 308, 3) := by decide +kernel
theorem dX10_deliver_57 : decode cX10_deliver 57 = .ok (.if_icmp .ge 5, 3) := by decide +kernel
theorem dX10_deliver_60 : decode cX10_deliver 60 = .ok (.iconst 0, 1) := by decide +kernel
theorem dX10_deliver_61 : decode cX10_deliver 61 = .ok (.ireturn, 1) := by decide +kernel
theorem dX10_deliver_62 : decode cX10_deliver 62 = .ok (.aload_n 0, 1) := by decide +kernel
theorem dX10_deliver_63 : decode cX10_deliver 63 = .ok (.aload_n 2, 1) := by decide +kernel
theorem dX10_deliver_64 : decode cX10_deliver 64 = .ok (.invokevirtual 311, 3) := by decide +kernel
theorem dX10_deliver_67 : decode cX10_deliver 67 = .ok (.aload_n 0, 1) := by decide +kernel
theorem dX10_deliver_68 : decode cX10_deliver 68 = .ok (.aload_n 2, 1) := by decide +kernel
theorem dX10_deliver_69 : decode cX10_deliver 69 = .ok (.invokevirtual 314, 3) := by decide +kernel
theorem dX10_deliver_72 : decode cX10_deliver 72 = .ok (.aload_n 2, 1) := by decide +kernel
theorem dX10_deliver_73 : decode cX10_deliver 73 = .ok (.bipush 100, 2) := by decide +kernel
theorem dX10_deliver_75 : decode cX10_deliver 75 = .ok (.putfield 243, 3) := by decide +kernel
theorem dX10_deliver_78 : decode cX10_deliver 78 = .ok (.aload_n 2, 1) := by decide +kernel
theorem dX10_deliver_79 : decode cX10_deliver 79 = .ok (.aload_n 0, 1) := by decide +kernel
theorem dX10_deliver_80 : decode cX10_deliver 80 = .ok (.getfield 294, 3) := by decide +kernel
theorem dX10_deliver_83 : decode cX10_deliver 83 = .ok (.putfield 317, 3) := by decide +kernel
theorem dX10_deliver_86 : decode cX10_deliver 86 = .ok (.iconst 1, 1) := by decide +kernel
theorem dX10_deliver_87 : decode cX10_deliver 87 = .ok (.ireturn, 1) := by decide +kernel
theorem dX10_stateOf_0 : decode cX10_stateOf 0 = .ok (.aload_n 0, 1) := by decide +kernel
theorem dX10_stateOf_1 : decode cX10_stateOf 1 = .ok (.iload_n 1, 1) := by decide +kernel
theorem dX10_stateOf_2 : decode cX10_stateOf 2 = .ok (.invokevirtual 238, 3) := by decide +kernel
theorem dX10_stateOf_5 : decode cX10_stateOf 5 = .ok (.getfield 243, 3) := by decide +kernel
theorem dX10_stateOf_8 : decode cX10_stateOf 8 = .ok (.ireturn, 1) := by decide +kernel
theorem dX10_lotOf_0 : decode cX10_lotOf 0 = .ok (.aload_n 0, 1) := by decide +kernel
theorem dX10_lotOf_1 : decode cX10_lotOf 1 = .ok (.iload_n 1, 1) := by decide +kernel
theorem dX10_lotOf_2 : decode cX10_lotOf 2 = .ok (.invokevirtual 238, 3) := by decide +kernel
theorem dX10_lotOf_5 : decode cX10_lotOf 5 = .ok (.astore_n 2, 1) := by decide +kernel
theorem dX10_lotOf_6 : decode cX10_lotOf 6 = .ok (.aload_n 2, 1) := by decide +kernel
theorem dX10_lotOf_7 : decode cX10_lotOf 7 = .ok (.getfield 280, 3) := by decide +kernel
theorem dX10_lotOf_10 : decode cX10_lotOf 10 = .ok (.getfield 320, 3) := by decide +kernel
theorem dX10_lotOf_13 : decode cX10_lotOf 13 = .ok (.astore_n 3, 1) := by decide +kernel
theorem dX10_lotOf_14 : decode cX10_lotOf 14 = .ok (.aload_n 3, 1) := by decide +kernel
theorem dX10_lotOf_15 : decode cX10_lotOf 15 = .ok (.ifnonnull 14, 3) := by decide +kernel
theorem dX10_lotOf_18 : decode cX10_lotOf 18 = .ok (.new 324, 3) := by decide +kernel
theorem dX10_lotOf_21 : decode cX10_lotOf 21 = .ok (.dup, 1) := by decide +kernel
theorem dX10_lotOf_22 : decode cX10_lotOf 22 = .ok (.ldc_w 326, 3) := by decide +kernel
theorem dX10_lotOf_25 : decode cX10_lotOf 25 = .ok (.invokespecial 328, 3) := by decide +kernel
theorem dX10_lotOf_28 : decode cX10_lotOf 28 = .ok (.athrow, 1) := by decide +kernel
theorem dX10_lotOf_29 : decode cX10_lotOf 29 = .ok (.aload_n 3, 1) := by decide +kernel
theorem dX10_lotOf_30 : decode cX10_lotOf 30 = .ok (.getfield 157, 3) := by decide +kernel
theorem dX10_lotOf_33 : decode cX10_lotOf 33 = .ok (.ireturn, 1) := by decide +kernel
theorem dX10_finishedAt_0 : decode cX10_finishedAt 0 = .ok (.aload_n 0, 1) := by decide +kernel
theorem dX10_finishedAt_1 : decode cX10_finishedAt 1 = .ok (.iload_n 1, 1) := by decide +kernel
theorem dX10_finishedAt_2 : decode cX10_finishedAt 2 = .ok (.invokevirtual 238, 3) := by decide +kernel
theorem dX10_finishedAt_5 : decode cX10_finishedAt 5 = .ok (.astore_n 2, 1) := by decide +kernel
theorem dX10_finishedAt_6 : decode cX10_finishedAt 6 = .ok (.aload_n 2, 1) := by decide +kernel
theorem dX10_finishedAt_7 : decode cX10_finishedAt 7 = .ok (.getfield 280, 3) := by decide +kernel
theorem dX10_finishedAt_10 : decode cX10_finishedAt 10 = .ok (.getfield 329, 3) := by decide +kernel
theorem dX10_finishedAt_13 : decode cX10_finishedAt 13 = .ok (.iconst (-1), 1) := by decide +kernel
theorem dX10_finishedAt_14 : decode cX10_finishedAt 14 = .ok (.if_icmp .ne 14, 3) := by decide +kernel
theorem dX10_finishedAt_17 : decode cX10_finishedAt 17 = .ok (.new 324, 3) := by decide +kernel
theorem dX10_finishedAt_20 : decode cX10_finishedAt 20 = .ok (.dup, 1) := by decide +kernel
theorem dX10_finishedAt_21 : decode cX10_finishedAt 21 = .ok (.ldc_w 332, 3) := by decide +kernel
theorem dX10_finishedAt_24 : decode cX10_finishedAt 24 = .ok (.invokespecial 328, 3) := by decide +kernel
theorem dX10_finishedAt_27 : decode cX10_finishedAt 27 = .ok (.athrow, 1) := by decide +kernel
theorem dX10_finishedAt_28 : decode cX10_finishedAt 28 = .ok (.aload_n 2, 1) := by decide +kernel
theorem dX10_finishedAt_29 : decode cX10_finishedAt 29 = .ok (.getfield 280, 3) := by decide +kernel
theorem dX10_finishedAt_32 : decode cX10_finishedAt 32 = .ok (.getfield 329, 3) := by decide +kernel
theorem dX10_finishedAt_35 : decode cX10_finishedAt 35 = .ok (.ireturn, 1) := by decide +kernel
theorem dX10_machineIs_0 : decode cX10_machineIs 0 = .ok (.aload_n 0, 1) := by decide +kernel
theorem dX10_machineIs_1 : decode cX10_machineIs 1 = .ok (.iload_n 1, 1) := by decide +kernel
theorem dX10_machineIs_2 : decode cX10_machineIs 2 = .ok (.invokevirtual 110, 3) := by decide +kernel
theorem dX10_machineIs_5 : decode cX10_machineIs 5 = .ok (.getfield 334, 3) := by decide +kernel
theorem dX10_machineIs_8 : decode cX10_machineIs 8 = .ok (.ireturn, 1) := by decide +kernel
theorem dX10_isIn_0 : decode cX10_isIn 0 = .ok (.aload_n 0, 1) := by decide +kernel
theorem dX10_isIn_1 : decode cX10_isIn 1 = .ok (.iload_n 1, 1) := by decide +kernel
theorem dX10_isIn_2 : decode cX10_isIn 2 = .ok (.invokevirtual 173, 3) := by decide +kernel
theorem dX10_isIn_5 : decode cX10_isIn 5 = .ok (.astore_n 3, 1) := by decide +kernel
theorem dX10_isIn_6 : decode cX10_isIn 6 = .ok (.aload_n 0, 1) := by decide +kernel
theorem dX10_isIn_7 : decode cX10_isIn 7 = .ok (.iload_n 2, 1) := by decide +kernel
theorem dX10_isIn_8 : decode cX10_isIn 8 = .ok (.invokevirtual 173, 3) := by decide +kernel
theorem dX10_isIn_11 : decode cX10_isIn 11 = .ok (.astore 4, 2) := by decide +kernel
theorem dX10_isIn_13 : decode cX10_isIn 13 = .ok (.aload 4, 2) := by decide +kernel
theorem dX10_isIn_15 : decode cX10_isIn 15 = .ok (.getfield 342, 3) := by decide +kernel
theorem dX10_isIn_18 : decode cX10_isIn 18 = .ok (.aload_n 3, 1) := by decide +kernel
theorem dX10_isIn_19 : decode cX10_isIn 19 = .ok (.getfield 157, 3) := by decide +kernel
theorem dX10_isIn_22 : decode cX10_isIn 22 = .ok (.invokevirtual 212, 3) := by decide +kernel
theorem dX10_isIn_25 : decode cX10_isIn 25 = .ok (.ireturn, 1) := by decide +kernel
theorem dX10_touched_0 : decode cX10_touched 0 = .ok (.aload_n 0, 1) := by decide +kernel
theorem dX10_touched_1 : decode cX10_touched 1 = .ok (.iload_n 1, 1) := by decide +kernel
theorem dX10_touched_2 : decode cX10_touched 2 = .ok (.invokevirtual 173, 3) := by decide +kernel
theorem dX10_touched_5 : decode cX10_touched 5 = .ok (.getfield 345, 3) := by decide +kernel
theorem dX10_touched_8 : decode cX10_touched 8 = .ok (.invokevirtual 348, 3) := by decide +kernel
theorem dX10_touched_11 : decode cX10_touched 11 = .ok (.ireturn, 1) := by decide +kernel
theorem dX10_lotsIn_0 : decode cX10_lotsIn 0 = .ok (.aload_n 0, 1) := by decide +kernel
theorem dX10_lotsIn_1 : decode cX10_lotsIn 1 = .ok (.iload_n 1, 1) := by decide +kernel
theorem dX10_lotsIn_2 : decode cX10_lotsIn 2 = .ok (.invokevirtual 238, 3) := by decide +kernel
theorem dX10_lotsIn_5 : decode cX10_lotsIn 5 = .ok (.getfield 352, 3) := by decide +kernel
theorem dX10_lotsIn_8 : decode cX10_lotsIn 8 = .ok (.invokevirtual 348, 3) := by decide +kernel
theorem dX10_lotsIn_11 : decode cX10_lotsIn 11 = .ok (.ireturn, 1) := by decide +kernel
theorem dX10_deliveredCost_0 : decode cX10_deliveredCost 0 = .ok (.aload_n 0, 1) := by decide +kernel
theorem dX10_deliveredCost_1 : decode cX10_deliveredCost 1 = .ok (.iload_n 1, 1) := by decide +kernel
theorem dX10_deliveredCost_2 : decode cX10_deliveredCost 2 = .ok (.invokevirtual 238, 3) := by decide +kernel
theorem dX10_deliveredCost_5 : decode cX10_deliveredCost 5 = .ok (.astore_n 2, 1) := by decide +kernel
theorem dX10_deliveredCost_6 : decode cX10_deliveredCost 6 = .ok (.aload_n 2, 1) := by decide +kernel
theorem dX10_deliveredCost_7 : decode cX10_deliveredCost 7 = .ok (.getfield 243, 3) := by decide +kernel
theorem dX10_deliveredCost_10 : decode cX10_deliveredCost 10 = .ok (.bipush 100, 2) := by decide +kernel
theorem dX10_deliveredCost_12 : decode cX10_deliveredCost 12 = .ok (.if_icmp .eq 14, 3) := by decide +kernel
theorem dX10_deliveredCost_15 : decode cX10_deliveredCost 15 = .ok (.new 324, 3) := by decide +kernel
theorem dX10_deliveredCost_18 : decode cX10_deliveredCost 18 = .ok (.dup, 1) := by decide +kernel
theorem dX10_deliveredCost_19 : decode cX10_deliveredCost 19 = .ok (.ldc_w 353, 3) := by decide +kernel
theorem dX10_deliveredCost_22 : decode cX10_deliveredCost 22 = .ok (.invokespecial 328, 3) := by decide +kernel
theorem dX10_deliveredCost_25 : decode cX10_deliveredCost 25 = .ok (.athrow, 1) := by decide +kernel
theorem dX10_deliveredCost_26 : decode cX10_deliveredCost 26 = .ok (.aload_n 2, 1) := by decide +kernel
theorem dX10_deliveredCost_27 : decode cX10_deliveredCost 27 = .ok (.getfield 355, 3) := by decide +kernel
theorem dX10_deliveredCost_30 : decode cX10_deliveredCost 30 = .ok (.lreturn, 1) := by decide +kernel
theorem dX10_meanBusy_0 : decode cX10_meanBusy 0 = .ok (.aload_n 0, 1) := by decide +kernel
theorem dX10_meanBusy_1 : decode cX10_meanBusy 1 = .ok (.getfield 58, 3) := by decide +kernel
theorem dX10_meanBusy_4 : decode cX10_meanBusy 4 = .ok (.ifCond .ne 14, 3) := by decide +kernel
theorem dX10_meanBusy_7 : decode cX10_meanBusy 7 = .ok (.new 361, 3) := by decide +kernel
theorem dX10_meanBusy_10 : decode cX10_meanBusy 10 = .ok (.dup, 1) := by decide +kernel
theorem dX10_meanBusy_11 : decode cX10_meanBusy 11 = .ok (.ldc_w 366, 3) := by decide +kernel
theorem dX10_meanBusy_14 : decode cX10_meanBusy 14 = .ok (.invokespecial 365, 3) := by decide +kernel
theorem dX10_meanBusy_17 : decode cX10_meanBusy 17 = .ok (.athrow, 1) := by decide +kernel
theorem dX10_meanBusy_18 : decode cX10_meanBusy 18 = .ok (.lconst 0, 1) := by decide +kernel
theorem dX10_meanBusy_19 : decode cX10_meanBusy 19 = .ok (.lstore_n 1, 1) := by decide +kernel
theorem dX10_meanBusy_20 : decode cX10_meanBusy 20 = .ok (.aload_n 0, 1) := by decide +kernel
theorem dX10_meanBusy_21 : decode cX10_meanBusy 21 = .ok (.getfield 11, 3) := by decide +kernel
theorem dX10_meanBusy_24 : decode cX10_meanBusy 24 = .ok (.astore_n 3, 1) := by decide +kernel
theorem dX10_meanBusy_25 : decode cX10_meanBusy 25 = .ok (.aload_n 3, 1) := by decide +kernel
theorem dX10_meanBusy_26 : decode cX10_meanBusy 26 = .ok (.arraylength, 1) := by decide +kernel
theorem dX10_meanBusy_27 : decode cX10_meanBusy 27 = .ok (.istore 4, 2) := by decide +kernel
theorem dX10_meanBusy_29 : decode cX10_meanBusy 29 = .ok (.iconst 0, 1) := by decide +kernel
theorem dX10_meanBusy_30 : decode cX10_meanBusy 30 = .ok (.istore 5, 2) := by decide +kernel
theorem dX10_meanBusy_32 : decode cX10_meanBusy 32 = .ok (.iload 5, 2) := by decide +kernel
theorem dX10_meanBusy_34 : decode cX10_meanBusy 34 = .ok (.iload 4, 2) := by decide +kernel
theorem dX10_meanBusy_36 : decode cX10_meanBusy 36 = .ok (.if_icmp .ge 33, 3) := by decide +kernel
theorem dX10_meanBusy_39 : decode cX10_meanBusy 39 = .ok (.aload_n 3, 1) := by decide +kernel
theorem dX10_meanBusy_40 : decode cX10_meanBusy 40 = .ok (.iload 5, 2) := by decide +kernel
theorem dX10_meanBusy_42 : decode cX10_meanBusy 42 = .ok (.aaload, 1) := by decide +kernel
theorem dX10_meanBusy_43 : decode cX10_meanBusy 43 = .ok (.astore 6, 2) := by decide +kernel
theorem dX10_meanBusy_45 : decode cX10_meanBusy 45 = .ok (.aload 6, 2) := by decide +kernel
theorem dX10_meanBusy_47 : decode cX10_meanBusy 47 = .ok (.ifnull 16, 3) := by decide +kernel
theorem dX10_meanBusy_50 : decode cX10_meanBusy 50 = .ok (.lload_n 1, 1) := by decide +kernel
theorem dX10_meanBusy_51 : decode cX10_meanBusy 51 = .ok (.aload 6, 2) := by decide +kernel
theorem dX10_meanBusy_53 : decode cX10_meanBusy 53 = .ok (.aload_n 0, 1) := by decide +kernel
theorem dX10_meanBusy_54 : decode cX10_meanBusy 54 = .ok (.getfield 294, 3) := by decide +kernel
theorem dX10_meanBusy_57 : decode cX10_meanBusy 57 = .ok (.invokevirtual 368, 3) := by decide +kernel
theorem dX10_meanBusy_60 : decode cX10_meanBusy 60 = .ok (.i2l, 1) := by decide +kernel
theorem dX10_meanBusy_61 : decode cX10_meanBusy 61 = .ok (.ladd, 1) := by decide +kernel
theorem dX10_meanBusy_62 : decode cX10_meanBusy 62 = .ok (.lstore_n 1, 1) := by decide +kernel
theorem dX10_meanBusy_63 : decode cX10_meanBusy 63 = .ok (.iinc 5 1, 3) := by decide +kernel
theorem dX10_meanBusy_66 : decode cX10_meanBusy 66 = .ok (.goto (-34), 3) := by decide +kernel
theorem dX10_meanBusy_69 : decode cX10_meanBusy 69 = .ok (.lload_n 1, 1) := by decide +kernel
theorem dX10_meanBusy_70 : decode cX10_meanBusy 70 = .ok (.l2d, 1) := by decide +kernel
theorem dX10_meanBusy_71 : decode cX10_meanBusy 71 = .ok (.aload_n 0, 1) := by decide +kernel
theorem dX10_meanBusy_72 : decode cX10_meanBusy 72 = .ok (.getfield 58, 3) := by decide +kernel
theorem dX10_meanBusy_75 : decode cX10_meanBusy 75 = .ok (.i2d, 1) := by decide +kernel
theorem dX10_meanBusy_76 : decode cX10_meanBusy 76 = .ok (.ddiv, 1) := by decide +kernel
theorem dX10_meanBusy_77 : decode cX10_meanBusy 77 = .ok (.dreturn, 1) := by decide +kernel
theorem dX10_isSound_0 : decode cX10_isSound 0 = .ok (.aload_n 0, 1) := by decide +kernel
theorem dX10_isSound_1 : decode cX10_isSound 1 = .ok (.invokevirtual 372, 3) := by decide +kernel
theorem dX10_isSound_4 : decode cX10_isSound 4 = .ok (.ifCond .eq 35, 3) := by decide +kernel
theorem dX10_isSound_7 : decode cX10_isSound 7 = .ok (.aload_n 0, 1) := by decide +kernel
theorem dX10_isSound_8 : decode cX10_isSound 8 = .ok (.invokevirtual 375, 3) := by decide +kernel
theorem dX10_isSound_11 : decode cX10_isSound 11 = .ok (.ifCond .eq 28, 3) := by decide +kernel
theorem dX10_isSound_14 : decode cX10_isSound 14 = .ok (.aload_n 0, 1) := by decide +kernel
theorem dX10_isSound_15 : decode cX10_isSound 15 = .ok (.invokevirtual 378, 3) := by decide +kernel
theorem dX10_isSound_18 : decode cX10_isSound 18 = .ok (.ifCond .eq 21, 3) := by decide +kernel
theorem dX10_isSound_21 : decode cX10_isSound 21 = .ok (.aload_n 0, 1) := by decide +kernel
theorem dX10_isSound_22 : decode cX10_isSound 22 = .ok (.invokevirtual 381, 3) := by decide +kernel
theorem dX10_isSound_25 : decode cX10_isSound 25 = .ok (.ifCond .eq 14, 3) := by decide +kernel
theorem dX10_isSound_28 : decode cX10_isSound 28 = .ok (.aload_n 0, 1) := by decide +kernel
theorem dX10_isSound_29 : decode cX10_isSound 29 = .ok (.invokevirtual 384, 3) := by decide +kernel
theorem dX10_isSound_32 : decode cX10_isSound 32 = .ok (.ifCond .eq 7, 3) := by decide +kernel
theorem dX10_isSound_35 : decode cX10_isSound 35 = .ok (.iconst 1, 1) := by decide +kernel
theorem dX10_isSound_36 : decode cX10_isSound 36 = .ok (.goto 4, 3) := by decide +kernel
theorem dX10_isSound_39 : decode cX10_isSound 39 = .ok (.iconst 0, 1) := by decide +kernel
theorem dX10_isSound_40 : decode cX10_isSound 40 = .ok (.ireturn, 1) := by decide +kernel
theorem dX10_isFrom_0 : decode cX10_isFrom 0 = .ok (.iload_n 0, 1) := by decide +kernel
theorem dX10_isFrom_1 : decode cX10_isFrom 1 = .ok (.iload_n 1, 1) := by decide +kernel
theorem dX10_isFrom_2 : decode cX10_isFrom 2 = .ok (.if_icmp .lt 12, 3) := by decide +kernel
theorem dX10_isFrom_5 : decode cX10_isFrom 5 = .ok (.iload_n 0, 1) := by decide +kernel
theorem dX10_isFrom_6 : decode cX10_isFrom 6 = .ok (.iload_n 2, 1) := by decide +kernel
theorem dX10_isFrom_7 : decode cX10_isFrom 7 = .ok (.if_icmp .gt 7, 3) := by decide +kernel
theorem dX10_isFrom_10 : decode cX10_isFrom 10 = .ok (.iconst 1, 1) := by decide +kernel
theorem dX10_isFrom_11 : decode cX10_isFrom 11 = .ok (.goto 4, 3) := by decide +kernel
theorem dX10_isFrom_14 : decode cX10_isFrom 14 = .ok (.iconst 0, 1) := by decide +kernel
theorem dX10_isFrom_15 : decode cX10_isFrom 15 = .ok (.ireturn, 1) := by decide +kernel
theorem dX10_knownMachine_0 : decode cX10_knownMachine 0 = .ok (.iload_n 1, 1) := by decide +kernel
theorem dX10_knownMachine_1 : decode cX10_knownMachine 1 = .ok (.ifCond .lt 21, 3) := by decide +kernel
theorem dX10_knownMachine_4 : decode cX10_knownMachine 4 = .ok (.iload_n 1, 1) := by decide +kernel
theorem dX10_knownMachine_5 : decode cX10_knownMachine 5 = .ok (.aload_n 0, 1) := by decide +kernel
theorem dX10_knownMachine_6 : decode cX10_knownMachine 6 = .ok (.getfield 11, 3) := by decide +kernel
theorem dX10_knownMachine_9 : decode cX10_knownMachine 9 = .ok (.arraylength, 1) := by decide +kernel
theorem dX10_knownMachine_10 : decode cX10_knownMachine 10 = .ok (.if_icmp .ge 12, 3) := by decide +kernel
theorem dX10_knownMachine_13 : decode cX10_knownMachine 13 = .ok (.aload_n 0, 1) := by decide +kernel
theorem dX10_knownMachine_14 : decode cX10_knownMachine 14 = .ok (.getfield 11, 3) := by decide +kernel
theorem dX10_knownMachine_17 : decode cX10_knownMachine 17 = .ok (.iload_n 1, 1) := by decide +kernel
theorem dX10_knownMachine_18 : decode cX10_knownMachine 18 = .ok (.aaload, 1) := by decide +kernel
theorem dX10_knownMachine_19 : decode cX10_knownMachine 19 = .ok (.goto 4, 3) := by decide +kernel
theorem dX10_knownMachine_22 : decode cX10_knownMachine 22 = .ok (.aconst_null, 1) := by decide +kernel
theorem dX10_knownMachine_23 : decode cX10_knownMachine 23 = .ok (.astore_n 2, 1) := by decide +kernel
theorem dX10_knownMachine_24 : decode cX10_knownMachine 24 = .ok (.aload_n 2, 1) := by decide +kernel
theorem dX10_knownMachine_25 : decode cX10_knownMachine 25 = .ok (.ifnonnull 14, 3) := by decide +kernel
theorem dX10_knownMachine_28 : decode cX10_knownMachine 28 = .ok (.new 164, 3) := by decide +kernel
theorem dX10_knownMachine_31 : decode cX10_knownMachine 31 = .ok (.dup, 1) := by decide +kernel
theorem dX10_knownMachine_32 : decode cX10_knownMachine 32 = .ok (.ldc_w 387, 3) := by decide +kernel
theorem dX10_knownMachine_35 : decode cX10_knownMachine 35 = .ok (.invokespecial 168, 3) := by decide +kernel
theorem dX10_knownMachine_38 : decode cX10_knownMachine 38 = .ok (.athrow, 1) := by decide +kernel
theorem dX10_knownMachine_39 : decode cX10_knownMachine 39 = .ok (.aload_n 2, 1) := by decide +kernel
theorem dX10_knownMachine_40 : decode cX10_knownMachine 40 = .ok (.areturn, 1) := by decide +kernel
theorem dX10_knownPart_0 : decode cX10_knownPart 0 = .ok (.iload_n 1, 1) := by decide +kernel
theorem dX10_knownPart_1 : decode cX10_knownPart 1 = .ok (.ifCond .lt 21, 3) := by decide +kernel
theorem dX10_knownPart_4 : decode cX10_knownPart 4 = .ok (.iload_n 1, 1) := by decide +kernel
theorem dX10_knownPart_5 : decode cX10_knownPart 5 = .ok (.aload_n 0, 1) := by decide +kernel
theorem dX10_knownPart_6 : decode cX10_knownPart 6 = .ok (.getfield 17, 3) := by decide +kernel
theorem dX10_knownPart_9 : decode cX10_knownPart 9 = .ok (.arraylength, 1) := by decide +kernel
theorem dX10_knownPart_10 : decode cX10_knownPart 10 = .ok (.if_icmp .ge 12, 3) := by decide +kernel
theorem dX10_knownPart_13 : decode cX10_knownPart 13 = .ok (.aload_n 0, 1) := by decide +kernel
theorem dX10_knownPart_14 : decode cX10_knownPart 14 = .ok (.getfield 17, 3) := by decide +kernel
theorem dX10_knownPart_17 : decode cX10_knownPart 17 = .ok (.iload_n 1, 1) := by decide +kernel
theorem dX10_knownPart_18 : decode cX10_knownPart 18 = .ok (.aaload, 1) := by decide +kernel
theorem dX10_knownPart_19 : decode cX10_knownPart 19 = .ok (.goto 4, 3) := by decide +kernel
theorem dX10_knownPart_22 : decode cX10_knownPart 22 = .ok (.aconst_null, 1) := by decide +kernel
theorem dX10_knownPart_23 : decode cX10_knownPart 23 = .ok (.astore_n 2, 1) := by decide +kernel
theorem dX10_knownPart_24 : decode cX10_knownPart 24 = .ok (.aload_n 2, 1) := by decide +kernel
theorem dX10_knownPart_25 : decode cX10_knownPart 25 = .ok (.ifnonnull 14, 3) := by decide +kernel
theorem dX10_knownPart_28 : decode cX10_knownPart 28 = .ok (.new 164, 3) := by decide +kernel
theorem dX10_knownPart_31 : decode cX10_knownPart 31 = .ok (.dup, 1) := by decide +kernel
theorem dX10_knownPart_32 : decode cX10_knownPart 32 = .ok (.ldc_w 389, 3) := by decide +kernel
theorem dX10_knownPart_35 : decode cX10_knownPart 35 = .ok (.invokespecial 168, 3) := by decide +kernel
theorem dX10_knownPart_38 : decode cX10_knownPart 38 = .ok (.athrow, 1) := by decide +kernel
theorem dX10_knownPart_39 : decode cX10_knownPart 39 = .ok (.aload_n 2, 1) := by decide +kernel
theorem dX10_knownPart_40 : decode cX10_knownPart 40 = .ok (.areturn, 1) := by decide +kernel
theorem dX10_knownLot_0 : decode cX10_knownLot 0 = .ok (.iload_n 1, 1) := by decide +kernel
theorem dX10_knownLot_1 : decode cX10_knownLot 1 = .ok (.ifCond .lt 21, 3) := by decide +kernel
theorem dX10_knownLot_4 : decode cX10_knownLot 4 = .ok (.iload_n 1, 1) := by decide +kernel
theorem dX10_knownLot_5 : decode cX10_knownLot 5 = .ok (.aload_n 0, 1) := by decide +kernel
theorem dX10_knownLot_6 : decode cX10_knownLot 6 = .ok (.getfield 29, 3) := by decide +kernel
theorem dX10_knownLot_9 : decode cX10_knownLot 9 = .ok (.arraylength, 1) := by decide +kernel
theorem dX10_knownLot_10 : decode cX10_knownLot 10 = .ok (.if_icmp .ge 12, 3) := by decide +kernel
theorem dX10_knownLot_13 : decode cX10_knownLot 13 = .ok (.aload_n 0, 1) := by decide +kernel
theorem dX10_knownLot_14 : decode cX10_knownLot 14 = .ok (.getfield 29, 3) := by decide +kernel
theorem dX10_knownLot_17 : decode cX10_knownLot 17 = .ok (.iload_n 1, 1) := by decide +kernel
theorem dX10_knownLot_18 : decode cX10_knownLot 18 = .ok (.aaload, 1) := by decide +kernel
theorem dX10_knownLot_19 : decode cX10_knownLot 19 = .ok (.goto 4, 3) := by decide +kernel
theorem dX10_knownLot_22 : decode cX10_knownLot 22 = .ok (.aconst_null, 1) := by decide +kernel
theorem dX10_knownLot_23 : decode cX10_knownLot 23 = .ok (.astore_n 2, 1) := by decide +kernel
theorem dX10_knownLot_24 : decode cX10_knownLot 24 = .ok (.aload_n 2, 1) := by decide +kernel
theorem dX10_knownLot_25 : decode cX10_knownLot 25 = .ok (.ifnonnull 14, 3) := by decide +kernel
theorem dX10_knownLot_28 : decode cX10_knownLot 28 = .ok (.new 164, 3) := by decide +kernel
theorem dX10_knownLot_31 : decode cX10_knownLot 31 = .ok (.dup, 1) := by decide +kernel
theorem dX10_knownLot_32 : decode cX10_knownLot 32 = .ok (.ldc_w 391, 3) := by decide +kernel
theorem dX10_knownLot_35 : decode cX10_knownLot 35 = .ok (.invokespecial 168, 3) := by decide +kernel
theorem dX10_knownLot_38 : decode cX10_knownLot 38 = .ok (.athrow, 1) := by decide +kernel
theorem dX10_knownLot_39 : decode cX10_knownLot 39 = .ok (.aload_n 2, 1) := by decide +kernel
theorem dX10_knownLot_40 : decode cX10_knownLot 40 = .ok (.areturn, 1) := by decide +kernel
theorem dX10_knownOrder_0 : decode cX10_knownOrder 0 = .ok (.iload_n 1, 1) := by decide +kernel
theorem dX10_knownOrder_1 : decode cX10_knownOrder 1 = .ok (.ifCond .lt 21, 3) := by decide +kernel
theorem dX10_knownOrder_4 : decode cX10_knownOrder 4 = .ok (.iload_n 1, 1) := by decide +kernel
theorem dX10_knownOrder_5 : decode cX10_knownOrder 5 = .ok (.aload_n 0, 1) := by decide +kernel
theorem dX10_knownOrder_6 : decode cX10_knownOrder 6 = .ok (.getfield 35, 3) := by decide +kernel
theorem dX10_knownOrder_9 : decode cX10_knownOrder 9 = .ok (.arraylength, 1) := by decide +kernel
theorem dX10_knownOrder_10 : decode cX10_knownOrder 10 = .ok (.if_icmp .ge 12, 3) := by decide +kernel
theorem dX10_knownOrder_13 : decode cX10_knownOrder 13 = .ok (.aload_n 0, 1) := by decide +kernel
theorem dX10_knownOrder_14 : decode cX10_knownOrder 14 = .ok (.getfield 35, 3) := by decide +kernel
theorem dX10_knownOrder_17 : decode cX10_knownOrder 17 = .ok (.iload_n 1, 1) := by decide +kernel
theorem dX10_knownOrder_18 : decode cX10_knownOrder 18 = .ok (.aaload, 1) := by decide +kernel
theorem dX10_knownOrder_19 : decode cX10_knownOrder 19 = .ok (.goto 4, 3) := by decide +kernel
theorem dX10_knownOrder_22 : decode cX10_knownOrder 22 = .ok (.aconst_null, 1) := by decide +kernel
theorem dX10_knownOrder_23 : decode cX10_knownOrder 23 = .ok (.astore_n 2, 1) := by decide +kernel
theorem dX10_knownOrder_24 : decode cX10_knownOrder 24 = .ok (.aload_n 2, 1) := by decide +kernel
theorem dX10_knownOrder_25 : decode cX10_knownOrder 25 = .ok (.ifnonnull 14, 3) := by decide +kernel
theorem dX10_knownOrder_28 : decode cX10_knownOrder 28 = .ok (.new 164, 3) := by decide +kernel
theorem dX10_knownOrder_31 : decode cX10_knownOrder 31 = .ok (.dup, 1) := by decide +kernel
theorem dX10_knownOrder_32 : decode cX10_knownOrder 32 = .ok (.ldc_w 393, 3) := by decide +kernel
theorem dX10_knownOrder_35 : decode cX10_knownOrder 35 = .ok (.invokespecial 168, 3) := by decide +kernel
theorem dX10_knownOrder_38 : decode cX10_knownOrder 38 = .ok (.athrow, 1) := by decide +kernel
theorem dX10_knownOrder_39 : decode cX10_knownOrder 39 = .ok (.aload_n 2, 1) := by decide +kernel
theorem dX10_knownOrder_40 : decode cX10_knownOrder 40 = .ok (.areturn, 1) := by decide +kernel
theorem dX10_findSupplier_0 : decode cX10_findSupplier 0 = .ok (.iload_n 1, 1) := by decide +kernel
theorem dX10_findSupplier_1 : decode cX10_findSupplier 1 = .ok (.ifCond .lt 21, 3) := by decide +kernel
theorem dX10_findSupplier_4 : decode cX10_findSupplier 4 = .ok (.iload_n 1, 1) := by decide +kernel
theorem dX10_findSupplier_5 : decode cX10_findSupplier 5 = .ok (.aload_n 0, 1) := by decide +kernel
theorem dX10_findSupplier_6 : decode cX10_findSupplier 6 = .ok (.getfield 23, 3) := by decide +kernel
theorem dX10_findSupplier_9 : decode cX10_findSupplier 9 = .ok (.arraylength, 1) := by decide +kernel
theorem dX10_findSupplier_10 : decode cX10_findSupplier 10 = .ok (.if_icmp .ge 12, 3) := by decide +kernel
theorem dX10_findSupplier_13 : decode cX10_findSupplier 13 = .ok (.aload_n 0, 1) := by decide +kernel
theorem dX10_findSupplier_14 : decode cX10_findSupplier 14 = .ok (.getfield 23, 3) := by decide +kernel
theorem dX10_findSupplier_17 : decode cX10_findSupplier 17 = .ok (.iload_n 1, 1) := by decide +kernel
theorem dX10_findSupplier_18 : decode cX10_findSupplier 18 = .ok (.aaload, 1) := by decide +kernel
theorem dX10_findSupplier_19 : decode cX10_findSupplier 19 = .ok (.goto 4, 3) := by decide +kernel
theorem dX10_findSupplier_22 : decode cX10_findSupplier 22 = .ok (.aconst_null, 1) := by decide +kernel
theorem dX10_findSupplier_23 : decode cX10_findSupplier 23 = .ok (.areturn, 1) := by decide +kernel
theorem dX10_putLot_0 : decode cX10_putLot 0 = .ok (.new 27, 3) := by decide +kernel
theorem dX10_putLot_3 : decode cX10_putLot 3 = .ok (.dup, 1) := by decide +kernel
theorem dX10_putLot_4 : decode cX10_putLot 4 = .ok (.aload_n 0, 1) := by decide +kernel
theorem dX10_putLot_5 : decode cX10_putLot 5 = .ok (.getfield 215, 3) := by decide +kernel
theorem dX10_putLot_8 : decode cX10_putLot 8 = .ok (.aload_n 1, 1) := by decide +kernel
theorem dX10_putLot_9 : decode cX10_putLot 9 = .ok (.iload_n 2, 1) := by decide +kernel
theorem dX10_putLot_10 : decode cX10_putLot 10 = .ok (.lload_n 3, 1) := by decide +kernel
theorem dX10_putLot_11 : decode cX10_putLot 11 = .ok (.invokespecial 395, 3) := by decide +kernel
theorem dX10_putLot_14 : decode cX10_putLot 14 = .ok (.astore 5, 2) := by decide +kernel
theorem dX10_putLot_16 : decode cX10_putLot 16 = .ok (.aload_n 0, 1) := by decide +kernel
theorem dX10_putLot_17 : decode cX10_putLot 17 = .ok (.getfield 215, 3) := by decide +kernel
theorem dX10_putLot_20 : decode cX10_putLot 20 = .ok (.aload_n 0, 1) := by decide +kernel
theorem dX10_putLot_21 : decode cX10_putLot 21 = .ok (.getfield 29, 3) := by decide +kernel
theorem dX10_putLot_24 : decode cX10_putLot 24 = .ok (.arraylength, 1) := by decide +kernel
theorem dX10_putLot_25 : decode cX10_putLot 25 = .ok (.if_icmp .ge 24, 3) := by decide +kernel
theorem dX10_putLot_28 : decode cX10_putLot 28 = .ok (.aload_n 0, 1) := by decide +kernel
theorem dX10_putLot_29 : decode cX10_putLot 29 = .ok (.getfield 29, 3) := by decide +kernel
theorem dX10_putLot_32 : decode cX10_putLot 32 = .ok (.aload_n 0, 1) := by decide +kernel
theorem dX10_putLot_33 : decode cX10_putLot 33 = .ok (.getfield 215, 3) := by decide +kernel
theorem dX10_putLot_36 : decode cX10_putLot 36 = .ok (.aload 5, 2) := by decide +kernel
theorem dX10_putLot_38 : decode cX10_putLot 38 = .ok (.aastore, 1) := by decide +kernel
theorem dX10_putLot_39 : decode cX10_putLot 39 = .ok (.aload_n 0, 1) := by decide +kernel
theorem dX10_putLot_40 : decode cX10_putLot 40 = .ok (.dup, 1) := by decide +kernel
theorem dX10_putLot_41 : decode cX10_putLot 41 = .ok (.getfield 215, 3) := by decide +kernel
theorem dX10_putLot_44 : decode cX10_putLot 44 = .ok (.iconst 1, 1) := by decide +kernel
theorem dX10_putLot_45 : decode cX10_putLot 45 = .ok (.iadd, 1) := by decide +kernel
theorem dX10_putLot_46 : decode cX10_putLot 46 = .ok (.putfield 215, 3) := by decide +kernel
theorem dX10_putLot_49 : decode cX10_putLot 49 = .ok (.aload 5, 2) := by decide +kernel
theorem dX10_putLot_51 : decode cX10_putLot 51 = .ok (.areturn, 1) := by decide +kernel
theorem dX10_isBarred_0 : decode cX10_isBarred 0 = .ok (.aload_n 0, 1) := by decide +kernel
theorem dX10_isBarred_1 : decode cX10_isBarred 1 = .ok (.getfield 42, 3) := by decide +kernel
theorem dX10_isBarred_4 : decode cX10_isBarred 4 = .ok (.aload_n 1, 1) := by decide +kernel
theorem dX10_isBarred_5 : decode cX10_isBarred 5 = .ok (.getfield 157, 3) := by decide +kernel
theorem dX10_isBarred_8 : decode cX10_isBarred 8 = .ok (.invokevirtual 212, 3) := by decide +kernel
theorem dX10_isBarred_11 : decode cX10_isBarred 11 = .ok (.ifCond .ne 17, 3) := by decide +kernel
theorem dX10_isBarred_14 : decode cX10_isBarred 14 = .ok (.aload_n 1, 1) := by decide +kernel
theorem dX10_isBarred_15 : decode cX10_isBarred 15 = .ok (.getfield 342, 3) := by decide +kernel
theorem dX10_isBarred_18 : decode cX10_isBarred 18 = .ok (.aload_n 0, 1) := by decide +kernel
theorem dX10_isBarred_19 : decode cX10_isBarred 19 = .ok (.getfield 42, 3) := by decide +kernel
theorem dX10_isBarred_22 : decode cX10_isBarred 22 = .ok (.invokevirtual 398, 3) := by decide +kernel
theorem dX10_isBarred_25 : decode cX10_isBarred 25 = .ok (.ifCond .eq 7, 3) := by decide +kernel
theorem dX10_isBarred_28 : decode cX10_isBarred 28 = .ok (.iconst 1, 1) := by decide +kernel
theorem dX10_isBarred_29 : decode cX10_isBarred 29 = .ok (.goto 4, 3) := by decide +kernel
theorem dX10_isBarred_32 : decode cX10_isBarred 32 = .ok (.iconst 0, 1) := by decide +kernel
theorem dX10_isBarred_33 : decode cX10_isBarred 33 = .ok (.ireturn, 1) := by decide +kernel
theorem dX10_putOnHold_0 : decode cX10_putOnHold 0 = .ok (.aload_n 0, 1) := by decide +kernel
theorem dX10_putOnHold_1 : decode cX10_putOnHold 1 = .ok (.getfield 42, 3) := by decide +kernel
theorem dX10_putOnHold_4 : decode cX10_putOnHold 4 = .ok (.aload_n 1, 1) := by decide +kernel
theorem dX10_putOnHold_5 : decode cX10_putOnHold 5 = .ok (.getfield 157, 3) := by decide +kernel
theorem dX10_putOnHold_8 : decode cX10_putOnHold 8 = .ok (.invokevirtual 160, 3) := by decide +kernel
theorem dX10_putOnHold_11 : decode cX10_putOnHold 11 = .ok (.iconst 0, 1) := by decide +kernel
theorem dX10_putOnHold_12 : decode cX10_putOnHold 12 = .ok (.istore_n 2, 1) := by decide +kernel
theorem dX10_putOnHold_13 : decode cX10_putOnHold 13 = .ok (.aload_n 0, 1) := by decide +kernel
theorem dX10_putOnHold_14 : decode cX10_putOnHold 14 = .ok (.getfield 35, 3) := by decide +kernel
theorem dX10_putOnHold_17 : decode cX10_putOnHold 17 = .ok (.astore_n 3, 1) := by decide +kernel
theorem dX10_putOnHold_18 : decode cX10_putOnHold 18 = .ok (.aload_n 3, 1) := by decide +kernel
theorem dX10_putOnHold_19 : decode cX10_putOnHold 19 = .ok (.arraylength, 1) := by decide +kernel
theorem dX10_putOnHold_20 : decode cX10_putOnHold 20 = .ok (.istore 4, 2) := by decide +kernel
theorem dX10_putOnHold_22 : decode cX10_putOnHold 22 = .ok (.iconst 0, 1) := by decide +kernel
theorem dX10_putOnHold_23 : decode cX10_putOnHold 23 = .ok (.istore 5, 2) := by decide +kernel
theorem dX10_putOnHold_25 : decode cX10_putOnHold 25 = .ok (.iload 5, 2) := by decide +kernel
theorem dX10_putOnHold_27 : decode cX10_putOnHold 27 = .ok (.iload 4, 2) := by decide +kernel
theorem dX10_putOnHold_29 : decode cX10_putOnHold 29 = .ok (.if_icmp .ge 49, 3) := by decide +kernel
theorem dX10_putOnHold_32 : decode cX10_putOnHold 32 = .ok (.aload_n 3, 1) := by decide +kernel
theorem dX10_putOnHold_33 : decode cX10_putOnHold 33 = .ok (.iload 5, 2) := by decide +kernel
theorem dX10_putOnHold_35 : decode cX10_putOnHold 35 = .ok (.aaload, 1) := by decide +kernel
theorem dX10_putOnHold_36 : decode cX10_putOnHold 36 = .ok (.astore 6, 2) := by decide +kernel
theorem dX10_putOnHold_38 : decode cX10_putOnHold 38 = .ok (.aload 6, 2) := by decide +kernel
theorem dX10_putOnHold_40 : decode cX10_putOnHold 40 = .ok (.ifnull 32, 3) := by decide +kernel
theorem dX10_putOnHold_43 : decode cX10_putOnHold 43 = .ok (.aload 6, 2) := by decide +kernel
theorem dX10_putOnHold_45 : decode cX10_putOnHold 45 = .ok (.getfield 243, 3) := by decide +kernel
theorem dX10_putOnHold_48 : decode cX10_putOnHold 48 = .ok (.bipush 112, 2) := by decide +kernel
theorem dX10_putOnHold_50 : decode cX10_putOnHold 50 = .ok (.if_icmp .ne 22, 3) := by decide +kernel
theorem dX10_putOnHold_53 : decode cX10_putOnHold 53 = .ok (.aload_n 0, 1) := by decide +kernel
theorem dX10_putOnHold_54 : decode cX10_putOnHold 54 = .ok (.aload 6, 2) := by decide +kernel
theorem dX10_putOnHold_56 : decode cX10_putOnHold 56 = .ok (.invokevirtual 402, 3) := by decide +kernel
theorem dX10_putOnHold_59 : decode cX10_putOnHold 59 = .ok (.ifCond .eq 13, 3) := by decide +kernel
theorem dX10_putOnHold_62 : decode cX10_putOnHold 62 = .ok (.aload_n 0, 1) := by decide +kernel
theorem dX10_putOnHold_63 : decode cX10_putOnHold 63 = .ok (.aload 6, 2) := by decide +kernel
theorem dX10_putOnHold_65 : decode cX10_putOnHold 65 = .ok (.invokevirtual 254, 3) := by decide +kernel
theorem dX10_putOnHold_68 : decode cX10_putOnHold 68 = .ok (.pop, 1) := by decide +kernel
theorem dX10_putOnHold_69 : decode cX10_putOnHold 69 = .ok (.iinc 2 1, 3) := by decide +kernel
theorem dX10_putOnHold_72 : decode cX10_putOnHold 72 = .ok (.iinc 5 1, 3) := by decide +kernel
theorem dX10_putOnHold_75 : decode cX10_putOnHold 75 = .ok (.goto (-50), 3) := by decide +kernel
theorem dX10_putOnHold_78 : decode cX10_putOnHold 78 = .ok (.iload_n 2, 1) := by decide +kernel
theorem dX10_putOnHold_79 : decode cX10_putOnHold 79 = .ok (.ireturn, 1) := by decide +kernel
theorem dX10_hasBarredPieces_0 : decode cX10_hasBarredPieces 0 = .ok (.aload_n 0, 1) := by decide +kernel
theorem dX10_hasBarredPieces_1 : decode cX10_hasBarredPieces 1 = .ok (.getfield 29, 3) := by decide +kernel
theorem dX10_hasBarredPieces_4 : decode cX10_hasBarredPieces 4 = .ok (.astore_n 2, 1) := by decide +kernel
theorem dX10_hasBarredPieces_5 : decode cX10_hasBarredPieces 5 = .ok (.aload_n 2, 1) := by decide +kernel
theorem dX10_hasBarredPieces_6 : decode cX10_hasBarredPieces 6 = .ok (.arraylength, 1) := by decide +kernel
theorem dX10_hasBarredPieces_7 : decode cX10_hasBarredPieces 7 = .ok (.istore_n 3, 1) := by decide +kernel
theorem dX10_hasBarredPieces_8 : decode cX10_hasBarredPieces 8 = .ok (.iconst 0, 1) := by decide +kernel
theorem dX10_hasBarredPieces_9 : decode cX10_hasBarredPieces 9 = .ok (.istore 4, 2) := by decide +kernel
theorem dX10_hasBarredPieces_11 : decode cX10_hasBarredPieces 11 = .ok (.iload 4, 2) := by decide +kernel
theorem dX10_hasBarredPieces_13 : decode cX10_hasBarredPieces 13 = .ok (.iload_n 3, 1) := by decide +kernel
theorem dX10_hasBarredPieces_14 : decode cX10_hasBarredPieces 14 = .ok (.if_icmp .ge 40, 3) := by decide +kernel
theorem dX10_hasBarredPieces_17 : decode cX10_hasBarredPieces 17 = .ok (.aload_n 2, 1) := by decide +kernel
theorem dX10_hasBarredPieces_18 : decode cX10_hasBarredPieces 18 = .ok (.iload 4, 2) := by decide +kernel
theorem dX10_hasBarredPieces_20 : decode cX10_hasBarredPieces 20 = .ok (.aaload, 1) := by decide +kernel
theorem dX10_hasBarredPieces_21 : decode cX10_hasBarredPieces 21 = .ok (.astore 5, 2) := by decide +kernel
theorem dX10_hasBarredPieces_23 : decode cX10_hasBarredPieces 23 = .ok (.aload 5, 2) := by decide +kernel
theorem dX10_hasBarredPieces_25 : decode cX10_hasBarredPieces 25 = .ok (.ifnull 23, 3) := by decide +kernel
theorem dX10_hasBarredPieces_28 : decode cX10_hasBarredPieces 28 = .ok (.aload_n 1, 1) := by decide +kernel
theorem dX10_hasBarredPieces_29 : decode cX10_hasBarredPieces 29 = .ok (.aload 5, 2) := by decide +kernel
theorem dX10_hasBarredPieces_31 : decode cX10_hasBarredPieces 31 = .ok (.invokevirtual 405, 3) := by decide +kernel
theorem dX10_hasBarredPieces_34 : decode cX10_hasBarredPieces 34 = .ok (.ifCond .le 14, 3) := by decide +kernel
theorem dX10_hasBarredPieces_37 : decode cX10_hasBarredPieces 37 = .ok (.aload_n 0, 1) := by decide +kernel
theorem dX10_hasBarredPieces_38 : decode cX10_hasBarredPieces 38 = .ok (.aload 5, 2) := by decide +kernel
theorem dX10_hasBarredPieces_40 : decode cX10_hasBarredPieces 40 = .ok (.invokevirtual 184, 3) := by decide +kernel
theorem dX10_hasBarredPieces_43 : decode cX10_hasBarredPieces 43 = .ok (.ifCond .eq 5, 3) := by decide +kernel
theorem dX10_hasBarredPieces_46 : decode cX10_hasBarredPieces 46 = .ok (.iconst 1, 1) := by decide +kernel
theorem dX10_hasBarredPieces_47 : decode cX10_hasBarredPieces 47 = .ok (.ireturn, 1) := by decide +kernel
theorem dX10_hasBarredPieces_48 : decode cX10_hasBarredPieces 48 = .ok (.iinc 4 1, 3) := by decide +kernel
theorem dX10_hasBarredPieces_51 : decode cX10_hasBarredPieces 51 = .ok (.goto (-40), 3) := by decide +kernel
theorem dX10_hasBarredPieces_54 : decode cX10_hasBarredPieces 54 = .ok (.iconst 0, 1) := by decide +kernel
theorem dX10_hasBarredPieces_55 : decode cX10_hasBarredPieces 55 = .ok (.ireturn, 1) := by decide +kernel
theorem dX10_freePieces_0 : decode cX10_freePieces 0 = .ok (.aload_n 0, 1) := by decide +kernel
theorem dX10_freePieces_1 : decode cX10_freePieces 1 = .ok (.aload_n 1, 1) := by decide +kernel
theorem dX10_freePieces_2 : decode cX10_freePieces 2 = .ok (.invokevirtual 184, 3) := by decide +kernel
theorem dX10_freePieces_5 : decode cX10_freePieces 5 = .ok (.ifCond .eq 7, 3) := by decide +kernel
theorem dX10_freePieces_8 : decode cX10_freePieces 8 = .ok (.iconst 0, 1) := by decide +kernel
theorem dX10_freePieces_9 : decode cX10_freePieces 9 = .ok (.goto 12, 3) := by decide +kernel
theorem dX10_freePieces_12 : decode cX10_freePieces 12 = .ok (.aload_n 1, 1) := by decide +kernel
theorem dX10_freePieces_13 : decode cX10_freePieces 13 = .ok (.getfield 219, 3) := by decide +kernel
theorem dX10_freePieces_16 : decode cX10_freePieces 16 = .ok (.aload_n 1, 1) := by decide +kernel
theorem dX10_freePieces_17 : decode cX10_freePieces 17 = .ok (.getfield 222, 3) := by decide +kernel
theorem dX10_freePieces_20 : decode cX10_freePieces 20 = .ok (.isub, 1) := by decide +kernel
theorem dX10_freePieces_21 : decode cX10_freePieces 21 = .ok (.ireturn, 1) := by decide +kernel
theorem dX10_freePiecesOf_0 : decode cX10_freePiecesOf 0 = .ok (.iconst 0, 1) := by decide +kernel
theorem dX10_freePiecesOf_1 : decode cX10_freePiecesOf 1 = .ok (.istore_n 2, 1) := by decide +kernel
theorem dX10_freePiecesOf_2 : decode cX10_freePiecesOf 2 = .ok (.aload_n 0, 1) := by decide +kernel
theorem dX10_freePiecesOf_3 : decode cX10_freePiecesOf 3 = .ok (.getfield 29, 3) := by decide +kernel
theorem dX10_freePiecesOf_6 : decode cX10_freePiecesOf 6 = .ok (.astore_n 3, 1) := by decide +kernel
theorem dX10_freePiecesOf_7 : decode cX10_freePiecesOf 7 = .ok (.aload_n 3, 1) := by decide +kernel
theorem dX10_freePiecesOf_8 : decode cX10_freePiecesOf 8 = .ok (.arraylength, 1) := by decide +kernel
theorem dX10_freePiecesOf_9 : decode cX10_freePiecesOf 9 = .ok (.istore 4, 2) := by decide +kernel
theorem dX10_freePiecesOf_11 : decode cX10_freePiecesOf 11 = .ok (.iconst 0, 1) := by decide +kernel
theorem dX10_freePiecesOf_12 : decode cX10_freePiecesOf 12 = .ok (.istore 5, 2) := by decide +kernel
theorem dX10_freePiecesOf_14 : decode cX10_freePiecesOf 14 = .ok (.iload 5, 2) := by decide +kernel
theorem dX10_freePiecesOf_16 : decode cX10_freePiecesOf 16 = .ok (.iload 4, 2) := by decide +kernel
theorem dX10_freePiecesOf_18 : decode cX10_freePiecesOf 18 = .ok (.if_icmp .ge 38, 3) := by decide +kernel
theorem dX10_freePiecesOf_21 : decode cX10_freePiecesOf 21 = .ok (.aload_n 3, 1) := by decide +kernel
theorem dX10_freePiecesOf_22 : decode cX10_freePiecesOf 22 = .ok (.iload 5, 2) := by decide +kernel
theorem dX10_freePiecesOf_24 : decode cX10_freePiecesOf 24 = .ok (.aaload, 1) := by decide +kernel
theorem dX10_freePiecesOf_25 : decode cX10_freePiecesOf 25 = .ok (.astore 6, 2) := by decide +kernel
theorem dX10_freePiecesOf_27 : decode cX10_freePiecesOf 27 = .ok (.aload 6, 2) := by decide +kernel
theorem dX10_freePiecesOf_29 : decode cX10_freePiecesOf 29 = .ok (.ifnull 21, 3) := by decide +kernel
theorem dX10_freePiecesOf_32 : decode cX10_freePiecesOf 32 = .ok (.aload 6, 2) := by decide +kernel
theorem dX10_freePiecesOf_34 : decode cX10_freePiecesOf 34 = .ok (.getfield 205, 3) := by decide +kernel
theorem dX10_freePiecesOf_37 : decode cX10_freePiecesOf 37 = .ok (.aload_n 1, 1) := by decide +kernel
theorem dX10_freePiecesOf_38 : decode cX10_freePiecesOf 38 = .ok (.if_acmp .ne 12, 3) := by decide +kernel
theorem dX10_freePiecesOf_41 : decode cX10_freePiecesOf 41 = .ok (.iload_n 2, 1) := by decide +kernel
theorem dX10_freePiecesOf_42 : decode cX10_freePiecesOf 42 = .ok (.aload_n 0, 1) := by decide +kernel
theorem dX10_freePiecesOf_43 : decode cX10_freePiecesOf 43 = .ok (.aload 6, 2) := by decide +kernel
theorem dX10_freePiecesOf_45 : decode cX10_freePiecesOf 45 = .ok (.invokevirtual 408, 3) := by decide +kernel
theorem dX10_freePiecesOf_48 : decode cX10_freePiecesOf 48 = .ok (.iadd, 1) := by decide +kernel
theorem dX10_freePiecesOf_49 : decode cX10_freePiecesOf 49 = .ok (.istore_n 2, 1) := by decide +kernel
theorem dX10_freePiecesOf_50 : decode cX10_freePiecesOf 50 = .ok (.iinc 5 1, 3) := by decide +kernel
theorem dX10_freePiecesOf_53 : decode cX10_freePiecesOf 53 = .ok (.goto (-39), 3) := by decide +kernel
theorem dX10_freePiecesOf_56 : decode cX10_freePiecesOf 56 = .ok (.iload_n 2, 1) := by decide +kernel
theorem dX10_freePiecesOf_57 : decode cX10_freePiecesOf 57 = .ok (.ireturn, 1) := by decide +kernel
theorem dX10_reserveAll_0 : decode cX10_reserveAll 0 = .ok (.aload_n 1, 1) := by decide +kernel
theorem dX10_reserveAll_1 : decode cX10_reserveAll 1 = .ok (.getfield 242, 3) := by decide +kernel
theorem dX10_reserveAll_4 : decode cX10_reserveAll 4 = .ok (.getfield 411, 3) := by decide +kernel
theorem dX10_reserveAll_7 : decode cX10_reserveAll 7 = .ok (.astore_n 2, 1) := by decide +kernel
theorem dX10_reserveAll_8 : decode cX10_reserveAll 8 = .ok (.aload_n 2, 1) := by decide +kernel
theorem dX10_reserveAll_9 : decode cX10_reserveAll 9 = .ok (.arraylength, 1) := by decide +kernel
theorem dX10_reserveAll_10 : decode cX10_reserveAll 10 = .ok (.istore_n 3, 1) := by decide +kernel
theorem dX10_reserveAll_11 : decode cX10_reserveAll 11 = .ok (.iconst 0, 1) := by decide +kernel
theorem dX10_reserveAll_12 : decode cX10_reserveAll 12 = .ok (.istore 4, 2) := by decide +kernel
theorem dX10_reserveAll_14 : decode cX10_reserveAll 14 = .ok (.iload 4, 2) := by decide +kernel
theorem dX10_reserveAll_16 : decode cX10_reserveAll 16 = .ok (.iload_n 3, 1) := by decide +kernel
theorem dX10_reserveAll_17 : decode cX10_reserveAll 17 = .ok (.if_icmp .ge 50, 3) := by decide +kernel
theorem dX10_reserveAll_20 : decode cX10_reserveAll 20 = .ok (.aload_n 2, 1) := by decide +kernel
theorem dX10_reserveAll_21 : decode cX10_reserveAll 21 = .ok (.iload 4, 2) := by decide +kernel
theorem dX10_reserveAll_23 : decode cX10_reserveAll 23 = .ok (.aaload, 1) := by decide +kernel
theorem dX10_reserveAll_24 : decode cX10_reserveAll 24 = .ok (.astore 5, 2) := by decide +kernel
theorem dX10_reserveAll_26 : decode cX10_reserveAll 26 = .ok (.aload 5, 2) := by decide +kernel
theorem dX10_reserveAll_28 : decode cX10_reserveAll 28 = .ok (.ifnull 33, 3) := by decide +kernel
theorem dX10_reserveAll_31 : decode cX10_reserveAll 31 = .ok (.aload 5, 2) := by decide +kernel
theorem dX10_reserveAll_33 : decode cX10_reserveAll 33 = .ok (.aload_n 1, 1) := by decide +kernel
theorem dX10_reserveAll_34 : decode cX10_reserveAll 34 = .ok (.getfield 415, 3) := by decide +kernel
theorem dX10_reserveAll_37 : decode cX10_reserveAll 37 = .ok (.invokevirtual 418, 3) := by decide +kernel
theorem dX10_reserveAll_40 : decode cX10_reserveAll 40 = .ok (.ifCond .eq 21, 3) := by decide +kernel
theorem dX10_reserveAll_43 : decode cX10_reserveAll 43 = .ok (.aload_n 0, 1) := by decide +kernel
theorem dX10_reserveAll_44 : decode cX10_reserveAll 44 = .ok (.aload_n 1, 1) := by decide +kernel
theorem dX10_reserveAll_45 : decode cX10_reserveAll 45 = .ok (.aload 5, 2) := by decide +kernel
theorem dX10_reserveAll_47 : decode cX10_reserveAll 47 = .ok (.invokevirtual 421, 3) := by decide +kernel
theorem dX10_reserveAll_50 : decode cX10_reserveAll 50 = .ok (.ifCond .ne 11, 3) := by decide +kernel
theorem dX10_reserveAll_53 : decode cX10_reserveAll 53 = .ok (.aload_n 0, 1) := by decide +kernel
theorem dX10_reserveAll_54 : decode cX10_reserveAll 54 = .ok (.aload_n 1, 1) := by decide +kernel
theorem dX10_reserveAll_55 : decode cX10_reserveAll 55 = .ok (.invokevirtual 254, 3) := by decide +kernel
theorem dX10_reserveAll_58 : decode cX10_reserveAll 58 = .ok (.pop, 1) := by decide +kernel
theorem dX10_reserveAll_59 : decode cX10_reserveAll 59 = .ok (.iconst 0, 1) := by decide +kernel
theorem dX10_reserveAll_60 : decode cX10_reserveAll 60 = .ok (.ireturn, 1) := by decide +kernel
theorem dX10_reserveAll_61 : decode cX10_reserveAll 61 = .ok (.iinc 4 1, 3) := by decide +kernel
theorem dX10_reserveAll_64 : decode cX10_reserveAll 64 = .ok (.goto (-50), 3) := by decide +kernel
theorem dX10_reserveAll_67 : decode cX10_reserveAll 67 = .ok (.aload_n 1, 1) := by decide +kernel
theorem dX10_reserveAll_68 : decode cX10_reserveAll 68 = .ok (.bipush 112, 2) := by decide +kernel
theorem dX10_reserveAll_70 : decode cX10_reserveAll 70 = .ok (.putfield 243, 3) := by decide +kernel
theorem dX10_reserveAll_73 : decode cX10_reserveAll 73 = .ok (.iconst 1, 1) := by decide +kernel
theorem dX10_reserveAll_74 : decode cX10_reserveAll 74 = .ok (.ireturn, 1) := by decide +kernel
theorem dX10_reserve_0 : decode cX10_reserve 0 = .ok (.aload_n 1, 1) := by decide +kernel
theorem dX10_reserve_1 : decode cX10_reserve 1 = .ok (.getfield 308, 3) := by decide +kernel
theorem dX10_reserve_4 : decode cX10_reserve 4 = .ok (.aload_n 2, 1) := by decide +kernel
theorem dX10_reserve_5 : decode cX10_reserve 5 = .ok (.getfield 425, 3) := by decide +kernel
theorem dX10_reserve_8 : decode cX10_reserve 8 = .ok (.imul, 1) := by decide +kernel
theorem dX10_reserve_9 : decode cX10_reserve 9 = .ok (.istore_n 3, 1) := by decide +kernel
theorem dX10_reserve_10 : decode cX10_reserve 10 = .ok (.aload_n 0, 1) := by decide +kernel
theorem dX10_reserve_11 : decode cX10_reserve 11 = .ok (.getfield 29, 3) := by decide +kernel
theorem dX10_reserve_14 : decode cX10_reserve 14 = .ok (.astore 4, 2) := by decide +kernel
theorem dX10_reserve_16 : decode cX10_reserve 16 = .ok (.aload 4, 2) := by decide +kernel
theorem dX10_reserve_18 : decode cX10_reserve 18 = .ok (.arraylength, 1) := by decide +kernel
theorem dX10_reserve_19 : decode cX10_reserve 19 = .ok (.istore 5, 2) := by decide +kernel
theorem dX10_reserve_21 : decode cX10_reserve 21 = .ok (.iconst 0, 1) := by decide +kernel
theorem dX10_reserve_22 : decode cX10_reserve 22 = .ok (.istore 6, 2) := by decide +kernel
theorem dX10_reserve_24 : decode cX10_reserve 24 = .ok (.iload 6, 2) := by decide +kernel
theorem dX10_reserve_26 : decode cX10_reserve 26 = .ok (.iload 5, 2) := by decide +kernel
theorem dX10_reserve_28 : decode cX10_reserve 28 = .ok (.if_icmp .ge 70, 3) := by decide +kernel
theorem dX10_reserve_31 : decode cX10_reserve 31 = .ok (.aload 4, 2) := by decide +kernel
theorem dX10_reserve_33 : decode cX10_reserve 33 = .ok (.iload 6, 2) := by decide +kernel
theorem dX10_reserve_35 : decode cX10_reserve 35 = .ok (.aaload, 1) := by decide +kernel
theorem dX10_reserve_36 : decode cX10_reserve 36 = .ok (.astore 7, 2) := by decide +kernel
theorem dX10_reserve_38 : decode cX10_reserve 38 = .ok (.aload 7, 2) := by decide +kernel
theorem dX10_reserve_40 : decode cX10_reserve 40 = .ok (.ifnull 52, 3) := by decide +kernel
theorem dX10_reserve_43 : decode cX10_reserve 43 = .ok (.aload 7, 2) := by decide +kernel
theorem dX10_reserve_45 : decode cX10_reserve 45 = .ok (.getfield 205, 3) := by decide +kernel
theorem dX10_reserve_48 : decode cX10_reserve 48 = .ok (.aload_n 2, 1) := by decide +kernel
theorem dX10_reserve_49 : decode cX10_reserve 49 = .ok (.getfield 426, 3) := by decide +kernel
theorem dX10_reserve_52 : decode cX10_reserve 52 = .ok (.if_acmp .ne 40, 3) := by decide +kernel
theorem dX10_reserve_55 : decode cX10_reserve 55 = .ok (.iload_n 3, 1) := by decide +kernel
theorem dX10_reserve_56 : decode cX10_reserve 56 = .ok (.aload_n 0, 1) := by decide +kernel
theorem dX10_reserve_57 : decode cX10_reserve 57 = .ok (.aload 7, 2) := by decide +kernel
theorem dX10_reserve_59 : decode cX10_reserve 59 = .ok (.invokevirtual 408, 3) := by decide +kernel
theorem dX10_reserve_62 : decode cX10_reserve 62 = .ok (.invokestatic 427, 3) := by decide +kernel
theorem dX10_reserve_65 : decode cX10_reserve 65 = .ok (.istore 8, 2) := by decide +kernel
theorem dX10_reserve_67 : decode cX10_reserve 67 = .ok (.aload 7, 2) := by decide +kernel
theorem dX10_reserve_69 : decode cX10_reserve 69 = .ok (.dup, 1) := by decide +kernel
theorem dX10_reserve_70 : decode cX10_reserve 70 = .ok (.getfield 222, 3) := by decide +kernel
theorem dX10_reserve_73 : decode cX10_reserve 73 = .ok (.iload 8, 2) := by decide +kernel
theorem dX10_reserve_75 : decode cX10_reserve 75 = .ok (.iadd, 1) := by decide +kernel
theorem dX10_reserve_76 : decode cX10_reserve 76 = .ok (.putfield 222, 3) := by decide +kernel
theorem dX10_reserve_79 : decode cX10_reserve 79 = .ok (.aload_n 1, 1) := by decide +kernel
theorem dX10_reserve_80 : decode cX10_reserve 80 = .ok (.aload 7, 2) := by decide +kernel
theorem dX10_reserve_82 : decode cX10_reserve 82 = .ok (.iload 8, 2) := by decide +kernel
theorem dX10_reserve_84 : decode cX10_reserve 84 = .ok (.invokevirtual 433, 3) := by decide +kernel
theorem dX10_reserve_87 : decode cX10_reserve 87 = .ok (.iload_n 3, 1) := by decide +kernel
theorem dX10_reserve_88 : decode cX10_reserve 88 = .ok (.iload 8, 2) := by decide +kernel
theorem dX10_reserve_90 : decode cX10_reserve 90 = .ok (.isub, 1) := by decide +kernel
theorem dX10_reserve_91 : decode cX10_reserve 91 = .ok (.istore_n 3, 1) := by decide +kernel
theorem dX10_reserve_92 : decode cX10_reserve 92 = .ok (.iinc 6 1, 3) := by decide +kernel
theorem dX10_reserve_95 : decode cX10_reserve 95 = .ok (.goto (-71), 3) := by decide +kernel
theorem dX10_reserve_98 : decode cX10_reserve 98 = .ok (.iload_n 3, 1) := by decide +kernel
theorem dX10_reserve_99 : decode cX10_reserve 99 = .ok (.ifCond .ne 7, 3) := by decide +kernel
theorem dX10_reserve_102 : decode cX10_reserve 102 = .ok (.iconst 1, 1) := by decide +kernel
theorem dX10_reserve_103 : decode cX10_reserve 103 = .ok (.goto 4, 3) := by decide +kernel
theorem dX10_reserve_106 : decode cX10_reserve 106 = .ok (.iconst 0, 1) := by decide +kernel
theorem dX10_reserve_107 : decode cX10_reserve 107 = .ok (.ireturn, 1) := by decide +kernel
theorem dX10_dropPromise_0 : decode cX10_dropPromise 0 = .ok (.iconst 0, 1) := by decide +kernel
theorem dX10_dropPromise_1 : decode cX10_dropPromise 1 = .ok (.istore_n 2, 1) := by decide +kernel
theorem dX10_dropPromise_2 : decode cX10_dropPromise 2 = .ok (.aload_n 0, 1) := by decide +kernel
theorem dX10_dropPromise_3 : decode cX10_dropPromise 3 = .ok (.getfield 29, 3) := by decide +kernel
theorem dX10_dropPromise_6 : decode cX10_dropPromise 6 = .ok (.astore_n 3, 1) := by decide +kernel
theorem dX10_dropPromise_7 : decode cX10_dropPromise 7 = .ok (.aload_n 3, 1) := by decide +kernel
theorem dX10_dropPromise_8 : decode cX10_dropPromise 8 = .ok (.arraylength, 1) := by decide +kernel
theorem dX10_dropPromise_9 : decode cX10_dropPromise 9 = .ok (.istore 4, 2) := by decide +kernel
theorem dX10_dropPromise_11 : decode cX10_dropPromise 11 = .ok (.iconst 0, 1) := by decide +kernel
theorem dX10_dropPromise_12 : decode cX10_dropPromise 12 = .ok (.istore 5, 2) := by decide +kernel
theorem dX10_dropPromise_14 : decode cX10_dropPromise 14 = .ok (.iload 5, 2) := by decide +kernel
theorem dX10_dropPromise_16 : decode cX10_dropPromise 16 = .ok (.iload 4, 2) := by decide +kernel
theorem dX10_dropPromise_18 : decode cX10_dropPromise 18 = .ok (.if_icmp .ge 54, 3) := by decide +kernel
theorem dX10_dropPromise_21 : decode cX10_dropPromise 21 = .ok (.aload_n 3, 1) := by decide +kernel
theorem dX10_dropPromise_22 : decode cX10_dropPromise 22 = .ok (.iload 5, 2) := by decide +kernel
theorem dX10_dropPromise_24 : decode cX10_dropPromise 24 = .ok (.aaload, 1) := by decide +kernel
theorem dX10_dropPromise_25 : decode cX10_dropPromise 25 = .ok (.astore 6, 2) := by decide +kernel
theorem dX10_dropPromise_27 : decode cX10_dropPromise 27 = .ok (.aload 6, 2) := by decide +kernel
theorem dX10_dropPromise_29 : decode cX10_dropPromise 29 = .ok (.ifnull 37, 3) := by decide +kernel
theorem dX10_dropPromise_32 : decode cX10_dropPromise 32 = .ok (.aload_n 1, 1) := by decide +kernel
theorem dX10_dropPromise_33 : decode cX10_dropPromise 33 = .ok (.aload 6, 2) := by decide +kernel
theorem dX10_dropPromise_35 : decode cX10_dropPromise 35 = .ok (.invokevirtual 405, 3) := by decide +kernel
theorem dX10_dropPromise_38 : decode cX10_dropPromise 38 = .ok (.istore 7, 2) := by decide +kernel
theorem dX10_dropPromise_40 : decode cX10_dropPromise 40 = .ok (.aload 6, 2) := by decide +kernel
theorem dX10_dropPromise_42 : decode cX10_dropPromise 42 = .ok (.dup, 1) := by decide +kernel
theorem dX10_dropPromise_43 : decode cX10_dropPromise 43 = .ok (.getfield 222, 3) := by decide +kernel
theorem dX10_dropPromise_46 : decode cX10_dropPromise 46 = .ok (.iload 7, 2) := by decide +kernel
theorem dX10_dropPromise_48 : decode cX10_dropPromise 48 = .ok (.isub, 1) := by decide +kernel
theorem dX10_dropPromise_49 : decode cX10_dropPromise 49 = .ok (.putfield 222, 3) := by decide +kernel
theorem dX10_dropPromise_52 : decode cX10_dropPromise 52 = .ok (.aload_n 1, 1) := by decide +kernel
theorem dX10_dropPromise_53 : decode cX10_dropPromise 53 = .ok (.aload 6, 2) := by decide +kernel
theorem dX10_dropPromise_55 : decode cX10_dropPromise 55 = .ok (.iload 7, 2) := by decide +kernel
theorem dX10_dropPromise_57 : decode cX10_dropPromise 57 = .ok (.ineg, 1) := by decide +kernel
theorem dX10_dropPromise_58 : decode cX10_dropPromise 58 = .ok (.invokevirtual 433, 3) := by decide +kernel
theorem dX10_dropPromise_61 : decode cX10_dropPromise 61 = .ok (.iload_n 2, 1) := by decide +kernel
theorem dX10_dropPromise_62 : decode cX10_dropPromise 62 = .ok (.iload 7, 2) := by decide +kernel
theorem dX10_dropPromise_64 : decode cX10_dropPromise 64 = .ok (.iadd, 1) := by decide +kernel
theorem dX10_dropPromise_65 : decode cX10_dropPromise 65 = .ok (.istore_n 2, 1) := by decide +kernel
theorem dX10_dropPromise_66 : decode cX10_dropPromise 66 = .ok (.iinc 5 1, 3) := by decide +kernel
theorem dX10_dropPromise_69 : decode cX10_dropPromise 69 = .ok (.goto (-55), 3) := by decide +kernel
theorem dX10_dropPromise_72 : decode cX10_dropPromise 72 = .ok (.aload_n 1, 1) := by decide +kernel
theorem dX10_dropPromise_73 : decode cX10_dropPromise 73 = .ok (.bipush 45, 2) := by decide +kernel
theorem dX10_dropPromise_75 : decode cX10_dropPromise 75 = .ok (.putfield 243, 3) := by decide +kernel
theorem dX10_dropPromise_78 : decode cX10_dropPromise 78 = .ok (.iload_n 2, 1) := by decide +kernel
theorem dX10_dropPromise_79 : decode cX10_dropPromise 79 = .ok (.ireturn, 1) := by decide +kernel
theorem dX10_takeReserved_0 : decode cX10_takeReserved 0 = .ok (.aload_n 0, 1) := by decide +kernel
theorem dX10_takeReserved_1 : decode cX10_takeReserved 1 = .ok (.getfield 29, 3) := by decide +kernel
theorem dX10_takeReserved_4 : decode cX10_takeReserved 4 = .ok (.astore_n 2, 1) := by decide +kernel
theorem dX10_takeReserved_5 : decode cX10_takeReserved 5 = .ok (.aload_n 2, 1) := by decide +kernel
theorem dX10_takeReserved_6 : decode cX10_takeReserved 6 = .ok (.arraylength, 1) := by decide +kernel
theorem dX10_takeReserved_7 : decode cX10_takeReserved 7 = .ok (.istore_n 3, 1) := by decide +kernel
theorem dX10_takeReserved_8 : decode cX10_takeReserved 8 = .ok (.iconst 0, 1) := by decide +kernel
theorem dX10_takeReserved_9 : decode cX10_takeReserved 9 = .ok (.istore 4, 2) := by decide +kernel
theorem dX10_takeReserved_11 : decode cX10_takeReserved 11 = .ok (.iload 4, 2) := by decide +kernel
theorem dX10_takeReserved_13 : decode cX10_takeReserved 13 = .ok (.iload_n 3, 1) := by decide +kernel
theorem dX10_takeReserved_14 : decode cX10_takeReserved 14 = .ok (.if_icmp .ge 59, 3) := by decide +kernel
theorem dX10_takeReserved_17 : decode cX10_takeReserved 17 = .ok (.aload_n 2, 1) := by decide +kernel
theorem dX10_takeReserved_18 : decode cX10_takeReserved 18 = .ok (.iload 4, 2) := by decide +kernel
theorem dX10_takeReserved_20 : decode cX10_takeReserved 20 = .ok (.aaload, 1) := by decide +kernel
theorem dX10_takeReserved_21 : decode cX10_takeReserved 21 = .ok (.astore 5, 2) := by decide +kernel
theorem dX10_takeReserved_23 : decode cX10_takeReserved 23 = .ok (.aload 5, 2) := by decide +kernel
theorem dX10_takeReserved_25 : decode cX10_takeReserved 25 = .ok (.ifnull 42, 3) := by decide +kernel
theorem dX10_takeReserved_28 : decode cX10_takeReserved 28 = .ok (.aload_n 1, 1) := by decide +kernel
theorem dX10_takeReserved_29 : decode cX10_takeReserved 29 = .ok (.aload 5, 2) := by decide +kernel
theorem dX10_takeReserved_31 : decode cX10_takeReserved 31 = .ok (.invokevirtual 405, 3) := by decide +kernel
theorem dX10_takeReserved_34 : decode cX10_takeReserved 34 = .ok (.istore 6, 2) := by decide +kernel
theorem dX10_takeReserved_36 : decode cX10_takeReserved 36 = .ok (.aload 5, 2) := by decide +kernel
theorem dX10_takeReserved_38 : decode cX10_takeReserved 38 = .ok (.dup, 1) := by decide +kernel
theorem dX10_takeReserved_39 : decode cX10_takeReserved 39 = .ok (.getfield 222, 3) := by decide +kernel
theorem dX10_takeReserved_42 : decode cX10_takeReserved 42 = .ok (.iload 6, 2) := by decide +kernel
theorem dX10_takeReserved_44 : decode cX10_takeReserved 44 = .ok (.isub, 1) := by decide +kernel
theorem dX10_takeReserved_45 : decode cX10_takeReserved 45 = .ok (.putfield 222, 3) := by decide +kernel
theorem dX10_takeReserved_48 : decode cX10_takeReserved 48 = .ok (.aload_n 1, 1) := by decide +kernel
theorem dX10_takeReserved_49 : decode cX10_takeReserved 49 = .ok (.getfield 280, 3) := by decide +kernel
theorem dX10_takeReserved_52 : decode cX10_takeReserved 52 = .ok (.dup, 1) := by decide +kernel
theorem dX10_takeReserved_53 : decode cX10_takeReserved 53 = .ok (.getfield 437, 3) := by decide +kernel
theorem dX10_takeReserved_56 : decode cX10_takeReserved 56 = .ok (.aload 5, 2) := by decide +kernel
theorem dX10_takeReserved_58 : decode cX10_takeReserved 58 = .ok (.iload 6, 2) := by decide +kernel
theorem dX10_takeReserved_60 : decode cX10_takeReserved 60 = .ok (.invokevirtual 438, 3) := by decide +kernel
theorem dX10_takeReserved_63 : decode cX10_takeReserved 63 = .ok (.ladd, 1) := by decide +kernel
theorem dX10_takeReserved_64 : decode cX10_takeReserved 64 = .ok (.putfield 437, 3) := by decide +kernel
theorem dX10_takeReserved_67 : decode cX10_takeReserved 67 = .ok (.iinc 4 1, 3) := by decide +kernel
theorem dX10_takeReserved_70 : decode cX10_takeReserved 70 = .ok (.goto (-59), 3) := by decide +kernel
theorem dX10_takeReserved_73 : decode cX10_takeReserved 73 = .ok (.aload_n 1, 1) := by decide +kernel
theorem dX10_takeReserved_74 : decode cX10_takeReserved 74 = .ok (.getfield 280, 3) := by decide +kernel
theorem dX10_takeReserved_77 : decode cX10_takeReserved 77 = .ok (.aload_n 1, 1) := by decide +kernel
theorem dX10_takeReserved_78 : decode cX10_takeReserved 78 = .ok (.getfield 308, 3) := by decide +kernel
theorem dX10_takeReserved_81 : decode cX10_takeReserved 81 = .ok (.putfield 284, 3) := by decide +kernel
theorem dX10_takeReserved_84 : decode cX10_takeReserved 84 = .ok (.return_, 1) := by decide +kernel
theorem dX10_sendOn_0 : decode cX10_sendOn 0 = .ok (.aload_n 1, 1) := by decide +kernel
theorem dX10_sendOn_1 : decode cX10_sendOn 1 = .ok (.getfield 242, 3) := by decide +kernel
theorem dX10_sendOn_4 : decode cX10_sendOn 4 = .ok (.aload_n 1, 1) := by decide +kernel
theorem dX10_sendOn_5 : decode cX10_sendOn 5 = .ok (.getfield 280, 3) := by decide +kernel
theorem dX10_sendOn_8 : decode cX10_sendOn 8 = .ok (.getfield 442, 3) := by decide +kernel
theorem dX10_sendOn_11 : decode cX10_sendOn 11 = .ok (.invokevirtual 445, 3) := by decide +kernel
theorem dX10_sendOn_14 : decode cX10_sendOn 14 = .ok (.astore_n 2, 1) := by decide +kernel
theorem dX10_sendOn_15 : decode cX10_sendOn 15 = .ok (.aload_n 2, 1) := by decide +kernel
theorem dX10_sendOn_16 : decode cX10_sendOn 16 = .ok (.ifnull 11, 3) := by decide +kernel
theorem dX10_sendOn_19 : decode cX10_sendOn 19 = .ok (.aload_n 0, 1) := by decide +kernel
theorem dX10_sendOn_20 : decode cX10_sendOn 20 = .ok (.aload_n 2, 1) := by decide +kernel
theorem dX10_sendOn_21 : decode cX10_sendOn 21 = .ok (.invokevirtual 449, 3) := by decide +kernel
theorem dX10_sendOn_24 : decode cX10_sendOn 24 = .ok (.goto 4, 3) := by decide +kernel
theorem dX10_sendOn_27 : decode cX10_sendOn 27 = .ok (.aconst_null, 1) := by decide +kernel
theorem dX10_sendOn_28 : decode cX10_sendOn 28 = .ok (.astore_n 3, 1) := by decide +kernel
theorem dX10_sendOn_29 : decode cX10_sendOn 29 = .ok (.aload_n 3, 1) := by decide +kernel
theorem dX10_sendOn_30 : decode cX10_sendOn 30 = .ok (.ifnull 9, 3) := by decide +kernel
theorem dX10_sendOn_33 : decode cX10_sendOn 33 = .ok (.aload_n 1, 1) := by decide +kernel
theorem dX10_sendOn_34 : decode cX10_sendOn 34 = .ok (.bipush 119, 2) := by decide +kernel
theorem dX10_sendOn_36 : decode cX10_sendOn 36 = .ok (.putfield 243, 3) := by decide +kernel
theorem dX10_sendOn_39 : decode cX10_sendOn 39 = .ok (.aload_n 1, 1) := by decide +kernel
theorem dX10_sendOn_40 : decode cX10_sendOn 40 = .ok (.getfield 280, 3) := by decide +kernel
theorem dX10_sendOn_43 : decode cX10_sendOn 43 = .ok (.aload_n 3, 1) := by decide +kernel
theorem dX10_sendOn_44 : decode cX10_sendOn 44 = .ok (.putfield 453, 3) := by decide +kernel
theorem dX10_sendOn_47 : decode cX10_sendOn 47 = .ok (.aload_n 3, 1) := by decide +kernel
theorem dX10_sendOn_48 : decode cX10_sendOn 48 = .ok (.areturn, 1) := by decide +kernel
theorem dX10_chooseMachine_0 : decode cX10_chooseMachine 0 = .ok (.aload_n 1, 1) := by decide +kernel
theorem dX10_chooseMachine_1 : decode cX10_chooseMachine 1 = .ok (.getfield 457, 3) := by decide +kernel
theorem dX10_chooseMachine_4 : decode cX10_chooseMachine 4 = .ok (.astore_n 2, 1) := by decide +kernel
theorem dX10_chooseMachine_5 : decode cX10_chooseMachine 5 = .ok (.aload_n 1, 1) := by decide +kernel
theorem dX10_chooseMachine_6 : decode cX10_chooseMachine 6 = .ok (.getfield 460, 3) := by decide +kernel
theorem dX10_chooseMachine_9 : decode cX10_chooseMachine 9 = .ok (.astore_n 3, 1) := by decide +kernel
theorem dX10_chooseMachine_10 : decode cX10_chooseMachine 10 = .ok (.aload_n 3, 1) := by decide +kernel
theorem dX10_chooseMachine_11 : decode cX10_chooseMachine 11 = .ok (.ifnull 20, 3) := by decide +kernel
theorem dX10_chooseMachine_14 : decode cX10_chooseMachine 14 = .ok (.aload_n 0, 1) := by decide +kernel
theorem dX10_chooseMachine_15 : decode cX10_chooseMachine 15 = .ok (.aload_n 3, 1) := by decide +kernel
theorem dX10_chooseMachine_16 : decode cX10_chooseMachine 16 = .ok (.invokevirtual 463, 3) := by decide +kernel
theorem dX10_chooseMachine_19 : decode cX10_chooseMachine 19 = .ok (.aload_n 0, 1) := by decide +kernel
theorem dX10_chooseMachine_20 : decode cX10_chooseMachine 20 = .ok (.aload_n 2, 1) := by decide +kernel
theorem dX10_chooseMachine_21 : decode cX10_chooseMachine 21 = .ok (.invokevirtual 463, 3) := by decide +kernel
theorem dX10_chooseMachine_24 : decode cX10_chooseMachine 24 = .ok (.if_icmp .ge 7, 3) := by decide +kernel
theorem dX10_chooseMachine_27 : decode cX10_chooseMachine 27 = .ok (.aload_n 3, 1) := by decide +kernel
theorem dX10_chooseMachine_28 : decode cX10_chooseMachine 28 = .ok (.goto 4, 3) := by decide +kernel
theorem dX10_chooseMachine_31 : decode cX10_chooseMachine 31 = .ok (.aload_n 2, 1) := by decide +kernel
theorem dX10_chooseMachine_32 : decode cX10_chooseMachine 32 = .ok (.areturn, 1) := by decide +kernel
theorem dX10_load_0 : decode cX10_load 0 = .ok (.aload_n 0, 1) := by decide +kernel
theorem dX10_load_1 : decode cX10_load 1 = .ok (.aload_n 1, 1) := by decide +kernel
theorem dX10_load_2 : decode cX10_load 2 = .ok (.invokevirtual 338, 3) := by decide +kernel
theorem dX10_load_5 : decode cX10_load 5 = .ok (.aload_n 1, 1) := by decide +kernel
theorem dX10_load_6 : decode cX10_load 6 = .ok (.getfield 466, 3) := by decide +kernel
theorem dX10_load_9 : decode cX10_load 9 = .ok (.ifnull 7, 3) := by decide +kernel
theorem dX10_load_12 : decode cX10_load 12 = .ok (.iconst 1, 1) := by decide +kernel
theorem dX10_load_13 : decode cX10_load 13 = .ok (.goto 4, 3) := by decide +kernel
theorem dX10_load_16 : decode cX10_load 16 = .ok (.iconst 0, 1) := by decide +kernel
theorem dX10_load_17 : decode cX10_load 17 = .ok (.iadd, 1) := by decide +kernel
theorem dX10_load_18 : decode cX10_load 18 = .ok (.ireturn, 1) := by decide +kernel
theorem dX10_countWaiting_0 : decode cX10_countWaiting 0 = .ok (.iconst 0, 1) := by decide +kernel
theorem dX10_countWaiting_1 : decode cX10_countWaiting 1 = .ok (.istore_n 2, 1) := by decide +kernel
theorem dX10_countWaiting_2 : decode cX10_countWaiting 2 = .ok (.aload_n 0, 1) := by decide +kernel
theorem dX10_countWaiting_3 : decode cX10_countWaiting 3 = .ok (.getfield 35, 3) := by decide +kernel
theorem dX10_countWaiting_6 : decode cX10_countWaiting 6 = .ok (.astore_n 3, 1) := by decide +kernel
theorem dX10_countWaiting_7 : decode cX10_countWaiting 7 = .ok (.aload_n 3, 1) := by decide +kernel
theorem dX10_countWaiting_8 : decode cX10_countWaiting 8 = .ok (.arraylength, 1) := by decide +kernel
theorem dX10_countWaiting_9 : decode cX10_countWaiting 9 = .ok (.istore 4, 2) := by decide +kernel
theorem dX10_countWaiting_11 : decode cX10_countWaiting 11 = .ok (.iconst 0, 1) := by decide +kernel
theorem dX10_countWaiting_12 : decode cX10_countWaiting 12 = .ok (.istore 5, 2) := by decide +kernel
theorem dX10_countWaiting_14 : decode cX10_countWaiting 14 = .ok (.iload 5, 2) := by decide +kernel
theorem dX10_countWaiting_16 : decode cX10_countWaiting 16 = .ok (.iload 4, 2) := by decide +kernel
theorem dX10_countWaiting_18 : decode cX10_countWaiting 18 = .ok (.if_icmp .ge 35, 3) := by decide +kernel
theorem dX10_countWaiting_21 : decode cX10_countWaiting 21 = .ok (.aload_n 3, 1) := by decide +kernel
theorem dX10_countWaiting_22 : decode cX10_countWaiting 22 = .ok (.iload 5, 2) := by decide +kernel
theorem dX10_countWaiting_24 : decode cX10_countWaiting 24 = .ok (.aaload, 1) := by decide +kernel
theorem dX10_countWaiting_25 : decode cX10_countWaiting 25 = .ok (.astore 6, 2) := by decide +kernel
theorem dX10_countWaiting_27 : decode cX10_countWaiting 27 = .ok (.aload 6, 2) := by decide +kernel
theorem dX10_countWaiting_29 : decode cX10_countWaiting 29 = .ok (.ifnull 18, 3) := by decide +kernel
theorem dX10_countWaiting_32 : decode cX10_countWaiting 32 = .ok (.aload 6, 2) := by decide +kernel
theorem dX10_countWaiting_34 : decode cX10_countWaiting 34 = .ok (.getfield 280, 3) := by decide +kernel
theorem dX10_countWaiting_37 : decode cX10_countWaiting 37 = .ok (.getfield 453, 3) := by decide +kernel
theorem dX10_countWaiting_40 : decode cX10_countWaiting 40 = .ok (.aload_n 1, 1) := by decide +kernel
theorem dX10_countWaiting_41 : decode cX10_countWaiting 41 = .ok (.if_acmp .ne 6, 3) := by decide +kernel
theorem dX10_countWaiting_44 : decode cX10_countWaiting 44 = .ok (.iinc 2 1, 3) := by decide +kernel
theorem dX10_countWaiting_47 : decode cX10_countWaiting 47 = .ok (.iinc 5 1, 3) := by decide +kernel
theorem dX10_countWaiting_50 : decode cX10_countWaiting 50 = .ok (.goto (-36), 3) := by decide +kernel
theorem dX10_countWaiting_53 : decode cX10_countWaiting 53 = .ok (.iload_n 2, 1) := by decide +kernel
theorem dX10_countWaiting_54 : decode cX10_countWaiting 54 = .ok (.ireturn, 1) := by decide +kernel
theorem dX10_firstWaiting_0 : decode cX10_firstWaiting 0 = .ok (.aconst_null, 1) := by decide +kernel
theorem dX10_firstWaiting_1 : decode cX10_firstWaiting 1 = .ok (.astore_n 2, 1) := by decide +kernel
theorem dX10_firstWaiting_2 : decode cX10_firstWaiting 2 = .ok (.aload_n 0, 1) := by decide +kernel
theorem dX10_firstWaiting_3 : decode cX10_firstWaiting 3 = .ok (.getfield 35, 3) := by decide +kernel
theorem dX10_firstWaiting_6 : decode cX10_firstWaiting 6 = .ok (.astore_n 3, 1) := by decide +kernel
theorem dX10_firstWaiting_7 : decode cX10_firstWaiting 7 = .ok (.aload_n 3, 1) := by decide +kernel
theorem dX10_firstWaiting_8 : decode cX10_firstWaiting 8 = .ok (.arraylength, 1) := by decide +kernel
theorem dX10_firstWaiting_9 : decode cX10_firstWaiting 9 = .ok (.istore 4, 2) := by decide +kernel
theorem dX10_firstWaiting_11 : decode cX10_firstWaiting 11 = .ok (.iconst 0, 1) := by decide +kernel
theorem dX10_firstWaiting_12 : decode cX10_firstWaiting 12 = .ok (.istore 5, 2) := by decide +kernel
theorem dX10_firstWaiting_14 : decode cX10_firstWaiting 14 = .ok (.iload 5, 2) := by decide +kernel
theorem dX10_firstWaiting_16 : decode cX10_firstWaiting 16 = .ok (.iload 4, 2) := by decide +kernel
theorem dX10_firstWaiting_18 : decode cX10_firstWaiting 18 = .ok (.if_icmp .ge 51, 3) := by decide +kernel
theorem dX10_firstWaiting_21 : decode cX10_firstWaiting 21 = .ok (.aload_n 3, 1) := by decide +kernel
theorem dX10_firstWaiting_22 : decode cX10_firstWaiting 22 = .ok (.iload 5, 2) := by decide +kernel
theorem dX10_firstWaiting_24 : decode cX10_firstWaiting 24 = .ok (.aaload, 1) := by decide +kernel
theorem dX10_firstWaiting_25 : decode cX10_firstWaiting 25 = .ok (.astore 6, 2) := by decide +kernel
theorem dX10_firstWaiting_27 : decode cX10_firstWaiting 27 = .ok (.aload 6, 2) := by decide +kernel
theorem dX10_firstWaiting_29 : decode cX10_firstWaiting 29 = .ok (.ifnull 34, 3) := by decide +kernel
theorem dX10_firstWaiting_32 : decode cX10_firstWaiting 32 = .ok (.aload 6, 2) := by decide +kernel
theorem dX10_firstWaiting_34 : decode cX10_firstWaiting 34 = .ok (.getfield 280, 3) := by decide +kernel
theorem dX10_firstWaiting_37 : decode cX10_firstWaiting 37 = .ok (.getfield 453, 3) := by decide +kernel
theorem dX10_firstWaiting_40 : decode cX10_firstWaiting 40 = .ok (.aload_n 1, 1) := by decide +kernel
theorem dX10_firstWaiting_41 : decode cX10_firstWaiting 41 = .ok (.if_acmp .ne 22, 3) := by decide +kernel
theorem dX10_firstWaiting_44 : decode cX10_firstWaiting 44 = .ok (.aload_n 2, 1) := by decide +kernel
theorem dX10_firstWaiting_45 : decode cX10_firstWaiting 45 = .ok (.ifnull 15, 3) := by decide +kernel
theorem dX10_firstWaiting_48 : decode cX10_firstWaiting 48 = .ok (.aload 6, 2) := by decide +kernel
theorem dX10_firstWaiting_50 : decode cX10_firstWaiting 50 = .ok (.getfield 358, 3) := by decide +kernel
theorem dX10_firstWaiting_53 : decode cX10_firstWaiting 53 = .ok (.aload_n 2, 1) := by decide +kernel
theorem dX10_firstWaiting_54 : decode cX10_firstWaiting 54 = .ok (.getfield 358, 3) := by decide +kernel
theorem dX10_firstWaiting_57 : decode cX10_firstWaiting 57 = .ok (.if_icmp .ge 6, 3) := by decide +kernel
theorem dX10_firstWaiting_60 : decode cX10_firstWaiting 60 = .ok (.aload 6, 2) := by decide +kernel
theorem dX10_firstWaiting_62 : decode cX10_firstWaiting 62 = .ok (.astore_n 2, 1) := by decide +kernel
theorem dX10_firstWaiting_63 : decode cX10_firstWaiting 63 = .ok (.iinc 5 1, 3) := by decide +kernel
theorem dX10_firstWaiting_66 : decode cX10_firstWaiting 66 = .ok (.goto (-52), 3) := by decide +kernel
theorem dX10_firstWaiting_69 : decode cX10_firstWaiting 69 = .ok (.aload_n 2, 1) := by decide +kernel
theorem dX10_firstWaiting_70 : decode cX10_firstWaiting 70 = .ok (.areturn, 1) := by decide +kernel
theorem dX10_passTime_0 : decode cX10_passTime 0 = .ok (.aload_n 0, 1) := by decide +kernel
theorem dX10_passTime_1 : decode cX10_passTime 1 = .ok (.dup, 1) := by decide +kernel
theorem dX10_passTime_2 : decode cX10_passTime 2 = .ok (.getfield 294, 3) := by decide +kernel
theorem dX10_passTime_5 : decode cX10_passTime 5 = .ok (.iconst 1, 1) := by decide +kernel
theorem dX10_passTime_6 : decode cX10_passTime 6 = .ok (.iadd, 1) := by decide +kernel
theorem dX10_passTime_7 : decode cX10_passTime 7 = .ok (.putfield 294, 3) := by decide +kernel
theorem dX10_passTime_10 : decode cX10_passTime 10 = .ok (.aload_n 0, 1) := by decide +kernel
theorem dX10_passTime_11 : decode cX10_passTime 11 = .ok (.getfield 11, 3) := by decide +kernel
theorem dX10_passTime_14 : decode cX10_passTime 14 = .ok (.astore_n 1, 1) := by decide +kernel
theorem dX10_passTime_15 : decode cX10_passTime 15 = .ok (.aload_n 1, 1) := by decide +kernel
theorem dX10_passTime_16 : decode cX10_passTime 16 = .ok (.arraylength, 1) := by decide +kernel
theorem dX10_passTime_17 : decode cX10_passTime 17 = .ok (.istore_n 2, 1) := by decide +kernel
theorem dX10_passTime_18 : decode cX10_passTime 18 = .ok (.iconst 0, 1) := by decide +kernel
theorem dX10_passTime_19 : decode cX10_passTime 19 = .ok (.istore_n 3, 1) := by decide +kernel
theorem dX10_passTime_20 : decode cX10_passTime 20 = .ok (.iload_n 3, 1) := by decide +kernel
theorem dX10_passTime_21 : decode cX10_passTime 21 = .ok (.iload_n 2, 1) := by decide +kernel
theorem dX10_passTime_22 : decode cX10_passTime 22 = .ok (.if_icmp .ge 37, 3) := by decide +kernel
theorem dX10_passTime_25 : decode cX10_passTime 25 = .ok (.aload_n 1, 1) := by decide +kernel
theorem dX10_passTime_26 : decode cX10_passTime 26 = .ok (.iload_n 3, 1) := by decide +kernel
theorem dX10_passTime_27 : decode cX10_passTime 27 = .ok (.aaload, 1) := by decide +kernel
theorem dX10_passTime_28 : decode cX10_passTime 28 = .ok (.astore 4, 2) := by decide +kernel
theorem dX10_passTime_30 : decode cX10_passTime 30 = .ok (.aload 4, 2) := by decide +kernel
theorem dX10_passTime_32 : decode cX10_passTime 32 = .ok (.ifnull 21, 3) := by decide +kernel
theorem dX10_passTime_35 : decode cX10_passTime 35 = .ok (.aload 4, 2) := by decide +kernel
theorem dX10_passTime_37 : decode cX10_passTime 37 = .ok (.getfield 470, 3) := by decide +kernel
theorem dX10_passTime_40 : decode cX10_passTime 40 = .ok (.aload_n 0, 1) := by decide +kernel
theorem dX10_passTime_41 : decode cX10_passTime 41 = .ok (.getfield 294, 3) := by decide +kernel
theorem dX10_passTime_44 : decode cX10_passTime 44 = .ok (.if_icmp .ne 9, 3) := by decide +kernel
theorem dX10_passTime_47 : decode cX10_passTime 47 = .ok (.aload_n 0, 1) := by decide +kernel
theorem dX10_passTime_48 : decode cX10_passTime 48 = .ok (.aload 4, 2) := by decide +kernel
theorem dX10_passTime_50 : decode cX10_passTime 50 = .ok (.invokevirtual 473, 3) := by decide +kernel
theorem dX10_passTime_53 : decode cX10_passTime 53 = .ok (.iinc 3 1, 3) := by decide +kernel
theorem dX10_passTime_56 : decode cX10_passTime 56 = .ok (.goto (-36), 3) := by decide +kernel
theorem dX10_passTime_59 : decode cX10_passTime 59 = .ok (.aload_n 0, 1) := by decide +kernel
theorem dX10_passTime_60 : decode cX10_passTime 60 = .ok (.getfield 11, 3) := by decide +kernel
theorem dX10_passTime_63 : decode cX10_passTime 63 = .ok (.astore_n 1, 1) := by decide +kernel
theorem dX10_passTime_64 : decode cX10_passTime 64 = .ok (.aload_n 1, 1) := by decide +kernel
theorem dX10_passTime_65 : decode cX10_passTime 65 = .ok (.arraylength, 1) := by decide +kernel
theorem dX10_passTime_66 : decode cX10_passTime 66 = .ok (.istore_n 2, 1) := by decide +kernel
theorem dX10_passTime_67 : decode cX10_passTime 67 = .ok (.iconst 0, 1) := by decide +kernel
theorem dX10_passTime_68 : decode cX10_passTime 68 = .ok (.istore_n 3, 1) := by decide +kernel
theorem dX10_passTime_69 : decode cX10_passTime 69 = .ok (.iload_n 3, 1) := by decide +kernel
theorem dX10_passTime_70 : decode cX10_passTime 70 = .ok (.iload_n 2, 1) := by decide +kernel
theorem dX10_passTime_71 : decode cX10_passTime 71 = .ok (.if_icmp .ge 25, 3) := by decide +kernel
theorem dX10_passTime_74 : decode cX10_passTime 74 = .ok (.aload_n 1, 1) := by decide +kernel
theorem dX10_passTime_75 : decode cX10_passTime 75 = .ok (.iload_n 3, 1) := by decide +kernel
theorem dX10_passTime_76 : decode cX10_passTime 76 = .ok (.aaload, 1) := by decide +kernel
theorem dX10_passTime_77 : decode cX10_passTime 77 = .ok (.astore 4, 2) := by decide +kernel
theorem dX10_passTime_79 : decode cX10_passTime 79 = .ok (.aload 4, 2) := by decide +kernel
theorem dX10_passTime_81 : decode cX10_passTime 81 = .ok (.ifnull 9, 3) := by decide +kernel
theorem dX10_passTime_84 : decode cX10_passTime 84 = .ok (.aload_n 0, 1) := by decide +kernel
theorem dX10_passTime_85 : decode cX10_passTime 85 = .ok (.aload 4, 2) := by decide +kernel
theorem dX10_passTime_87 : decode cX10_passTime 87 = .ok (.invokevirtual 271, 3) := by decide +kernel
theorem dX10_passTime_90 : decode cX10_passTime 90 = .ok (.iinc 3 1, 3) := by decide +kernel
theorem dX10_passTime_93 : decode cX10_passTime 93 = .ok (.goto (-24), 3) := by decide +kernel
theorem dX10_passTime_96 : decode cX10_passTime 96 = .ok (.return_, 1) := by decide +kernel
theorem dX10_beginNext_0 : decode cX10_beginNext 0 = .ok (.aload_n 1, 1) := by decide +kernel
theorem dX10_beginNext_1 : decode cX10_beginNext 1 = .ok (.getfield 334, 3) := by decide +kernel
theorem dX10_beginNext_4 : decode cX10_beginNext 4 = .ok (.bipush 45, 2) := by decide +kernel
theorem dX10_beginNext_6 : decode cX10_beginNext 6 = .ok (.if_icmp .ne 11, 3) := by decide +kernel
theorem dX10_beginNext_9 : decode cX10_beginNext 9 = .ok (.aload_n 0, 1) := by decide +kernel
theorem dX10_beginNext_10 : decode cX10_beginNext 10 = .ok (.aload_n 1, 1) := by decide +kernel
theorem dX10_beginNext_11 : decode cX10_beginNext 11 = .ok (.invokevirtual 476, 3) := by decide +kernel
theorem dX10_beginNext_14 : decode cX10_beginNext 14 = .ok (.goto 4, 3) := by decide +kernel
theorem dX10_beginNext_17 : decode cX10_beginNext 17 = .ok (.aconst_null, 1) := by decide +kernel
theorem dX10_beginNext_18 : decode cX10_beginNext 18 = .ok (.astore_n 2, 1) := by decide +kernel
theorem dX10_beginNext_19 : decode cX10_beginNext 19 = .ok (.aload_n 2, 1) := by decide +kernel
theorem dX10_beginNext_20 : decode cX10_beginNext 20 = .ok (.ifnonnull 4, 3) := by decide +kernel
theorem dX10_beginNext_23 : decode cX10_beginNext 23 = .ok (.return_, 1) := by decide +kernel
theorem dX10_beginNext_24 : decode cX10_beginNext 24 = .ok (.aload_n 2, 1) := by decide +kernel
theorem dX10_beginNext_25 : decode cX10_beginNext 25 = .ok (.getfield 242, 3) := by decide +kernel
theorem dX10_beginNext_28 : decode cX10_beginNext 28 = .ok (.aload_n 2, 1) := by decide +kernel
theorem dX10_beginNext_29 : decode cX10_beginNext 29 = .ok (.getfield 280, 3) := by decide +kernel
theorem dX10_beginNext_32 : decode cX10_beginNext 32 = .ok (.getfield 442, 3) := by decide +kernel
theorem dX10_beginNext_35 : decode cX10_beginNext 35 = .ok (.invokevirtual 445, 3) := by decide +kernel
theorem dX10_beginNext_38 : decode cX10_beginNext 38 = .ok (.astore_n 3, 1) := by decide +kernel
theorem dX10_beginNext_39 : decode cX10_beginNext 39 = .ok (.aload_n 3, 1) := by decide +kernel
theorem dX10_beginNext_40 : decode cX10_beginNext 40 = .ok (.ifnull 38, 3) := by decide +kernel
theorem dX10_beginNext_43 : decode cX10_beginNext 43 = .ok (.aload_n 1, 1) := by decide +kernel
theorem dX10_beginNext_44 : decode cX10_beginNext 44 = .ok (.aload_n 2, 1) := by decide +kernel
theorem dX10_beginNext_45 : decode cX10_beginNext 45 = .ok (.aload_n 3, 1) := by decide +kernel
theorem dX10_beginNext_46 : decode cX10_beginNext 46 = .ok (.getfield 480, 3) := by decide +kernel
theorem dX10_beginNext_49 : decode cX10_beginNext 49 = .ok (.aload_n 2, 1) := by decide +kernel
theorem dX10_beginNext_50 : decode cX10_beginNext 50 = .ok (.getfield 280, 3) := by decide +kernel
theorem dX10_beginNext_53 : decode cX10_beginNext 53 = .ok (.getfield 284, 3) := by decide +kernel
theorem dX10_beginNext_56 : decode cX10_beginNext 56 = .ok (.imul, 1) := by decide +kernel
theorem dX10_beginNext_57 : decode cX10_beginNext 57 = .ok (.aload_n 0, 1) := by decide +kernel
theorem dX10_beginNext_58 : decode cX10_beginNext 58 = .ok (.getfield 294, 3) := by decide +kernel
theorem dX10_beginNext_61 : decode cX10_beginNext 61 = .ok (.invokevirtual 483, 3) := by decide +kernel
theorem dX10_beginNext_64 : decode cX10_beginNext 64 = .ok (.aload_n 2, 1) := by decide +kernel
theorem dX10_beginNext_65 : decode cX10_beginNext 65 = .ok (.bipush 111, 2) := by decide +kernel
theorem dX10_beginNext_67 : decode cX10_beginNext 67 = .ok (.putfield 243, 3) := by decide +kernel
theorem dX10_beginNext_70 : decode cX10_beginNext 70 = .ok (.aload_n 2, 1) := by decide +kernel
theorem dX10_beginNext_71 : decode cX10_beginNext 71 = .ok (.getfield 280, 3) := by decide +kernel
theorem dX10_beginNext_74 : decode cX10_beginNext 74 = .ok (.aconst_null, 1) := by decide +kernel
theorem dX10_beginNext_75 : decode cX10_beginNext 75 = .ok (.putfield 453, 3) := by decide +kernel
theorem dX10_beginNext_78 : decode cX10_beginNext 78 = .ok (.return_, 1) := by decide +kernel
theorem dX10_endWork_0 : decode cX10_endWork 0 = .ok (.aload_n 1, 1) := by decide +kernel
theorem dX10_endWork_1 : decode cX10_endWork 1 = .ok (.getfield 466, 3) := by decide +kernel
theorem dX10_endWork_4 : decode cX10_endWork 4 = .ok (.astore_n 2, 1) := by decide +kernel
theorem dX10_endWork_5 : decode cX10_endWork 5 = .ok (.aload_n 2, 1) := by decide +kernel
theorem dX10_endWork_6 : decode cX10_endWork 6 = .ok (.ifnonnull 10, 3) := by decide +kernel
theorem dX10_endWork_9 : decode cX10_endWork 9 = .ok (.aload_n 1, 1) := by decide +kernel
theorem dX10_endWork_10 : decode cX10_endWork 10 = .ok (.bipush 45, 2) := by decide +kernel
theorem dX10_endWork_12 : decode cX10_endWork 12 = .ok (.putfield 334, 3) := by decide +kernel
theorem dX10_endWork_15 : decode cX10_endWork 15 = .ok (.return_, 1) := by decide +kernel
theorem dX10_endWork_16 : decode cX10_endWork 16 = .ok (.aload_n 2, 1) := by decide +kernel
theorem dX10_endWork_17 : decode cX10_endWork 17 = .ok (.getfield 280, 3) := by decide +kernel
theorem dX10_endWork_20 : decode cX10_endWork 20 = .ok (.astore_n 3, 1) := by decide +kernel
theorem dX10_endWork_21 : decode cX10_endWork 21 = .ok (.aload_n 0, 1) := by decide +kernel
theorem dX10_endWork_22 : decode cX10_endWork 22 = .ok (.getfield 294, 3) := by decide +kernel
theorem dX10_endWork_25 : decode cX10_endWork 25 = .ok (.aload_n 1, 1) := by decide +kernel
theorem dX10_endWork_26 : decode cX10_endWork 26 = .ok (.getfield 486, 3) := by decide +kernel
theorem dX10_endWork_29 : decode cX10_endWork 29 = .ok (.isub, 1) := by decide +kernel
theorem dX10_endWork_30 : decode cX10_endWork 30 = .ok (.i2l, 1) := by decide +kernel
theorem dX10_endWork_31 : decode cX10_endWork 31 = .ok (.aload_n 1, 1) := by decide +kernel
theorem dX10_endWork_32 : decode cX10_endWork 32 = .ok (.getfield 489, 3) := by decide +kernel
theorem dX10_endWork_35 : decode cX10_endWork 35 = .ok (.i2l, 1) := by decide +kernel
theorem dX10_endWork_36 : decode cX10_endWork 36 = .ok (.lmul, 1) := by decide +kernel
theorem dX10_endWork_37 : decode cX10_endWork 37 = .ok (.lstore 4, 2) := by decide +kernel
theorem dX10_endWork_39 : decode cX10_endWork 39 = .ok (.aload_n 0, 1) := by decide +kernel
theorem dX10_endWork_40 : decode cX10_endWork 40 = .ok (.dup, 1) := by decide +kernel
theorem dX10_endWork_41 : decode cX10_endWork 41 = .ok (.getfield 145, 3) := by decide +kernel
theorem dX10_endWork_44 : decode cX10_endWork 44 = .ok (.lload 4, 2) := by decide +kernel
theorem dX10_endWork_46 : decode cX10_endWork 46 = .ok (.ladd, 1) := by decide +kernel
theorem dX10_endWork_47 : decode cX10_endWork 47 = .ok (.putfield 145, 3) := by decide +kernel
theorem dX10_endWork_50 : decode cX10_endWork 50 = .ok (.aload_n 3, 1) := by decide +kernel
theorem dX10_endWork_51 : decode cX10_endWork 51 = .ok (.dup, 1) := by decide +kernel
theorem dX10_endWork_52 : decode cX10_endWork 52 = .ok (.getfield 437, 3) := by decide +kernel
theorem dX10_endWork_55 : decode cX10_endWork 55 = .ok (.lload 4, 2) := by decide +kernel
theorem dX10_endWork_57 : decode cX10_endWork 57 = .ok (.ladd, 1) := by decide +kernel
theorem dX10_endWork_58 : decode cX10_endWork 58 = .ok (.putfield 437, 3) := by decide +kernel
theorem dX10_endWork_61 : decode cX10_endWork 61 = .ok (.aload_n 3, 1) := by decide +kernel
theorem dX10_endWork_62 : decode cX10_endWork 62 = .ok (.dup, 1) := by decide +kernel
theorem dX10_endWork_63 : decode cX10_endWork 63 = .ok (.getfield 442, 3) := by decide +kernel
theorem dX10_endWork_66 : decode cX10_endWork 66 = .ok (.iconst 1, 1) := by decide +kernel
theorem dX10_endWork_67 : decode cX10_endWork 67 = .ok (.iadd, 1) := by decide +kernel
theorem dX10_endWork_68 : decode cX10_endWork 68 = .ok (.putfield 442, 3) := by decide +kernel
theorem dX10_endWork_71 : decode cX10_endWork 71 = .ok (.aload_n 1, 1) := by decide +kernel
theorem dX10_endWork_72 : decode cX10_endWork 72 = .ok (.aload_n 3, 1) := by decide +kernel
theorem dX10_endWork_73 : decode cX10_endWork 73 = .ok (.getfield 284, 3) := by decide +kernel
theorem dX10_endWork_76 : decode cX10_endWork 76 = .ok (.aload_n 0, 1) := by decide +kernel
theorem dX10_endWork_77 : decode cX10_endWork 77 = .ok (.getfield 294, 3) := by decide +kernel
theorem dX10_endWork_80 : decode cX10_endWork 80 = .ok (.invokevirtual 492, 3) := by decide +kernel
theorem dX10_endWork_83 : decode cX10_endWork 83 = .ok (.aload_n 0, 1) := by decide +kernel
theorem dX10_endWork_84 : decode cX10_endWork 84 = .ok (.aload_n 2, 1) := by decide +kernel
theorem dX10_endWork_85 : decode cX10_endWork 85 = .ok (.invokevirtual 264, 3) := by decide +kernel
theorem dX10_endWork_88 : decode cX10_endWork 88 = .ok (.ifnonnull 8, 3) := by decide +kernel
theorem dX10_endWork_91 : decode cX10_endWork 91 = .ok (.aload_n 0, 1) := by decide +kernel
theorem dX10_endWork_92 : decode cX10_endWork 92 = .ok (.aload_n 2, 1) := by decide +kernel
theorem dX10_endWork_93 : decode cX10_endWork 93 = .ok (.invokevirtual 268, 3) := by decide +kernel
theorem dX10_endWork_96 : decode cX10_endWork 96 = .ok (.return_, 1) := by decide +kernel
theorem dX10_finish_0 : decode cX10_finish 0 = .ok (.aload_n 1, 1) := by decide +kernel
theorem dX10_finish_1 : decode cX10_finish 1 = .ok (.getfield 280, 3) := by decide +kernel
theorem dX10_finish_4 : decode cX10_finish 4 = .ok (.astore_n 2, 1) := by decide +kernel
theorem dX10_finish_5 : decode cX10_finish 5 = .ok (.aload_n 1, 1) := by decide +kernel
theorem dX10_finish_6 : decode cX10_finish 6 = .ok (.bipush 102, 2) := by decide +kernel
theorem dX10_finish_8 : decode cX10_finish 8 = .ok (.putfield 243, 3) := by decide +kernel
theorem dX10_finish_11 : decode cX10_finish 11 = .ok (.aload_n 2, 1) := by decide +kernel
theorem dX10_finish_12 : decode cX10_finish 12 = .ok (.aload_n 0, 1) := by decide +kernel
theorem dX10_finish_13 : decode cX10_finish 13 = .ok (.getfield 294, 3) := by decide +kernel
theorem dX10_finish_16 : decode cX10_finish 16 = .ok (.putfield 329, 3) := by decide +kernel
theorem dX10_finish_19 : decode cX10_finish 19 = .ok (.aload_n 2, 1) := by decide +kernel
theorem dX10_finish_20 : decode cX10_finish 20 = .ok (.getfield 284, 3) := by decide +kernel
theorem dX10_finish_23 : decode cX10_finish 23 = .ok (.ifCond .ne 19, 3) := by decide +kernel
theorem dX10_finish_26 : decode cX10_finish 26 = .ok (.aload_n 0, 1) := by decide +kernel
theorem dX10_finish_27 : decode cX10_finish 27 = .ok (.dup, 1) := by decide +kernel
theorem dX10_finish_28 : decode cX10_finish 28 = .ok (.getfield 495, 3) := by decide +kernel
theorem dX10_finish_31 : decode cX10_finish 31 = .ok (.aload_n 2, 1) := by decide +kernel
theorem dX10_finish_32 : decode cX10_finish 32 = .ok (.getfield 437, 3) := by decide +kernel
theorem dX10_finish_35 : decode cX10_finish 35 = .ok (.ladd, 1) := by decide +kernel
theorem dX10_finish_36 : decode cX10_finish 36 = .ok (.putfield 495, 3) := by decide +kernel
theorem dX10_finish_39 : decode cX10_finish 39 = .ok (.goto 32, 3) := by decide +kernel
theorem dX10_finish_42 : decode cX10_finish 42 = .ok (.aload_n 2, 1) := by decide +kernel
theorem dX10_finish_43 : decode cX10_finish 43 = .ok (.aload_n 0, 1) := by decide +kernel
theorem dX10_finish_44 : decode cX10_finish 44 = .ok (.aload_n 1, 1) := by decide +kernel
theorem dX10_finish_45 : decode cX10_finish 45 = .ok (.getfield 242, 3) := by decide +kernel
theorem dX10_finish_48 : decode cX10_finish 48 = .ok (.aload_n 2, 1) := by decide +kernel
theorem dX10_finish_49 : decode cX10_finish 49 = .ok (.getfield 284, 3) := by decide +kernel
theorem dX10_finish_52 : decode cX10_finish 52 = .ok (.aload_n 2, 1) := by decide +kernel
theorem dX10_finish_53 : decode cX10_finish 53 = .ok (.getfield 437, 3) := by decide +kernel
theorem dX10_finish_56 : decode cX10_finish 56 = .ok (.invokevirtual 149, 3) := by decide +kernel
theorem dX10_finish_59 : decode cX10_finish 59 = .ok (.putfield 320, 3) := by decide +kernel
theorem dX10_finish_62 : decode cX10_finish 62 = .ok (.aload_n 0, 1) := by decide +kernel
theorem dX10_finish_63 : decode cX10_finish 63 = .ok (.aload_n 1, 1) := by decide +kernel
theorem dX10_finish_64 : decode cX10_finish 64 = .ok (.aload_n 2, 1) := by decide +kernel
theorem dX10_finish_65 : decode cX10_finish 65 = .ok (.getfield 320, 3) := by decide +kernel
theorem dX10_finish_68 : decode cX10_finish 68 = .ok (.invokevirtual 498, 3) := by decide +kernel
theorem dX10_finish_71 : decode cX10_finish 71 = .ok (.aload_n 2, 1) := by decide +kernel
theorem dX10_finish_72 : decode cX10_finish 72 = .ok (.lconst 0, 1) := by decide +kernel
theorem dX10_finish_73 : decode cX10_finish 73 = .ok (.putfield 437, 3) := by decide +kernel
theorem dX10_finish_76 : decode cX10_finish 76 = .ok (.return_, 1) := by decide +kernel
theorem dX10_noteSources_0 : decode cX10_noteSources 0 = .ok (.aload_n 0, 1) := by decide +kernel
theorem dX10_noteSources_1 : decode cX10_noteSources 1 = .ok (.getfield 29, 3) := by decide +kernel
theorem dX10_noteSources_4 : decode cX10_noteSources 4 = .ok (.astore_n 3, 1) := by decide +kernel
theorem dX10_noteSources_5 : decode cX10_noteSources 5 = .ok (.aload_n 3, 1) := by decide +kernel
theorem dX10_noteSources_6 : decode cX10_noteSources 6 = .ok (.arraylength, 1) := by decide +kernel
theorem dX10_noteSources_7 : decode cX10_noteSources 7 = .ok (.istore 4, 2) := by decide +kernel
theorem dX10_noteSources_9 : decode cX10_noteSources 9 = .ok (.iconst 0, 1) := by decide +kernel
theorem dX10_noteSources_10 : decode cX10_noteSources 10 = .ok (.istore 5, 2) := by decide +kernel
theorem dX10_noteSources_12 : decode cX10_noteSources 12 = .ok (.iload 5, 2) := by decide +kernel
theorem dX10_noteSources_14 : decode cX10_noteSources 14 = .ok (.iload 4, 2) := by decide +kernel
theorem dX10_noteSources_16 : decode cX10_noteSources 16 = .ok (.if_icmp .ge 38, 3) := by decide +kernel
theorem dX10_noteSources_19 : decode cX10_noteSources 19 = .ok (.aload_n 3, 1) := by decide +kernel
theorem dX10_noteSources_20 : decode cX10_noteSources 20 = .ok (.iload 5, 2) := by decide +kernel
theorem dX10_noteSources_22 : decode cX10_noteSources 22 = .ok (.aaload, 1) := by decide +kernel
theorem dX10_noteSources_23 : decode cX10_noteSources 23 = .ok (.astore 6, 2) := by decide +kernel
theorem dX10_noteSources_25 : decode cX10_noteSources 25 = .ok (.aload 6, 2) := by decide +kernel
theorem dX10_noteSources_27 : decode cX10_noteSources 27 = .ok (.ifnull 21, 3) := by decide +kernel
theorem dX10_noteSources_30 : decode cX10_noteSources 30 = .ok (.aload_n 1, 1) := by decide +kernel
theorem dX10_noteSources_31 : decode cX10_noteSources 31 = .ok (.aload 6, 2) := by decide +kernel
theorem dX10_noteSources_33 : decode cX10_noteSources 33 = .ok (.invokevirtual 405, 3) := by decide +kernel
theorem dX10_noteSources_36 : decode cX10_noteSources 36 = .ok (.ifCond .le 12, 3) := by decide +kernel
theorem dX10_noteSources_39 : decode cX10_noteSources 39 = .ok (.aload_n 2, 1) := by decide +kernel
theorem dX10_noteSources_40 : decode cX10_noteSources 40 = .ok (.getfield 342, 3) := by decide +kernel
theorem dX10_noteSources_43 : decode cX10_noteSources 43 = .ok (.aload 6, 2) := by decide +kernel
theorem dX10_noteSources_45 : decode cX10_noteSources 45 = .ok (.invokevirtual 502, 3) := by decide +kernel
theorem dX10_noteSources_48 : decode cX10_noteSources 48 = .ok (.iinc 5 1, 3) := by decide +kernel
theorem dX10_noteSources_51 : decode cX10_noteSources 51 = .ok (.goto (-39), 3) := by decide +kernel
theorem dX10_noteSources_54 : decode cX10_noteSources 54 = .ok (.aload_n 0, 1) := by decide +kernel
theorem dX10_noteSources_55 : decode cX10_noteSources 55 = .ok (.getfield 29, 3) := by decide +kernel
theorem dX10_noteSources_58 : decode cX10_noteSources 58 = .ok (.astore_n 3, 1) := by decide +kernel
theorem dX10_noteSources_59 : decode cX10_noteSources 59 = .ok (.aload_n 3, 1) := by decide +kernel
theorem dX10_noteSources_60 : decode cX10_noteSources 60 = .ok (.arraylength, 1) := by decide +kernel
theorem dX10_noteSources_61 : decode cX10_noteSources 61 = .ok (.istore 4, 2) := by decide +kernel
theorem dX10_noteSources_63 : decode cX10_noteSources 63 = .ok (.iconst 0, 1) := by decide +kernel
theorem dX10_noteSources_64 : decode cX10_noteSources 64 = .ok (.istore 5, 2) := by decide +kernel
theorem dX10_noteSources_66 : decode cX10_noteSources 66 = .ok (.iload 5, 2) := by decide +kernel
theorem dX10_noteSources_68 : decode cX10_noteSources 68 = .ok (.iload 4, 2) := by decide +kernel
theorem dX10_noteSources_70 : decode cX10_noteSources 70 = .ok (.if_icmp .ge 47, 3) := by decide +kernel
theorem dX10_noteSources_73 : decode cX10_noteSources 73 = .ok (.aload_n 3, 1) := by decide +kernel
theorem dX10_noteSources_74 : decode cX10_noteSources 74 = .ok (.iload 5, 2) := by decide +kernel
theorem dX10_noteSources_76 : decode cX10_noteSources 76 = .ok (.aaload, 1) := by decide +kernel
theorem dX10_noteSources_77 : decode cX10_noteSources 77 = .ok (.astore 6, 2) := by decide +kernel
theorem dX10_noteSources_79 : decode cX10_noteSources 79 = .ok (.aload 6, 2) := by decide +kernel
theorem dX10_noteSources_81 : decode cX10_noteSources 81 = .ok (.ifnull 30, 3) := by decide +kernel
theorem dX10_noteSources_84 : decode cX10_noteSources 84 = .ok (.aload_n 2, 1) := by decide +kernel
theorem dX10_noteSources_85 : decode cX10_noteSources 85 = .ok (.getfield 342, 3) := by decide +kernel
theorem dX10_noteSources_88 : decode cX10_noteSources 88 = .ok (.aload 6, 2) := by decide +kernel
theorem dX10_noteSources_90 : decode cX10_noteSources 90 = .ok (.getfield 157, 3) := by decide +kernel
theorem dX10_noteSources_93 : decode cX10_noteSources 93 = .ok (.invokevirtual 212, 3) := by decide +kernel
theorem dX10_noteSources_96 : decode cX10_noteSources 96 = .ok (.ifCond .eq 15, 3) := by decide +kernel
theorem dX10_noteSources_99 : decode cX10_noteSources 99 = .ok (.aload 6, 2) := by decide +kernel
theorem dX10_noteSources_101 : decode cX10_noteSources 101 = .ok (.getfield 506, 3) := by decide +kernel
theorem dX10_noteSources_104 : decode cX10_noteSources 104 = .ok (.aload_n 2, 1) := by decide +kernel
theorem dX10_noteSources_105 : decode cX10_noteSources 105 = .ok (.getfield 157, 3) := by decide +kernel
theorem dX10_noteSources_108 : decode cX10_noteSources 108 = .ok (.invokevirtual 160, 3) := by decide +kernel
theorem dX10_noteSources_111 : decode cX10_noteSources 111 = .ok (.iinc 5 1, 3) := by decide +kernel
theorem dX10_noteSources_114 : decode cX10_noteSources 114 = .ok (.goto (-48), 3) := by decide +kernel
theorem dX10_noteSources_117 : decode cX10_noteSources 117 = .ok (.return_, 1) := by decide +kernel
theorem dX10_takeForDelivery_0 : decode cX10_takeForDelivery 0 = .ok (.aload_n 1, 1) := by decide +kernel
theorem dX10_takeForDelivery_1 : decode cX10_takeForDelivery 1 = .ok (.getfield 308, 3) := by decide +kernel
theorem dX10_takeForDelivery_4 : decode cX10_takeForDelivery 4 = .ok (.istore_n 2, 1) := by decide +kernel
theorem dX10_takeForDelivery_5 : decode cX10_takeForDelivery 5 = .ok (.aload_n 1, 1) := by decide +kernel
theorem dX10_takeForDelivery_6 : decode cX10_takeForDelivery 6 = .ok (.getfield 280, 3) := by decide +kernel
theorem dX10_takeForDelivery_9 : decode cX10_takeForDelivery 9 = .ok (.getfield 320, 3) := by decide +kernel
theorem dX10_takeForDelivery_12 : decode cX10_takeForDelivery 12 = .ok (.astore_n 3, 1) := by decide +kernel
theorem dX10_takeForDelivery_13 : decode cX10_takeForDelivery 13 = .ok (.aload_n 3, 1) := by decide +kernel
theorem dX10_takeForDelivery_14 : decode cX10_takeForDelivery 14 = .ok (.ifnull 13, 3) := by decide +kernel
theorem dX10_takeForDelivery_17 : decode cX10_takeForDelivery 17 = .ok (.iload_n 2, 1) := by decide +kernel
theorem dX10_takeForDelivery_18 : decode cX10_takeForDelivery 18 = .ok (.aload_n 0, 1) := by decide +kernel
theorem dX10_takeForDelivery_19 : decode cX10_takeForDelivery 19 = .ok (.aload_n 3, 1) := by decide +kernel
theorem dX10_takeForDelivery_20 : decode cX10_takeForDelivery 20 = .ok (.iload_n 2, 1) := by decide +kernel
theorem dX10_takeForDelivery_21 : decode cX10_takeForDelivery 21 = .ok (.aload_n 1, 1) := by decide +kernel
theorem dX10_takeForDelivery_22 : decode cX10_takeForDelivery 22 = .ok (.invokevirtual 509, 3) := by decide +kernel
theorem dX10_takeForDelivery_25 : decode cX10_takeForDelivery 25 = .ok (.isub, 1) := by decide +kernel
theorem dX10_takeForDelivery_26 : decode cX10_takeForDelivery 26 = .ok (.istore_n 2, 1) := by decide +kernel
theorem dX10_takeForDelivery_27 : decode cX10_takeForDelivery 27 = .ok (.aload_n 0, 1) := by decide +kernel
theorem dX10_takeForDelivery_28 : decode cX10_takeForDelivery 28 = .ok (.getfield 29, 3) := by decide +kernel
theorem dX10_takeForDelivery_31 : decode cX10_takeForDelivery 31 = .ok (.astore 4, 2) := by decide +kernel
theorem dX10_takeForDelivery_33 : decode cX10_takeForDelivery 33 = .ok (.aload 4, 2) := by decide +kernel
theorem dX10_takeForDelivery_35 : decode cX10_takeForDelivery 35 = .ok (.arraylength, 1) := by decide +kernel
theorem dX10_takeForDelivery_36 : decode cX10_takeForDelivery 36 = .ok (.istore 5, 2) := by decide +kernel
theorem dX10_takeForDelivery_38 : decode cX10_takeForDelivery 38 = .ok (.iconst 0, 1) := by decide +kernel
theorem dX10_takeForDelivery_39 : decode cX10_takeForDelivery 39 = .ok (.istore 6, 2) := by decide +kernel
theorem dX10_takeForDelivery_41 : decode cX10_takeForDelivery 41 = .ok (.iload 6, 2) := by decide +kernel
theorem dX10_takeForDelivery_43 : decode cX10_takeForDelivery 43 = .ok (.iload 5, 2) := by decide +kernel
theorem dX10_takeForDelivery_45 : decode cX10_takeForDelivery 45 = .ok (.if_icmp .ge 44, 3) := by decide +kernel
theorem dX10_takeForDelivery_48 : decode cX10_takeForDelivery 48 = .ok (.aload 4, 2) := by decide +kernel
theorem dX10_takeForDelivery_50 : decode cX10_takeForDelivery 50 = .ok (.iload 6, 2) := by decide +kernel
theorem dX10_takeForDelivery_52 : decode cX10_takeForDelivery 52 = .ok (.aaload, 1) := by decide +kernel
theorem dX10_takeForDelivery_53 : decode cX10_takeForDelivery 53 = .ok (.astore 7, 2) := by decide +kernel
theorem dX10_takeForDelivery_55 : decode cX10_takeForDelivery 55 = .ok (.aload 7, 2) := by decide +kernel
theorem dX10_takeForDelivery_57 : decode cX10_takeForDelivery 57 = .ok (.ifnull 26, 3) := by decide +kernel
theorem dX10_takeForDelivery_60 : decode cX10_takeForDelivery 60 = .ok (.aload 7, 2) := by decide +kernel
theorem dX10_takeForDelivery_62 : decode cX10_takeForDelivery 62 = .ok (.getfield 205, 3) := by decide +kernel
theorem dX10_takeForDelivery_65 : decode cX10_takeForDelivery 65 = .ok (.aload_n 1, 1) := by decide +kernel
theorem dX10_takeForDelivery_66 : decode cX10_takeForDelivery 66 = .ok (.getfield 242, 3) := by decide +kernel
theorem dX10_takeForDelivery_69 : decode cX10_takeForDelivery 69 = .ok (.if_acmp .ne 14, 3) := by decide +kernel
theorem dX10_takeForDelivery_72 : decode cX10_takeForDelivery 72 = .ok (.iload_n 2, 1) := by decide +kernel
theorem dX10_takeForDelivery_73 : decode cX10_takeForDelivery 73 = .ok (.aload_n 0, 1) := by decide +kernel
theorem dX10_takeForDelivery_74 : decode cX10_takeForDelivery 74 = .ok (.aload 7, 2) := by decide +kernel
theorem dX10_takeForDelivery_76 : decode cX10_takeForDelivery 76 = .ok (.iload_n 2, 1) := by decide +kernel
theorem dX10_takeForDelivery_77 : decode cX10_takeForDelivery 77 = .ok (.aload_n 1, 1) := by decide +kernel
theorem dX10_takeForDelivery_78 : decode cX10_takeForDelivery 78 = .ok (.invokevirtual 509, 3) := by decide +kernel
theorem dX10_takeForDelivery_81 : decode cX10_takeForDelivery 81 = .ok (.isub, 1) := by decide +kernel
theorem dX10_takeForDelivery_82 : decode cX10_takeForDelivery 82 = .ok (.istore_n 2, 1) := by decide +kernel
theorem dX10_takeForDelivery_83 : decode cX10_takeForDelivery 83 = .ok (.iinc 6 1, 3) := by decide +kernel
theorem dX10_takeForDelivery_86 : decode cX10_takeForDelivery 86 = .ok (.goto (-45), 3) := by decide +kernel
theorem dX10_takeForDelivery_89 : decode cX10_takeForDelivery 89 = .ok (.return_, 1) := by decide +kernel
theorem dX10_deliverOf_0 : decode cX10_deliverOf 0 = .ok (.iload_n 2, 1) := by decide +kernel
theorem dX10_deliverOf_1 : decode cX10_deliverOf 1 = .ok (.aload_n 0, 1) := by decide +kernel
theorem dX10_deliverOf_2 : decode cX10_deliverOf 2 = .ok (.aload_n 1, 1) := by decide +kernel
theorem dX10_deliverOf_3 : decode cX10_deliverOf 3 = .ok (.invokevirtual 408, 3) := by decide +kernel
theorem dX10_deliverOf_6 : decode cX10_deliverOf 6 = .ok (.invokestatic 427, 3) := by decide +kernel
theorem dX10_deliverOf_9 : decode cX10_deliverOf 9 = .ok (.istore 4, 2) := by decide +kernel
theorem dX10_deliverOf_11 : decode cX10_deliverOf 11 = .ok (.iload 4, 2) := by decide +kernel
theorem dX10_deliverOf_13 : decode cX10_deliverOf 13 = .ok (.ifCond .gt 5, 3) := by decide +kernel
theorem dX10_deliverOf_16 : decode cX10_deliverOf 16 = .ok (.iconst 0, 1) := by decide +kernel
theorem dX10_deliverOf_17 : decode cX10_deliverOf 17 = .ok (.ireturn, 1) := by decide +kernel
theorem dX10_deliverOf_18 : decode cX10_deliverOf 18 = .ok (.aload_n 3, 1) := by decide +kernel
theorem dX10_deliverOf_19 : decode cX10_deliverOf 19 = .ok (.dup, 1) := by decide +kernel
theorem dX10_deliverOf_20 : decode cX10_deliverOf 20 = .ok (.getfield 355, 3) := by decide +kernel
theorem dX10_deliverOf_23 : decode cX10_deliverOf 23 = .ok (.aload_n 1, 1) := by decide +kernel
theorem dX10_deliverOf_24 : decode cX10_deliverOf 24 = .ok (.iload 4, 2) := by decide +kernel
theorem dX10_deliverOf_26 : decode cX10_deliverOf 26 = .ok (.invokevirtual 438, 3) := by decide +kernel
theorem dX10_deliverOf_29 : decode cX10_deliverOf 29 = .ok (.ladd, 1) := by decide +kernel
theorem dX10_deliverOf_30 : decode cX10_deliverOf 30 = .ok (.putfield 355, 3) := by decide +kernel
theorem dX10_deliverOf_33 : decode cX10_deliverOf 33 = .ok (.aload_n 3, 1) := by decide +kernel
theorem dX10_deliverOf_34 : decode cX10_deliverOf 34 = .ok (.dup, 1) := by decide +kernel
theorem dX10_deliverOf_35 : decode cX10_deliverOf 35 = .ok (.getfield 513, 3) := by decide +kernel
theorem dX10_deliverOf_38 : decode cX10_deliverOf 38 = .ok (.iload 4, 2) := by decide +kernel
theorem dX10_deliverOf_40 : decode cX10_deliverOf 40 = .ok (.iadd, 1) := by decide +kernel
theorem dX10_deliverOf_41 : decode cX10_deliverOf 41 = .ok (.putfield 513, 3) := by decide +kernel
theorem dX10_deliverOf_44 : decode cX10_deliverOf 44 = .ok (.aload_n 3, 1) := by decide +kernel
theorem dX10_deliverOf_45 : decode cX10_deliverOf 45 = .ok (.getfield 352, 3) := by decide +kernel
theorem dX10_deliverOf_48 : decode cX10_deliverOf 48 = .ok (.aload_n 1, 1) := by decide +kernel
theorem dX10_deliverOf_49 : decode cX10_deliverOf 49 = .ok (.invokevirtual 502, 3) := by decide +kernel
theorem dX10_deliverOf_52 : decode cX10_deliverOf 52 = .ok (.aload_n 1, 1) := by decide +kernel
theorem dX10_deliverOf_53 : decode cX10_deliverOf 53 = .ok (.dup, 1) := by decide +kernel
theorem dX10_deliverOf_54 : decode cX10_deliverOf 54 = .ok (.getfield 516, 3) := by decide +kernel
theorem dX10_deliverOf_57 : decode cX10_deliverOf 57 = .ok (.iload 4, 2) := by decide +kernel
theorem dX10_deliverOf_59 : decode cX10_deliverOf 59 = .ok (.iadd, 1) := by decide +kernel
theorem dX10_deliverOf_60 : decode cX10_deliverOf 60 = .ok (.putfield 516, 3) := by decide +kernel
theorem dX10_deliverOf_63 : decode cX10_deliverOf 63 = .ok (.iload 4, 2) := by decide +kernel
theorem dX10_deliverOf_65 : decode cX10_deliverOf 65 = .ok (.ireturn, 1) := by decide +kernel
theorem dX10_noteOrderOnLots_0 : decode cX10_noteOrderOnLots 0 = .ok (.aload_n 0, 1) := by decide +kernel
theorem dX10_noteOrderOnLots_1 : decode cX10_noteOrderOnLots 1 = .ok (.getfield 29, 3) := by decide +kernel
theorem dX10_noteOrderOnLots_4 : decode cX10_noteOrderOnLots 4 = .ok (.astore_n 2, 1) := by decide +kernel
theorem dX10_noteOrderOnLots_5 : decode cX10_noteOrderOnLots 5 = .ok (.aload_n 2, 1) := by decide +kernel
theorem dX10_noteOrderOnLots_6 : decode cX10_noteOrderOnLots 6 = .ok (.arraylength, 1) := by decide +kernel
theorem dX10_noteOrderOnLots_7 : decode cX10_noteOrderOnLots 7 = .ok (.istore_n 3, 1) := by decide +kernel
theorem dX10_noteOrderOnLots_8 : decode cX10_noteOrderOnLots 8 = .ok (.iconst 0, 1) := by decide +kernel
theorem dX10_noteOrderOnLots_9 : decode cX10_noteOrderOnLots 9 = .ok (.istore 4, 2) := by decide +kernel
theorem dX10_noteOrderOnLots_11 : decode cX10_noteOrderOnLots 11 = .ok (.iload 4, 2) := by decide +kernel
theorem dX10_noteOrderOnLots_13 : decode cX10_noteOrderOnLots 13 = .ok (.iload_n 3, 1) := by decide +kernel
theorem dX10_noteOrderOnLots_14 : decode cX10_noteOrderOnLots 14 = .ok (.if_icmp .ge 47, 3) := by decide +kernel
theorem dX10_noteOrderOnLots_17 : decode cX10_noteOrderOnLots 17 = .ok (.aload_n 2, 1) := by decide +kernel
theorem dX10_noteOrderOnLots_18 : decode cX10_noteOrderOnLots 18 = .ok (.iload 4, 2) := by decide +kernel
theorem dX10_noteOrderOnLots_20 : decode cX10_noteOrderOnLots 20 = .ok (.aaload, 1) := by decide +kernel
theorem dX10_noteOrderOnLots_21 : decode cX10_noteOrderOnLots 21 = .ok (.astore 5, 2) := by decide +kernel
theorem dX10_noteOrderOnLots_23 : decode cX10_noteOrderOnLots 23 = .ok (.aload 5, 2) := by decide +kernel
theorem dX10_noteOrderOnLots_25 : decode cX10_noteOrderOnLots 25 = .ok (.ifnull 30, 3) := by decide +kernel
theorem dX10_noteOrderOnLots_28 : decode cX10_noteOrderOnLots 28 = .ok (.aload_n 1, 1) := by decide +kernel
theorem dX10_noteOrderOnLots_29 : decode cX10_noteOrderOnLots 29 = .ok (.getfield 352, 3) := by decide +kernel
theorem dX10_noteOrderOnLots_32 : decode cX10_noteOrderOnLots 32 = .ok (.aload 5, 2) := by decide +kernel
theorem dX10_noteOrderOnLots_34 : decode cX10_noteOrderOnLots 34 = .ok (.getfield 157, 3) := by decide +kernel
theorem dX10_noteOrderOnLots_37 : decode cX10_noteOrderOnLots 37 = .ok (.invokevirtual 212, 3) := by decide +kernel
theorem dX10_noteOrderOnLots_40 : decode cX10_noteOrderOnLots 40 = .ok (.ifCond .eq 15, 3) := by decide +kernel
theorem dX10_noteOrderOnLots_43 : decode cX10_noteOrderOnLots 43 = .ok (.aload 5, 2) := by decide +kernel
theorem dX10_noteOrderOnLots_45 : decode cX10_noteOrderOnLots 45 = .ok (.getfield 345, 3) := by decide +kernel
theorem dX10_noteOrderOnLots_48 : decode cX10_noteOrderOnLots 48 = .ok (.aload_n 1, 1) := by decide +kernel
theorem dX10_noteOrderOnLots_49 : decode cX10_noteOrderOnLots 49 = .ok (.getfield 517, 3) := by decide +kernel
theorem dX10_noteOrderOnLots_52 : decode cX10_noteOrderOnLots 52 = .ok (.invokevirtual 160, 3) := by decide +kernel
theorem dX10_noteOrderOnLots_55 : decode cX10_noteOrderOnLots 55 = .ok (.iinc 4 1, 3) := by decide +kernel
theorem dX10_noteOrderOnLots_58 : decode cX10_noteOrderOnLots 58 = .ok (.goto (-47), 3) := by decide +kernel
theorem dX10_noteOrderOnLots_61 : decode cX10_noteOrderOnLots 61 = .ok (.return_, 1) := by decide +kernel
theorem dX10_areLotsSound_0 : decode cX10_areLotsSound 0 = .ok (.aload_n 0, 1) := by decide +kernel
theorem dX10_areLotsSound_1 : decode cX10_areLotsSound 1 = .ok (.getfield 29, 3) := by decide +kernel
theorem dX10_areLotsSound_4 : decode cX10_areLotsSound 4 = .ok (.astore_n 1, 1) := by decide +kernel
theorem dX10_areLotsSound_5 : decode cX10_areLotsSound 5 = .ok (.aload_n 1, 1) := by decide +kernel
theorem dX10_areLotsSound_6 : decode cX10_areLotsSound 6 = .ok (.arraylength, 1) := by decide +kernel
theorem dX10_areLotsSound_7 : decode cX10_areLotsSound 7 = .ok (.istore_n 2, 1) := by decide +kernel
theorem dX10_areLotsSound_8 : decode cX10_areLotsSound 8 = .ok (.iconst 0, 1) := by decide +kernel
theorem dX10_areLotsSound_9 : decode cX10_areLotsSound 9 = .ok (.istore_n 3, 1) := by decide +kernel
theorem dX10_areLotsSound_10 : decode cX10_areLotsSound 10 = .ok (.iload_n 3, 1) := by decide +kernel
theorem dX10_areLotsSound_11 : decode cX10_areLotsSound 11 = .ok (.iload_n 2, 1) := by decide +kernel
theorem dX10_areLotsSound_12 : decode cX10_areLotsSound 12 = .ok (.if_icmp .ge 48, 3) := by decide +kernel
theorem dX10_areLotsSound_15 : decode cX10_areLotsSound 15 = .ok (.aload_n 1, 1) := by decide +kernel
theorem dX10_areLotsSound_16 : decode cX10_areLotsSound 16 = .ok (.iload_n 3, 1) := by decide +kernel
theorem dX10_areLotsSound_17 : decode cX10_areLotsSound 17 = .ok (.aaload, 1) := by decide +kernel
theorem dX10_areLotsSound_18 : decode cX10_areLotsSound 18 = .ok (.astore 4, 2) := by decide +kernel
theorem dX10_areLotsSound_20 : decode cX10_areLotsSound 20 = .ok (.aload 4, 2) := by decide +kernel
theorem dX10_areLotsSound_22 : decode cX10_areLotsSound 22 = .ok (.ifnull 32, 3) := by decide +kernel
theorem dX10_areLotsSound_25 : decode cX10_areLotsSound 25 = .ok (.aload 4, 2) := by decide +kernel
theorem dX10_areLotsSound_27 : decode cX10_areLotsSound 27 = .ok (.getfield 518, 3) := by decide +kernel
theorem dX10_areLotsSound_30 : decode cX10_areLotsSound 30 = .ok (.aload 4, 2) := by decide +kernel
theorem dX10_areLotsSound_32 : decode cX10_areLotsSound 32 = .ok (.getfield 219, 3) := by decide +kernel
theorem dX10_areLotsSound_35 : decode cX10_areLotsSound 35 = .ok (.aload_n 0, 1) := by decide +kernel
theorem dX10_areLotsSound_36 : decode cX10_areLotsSound 36 = .ok (.aload 4, 2) := by decide +kernel
theorem dX10_areLotsSound_38 : decode cX10_areLotsSound 38 = .ok (.iconst 0, 1) := by decide +kernel
theorem dX10_areLotsSound_39 : decode cX10_areLotsSound 39 = .ok (.invokevirtual 519, 3) := by decide +kernel
theorem dX10_areLotsSound_42 : decode cX10_areLotsSound 42 = .ok (.iadd, 1) := by decide +kernel
theorem dX10_areLotsSound_43 : decode cX10_areLotsSound 43 = .ok (.aload 4, 2) := by decide +kernel
theorem dX10_areLotsSound_45 : decode cX10_areLotsSound 45 = .ok (.getfield 516, 3) := by decide +kernel
theorem dX10_areLotsSound_48 : decode cX10_areLotsSound 48 = .ok (.iadd, 1) := by decide +kernel
theorem dX10_areLotsSound_49 : decode cX10_areLotsSound 49 = .ok (.if_icmp .eq 5, 3) := by decide +kernel
theorem dX10_areLotsSound_52 : decode cX10_areLotsSound 52 = .ok (.iconst 0, 1) := by decide +kernel
theorem dX10_areLotsSound_53 : decode cX10_areLotsSound 53 = .ok (.ireturn, 1) := by decide +kernel
theorem dX10_areLotsSound_54 : decode cX10_areLotsSound 54 = .ok (.iinc 3 1, 3) := by decide +kernel
theorem dX10_areLotsSound_57 : decode cX10_areLotsSound 57 = .ok (.goto (-47), 3) := by decide +kernel
theorem dX10_areLotsSound_60 : decode cX10_areLotsSound 60 = .ok (.iconst 1, 1) := by decide +kernel
theorem dX10_areLotsSound_61 : decode cX10_areLotsSound 61 = .ok (.ireturn, 1) := by decide +kernel
theorem dX10_piecesIn_0 : decode cX10_piecesIn 0 = .ok (.iconst 0, 1) := by decide +kernel
theorem dX10_piecesIn_1 : decode cX10_piecesIn 1 = .ok (.istore_n 3, 1) := by decide +kernel
theorem dX10_piecesIn_2 : decode cX10_piecesIn 2 = .ok (.aload_n 0, 1) := by decide +kernel
theorem dX10_piecesIn_3 : decode cX10_piecesIn 3 = .ok (.getfield 35, 3) := by decide +kernel
theorem dX10_piecesIn_6 : decode cX10_piecesIn 6 = .ok (.astore 4, 2) := by decide +kernel
theorem dX10_piecesIn_8 : decode cX10_piecesIn 8 = .ok (.aload 4, 2) := by decide +kernel
theorem dX10_piecesIn_10 : decode cX10_piecesIn 10 = .ok (.arraylength, 1) := by decide +kernel
theorem dX10_piecesIn_11 : decode cX10_piecesIn 11 = .ok (.istore 5, 2) := by decide +kernel
theorem dX10_piecesIn_13 : decode cX10_piecesIn 13 = .ok (.iconst 0, 1) := by decide +kernel
theorem dX10_piecesIn_14 : decode cX10_piecesIn 14 = .ok (.istore 6, 2) := by decide +kernel
theorem dX10_piecesIn_16 : decode cX10_piecesIn 16 = .ok (.iload 6, 2) := by decide +kernel
theorem dX10_piecesIn_18 : decode cX10_piecesIn 18 = .ok (.iload 5, 2) := by decide +kernel
theorem dX10_piecesIn_20 : decode cX10_piecesIn 20 = .ok (.if_icmp .ge 49, 3) := by decide +kernel
theorem dX10_piecesIn_23 : decode cX10_piecesIn 23 = .ok (.aload 4, 2) := by decide +kernel
theorem dX10_piecesIn_25 : decode cX10_piecesIn 25 = .ok (.iload 6, 2) := by decide +kernel
theorem dX10_piecesIn_27 : decode cX10_piecesIn 27 = .ok (.aaload, 1) := by decide +kernel
theorem dX10_piecesIn_28 : decode cX10_piecesIn 28 = .ok (.astore 7, 2) := by decide +kernel
theorem dX10_piecesIn_30 : decode cX10_piecesIn 30 = .ok (.aload 7, 2) := by decide +kernel
theorem dX10_piecesIn_32 : decode cX10_piecesIn 32 = .ok (.ifnull 31, 3) := by decide +kernel
theorem dX10_piecesIn_35 : decode cX10_piecesIn 35 = .ok (.aload 7, 2) := by decide +kernel
theorem dX10_piecesIn_37 : decode cX10_piecesIn 37 = .ok (.getfield 243, 3) := by decide +kernel
theorem dX10_piecesIn_40 : decode cX10_piecesIn 40 = .ok (.bipush 112, 2) := by decide +kernel
theorem dX10_piecesIn_42 : decode cX10_piecesIn 42 = .ok (.if_icmp .ne 7, 3) := by decide +kernel
theorem dX10_piecesIn_45 : decode cX10_piecesIn 45 = .ok (.iconst 1, 1) := by decide +kernel
theorem dX10_piecesIn_46 : decode cX10_piecesIn 46 = .ok (.goto 4, 3) := by decide +kernel
theorem dX10_piecesIn_49 : decode cX10_piecesIn 49 = .ok (.iconst 0, 1) := by decide +kernel
theorem dX10_piecesIn_50 : decode cX10_piecesIn 50 = .ok (.iload_n 2, 1) := by decide +kernel
theorem dX10_piecesIn_51 : decode cX10_piecesIn 51 = .ok (.if_icmp .ne 12, 3) := by decide +kernel
theorem dX10_piecesIn_54 : decode cX10_piecesIn 54 = .ok (.iload_n 3, 1) := by decide +kernel
theorem dX10_piecesIn_55 : decode cX10_piecesIn 55 = .ok (.aload 7, 2) := by decide +kernel
theorem dX10_piecesIn_57 : decode cX10_piecesIn 57 = .ok (.aload_n 1, 1) := by decide +kernel
theorem dX10_piecesIn_58 : decode cX10_piecesIn 58 = .ok (.invokevirtual 405, 3) := by decide +kernel
theorem dX10_piecesIn_61 : decode cX10_piecesIn 61 = .ok (.iadd, 1) := by decide +kernel
theorem dX10_piecesIn_62 : decode cX10_piecesIn 62 = .ok (.istore_n 3, 1) := by decide +kernel
theorem dX10_piecesIn_63 : decode cX10_piecesIn 63 = .ok (.iinc 6 1, 3) := by decide +kernel
theorem dX10_piecesIn_66 : decode cX10_piecesIn 66 = .ok (.goto (-50), 3) := by decide +kernel
theorem dX10_piecesIn_69 : decode cX10_piecesIn 69 = .ok (.iload_n 3, 1) := by decide +kernel
theorem dX10_piecesIn_70 : decode cX10_piecesIn 70 = .ok (.ireturn, 1) := by decide +kernel
theorem dX10_areJobsSound_0 : decode cX10_areJobsSound 0 = .ok (.iconst 0, 1) := by decide +kernel
theorem dX10_areJobsSound_1 : decode cX10_areJobsSound 1 = .ok (.istore_n 1, 1) := by decide +kernel
theorem dX10_areJobsSound_2 : decode cX10_areJobsSound 2 = .ok (.aload_n 0, 1) := by decide +kernel
theorem dX10_areJobsSound_3 : decode cX10_areJobsSound 3 = .ok (.getfield 35, 3) := by decide +kernel
theorem dX10_areJobsSound_6 : decode cX10_areJobsSound 6 = .ok (.astore_n 2, 1) := by decide +kernel
theorem dX10_areJobsSound_7 : decode cX10_areJobsSound 7 = .ok (.aload_n 2, 1) := by decide +kernel
theorem dX10_areJobsSound_8 : decode cX10_areJobsSound 8 = .ok (.arraylength, 1) := by decide +kernel
theorem dX10_areJobsSound_9 : decode cX10_areJobsSound 9 = .ok (.istore_n 3, 1) := by decide +kernel
theorem dX10_areJobsSound_10 : decode cX10_areJobsSound 10 = .ok (.iconst 0, 1) := by decide +kernel
theorem dX10_areJobsSound_11 : decode cX10_areJobsSound 11 = .ok (.istore 4, 2) := by decide +kernel
theorem dX10_areJobsSound_13 : decode cX10_areJobsSound 13 = .ok (.iload 4, 2) := by decide +kernel
theorem dX10_areJobsSound_15 : decode cX10_areJobsSound 15 = .ok (.iload_n 3, 1) := by decide +kernel
theorem dX10_areJobsSound_16 : decode cX10_areJobsSound 16 = .ok (.if_icmp .ge 38, 3) := by decide +kernel
theorem dX10_areJobsSound_19 : decode cX10_areJobsSound 19 = .ok (.aload_n 2, 1) := by decide +kernel
theorem dX10_areJobsSound_20 : decode cX10_areJobsSound 20 = .ok (.iload 4, 2) := by decide +kernel
theorem dX10_areJobsSound_22 : decode cX10_areJobsSound 22 = .ok (.aaload, 1) := by decide +kernel
theorem dX10_areJobsSound_23 : decode cX10_areJobsSound 23 = .ok (.astore 5, 2) := by decide +kernel
theorem dX10_areJobsSound_25 : decode cX10_areJobsSound 25 = .ok (.aload 5, 2) := by decide +kernel
theorem dX10_areJobsSound_27 : decode cX10_areJobsSound 27 = .ok (.ifnull 21, 3) := by decide +kernel
theorem dX10_areJobsSound_30 : decode cX10_areJobsSound 30 = .ok (.iload_n 1, 1) := by decide +kernel
theorem dX10_areJobsSound_31 : decode cX10_areJobsSound 31 = .ok (.aload 5, 2) := by decide +kernel
theorem dX10_areJobsSound_33 : decode cX10_areJobsSound 33 = .ok (.getfield 513, 3) := by decide +kernel
theorem dX10_areJobsSound_36 : decode cX10_areJobsSound 36 = .ok (.iadd, 1) := by decide +kernel
theorem dX10_areJobsSound_37 : decode cX10_areJobsSound 37 = .ok (.istore_n 1, 1) := by decide +kernel
theorem dX10_areJobsSound_38 : decode cX10_areJobsSound 38 = .ok (.aload 5, 2) := by decide +kernel
theorem dX10_areJobsSound_40 : decode cX10_areJobsSound 40 = .ok (.invokevirtual 523, 3) := by decide +kernel
theorem dX10_areJobsSound_43 : decode cX10_areJobsSound 43 = .ok (.ifCond .ne 5, 3) := by decide +kernel
theorem dX10_areJobsSound_46 : decode cX10_areJobsSound 46 = .ok (.iconst 0, 1) := by decide +kernel
theorem dX10_areJobsSound_47 : decode cX10_areJobsSound 47 = .ok (.ireturn, 1) := by decide +kernel
theorem dX10_areJobsSound_48 : decode cX10_areJobsSound 48 = .ok (.iinc 4 1, 3) := by decide +kernel
theorem dX10_areJobsSound_51 : decode cX10_areJobsSound 51 = .ok (.goto (-38), 3) := by decide +kernel
theorem dX10_areJobsSound_54 : decode cX10_areJobsSound 54 = .ok (.aload_n 0, 1) := by decide +kernel
theorem dX10_areJobsSound_55 : decode cX10_areJobsSound 55 = .ok (.getfield 29, 3) := by decide +kernel
theorem dX10_areJobsSound_58 : decode cX10_areJobsSound 58 = .ok (.astore_n 2, 1) := by decide +kernel
theorem dX10_areJobsSound_59 : decode cX10_areJobsSound 59 = .ok (.aload_n 2, 1) := by decide +kernel
theorem dX10_areJobsSound_60 : decode cX10_areJobsSound 60 = .ok (.arraylength, 1) := by decide +kernel
theorem dX10_areJobsSound_61 : decode cX10_areJobsSound 61 = .ok (.istore_n 3, 1) := by decide +kernel
theorem dX10_areJobsSound_62 : decode cX10_areJobsSound 62 = .ok (.iconst 0, 1) := by decide +kernel
theorem dX10_areJobsSound_63 : decode cX10_areJobsSound 63 = .ok (.istore 4, 2) := by decide +kernel
theorem dX10_areJobsSound_65 : decode cX10_areJobsSound 65 = .ok (.iload 4, 2) := by decide +kernel
theorem dX10_areJobsSound_67 : decode cX10_areJobsSound 67 = .ok (.iload_n 3, 1) := by decide +kernel
theorem dX10_areJobsSound_68 : decode cX10_areJobsSound 68 = .ok (.if_icmp .ge 32, 3) := by decide +kernel
theorem dX10_areJobsSound_71 : decode cX10_areJobsSound 71 = .ok (.aload_n 2, 1) := by decide +kernel
theorem dX10_areJobsSound_72 : decode cX10_areJobsSound 72 = .ok (.iload 4, 2) := by decide +kernel
theorem dX10_areJobsSound_74 : decode cX10_areJobsSound 74 = .ok (.aaload, 1) := by decide +kernel
theorem dX10_areJobsSound_75 : decode cX10_areJobsSound 75 = .ok (.astore 5, 2) := by decide +kernel
theorem dX10_areJobsSound_77 : decode cX10_areJobsSound 77 = .ok (.iload_n 1, 1) := by decide +kernel
theorem dX10_areJobsSound_78 : decode cX10_areJobsSound 78 = .ok (.aload 5, 2) := by decide +kernel
theorem dX10_areJobsSound_80 : decode cX10_areJobsSound 80 = .ok (.ifnull 11, 3) := by decide +kernel
theorem dX10_areJobsSound_83 : decode cX10_areJobsSound 83 = .ok (.aload 5, 2) := by decide +kernel
theorem dX10_areJobsSound_85 : decode cX10_areJobsSound 85 = .ok (.getfield 516, 3) := by decide +kernel
theorem dX10_areJobsSound_88 : decode cX10_areJobsSound 88 = .ok (.goto 4, 3) := by decide +kernel
theorem dX10_areJobsSound_91 : decode cX10_areJobsSound 91 = .ok (.iconst 0, 1) := by decide +kernel
theorem dX10_areJobsSound_92 : decode cX10_areJobsSound 92 = .ok (.isub, 1) := by decide +kernel
theorem dX10_areJobsSound_93 : decode cX10_areJobsSound 93 = .ok (.istore_n 1, 1) := by decide +kernel
theorem dX10_areJobsSound_94 : decode cX10_areJobsSound 94 = .ok (.iinc 4 1, 3) := by decide +kernel
theorem dX10_areJobsSound_97 : decode cX10_areJobsSound 97 = .ok (.goto (-32), 3) := by decide +kernel
theorem dX10_areJobsSound_100 : decode cX10_areJobsSound 100 = .ok (.iload_n 1, 1) := by decide +kernel
theorem dX10_areJobsSound_101 : decode cX10_areJobsSound 101 = .ok (.ifCond .ne 7, 3) := by decide +kernel
theorem dX10_areJobsSound_104 : decode cX10_areJobsSound 104 = .ok (.iconst 1, 1) := by decide +kernel
theorem dX10_areJobsSound_105 : decode cX10_areJobsSound 105 = .ok (.goto 4, 3) := by decide +kernel
theorem dX10_areJobsSound_108 : decode cX10_areJobsSound 108 = .ok (.iconst 0, 1) := by decide +kernel
theorem dX10_areJobsSound_109 : decode cX10_areJobsSound 109 = .ok (.ireturn, 1) := by decide +kernel
theorem dX10_areCostsSound_0 : decode cX10_areCostsSound 0 = .ok (.aload_n 0, 1) := by decide +kernel
theorem dX10_areCostsSound_1 : decode cX10_areCostsSound 1 = .ok (.getfield 495, 3) := by decide +kernel
theorem dX10_areCostsSound_4 : decode cX10_areCostsSound 4 = .ok (.lstore_n 1, 1) := by decide +kernel
theorem dX10_areCostsSound_5 : decode cX10_areCostsSound 5 = .ok (.aload_n 0, 1) := by decide +kernel
theorem dX10_areCostsSound_6 : decode cX10_areCostsSound 6 = .ok (.getfield 29, 3) := by decide +kernel
theorem dX10_areCostsSound_9 : decode cX10_areCostsSound 9 = .ok (.astore_n 3, 1) := by decide +kernel
theorem dX10_areCostsSound_10 : decode cX10_areCostsSound 10 = .ok (.aload_n 3, 1) := by decide +kernel
theorem dX10_areCostsSound_11 : decode cX10_areCostsSound 11 = .ok (.arraylength, 1) := by decide +kernel
theorem dX10_areCostsSound_12 : decode cX10_areCostsSound 12 = .ok (.istore 4, 2) := by decide +kernel
theorem dX10_areCostsSound_14 : decode cX10_areCostsSound 14 = .ok (.iconst 0, 1) := by decide +kernel
theorem dX10_areCostsSound_15 : decode cX10_areCostsSound 15 = .ok (.istore 5, 2) := by decide +kernel
theorem dX10_areCostsSound_17 : decode cX10_areCostsSound 17 = .ok (.iload 5, 2) := by decide +kernel
theorem dX10_areCostsSound_19 : decode cX10_areCostsSound 19 = .ok (.iload 4, 2) := by decide +kernel
theorem dX10_areCostsSound_21 : decode cX10_areCostsSound 21 = .ok (.if_icmp .ge 32, 3) := by decide +kernel
theorem dX10_areCostsSound_24 : decode cX10_areCostsSound 24 = .ok (.aload_n 3, 1) := by decide +kernel
theorem dX10_areCostsSound_25 : decode cX10_areCostsSound 25 = .ok (.iload 5, 2) := by decide +kernel
theorem dX10_areCostsSound_27 : decode cX10_areCostsSound 27 = .ok (.aaload, 1) := by decide +kernel
theorem dX10_areCostsSound_28 : decode cX10_areCostsSound 28 = .ok (.astore 6, 2) := by decide +kernel
theorem dX10_areCostsSound_30 : decode cX10_areCostsSound 30 = .ok (.lload_n 1, 1) := by decide +kernel
theorem dX10_areCostsSound_31 : decode cX10_areCostsSound 31 = .ok (.aload 6, 2) := by decide +kernel
theorem dX10_areCostsSound_33 : decode cX10_areCostsSound 33 = .ok (.ifnull 11, 3) := by decide +kernel
theorem dX10_areCostsSound_36 : decode cX10_areCostsSound 36 = .ok (.aload 6, 2) := by decide +kernel
theorem dX10_areCostsSound_38 : decode cX10_areCostsSound 38 = .ok (.getfield 225, 3) := by decide +kernel
theorem dX10_areCostsSound_41 : decode cX10_areCostsSound 41 = .ok (.goto 4, 3) := by decide +kernel
theorem dX10_areCostsSound_44 : decode cX10_areCostsSound 44 = .ok (.lconst 0, 1) := by decide +kernel
theorem dX10_areCostsSound_45 : decode cX10_areCostsSound 45 = .ok (.ladd, 1) := by decide +kernel
theorem dX10_areCostsSound_46 : decode cX10_areCostsSound 46 = .ok (.lstore_n 1, 1) := by decide +kernel
theorem dX10_areCostsSound_47 : decode cX10_areCostsSound 47 = .ok (.iinc 5 1, 3) := by decide +kernel
theorem dX10_areCostsSound_50 : decode cX10_areCostsSound 50 = .ok (.goto (-33), 3) := by decide +kernel
theorem dX10_areCostsSound_53 : decode cX10_areCostsSound 53 = .ok (.aload_n 0, 1) := by decide +kernel
theorem dX10_areCostsSound_54 : decode cX10_areCostsSound 54 = .ok (.getfield 35, 3) := by decide +kernel
theorem dX10_areCostsSound_57 : decode cX10_areCostsSound 57 = .ok (.astore_n 3, 1) := by decide +kernel
theorem dX10_areCostsSound_58 : decode cX10_areCostsSound 58 = .ok (.aload_n 3, 1) := by decide +kernel
theorem dX10_areCostsSound_59 : decode cX10_areCostsSound 59 = .ok (.arraylength, 1) := by decide +kernel
theorem dX10_areCostsSound_60 : decode cX10_areCostsSound 60 = .ok (.istore 4, 2) := by decide +kernel
theorem dX10_areCostsSound_62 : decode cX10_areCostsSound 62 = .ok (.iconst 0, 1) := by decide +kernel
theorem dX10_areCostsSound_63 : decode cX10_areCostsSound 63 = .ok (.istore 5, 2) := by decide +kernel
theorem dX10_areCostsSound_65 : decode cX10_areCostsSound 65 = .ok (.iload 5, 2) := by decide +kernel
theorem dX10_areCostsSound_67 : decode cX10_areCostsSound 67 = .ok (.iload 4, 2) := by decide +kernel
theorem dX10_areCostsSound_69 : decode cX10_areCostsSound 69 = .ok (.if_icmp .ge 41, 3) := by decide +kernel
theorem dX10_areCostsSound_72 : decode cX10_areCostsSound 72 = .ok (.aload_n 3, 1) := by decide +kernel
theorem dX10_areCostsSound_73 : decode cX10_areCostsSound 73 = .ok (.iload 5, 2) := by decide +kernel
theorem dX10_areCostsSound_75 : decode cX10_areCostsSound 75 = .ok (.aaload, 1) := by decide +kernel
theorem dX10_areCostsSound_76 : decode cX10_areCostsSound 76 = .ok (.astore 6, 2) := by decide +kernel
theorem dX10_areCostsSound_78 : decode cX10_areCostsSound 78 = .ok (.lload_n 1, 1) := by decide +kernel
theorem dX10_areCostsSound_79 : decode cX10_areCostsSound 79 = .ok (.aload 6, 2) := by decide +kernel
theorem dX10_areCostsSound_81 : decode cX10_areCostsSound 81 = .ok (.ifnull 20, 3) := by decide +kernel
theorem dX10_areCostsSound_84 : decode cX10_areCostsSound 84 = .ok (.aload 6, 2) := by decide +kernel
theorem dX10_areCostsSound_86 : decode cX10_areCostsSound 86 = .ok (.getfield 280, 3) := by decide +kernel
theorem dX10_areCostsSound_89 : decode cX10_areCostsSound 89 = .ok (.getfield 437, 3) := by decide +kernel
theorem dX10_areCostsSound_92 : decode cX10_areCostsSound 92 = .ok (.aload 6, 2) := by decide +kernel
theorem dX10_areCostsSound_94 : decode cX10_areCostsSound 94 = .ok (.getfield 355, 3) := by decide +kernel
theorem dX10_areCostsSound_97 : decode cX10_areCostsSound 97 = .ok (.ladd, 1) := by decide +kernel
theorem dX10_areCostsSound_98 : decode cX10_areCostsSound 98 = .ok (.goto 4, 3) := by decide +kernel
theorem dX10_areCostsSound_101 : decode cX10_areCostsSound 101 = .ok (.lconst 0, 1) := by decide +kernel
theorem dX10_areCostsSound_102 : decode cX10_areCostsSound 102 = .ok (.ladd, 1) := by decide +kernel
theorem dX10_areCostsSound_103 : decode cX10_areCostsSound 103 = .ok (.lstore_n 1, 1) := by decide +kernel
theorem dX10_areCostsSound_104 : decode cX10_areCostsSound 104 = .ok (.iinc 5 1, 3) := by decide +kernel
theorem dX10_areCostsSound_107 : decode cX10_areCostsSound 107 = .ok (.goto (-42), 3) := by decide +kernel
theorem dX10_areCostsSound_110 : decode cX10_areCostsSound 110 = .ok (.lload_n 1, 1) := by decide +kernel
theorem dX10_areCostsSound_111 : decode cX10_areCostsSound 111 = .ok (.aload_n 0, 1) := by decide +kernel
theorem dX10_areCostsSound_112 : decode cX10_areCostsSound 112 = .ok (.getfield 145, 3) := by decide +kernel
theorem dX10_areCostsSound_115 : decode cX10_areCostsSound 115 = .ok (.lcmp, 1) := by decide +kernel
theorem dX10_areCostsSound_116 : decode cX10_areCostsSound 116 = .ok (.ifCond .ne 7, 3) := by decide +kernel
theorem dX10_areCostsSound_119 : decode cX10_areCostsSound 119 = .ok (.iconst 1, 1) := by decide +kernel
theorem dX10_areCostsSound_120 : decode cX10_areCostsSound 120 = .ok (.goto 4, 3) := by decide +kernel
theorem dX10_areCostsSound_123 : decode cX10_areCostsSound 123 = .ok (.iconst 0, 1) := by decide +kernel
theorem dX10_areCostsSound_124 : decode cX10_areCostsSound 124 = .ok (.ireturn, 1) := by decide +kernel
theorem dX10_arePromisesSound_0 : decode cX10_arePromisesSound 0 = .ok (.aload_n 0, 1) := by decide +kernel
theorem dX10_arePromisesSound_1 : decode cX10_arePromisesSound 1 = .ok (.getfield 29, 3) := by decide +kernel
theorem dX10_arePromisesSound_4 : decode cX10_arePromisesSound 4 = .ok (.astore_n 1, 1) := by decide +kernel
theorem dX10_arePromisesSound_5 : decode cX10_arePromisesSound 5 = .ok (.aload_n 1, 1) := by decide +kernel
theorem dX10_arePromisesSound_6 : decode cX10_arePromisesSound 6 = .ok (.arraylength, 1) := by decide +kernel
theorem dX10_arePromisesSound_7 : decode cX10_arePromisesSound 7 = .ok (.istore_n 2, 1) := by decide +kernel
theorem dX10_arePromisesSound_8 : decode cX10_arePromisesSound 8 = .ok (.iconst 0, 1) := by decide +kernel
theorem dX10_arePromisesSound_9 : decode cX10_arePromisesSound 9 = .ok (.istore_n 3, 1) := by decide +kernel
theorem dX10_arePromisesSound_10 : decode cX10_arePromisesSound 10 = .ok (.iload_n 3, 1) := by decide +kernel
theorem dX10_arePromisesSound_11 : decode cX10_arePromisesSound 11 = .ok (.iload_n 2, 1) := by decide +kernel
theorem dX10_arePromisesSound_12 : decode cX10_arePromisesSound 12 = .ok (.if_icmp .ge 66, 3) := by decide +kernel
theorem dX10_arePromisesSound_15 : decode cX10_arePromisesSound 15 = .ok (.aload_n 1, 1) := by decide +kernel
theorem dX10_arePromisesSound_16 : decode cX10_arePromisesSound 16 = .ok (.iload_n 3, 1) := by decide +kernel
theorem dX10_arePromisesSound_17 : decode cX10_arePromisesSound 17 = .ok (.aaload, 1) := by decide +kernel
theorem dX10_arePromisesSound_18 : decode cX10_arePromisesSound 18 = .ok (.astore 4, 2) := by decide +kernel
theorem dX10_arePromisesSound_20 : decode cX10_arePromisesSound 20 = .ok (.aload 4, 2) := by decide +kernel
theorem dX10_arePromisesSound_22 : decode cX10_arePromisesSound 22 = .ok (.ifnull 50, 3) := by decide +kernel
theorem dX10_arePromisesSound_25 : decode cX10_arePromisesSound 25 = .ok (.aload 4, 2) := by decide +kernel
theorem dX10_arePromisesSound_27 : decode cX10_arePromisesSound 27 = .ok (.getfield 222, 3) := by decide +kernel
theorem dX10_arePromisesSound_30 : decode cX10_arePromisesSound 30 = .ok (.aload_n 0, 1) := by decide +kernel
theorem dX10_arePromisesSound_31 : decode cX10_arePromisesSound 31 = .ok (.aload 4, 2) := by decide +kernel
theorem dX10_arePromisesSound_33 : decode cX10_arePromisesSound 33 = .ok (.iconst 1, 1) := by decide +kernel
theorem dX10_arePromisesSound_34 : decode cX10_arePromisesSound 34 = .ok (.invokevirtual 519, 3) := by decide +kernel
theorem dX10_arePromisesSound_37 : decode cX10_arePromisesSound 37 = .ok (.if_icmp .ne 33, 3) := by decide +kernel
theorem dX10_arePromisesSound_40 : decode cX10_arePromisesSound 40 = .ok (.aload 4, 2) := by decide +kernel
theorem dX10_arePromisesSound_42 : decode cX10_arePromisesSound 42 = .ok (.getfield 222, 3) := by decide +kernel
theorem dX10_arePromisesSound_45 : decode cX10_arePromisesSound 45 = .ok (.aload 4, 2) := by decide +kernel
theorem dX10_arePromisesSound_47 : decode cX10_arePromisesSound 47 = .ok (.getfield 219, 3) := by decide +kernel
theorem dX10_arePromisesSound_50 : decode cX10_arePromisesSound 50 = .ok (.if_icmp .gt 20, 3) := by decide +kernel
theorem dX10_arePromisesSound_53 : decode cX10_arePromisesSound 53 = .ok (.aload 4, 2) := by decide +kernel
theorem dX10_arePromisesSound_55 : decode cX10_arePromisesSound 55 = .ok (.getfield 222, 3) := by decide +kernel
theorem dX10_arePromisesSound_58 : decode cX10_arePromisesSound 58 = .ok (.ifCond .le 14, 3) := by decide +kernel
theorem dX10_arePromisesSound_61 : decode cX10_arePromisesSound 61 = .ok (.aload_n 0, 1) := by decide +kernel
theorem dX10_arePromisesSound_62 : decode cX10_arePromisesSound 62 = .ok (.aload 4, 2) := by decide +kernel
theorem dX10_arePromisesSound_64 : decode cX10_arePromisesSound 64 = .ok (.invokevirtual 184, 3) := by decide +kernel
theorem dX10_arePromisesSound_67 : decode cX10_arePromisesSound 67 = .ok (.ifCond .eq 5, 3) := by decide +kernel
theorem dX10_arePromisesSound_70 : decode cX10_arePromisesSound 70 = .ok (.iconst 0, 1) := by decide +kernel
theorem dX10_arePromisesSound_71 : decode cX10_arePromisesSound 71 = .ok (.ireturn, 1) := by decide +kernel
theorem dX10_arePromisesSound_72 : decode cX10_arePromisesSound 72 = .ok (.iinc 3 1, 3) := by decide +kernel
theorem dX10_arePromisesSound_75 : decode cX10_arePromisesSound 75 = .ok (.goto (-65), 3) := by decide +kernel
theorem dX10_arePromisesSound_78 : decode cX10_arePromisesSound 78 = .ok (.iconst 1, 1) := by decide +kernel
theorem dX10_arePromisesSound_79 : decode cX10_arePromisesSound 79 = .ok (.ireturn, 1) := by decide +kernel
theorem dX10_areTracesSound_0 : decode cX10_areTracesSound 0 = .ok (.aload_n 0, 1) := by decide +kernel
theorem dX10_areTracesSound_1 : decode cX10_areTracesSound 1 = .ok (.getfield 29, 3) := by decide +kernel
theorem dX10_areTracesSound_4 : decode cX10_areTracesSound 4 = .ok (.astore_n 1, 1) := by decide +kernel
theorem dX10_areTracesSound_5 : decode cX10_areTracesSound 5 = .ok (.aload_n 1, 1) := by decide +kernel
theorem dX10_areTracesSound_6 : decode cX10_areTracesSound 6 = .ok (.arraylength, 1) := by decide +kernel
theorem dX10_areTracesSound_7 : decode cX10_areTracesSound 7 = .ok (.istore_n 2, 1) := by decide +kernel
theorem dX10_areTracesSound_8 : decode cX10_areTracesSound 8 = .ok (.iconst 0, 1) := by decide +kernel
theorem dX10_areTracesSound_9 : decode cX10_areTracesSound 9 = .ok (.istore_n 3, 1) := by decide +kernel
theorem dX10_areTracesSound_10 : decode cX10_areTracesSound 10 = .ok (.iload_n 3, 1) := by decide +kernel
theorem dX10_areTracesSound_11 : decode cX10_areTracesSound 11 = .ok (.iload_n 2, 1) := by decide +kernel
theorem dX10_areTracesSound_12 : decode cX10_areTracesSound 12 = .ok (.if_icmp .ge 30, 3) := by decide +kernel
theorem dX10_areTracesSound_15 : decode cX10_areTracesSound 15 = .ok (.aload_n 1, 1) := by decide +kernel
theorem dX10_areTracesSound_16 : decode cX10_areTracesSound 16 = .ok (.iload_n 3, 1) := by decide +kernel
theorem dX10_areTracesSound_17 : decode cX10_areTracesSound 17 = .ok (.aaload, 1) := by decide +kernel
theorem dX10_areTracesSound_18 : decode cX10_areTracesSound 18 = .ok (.astore 4, 2) := by decide +kernel
theorem dX10_areTracesSound_20 : decode cX10_areTracesSound 20 = .ok (.aload 4, 2) := by decide +kernel
theorem dX10_areTracesSound_22 : decode cX10_areTracesSound 22 = .ok (.ifnull 14, 3) := by decide +kernel
theorem dX10_areTracesSound_25 : decode cX10_areTracesSound 25 = .ok (.aload_n 0, 1) := by decide +kernel
theorem dX10_areTracesSound_26 : decode cX10_areTracesSound 26 = .ok (.aload 4, 2) := by decide +kernel
theorem dX10_areTracesSound_28 : decode cX10_areTracesSound 28 = .ok (.invokevirtual 526, 3) := by decide +kernel
theorem dX10_areTracesSound_31 : decode cX10_areTracesSound 31 = .ok (.ifCond .ne 5, 3) := by decide +kernel
theorem dX10_areTracesSound_34 : decode cX10_areTracesSound 34 = .ok (.iconst 0, 1) := by decide +kernel
theorem dX10_areTracesSound_35 : decode cX10_areTracesSound 35 = .ok (.ireturn, 1) := by decide +kernel
theorem dX10_areTracesSound_36 : decode cX10_areTracesSound 36 = .ok (.iinc 3 1, 3) := by decide +kernel
theorem dX10_areTracesSound_39 : decode cX10_areTracesSound 39 = .ok (.goto (-29), 3) := by decide +kernel
theorem dX10_areTracesSound_42 : decode cX10_areTracesSound 42 = .ok (.iconst 1, 1) := by decide +kernel
theorem dX10_areTracesSound_43 : decode cX10_areTracesSound 43 = .ok (.ireturn, 1) := by decide +kernel
theorem dX10_isTraceSound_0 : decode cX10_isTraceSound 0 = .ok (.aload_n 0, 1) := by decide +kernel
theorem dX10_isTraceSound_1 : decode cX10_isTraceSound 1 = .ok (.getfield 29, 3) := by decide +kernel
theorem dX10_isTraceSound_4 : decode cX10_isTraceSound 4 = .ok (.astore_n 2, 1) := by decide +kernel
theorem dX10_isTraceSound_5 : decode cX10_isTraceSound 5 = .ok (.aload_n 2, 1) := by decide +kernel
theorem dX10_isTraceSound_6 : decode cX10_isTraceSound 6 = .ok (.arraylength, 1) := by decide +kernel
theorem dX10_isTraceSound_7 : decode cX10_isTraceSound 7 = .ok (.istore_n 3, 1) := by decide +kernel
theorem dX10_isTraceSound_8 : decode cX10_isTraceSound 8 = .ok (.iconst 0, 1) := by decide +kernel
theorem dX10_isTraceSound_9 : decode cX10_isTraceSound 9 = .ok (.istore 4, 2) := by decide +kernel
theorem dX10_isTraceSound_11 : decode cX10_isTraceSound 11 = .ok (.iload 4, 2) := by decide +kernel
theorem dX10_isTraceSound_13 : decode cX10_isTraceSound 13 = .ok (.iload_n 3, 1) := by decide +kernel
theorem dX10_isTraceSound_14 : decode cX10_isTraceSound 14 = .ok (.if_icmp .ge 49, 3) := by decide +kernel
theorem dX10_isTraceSound_17 : decode cX10_isTraceSound 17 = .ok (.aload_n 2, 1) := by decide +kernel
theorem dX10_isTraceSound_18 : decode cX10_isTraceSound 18 = .ok (.iload 4, 2) := by decide +kernel
theorem dX10_isTraceSound_20 : decode cX10_isTraceSound 20 = .ok (.aaload, 1) := by decide +kernel
theorem dX10_isTraceSound_21 : decode cX10_isTraceSound 21 = .ok (.astore 5, 2) := by decide +kernel
theorem dX10_isTraceSound_23 : decode cX10_isTraceSound 23 = .ok (.aload 5, 2) := by decide +kernel
theorem dX10_isTraceSound_25 : decode cX10_isTraceSound 25 = .ok (.ifnull 32, 3) := by decide +kernel
theorem dX10_isTraceSound_28 : decode cX10_isTraceSound 28 = .ok (.aload_n 1, 1) := by decide +kernel
theorem dX10_isTraceSound_29 : decode cX10_isTraceSound 29 = .ok (.getfield 506, 3) := by decide +kernel
theorem dX10_isTraceSound_32 : decode cX10_isTraceSound 32 = .ok (.aload 5, 2) := by decide +kernel
theorem dX10_isTraceSound_34 : decode cX10_isTraceSound 34 = .ok (.getfield 157, 3) := by decide +kernel
theorem dX10_isTraceSound_37 : decode cX10_isTraceSound 37 = .ok (.invokevirtual 212, 3) := by decide +kernel
theorem dX10_isTraceSound_40 : decode cX10_isTraceSound 40 = .ok (.aload 5, 2) := by decide +kernel
theorem dX10_isTraceSound_42 : decode cX10_isTraceSound 42 = .ok (.getfield 342, 3) := by decide +kernel
theorem dX10_isTraceSound_45 : decode cX10_isTraceSound 45 = .ok (.aload_n 1, 1) := by decide +kernel
theorem dX10_isTraceSound_46 : decode cX10_isTraceSound 46 = .ok (.getfield 157, 3) := by decide +kernel
theorem dX10_isTraceSound_49 : decode cX10_isTraceSound 49 = .ok (.invokevirtual 212, 3) := by decide +kernel
theorem dX10_isTraceSound_52 : decode cX10_isTraceSound 52 = .ok (.if_icmp .eq 5, 3) := by decide +kernel
theorem dX10_isTraceSound_55 : decode cX10_isTraceSound 55 = .ok (.iconst 0, 1) := by decide +kernel
theorem dX10_isTraceSound_56 : decode cX10_isTraceSound 56 = .ok (.ireturn, 1) := by decide +kernel
theorem dX10_isTraceSound_57 : decode cX10_isTraceSound 57 = .ok (.iinc 4 1, 3) := by decide +kernel
theorem dX10_isTraceSound_60 : decode cX10_isTraceSound 60 = .ok (.goto (-49), 3) := by decide +kernel
theorem dX10_isTraceSound_63 : decode cX10_isTraceSound 63 = .ok (.aload_n 0, 1) := by decide +kernel
theorem dX10_isTraceSound_64 : decode cX10_isTraceSound 64 = .ok (.getfield 35, 3) := by decide +kernel
theorem dX10_isTraceSound_67 : decode cX10_isTraceSound 67 = .ok (.astore_n 2, 1) := by decide +kernel
theorem dX10_isTraceSound_68 : decode cX10_isTraceSound 68 = .ok (.aload_n 2, 1) := by decide +kernel
theorem dX10_isTraceSound_69 : decode cX10_isTraceSound 69 = .ok (.arraylength, 1) := by decide +kernel
theorem dX10_isTraceSound_70 : decode cX10_isTraceSound 70 = .ok (.istore_n 3, 1) := by decide +kernel
theorem dX10_isTraceSound_71 : decode cX10_isTraceSound 71 = .ok (.iconst 0, 1) := by decide +kernel
theorem dX10_isTraceSound_72 : decode cX10_isTraceSound 72 = .ok (.istore 4, 2) := by decide +kernel
theorem dX10_isTraceSound_74 : decode cX10_isTraceSound 74 = .ok (.iload 4, 2) := by decide +kernel
theorem dX10_isTraceSound_76 : decode cX10_isTraceSound 76 = .ok (.iload_n 3, 1) := by decide +kernel
theorem dX10_isTraceSound_77 : decode cX10_isTraceSound 77 = .ok (.if_icmp .ge 49, 3) := by decide +kernel
theorem dX10_isTraceSound_80 : decode cX10_isTraceSound 80 = .ok (.aload_n 2, 1) := by decide +kernel
theorem dX10_isTraceSound_81 : decode cX10_isTraceSound 81 = .ok (.iload 4, 2) := by decide +kernel
theorem dX10_isTraceSound_83 : decode cX10_isTraceSound 83 = .ok (.aaload, 1) := by decide +kernel
theorem dX10_isTraceSound_84 : decode cX10_isTraceSound 84 = .ok (.astore 5, 2) := by decide +kernel
theorem dX10_isTraceSound_86 : decode cX10_isTraceSound 86 = .ok (.aload 5, 2) := by decide +kernel
theorem dX10_isTraceSound_88 : decode cX10_isTraceSound 88 = .ok (.ifnull 32, 3) := by decide +kernel
theorem dX10_isTraceSound_91 : decode cX10_isTraceSound 91 = .ok (.aload_n 1, 1) := by decide +kernel
theorem dX10_isTraceSound_92 : decode cX10_isTraceSound 92 = .ok (.getfield 345, 3) := by decide +kernel
theorem dX10_isTraceSound_95 : decode cX10_isTraceSound 95 = .ok (.aload 5, 2) := by decide +kernel
theorem dX10_isTraceSound_97 : decode cX10_isTraceSound 97 = .ok (.getfield 517, 3) := by decide +kernel
theorem dX10_isTraceSound_100 : decode cX10_isTraceSound 100 = .ok (.invokevirtual 212, 3) := by decide +kernel
theorem dX10_isTraceSound_103 : decode cX10_isTraceSound 103 = .ok (.aload 5, 2) := by decide +kernel
theorem dX10_isTraceSound_105 : decode cX10_isTraceSound 105 = .ok (.getfield 352, 3) := by decide +kernel
theorem dX10_isTraceSound_108 : decode cX10_isTraceSound 108 = .ok (.aload_n 1, 1) := by decide +kernel
theorem dX10_isTraceSound_109 : decode cX10_isTraceSound 109 = .ok (.getfield 157, 3) := by decide +kernel
theorem dX10_isTraceSound_112 : decode cX10_isTraceSound 112 = .ok (.invokevirtual 212, 3) := by decide +kernel
theorem dX10_isTraceSound_115 : decode cX10_isTraceSound 115 = .ok (.if_icmp .eq 5, 3) := by decide +kernel
theorem dX10_isTraceSound_118 : decode cX10_isTraceSound 118 = .ok (.iconst 0, 1) := by decide +kernel
theorem dX10_isTraceSound_119 : decode cX10_isTraceSound 119 = .ok (.ireturn, 1) := by decide +kernel
theorem dX10_isTraceSound_120 : decode cX10_isTraceSound 120 = .ok (.iinc 4 1, 3) := by decide +kernel
theorem dX10_isTraceSound_123 : decode cX10_isTraceSound 123 = .ok (.goto (-49), 3) := by decide +kernel
theorem dX10_isTraceSound_126 : decode cX10_isTraceSound 126 = .ok (.iconst 1, 1) := by decide +kernel
theorem dX10_isTraceSound_127 : decode cX10_isTraceSound 127 = .ok (.ireturn, 1) := by decide +kernel
