/-! decode rows of the methods that are walked (printed by TURN) -/
theorem dX0_init_0 : decode cX0_init 0 = .ok (.aload_n 0, 1) := by decide +kernel
theorem dX0_init_1 : decode cX0_init 1 = .ok (.invokespecial 1, 3) := by decide +kernel
theorem dX0_init_4 : decode cX0_init 4 = .ok (.aload_n 0, 1) := by decide +kernel
theorem dX0_init_5 : decode cX0_init 5 = .ok (.bipush 100, 2) := by decide +kernel
theorem dX0_init_7 : decode cX0_init 7 = .ok (.putfield 7, 3) := by decide +kernel
theorem dX0_init_10 : decode cX0_init 10 = .ok (.aload_n 0, 1) := by decide +kernel
theorem dX0_init_11 : decode cX0_init 11 = .ok (.bipush 10, 2) := by decide +kernel
theorem dX0_init_13 : decode cX0_init 13 = .ok (.putfield 13, 3) := by decide +kernel
theorem dX0_init_16 : decode cX0_init 16 = .ok (.return_, 1) := by decide +kernel
theorem dX10_addComponent_0 : decode cX10_addComponent 0 = .ok (.aload_n 0, 1) := by decide +kernel
theorem dX10_addComponent_1 : decode cX10_addComponent 1 = .ok (.iload_n 1, 1) := by decide +kernel
theorem dX10_addComponent_2 : decode cX10_addComponent 2 = .ok (.invokevirtual 80, 3) := by decide +kernel
theorem dX10_addComponent_5 : decode cX10_addComponent 5 = .ok (.astore 5, 2) := by decide +kernel
theorem dX10_addComponent_7 : decode cX10_addComponent 7 = .ok (.aload_n 0, 1) := by decide +kernel
theorem dX10_addComponent_8 : decode cX10_addComponent 8 = .ok (.iload_n 2, 1) := by decide +kernel
theorem dX10_addComponent_9 : decode cX10_addComponent 9 = .ok (.invokevirtual 80, 3) := by decide +kernel
theorem dX10_addComponent_12 : decode cX10_addComponent 12 = .ok (.astore 6, 2) := by decide +kernel
theorem dX10_addComponent_14 : decode cX10_addComponent 14 = .ok (.aload 5, 2) := by decide +kernel
theorem dX10_addComponent_16 : decode cX10_addComponent 16 = .ok (.getfield 84, 3) := by decide +kernel
theorem dX10_addComponent_19 : decode cX10_addComponent 19 = .ok (.ifCond .eq 8, 3) := by decide +kernel
theorem dX10_addComponent_22 : decode cX10_addComponent 22 = .ok (.iload_n 2, 1) := by decide +kernel
theorem dX10_addComponent_23 : decode cX10_addComponent 23 = .ok (.iload_n 1, 1) := by decide +kernel
theorem dX10_addComponent_24 : decode cX10_addComponent 24 = .ok (.if_icmp .lt 13, 3) := by decide +kernel
theorem dX10_addComponent_27 : decode cX10_addComponent 27 = .ok (.new 88, 3) := by decide +kernel
theorem dX10_addComponent_30 : decode cX10_addComponent 30 = .ok (.dup, 1) := by decide +kernel
theorem dX10_addComponent_31 : decode cX10_addComponent 31 = .ok (.ldc 90, 2) := by decide +kernel
theorem dX10_addComponent_33 : decode cX10_addComponent 33 = .ok (.invokespecial 92, 3) := by decide +kernel
theorem dX10_addComponent_36 : decode cX10_addComponent 36 = .ok (.athrow, 1) := by decide +kernel
theorem dX10_addComponent_37 : decode cX10_addComponent 37 = .ok (.iload_n 3, 1) := by decide +kernel
theorem dX10_addComponent_38 : decode cX10_addComponent 38 = .ok (.iconst 1, 1) := by decide +kernel
theorem dX10_addComponent_39 : decode cX10_addComponent 39 = .ok (.bipush 9, 2) := by decide +kernel
theorem dX10_addComponent_41 : decode cX10_addComponent 41 = .ok (.invokestatic 47, 3) := by decide +kernel
theorem dX10_addComponent_44 : decode cX10_addComponent 44 = .ok (.ifCond .eq 13, 3) := by decide +kernel
theorem dX10_addComponent_47 : decode cX10_addComponent 47 = .ok (.iload 4, 2) := by decide +kernel
theorem dX10_addComponent_49 : decode cX10_addComponent 49 = .ok (.iconst (-1), 1) := by decide +kernel
theorem dX10_addComponent_50 : decode cX10_addComponent 50 = .ok (.iconst 2, 1) := by decide +kernel
theorem dX10_addComponent_51 : decode cX10_addComponent 51 = .ok (.invokestatic 47, 3) := by decide +kernel
theorem dX10_addComponent_54 : decode cX10_addComponent 54 = .ok (.ifCond .ne 13, 3) := by decide +kernel
theorem dX10_addComponent_57 : decode cX10_addComponent 57 = .ok (.new 51, 3) := by decide +kernel
theorem dX10_addComponent_60 : decode cX10_addComponent 60 = .ok (.dup, 1) := by decide +kernel
theorem dX10_addComponent_61 : decode cX10_addComponent 61 = .ok (.ldc 93, 2) := by decide +kernel
theorem dX10_addComponent_63 : decode cX10_addComponent 63 = .ok (.invokespecial 55, 3) := by decide +kernel
theorem dX10_addComponent_66 : decode cX10_addComponent 66 = .ok (.athrow, 1) := by decide +kernel
theorem dX10_addComponent_67 : decode cX10_addComponent 67 = .ok (.aload 5, 2) := by decide +kernel
theorem dX10_addComponent_69 : decode cX10_addComponent 69 = .ok (.invokevirtual 95, 3) := by decide +kernel
theorem dX10_addComponent_72 : decode cX10_addComponent 72 = .ok (.ifCond .ne 13, 3) := by decide +kernel
theorem dX10_addComponent_75 : decode cX10_addComponent 75 = .ok (.new 62, 3) := by decide +kernel
theorem dX10_addComponent_78 : decode cX10_addComponent 78 = .ok (.dup, 1) := by decide +kernel
theorem dX10_addComponent_79 : decode cX10_addComponent 79 = .ok (.ldc 99, 2) := by decide +kernel
theorem dX10_addComponent_81 : decode cX10_addComponent 81 = .ok (.invokespecial 66, 3) := by decide +kernel
theorem dX10_addComponent_84 : decode cX10_addComponent 84 = .ok (.athrow, 1) := by decide +kernel
theorem dX10_addComponent_85 : decode cX10_addComponent 85 = .ok (.aload 5, 2) := by decide +kernel
theorem dX10_addComponent_87 : decode cX10_addComponent 87 = .ok (.new 101, 3) := by decide +kernel
theorem dX10_addComponent_90 : decode cX10_addComponent 90 = .ok (.dup, 1) := by decide +kernel
theorem dX10_addComponent_91 : decode cX10_addComponent 91 = .ok (.aload 6, 2) := by decide +kernel
theorem dX10_addComponent_93 : decode cX10_addComponent 93 = .ok (.iload_n 3, 1) := by decide +kernel
theorem dX10_addComponent_94 : decode cX10_addComponent 94 = .ok (.iload 4, 2) := by decide +kernel
theorem dX10_addComponent_96 : decode cX10_addComponent 96 = .ok (.invokespecial 103, 3) := by decide +kernel
theorem dX10_addComponent_99 : decode cX10_addComponent 99 = .ok (.invokevirtual 106, 3) := by decide +kernel
theorem dX10_addComponent_102 : decode cX10_addComponent 102 = .ok (.ireturn, 1) := by decide +kernel
theorem dX10_addMachine_0 : decode cX10_addMachine 0 = .ok (.iload_n 1, 1) := by decide +kernel
theorem dX10_addMachine_1 : decode cX10_addMachine 1 = .ok (.iconst 0, 1) := by decide +kernel
theorem dX10_addMachine_2 : decode cX10_addMachine 2 = .ok (.bipush 20, 2) := by decide +kernel
theorem dX10_addMachine_4 : decode cX10_addMachine 4 = .ok (.invokestatic 47, 3) := by decide +kernel
theorem dX10_addMachine_7 : decode cX10_addMachine 7 = .ok (.ifCond .eq 35, 3) := by decide +kernel
theorem dX10_addMachine_10 : decode cX10_addMachine 10 = .ok (.iload_n 2, 1) := by decide +kernel
theorem dX10_addMachine_11 : decode cX10_addMachine 11 = .ok (.iconst 0, 1) := by decide +kernel
theorem dX10_addMachine_12 : decode cX10_addMachine 12 = .ok (.bipush 50, 2) := by decide +kernel
theorem dX10_addMachine_14 : decode cX10_addMachine 14 = .ok (.invokestatic 47, 3) := by decide +kernel
theorem dX10_addMachine_17 : decode cX10_addMachine 17 = .ok (.ifCond .eq 25, 3) := by decide +kernel
theorem dX10_addMachine_20 : decode cX10_addMachine 20 = .ok (.iload_n 3, 1) := by decide +kernel
theorem dX10_addMachine_21 : decode cX10_addMachine 21 = .ok (.iconst 5, 1) := by decide +kernel
theorem dX10_addMachine_22 : decode cX10_addMachine 22 = .ok (.sipush 500, 3) := by decide +kernel
theorem dX10_addMachine_25 : decode cX10_addMachine 25 = .ok (.invokestatic 47, 3) := by decide +kernel
theorem dX10_addMachine_28 : decode cX10_addMachine 28 = .ok (.ifCond .eq 14, 3) := by decide +kernel
theorem dX10_addMachine_31 : decode cX10_addMachine 31 = .ok (.iload 4, 2) := by decide +kernel
theorem dX10_addMachine_33 : decode cX10_addMachine 33 = .ok (.iconst 1, 1) := by decide +kernel
theorem dX10_addMachine_34 : decode cX10_addMachine 34 = .ok (.bipush 99, 2) := by decide +kernel
theorem dX10_addMachine_36 : decode cX10_addMachine 36 = .ok (.invokestatic 47, 3) := by decide +kernel
theorem dX10_addMachine_39 : decode cX10_addMachine 39 = .ok (.ifCond .ne 13, 3) := by decide +kernel
theorem dX10_addMachine_42 : decode cX10_addMachine 42 = .ok (.new 51, 3) := by decide +kernel
theorem dX10_addMachine_45 : decode cX10_addMachine 45 = .ok (.dup, 1) := by decide +kernel
theorem dX10_addMachine_46 : decode cX10_addMachine 46 = .ok (.ldc 53, 2) := by decide +kernel
theorem dX10_addMachine_48 : decode cX10_addMachine 48 = .ok (.invokespecial 55, 3) := by decide +kernel
theorem dX10_addMachine_51 : decode cX10_addMachine 51 = .ok (.athrow, 1) := by decide +kernel
theorem dX10_addMachine_52 : decode cX10_addMachine 52 = .ok (.aload_n 0, 1) := by decide +kernel
theorem dX10_addMachine_53 : decode cX10_addMachine 53 = .ok (.getfield 58, 3) := by decide +kernel
theorem dX10_addMachine_56 : decode cX10_addMachine 56 = .ok (.aload_n 0, 1) := by decide +kernel
theorem dX10_addMachine_57 : decode cX10_addMachine 57 = .ok (.getfield 11, 3) := by decide +kernel
theorem dX10_addMachine_60 : decode cX10_addMachine 60 = .ok (.arraylength, 1) := by decide +kernel
theorem dX10_addMachine_61 : decode cX10_addMachine 61 = .ok (.if_icmp .lt 13, 3) := by decide +kernel
theorem dX10_addMachine_64 : decode cX10_addMachine 64 = .ok (.new 62, 3) := by decide +kernel
theorem dX10_addMachine_67 : decode cX10_addMachine 67 = .ok (.dup, 1) := by decide +kernel
theorem dX10_addMachine_68 : decode cX10_addMachine 68 = .ok (.ldc 64, 2) := by decide +kernel
theorem dX10_addMachine_70 : decode cX10_addMachine 70 = .ok (.invokespecial 66, 3) := by decide +kernel
theorem dX10_addMachine_73 : decode cX10_addMachine 73 = .ok (.athrow, 1) := by decide +kernel
theorem dX10_addMachine_74 : decode cX10_addMachine 74 = .ok (.aload_n 0, 1) := by decide +kernel
theorem dX10_addMachine_75 : decode cX10_addMachine 75 = .ok (.getfield 11, 3) := by decide +kernel
theorem dX10_addMachine_78 : decode cX10_addMachine 78 = .ok (.aload_n 0, 1) := by decide +kernel
theorem dX10_addMachine_79 : decode cX10_addMachine 79 = .ok (.getfield 58, 3) := by decide +kernel
theorem dX10_addMachine_82 : decode cX10_addMachine 82 = .ok (.new 9, 3) := by decide +kernel
theorem dX10_addMachine_85 : decode cX10_addMachine 85 = .ok (.dup, 1) := by decide +kernel
theorem dX10_addMachine_86 : decode cX10_addMachine 86 = .ok (.iload_n 1, 1) := by decide +kernel
theorem dX10_addMachine_87 : decode cX10_addMachine 87 = .ok (.iload_n 2, 1) := by decide +kernel
theorem dX10_addMachine_88 : decode cX10_addMachine 88 = .ok (.iload_n 3, 1) := by decide +kernel
theorem dX10_addMachine_89 : decode cX10_addMachine 89 = .ok (.iload 4, 2) := by decide +kernel
theorem dX10_addMachine_91 : decode cX10_addMachine 91 = .ok (.invokespecial 67, 3) := by decide +kernel
theorem dX10_addMachine_94 : decode cX10_addMachine 94 = .ok (.aastore, 1) := by decide +kernel
theorem dX10_addMachine_95 : decode cX10_addMachine 95 = .ok (.aload_n 0, 1) := by decide +kernel
theorem dX10_addMachine_96 : decode cX10_addMachine 96 = .ok (.dup, 1) := by decide +kernel
theorem dX10_addMachine_97 : decode cX10_addMachine 97 = .ok (.getfield 58, 3) := by decide +kernel
theorem dX10_addMachine_100 : decode cX10_addMachine 100 = .ok (.iconst 1, 1) := by decide +kernel
theorem dX10_addMachine_101 : decode cX10_addMachine 101 = .ok (.iadd, 1) := by decide +kernel
theorem dX10_addMachine_102 : decode cX10_addMachine 102 = .ok (.putfield 58, 3) := by decide +kernel
theorem dX10_addMachine_105 : decode cX10_addMachine 105 = .ok (.aload_n 0, 1) := by decide +kernel
theorem dX10_addMachine_106 : decode cX10_addMachine 106 = .ok (.getfield 58, 3) := by decide +kernel
theorem dX10_addMachine_109 : decode cX10_addMachine 109 = .ok (.iconst 1, 1) := by decide +kernel
theorem dX10_addMachine_110 : decode cX10_addMachine 110 = .ok (.isub, 1) := by decide +kernel
theorem dX10_addMachine_111 : decode cX10_addMachine 111 = .ok (.ireturn, 1) := by decide +kernel
theorem dX10_addOperation_0 : decode cX10_addOperation 0 = .ok (.aload_n 0, 1) := by decide +kernel
theorem dX10_addOperation_1 : decode cX10_addOperation 1 = .ok (.iload_n 1, 1) := by decide +kernel
theorem dX10_addOperation_2 : decode cX10_addOperation 2 = .ok (.invokevirtual 80, 3) := by decide +kernel
theorem dX10_addOperation_5 : decode cX10_addOperation 5 = .ok (.astore 5, 2) := by decide +kernel
theorem dX10_addOperation_7 : decode cX10_addOperation 7 = .ok (.aload_n 0, 1) := by decide +kernel
theorem dX10_addOperation_8 : decode cX10_addOperation 8 = .ok (.iload_n 2, 1) := by decide +kernel
theorem dX10_addOperation_9 : decode cX10_addOperation 9 = .ok (.invokevirtual 110, 3) := by decide +kernel
theorem dX10_addOperation_12 : decode cX10_addOperation 12 = .ok (.astore 6, 2) := by decide +kernel
theorem dX10_addOperation_14 : decode cX10_addOperation 14 = .ok (.iload_n 3, 1) := by decide +kernel
theorem dX10_addOperation_15 : decode cX10_addOperation 15 = .ok (.iconst (-1), 1) := by decide +kernel
theorem dX10_addOperation_16 : decode cX10_addOperation 16 = .ok (.if_icmp .ne 7, 3) := by decide +kernel
theorem dX10_addOperation_19 : decode cX10_addOperation 19 = .ok (.aconst_null, 1) := by decide +kernel
theorem dX10_addOperation_20 : decode cX10_addOperation 20 = .ok (.goto 8, 3) := by decide +kernel
theorem dX10_addOperation_23 : decode cX10_addOperation 23 = .ok (.aload_n 0, 1) := by decide +kernel
theorem dX10_addOperation_24 : decode cX10_addOperation 24 = .ok (.iload_n 3, 1) := by decide +kernel
theorem dX10_addOperation_25 : decode cX10_addOperation 25 = .ok (.invokevirtual 110, 3) := by decide +kernel
theorem dX10_addOperation_28 : decode cX10_addOperation 28 = .ok (.astore 7, 2) := by decide +kernel
theorem dX10_addOperation_30 : decode cX10_addOperation 30 = .ok (.aload 5, 2) := by decide +kernel
theorem dX10_addOperation_32 : decode cX10_addOperation 32 = .ok (.getfield 84, 3) := by decide +kernel
theorem dX10_addOperation_35 : decode cX10_addOperation 35 = .ok (.ifCond .ne 13, 3) := by decide +kernel
theorem dX10_addOperation_38 : decode cX10_addOperation 38 = .ok (.new 88, 3) := by decide +kernel
theorem dX10_addOperation_41 : decode cX10_addOperation 41 = .ok (.dup, 1) := by decide +kernel
theorem dX10_addOperation_42 : decode cX10_addOperation 42 = .ok (.ldc 114, 2) := by decide +kernel
theorem dX10_addOperation_44 : decode cX10_addOperation 44 = .ok (.invokespecial 92, 3) := by decide +kernel
theorem dX10_addOperation_47 : decode cX10_addOperation 47 = .ok (.athrow, 1) := by decide +kernel
theorem dX10_addOperation_48 : decode cX10_addOperation 48 = .ok (.iload 4, 2) := by decide +kernel
theorem dX10_addOperation_50 : decode cX10_addOperation 50 = .ok (.iconst 1, 1) := by decide +kernel
theorem dX10_addOperation_51 : decode cX10_addOperation 51 = .ok (.bipush 20, 2) := by decide +kernel
theorem dX10_addOperation_53 : decode cX10_addOperation 53 = .ok (.invokestatic 47, 3) := by decide +kernel
theorem dX10_addOperation_56 : decode cX10_addOperation 56 = .ok (.ifCond .ne 13, 3) := by decide +kernel
theorem dX10_addOperation_59 : decode cX10_addOperation 59 = .ok (.new 51, 3) := by decide +kernel
theorem dX10_addOperation_62 : decode cX10_addOperation 62 = .ok (.dup, 1) := by decide +kernel
theorem dX10_addOperation_63 : decode cX10_addOperation 63 = .ok (.ldc 116, 2) := by decide +kernel
theorem dX10_addOperation_65 : decode cX10_addOperation 65 = .ok (.invokespecial 55, 3) := by decide +kernel
theorem dX10_addOperation_68 : decode cX10_addOperation 68 = .ok (.athrow, 1) := by decide +kernel
theorem dX10_addOperation_69 : decode cX10_addOperation 69 = .ok (.aload 5, 2) := by decide +kernel
theorem dX10_addOperation_71 : decode cX10_addOperation 71 = .ok (.invokevirtual 118, 3) := by decide +kernel
theorem dX10_addOperation_74 : decode cX10_addOperation 74 = .ok (.ifCond .ne 13, 3) := by decide +kernel
theorem dX10_addOperation_77 : decode cX10_addOperation 77 = .ok (.new 62, 3) := by decide +kernel
theorem dX10_addOperation_80 : decode cX10_addOperation 80 = .ok (.dup, 1) := by decide +kernel
theorem dX10_addOperation_81 : decode cX10_addOperation 81 = .ok (.ldc 121, 2) := by decide +kernel
theorem dX10_addOperation_83 : decode cX10_addOperation 83 = .ok (.invokespecial 66, 3) := by decide +kernel
theorem dX10_addOperation_86 : decode cX10_addOperation 86 = .ok (.athrow, 1) := by decide +kernel
theorem dX10_addOperation_87 : decode cX10_addOperation 87 = .ok (.aload 5, 2) := by decide +kernel
theorem dX10_addOperation_89 : decode cX10_addOperation 89 = .ok (.new 123, 3) := by decide +kernel
theorem dX10_addOperation_92 : decode cX10_addOperation 92 = .ok (.dup, 1) := by decide +kernel
theorem dX10_addOperation_93 : decode cX10_addOperation 93 = .ok (.aload 6, 2) := by decide +kernel
theorem dX10_addOperation_95 : decode cX10_addOperation 95 = .ok (.aload 7, 2) := by decide +kernel
theorem dX10_addOperation_97 : decode cX10_addOperation 97 = .ok (.iload 4, 2) := by decide +kernel
theorem dX10_addOperation_99 : decode cX10_addOperation 99 = .ok (.invokespecial 125, 3) := by decide +kernel
theorem dX10_addOperation_102 : decode cX10_addOperation 102 = .ok (.invokevirtual 128, 3) := by decide +kernel
theorem dX10_addOperation_105 : decode cX10_addOperation 105 = .ok (.ireturn, 1) := by decide +kernel
theorem dX10_addPart_0 : decode cX10_addPart 0 = .ok (.iload_n 2, 1) := by decide +kernel
theorem dX10_addPart_1 : decode cX10_addPart 1 = .ok (.iconst 0, 1) := by decide +kernel
theorem dX10_addPart_2 : decode cX10_addPart 2 = .ok (.iconst 3, 1) := by decide +kernel
theorem dX10_addPart_3 : decode cX10_addPart 3 = .ok (.invokestatic 47, 3) := by decide +kernel
theorem dX10_addPart_6 : decode cX10_addPart 6 = .ok (.ifCond .ne 13, 3) := by decide +kernel
theorem dX10_addPart_9 : decode cX10_addPart 9 = .ok (.new 51, 3) := by decide +kernel
theorem dX10_addPart_12 : decode cX10_addPart 12 = .ok (.dup, 1) := by decide +kernel
theorem dX10_addPart_13 : decode cX10_addPart 13 = .ok (.ldc 70, 2) := by decide +kernel
theorem dX10_addPart_15 : decode cX10_addPart 15 = .ok (.invokespecial 55, 3) := by decide +kernel
theorem dX10_addPart_18 : decode cX10_addPart 18 = .ok (.athrow, 1) := by decide +kernel
theorem dX10_addPart_19 : decode cX10_addPart 19 = .ok (.aload_n 0, 1) := by decide +kernel
theorem dX10_addPart_20 : decode cX10_addPart 20 = .ok (.getfield 72, 3) := by decide +kernel
theorem dX10_addPart_23 : decode cX10_addPart 23 = .ok (.aload_n 0, 1) := by decide +kernel
theorem dX10_addPart_24 : decode cX10_addPart 24 = .ok (.getfield 17, 3) := by decide +kernel
theorem dX10_addPart_27 : decode cX10_addPart 27 = .ok (.arraylength, 1) := by decide +kernel
theorem dX10_addPart_28 : decode cX10_addPart 28 = .ok (.if_icmp .lt 13, 3) := by decide +kernel
theorem dX10_addPart_31 : decode cX10_addPart 31 = .ok (.new 62, 3) := by decide +kernel
theorem dX10_addPart_34 : decode cX10_addPart 34 = .ok (.dup, 1) := by decide +kernel
theorem dX10_addPart_35 : decode cX10_addPart 35 = .ok (.ldc 75, 2) := by decide +kernel
theorem dX10_addPart_37 : decode cX10_addPart 37 = .ok (.invokespecial 66, 3) := by decide +kernel
theorem dX10_addPart_40 : decode cX10_addPart 40 = .ok (.athrow, 1) := by decide +kernel
theorem dX10_addPart_41 : decode cX10_addPart 41 = .ok (.aload_n 0, 1) := by decide +kernel
theorem dX10_addPart_42 : decode cX10_addPart 42 = .ok (.getfield 17, 3) := by decide +kernel
theorem dX10_addPart_45 : decode cX10_addPart 45 = .ok (.aload_n 0, 1) := by decide +kernel
theorem dX10_addPart_46 : decode cX10_addPart 46 = .ok (.getfield 72, 3) := by decide +kernel
theorem dX10_addPart_49 : decode cX10_addPart 49 = .ok (.new 15, 3) := by decide +kernel
theorem dX10_addPart_52 : decode cX10_addPart 52 = .ok (.dup, 1) := by decide +kernel
theorem dX10_addPart_53 : decode cX10_addPart 53 = .ok (.aload_n 0, 1) := by decide +kernel
theorem dX10_addPart_54 : decode cX10_addPart 54 = .ok (.getfield 72, 3) := by decide +kernel
theorem dX10_addPart_57 : decode cX10_addPart 57 = .ok (.iload_n 1, 1) := by decide +kernel
theorem dX10_addPart_58 : decode cX10_addPart 58 = .ok (.iload_n 2, 1) := by decide +kernel
theorem dX10_addPart_59 : decode cX10_addPart 59 = .ok (.invokespecial 77, 3) := by decide +kernel
theorem dX10_addPart_62 : decode cX10_addPart 62 = .ok (.aastore, 1) := by decide +kernel
theorem dX10_addPart_63 : decode cX10_addPart 63 = .ok (.aload_n 0, 1) := by decide +kernel
theorem dX10_addPart_64 : decode cX10_addPart 64 = .ok (.dup, 1) := by decide +kernel
theorem dX10_addPart_65 : decode cX10_addPart 65 = .ok (.getfield 72, 3) := by decide +kernel
theorem dX10_addPart_68 : decode cX10_addPart 68 = .ok (.iconst 1, 1) := by decide +kernel
theorem dX10_addPart_69 : decode cX10_addPart 69 = .ok (.iadd, 1) := by decide +kernel
theorem dX10_addPart_70 : decode cX10_addPart 70 = .ok (.putfield 72, 3) := by decide +kernel
theorem dX10_addPart_73 : decode cX10_addPart 73 = .ok (.aload_n 0, 1) := by decide +kernel
theorem dX10_addPart_74 : decode cX10_addPart 74 = .ok (.getfield 72, 3) := by decide +kernel
theorem dX10_addPart_77 : decode cX10_addPart 77 = .ok (.iconst 1, 1) := by decide +kernel
theorem dX10_addPart_78 : decode cX10_addPart 78 = .ok (.isub, 1) := by decide +kernel
theorem dX10_addPart_79 : decode cX10_addPart 79 = .ok (.ireturn, 1) := by decide +kernel
theorem dX10_advance_0 : decode cX10_advance 0 = .ok (.iload_n 1, 1) := by decide +kernel
theorem dX10_advance_1 : decode cX10_advance 1 = .ok (.iconst 1, 1) := by decide +kernel
theorem dX10_advance_2 : decode cX10_advance 2 = .ok (.sipush 500, 3) := by decide +kernel
theorem dX10_advance_5 : decode cX10_advance 5 = .ok (.invokestatic 47, 3) := by decide +kernel
theorem dX10_advance_8 : decode cX10_advance 8 = .ok (.ifCond .ne 13, 3) := by decide +kernel
theorem dX10_advance_11 : decode cX10_advance 11 = .ok (.new 51, 3) := by decide +kernel
theorem dX10_advance_14 : decode cX10_advance 14 = .ok (.dup, 1) := by decide +kernel
theorem dX10_advance_15 : decode cX10_advance 15 = .ok (.ldc 116, 2) := by decide +kernel
theorem dX10_advance_17 : decode cX10_advance 17 = .ok (.invokespecial 55, 3) := by decide +kernel
theorem dX10_advance_20 : decode cX10_advance 20 = .ok (.athrow, 1) := by decide +kernel
theorem dX10_advance_21 : decode cX10_advance 21 = .ok (.aload_n 0, 1) := by decide +kernel
theorem dX10_advance_22 : decode cX10_advance 22 = .ok (.getfield 294, 3) := by decide +kernel
theorem dX10_advance_25 : decode cX10_advance 25 = .ok (.iload_n 1, 1) := by decide +kernel
theorem dX10_advance_26 : decode cX10_advance 26 = .ok (.iadd, 1) := by decide +kernel
theorem dX10_advance_27 : decode cX10_advance 27 = .ok (.sipush 5000, 3) := by decide +kernel
theorem dX10_advance_30 : decode cX10_advance 30 = .ok (.if_icmp .le 14, 3) := by decide +kernel
theorem dX10_advance_33 : decode cX10_advance 33 = .ok (.new 62, 3) := by decide +kernel
theorem dX10_advance_36 : decode cX10_advance 36 = .ok (.dup, 1) := by decide +kernel
theorem dX10_advance_37 : decode cX10_advance 37 = .ok (.ldc_w 297, 3) := by decide +kernel
theorem dX10_advance_40 : decode cX10_advance 40 = .ok (.invokespecial 66, 3) := by decide +kernel
theorem dX10_advance_43 : decode cX10_advance 43 = .ok (.athrow, 1) := by decide +kernel
theorem dX10_advance_44 : decode cX10_advance 44 = .ok (.iconst 0, 1) := by decide +kernel
theorem dX10_advance_45 : decode cX10_advance 45 = .ok (.istore_n 2, 1) := by decide +kernel
theorem dX10_advance_46 : decode cX10_advance 46 = .ok (.iload_n 2, 1) := by decide +kernel
theorem dX10_advance_47 : decode cX10_advance 47 = .ok (.iload_n 1, 1) := by decide +kernel
theorem dX10_advance_48 : decode cX10_advance 48 = .ok (.if_icmp .ge 13, 3) := by decide +kernel
theorem dX10_advance_51 : decode cX10_advance 51 = .ok (.aload_n 0, 1) := by decide +kernel
theorem dX10_advance_52 : decode cX10_advance 52 = .ok (.invokevirtual 299, 3) := by decide +kernel
theorem dX10_advance_55 : decode cX10_advance 55 = .ok (.iinc 2 1, 3) := by decide +kernel
theorem dX10_advance_58 : decode cX10_advance 58 = .ok (.goto (-12), 3) := by decide +kernel
theorem dX10_advance_61 : decode cX10_advance 61 = .ok (.aload_n 0, 1) := by decide +kernel
theorem dX10_advance_62 : decode cX10_advance 62 = .ok (.getfield 294, 3) := by decide +kernel
theorem dX10_advance_65 : decode cX10_advance 65 = .ok (.ireturn, 1) := by decide +kernel
theorem dX10_areCostsSound_0 : decode cX10_areCostsSound 0 = .ok (.aload_n 0, 1) := by decide +kernel
theorem dX10_areCostsSound_1 : decode cX10_areCostsSound 1 = .ok (.getfield 495, 3) := by decide +kernel
theorem dX10_areCostsSound_4 : decode cX10_areCostsSound 4 = .ok (.lstore_n 1, 1) := by decide +kernel
theorem dX10_areCostsSound_5 : decode cX10_areCostsSound 5 = .ok (.aload_n 0, 1) := by decide +kernel
theorem dX10_areCostsSound_6 : decode cX10_areCostsSound 6 = .ok (.getfield 29, 3) := by decide +kernel
theorem dX10_areCostsSound_9 : decode cX10_areCostsSound 9 = .ok (.astore_n 3, 1) := by decide +kernel
theorem dX10_areCostsSound_10 : decode cX10_areCostsSound 10 = .ok (.aload_n 3, 1) := by decide +kernel
theorem dX10_areCostsSound_11 : decode cX10_areCostsSound 11 = .ok (.arraylength, 1) := by decide +kernel
theorem dX10_areCostsSound_12 : decode cX10_areCostsSound 12 = .ok (.istore 4, 2) := by decide +kernel
theorem dX10_areCostsSound_14 : decode cX10_areCostsSound 14 = .ok (.iconst 0, 1) := by decide +kernel
theorem dX10_areCostsSound_15 : decode cX10_areCostsSound 15 = .ok (.istore 5, 2) := by decide +kernel
theorem dX10_areCostsSound_17 : decode cX10_areCostsSound 17 = .ok (.iload 5, 2) := by decide +kernel
theorem dX10_areCostsSound_19 : decode cX10_areCostsSound 19 = .ok (.iload 4, 2) := by decide +kernel
theorem dX10_areCostsSound_21 : decode cX10_areCostsSound 21 = .ok (.if_icmp .ge 32, 3) := by decide +kernel
theorem dX10_areCostsSound_24 : decode cX10_areCostsSound 24 = .ok (.aload_n 3, 1) := by decide +kernel
theorem dX10_areCostsSound_25 : decode cX10_areCostsSound 25 = .ok (.iload 5, 2) := by decide +kernel
theorem dX10_areCostsSound_27 : decode cX10_areCostsSound 27 = .ok (.aaload, 1) := by decide +kernel
theorem dX10_areCostsSound_28 : decode cX10_areCostsSound 28 = .ok (.astore 6, 2) := by decide +kernel
theorem dX10_areCostsSound_30 : decode cX10_areCostsSound 30 = .ok (.lload_n 1, 1) := by decide +kernel
theorem dX10_areCostsSound_31 : decode cX10_areCostsSound 31 = .ok (.aload 6, 2) := by decide +kernel
theorem dX10_areCostsSound_33 : decode cX10_areCostsSound 33 = .ok (.ifnull 11, 3) := by decide +kernel
theorem dX10_areCostsSound_36 : decode cX10_areCostsSound 36 = .ok (.aload 6, 2) := by decide +kernel
theorem dX10_areCostsSound_38 : decode cX10_areCostsSound 38 = .ok (.getfield 225, 3) := by decide +kernel
theorem dX10_areCostsSound_41 : decode cX10_areCostsSound 41 = .ok (.goto 4, 3) := by decide +kernel
theorem dX10_areCostsSound_44 : decode cX10_areCostsSound 44 = .ok (.lconst 0, 1) := by decide +kernel
theorem dX10_areCostsSound_45 : decode cX10_areCostsSound 45 = .ok (.ladd, 1) := by decide +kernel
theorem dX10_areCostsSound_46 : decode cX10_areCostsSound 46 = .ok (.lstore_n 1, 1) := by decide +kernel
theorem dX10_areCostsSound_47 : decode cX10_areCostsSound 47 = .ok (.iinc 5 1, 3) := by decide +kernel
theorem dX10_areCostsSound_50 : decode cX10_areCostsSound 50 = .ok (.goto (-33), 3) := by decide +kernel
theorem dX10_areCostsSound_53 : decode cX10_areCostsSound 53 = .ok (.aload_n 0, 1) := by decide +kernel
theorem dX10_areCostsSound_54 : decode cX10_areCostsSound 54 = .ok (.getfield 35, 3) := by decide +kernel
theorem dX10_areCostsSound_57 : decode cX10_areCostsSound 57 = .ok (.astore_n 3, 1) := by decide +kernel
theorem dX10_areCostsSound_58 : decode cX10_areCostsSound 58 = .ok (.aload_n 3, 1) := by decide +kernel
theorem dX10_areCostsSound_59 : decode cX10_areCostsSound 59 = .ok (.arraylength, 1) := by decide +kernel
theorem dX10_areCostsSound_60 : decode cX10_areCostsSound 60 = .ok (.istore 4, 2) := by decide +kernel
theorem dX10_areCostsSound_62 : decode cX10_areCostsSound 62 = .ok (.iconst 0, 1) := by decide +kernel
theorem dX10_areCostsSound_63 : decode cX10_areCostsSound 63 = .ok (.istore 5, 2) := by decide +kernel
theorem dX10_areCostsSound_65 : decode cX10_areCostsSound 65 = .ok (.iload 5, 2) := by decide +kernel
theorem dX10_areCostsSound_67 : decode cX10_areCostsSound 67 = .ok (.iload 4, 2) := by decide +kernel
theorem dX10_areCostsSound_69 : decode cX10_areCostsSound 69 = .ok (.if_icmp .ge 41, 3) := by decide +kernel
theorem dX10_areCostsSound_72 : decode cX10_areCostsSound 72 = .ok (.aload_n 3, 1) := by decide +kernel
theorem dX10_areCostsSound_73 : decode cX10_areCostsSound 73 = .ok (.iload 5, 2) := by decide +kernel
theorem dX10_areCostsSound_75 : decode cX10_areCostsSound 75 = .ok (.aaload, 1) := by decide +kernel
theorem dX10_areCostsSound_76 : decode cX10_areCostsSound 76 = .ok (.astore 6, 2) := by decide +kernel
theorem dX10_areCostsSound_78 : decode cX10_areCostsSound 78 = .ok (.lload_n 1, 1) := by decide +kernel
theorem dX10_areCostsSound_79 : decode cX10_areCostsSound 79 = .ok (.aload 6, 2) := by decide +kernel
theorem dX10_areCostsSound_81 : decode cX10_areCostsSound 81 = .ok (.ifnull 20, 3) := by decide +kernel
theorem dX10_areCostsSound_84 : decode cX10_areCostsSound 84 = .ok (.aload 6, 2) := by decide +kernel
theorem dX10_areCostsSound_86 : decode cX10_areCostsSound 86 = .ok (.getfield 280, 3) := by decide +kernel
theorem dX10_areCostsSound_89 : decode cX10_areCostsSound 89 = .ok (.getfield 437, 3) := by decide +kernel
theorem dX10_areCostsSound_92 : decode cX10_areCostsSound 92 = .ok (.aload 6, 2) := by decide +kernel
theorem dX10_areCostsSound_94 : decode cX10_areCostsSound 94 = .ok (.getfield 355, 3) := by decide +kernel
theorem dX10_areCostsSound_97 : decode cX10_areCostsSound 97 = .ok (.ladd, 1) := by decide +kernel
theorem dX10_areCostsSound_98 : decode cX10_areCostsSound 98 = .ok (.goto 4, 3) := by decide +kernel
theorem dX10_areCostsSound_101 : decode cX10_areCostsSound 101 = .ok (.lconst 0, 1) := by decide +kernel
theorem dX10_areCostsSound_102 : decode cX10_areCostsSound 102 = .ok (.ladd, 1) := by decide +kernel
theorem dX10_areCostsSound_103 : decode cX10_areCostsSound 103 = .ok (.lstore_n 1, 1) := by decide +kernel
theorem dX10_areCostsSound_104 : decode cX10_areCostsSound 104 = .ok (.iinc 5 1, 3) := by decide +kernel
theorem dX10_areCostsSound_107 : decode cX10_areCostsSound 107 = .ok (.goto (-42), 3) := by decide +kernel
theorem dX10_areCostsSound_110 : decode cX10_areCostsSound 110 = .ok (.lload_n 1, 1) := by decide +kernel
theorem dX10_areCostsSound_111 : decode cX10_areCostsSound 111 = .ok (.aload_n 0, 1) := by decide +kernel
theorem dX10_areCostsSound_112 : decode cX10_areCostsSound 112 = .ok (.getfield 145, 3) := by decide +kernel
theorem dX10_areCostsSound_115 : decode cX10_areCostsSound 115 = .ok (.lcmp, 1) := by decide +kernel
theorem dX10_areCostsSound_116 : decode cX10_areCostsSound 116 = .ok (.ifCond .ne 7, 3) := by decide +kernel
theorem dX10_areCostsSound_119 : decode cX10_areCostsSound 119 = .ok (.iconst 1, 1) := by decide +kernel
theorem dX10_areCostsSound_120 : decode cX10_areCostsSound 120 = .ok (.goto 4, 3) := by decide +kernel
theorem dX10_areCostsSound_123 : decode cX10_areCostsSound 123 = .ok (.iconst 0, 1) := by decide +kernel
theorem dX10_areCostsSound_124 : decode cX10_areCostsSound 124 = .ok (.ireturn, 1) := by decide +kernel
theorem dX10_areJobsSound_0 : decode cX10_areJobsSound 0 = .ok (.iconst 0, 1) := by decide +kernel
theorem dX10_areJobsSound_1 : decode cX10_areJobsSound 1 = .ok (.istore_n 1, 1) := by decide +kernel
theorem dX10_areJobsSound_2 : decode cX10_areJobsSound 2 = .ok (.aload_n 0, 1) := by decide +kernel
theorem dX10_areJobsSound_3 : decode cX10_areJobsSound 3 = .ok (.getfield 35, 3) := by decide +kernel
theorem dX10_areJobsSound_6 : decode cX10_areJobsSound 6 = .ok (.astore_n 2, 1) := by decide +kernel
theorem dX10_areJobsSound_7 : decode cX10_areJobsSound 7 = .ok (.aload_n 2, 1) := by decide +kernel
theorem dX10_areJobsSound_8 : decode cX10_areJobsSound 8 = .ok (.arraylength, 1) := by decide +kernel
theorem dX10_areJobsSound_9 : decode cX10_areJobsSound 9 = .ok (.istore_n 3, 1) := by decide +kernel
theorem dX10_areJobsSound_10 : decode cX10_areJobsSound 10 = .ok (.iconst 0, 1) := by decide +kernel
theorem dX10_areJobsSound_11 : decode cX10_areJobsSound 11 = .ok (.istore 4, 2) := by decide +kernel
theorem dX10_areJobsSound_13 : decode cX10_areJobsSound 13 = .ok (.iload 4, 2) := by decide +kernel
theorem dX10_areJobsSound_15 : decode cX10_areJobsSound 15 = .ok (.iload_n 3, 1) := by decide +kernel
theorem dX10_areJobsSound_16 : decode cX10_areJobsSound 16 = .ok (.if_icmp .ge 38, 3) := by decide +kernel
theorem dX10_areJobsSound_19 : decode cX10_areJobsSound 19 = .ok (.aload_n 2, 1) := by decide +kernel
theorem dX10_areJobsSound_20 : decode cX10_areJobsSound 20 = .ok (.iload 4, 2) := by decide +kernel
theorem dX10_areJobsSound_22 : decode cX10_areJobsSound 22 = .ok (.aaload, 1) := by decide +kernel
theorem dX10_areJobsSound_23 : decode cX10_areJobsSound 23 = .ok (.astore 5, 2) := by decide +kernel
theorem dX10_areJobsSound_25 : decode cX10_areJobsSound 25 = .ok (.aload 5, 2) := by decide +kernel
theorem dX10_areJobsSound_27 : decode cX10_areJobsSound 27 = .ok (.ifnull 21, 3) := by decide +kernel
theorem dX10_areJobsSound_30 : decode cX10_areJobsSound 30 = .ok (.iload_n 1, 1) := by decide +kernel
theorem dX10_areJobsSound_31 : decode cX10_areJobsSound 31 = .ok (.aload 5, 2) := by decide +kernel
theorem dX10_areJobsSound_33 : decode cX10_areJobsSound 33 = .ok (.getfield 513, 3) := by decide +kernel
theorem dX10_areJobsSound_36 : decode cX10_areJobsSound 36 = .ok (.iadd, 1) := by decide +kernel
theorem dX10_areJobsSound_37 : decode cX10_areJobsSound 37 = .ok (.istore_n 1, 1) := by decide +kernel
theorem dX10_areJobsSound_38 : decode cX10_areJobsSound 38 = .ok (.aload 5, 2) := by decide +kernel
theorem dX10_areJobsSound_40 : decode cX10_areJobsSound 40 = .ok (.invokevirtual 523, 3) := by decide +kernel
theorem dX10_areJobsSound_43 : decode cX10_areJobsSound 43 = .ok (.ifCond .ne 5, 3) := by decide +kernel
theorem dX10_areJobsSound_46 : decode cX10_areJobsSound 46 = .ok (.iconst 0, 1) := by decide +kernel
theorem dX10_areJobsSound_47 : decode cX10_areJobsSound 47 = .ok (.ireturn, 1) := by decide +kernel
theorem dX10_areJobsSound_48 : decode cX10_areJobsSound 48 = .ok (.iinc 4 1, 3) := by decide +kernel
theorem dX10_areJobsSound_51 : decode cX10_areJobsSound 51 = .ok (.goto (-38), 3) := by decide +kernel
theorem dX10_areJobsSound_54 : decode cX10_areJobsSound 54 = .ok (.aload_n 0, 1) := by decide +kernel
theorem dX10_areJobsSound_55 : decode cX10_areJobsSound 55 = .ok (.getfield 29, 3) := by decide +kernel
theorem dX10_areJobsSound_58 : decode cX10_areJobsSound 58 = .ok (.astore_n 2, 1) := by decide +kernel
theorem dX10_areJobsSound_59 : decode cX10_areJobsSound 59 = .ok (.aload_n 2, 1) := by decide +kernel
theorem dX10_areJobsSound_60 : decode cX10_areJobsSound 60 = .ok (.arraylength, 1) := by decide +kernel
theorem dX10_areJobsSound_61 : decode cX10_areJobsSound 61 = .ok (.istore_n 3, 1) := by decide +kernel
theorem dX10_areJobsSound_62 : decode cX10_areJobsSound 62 = .ok (.iconst 0, 1) := by decide +kernel
theorem dX10_areJobsSound_63 : decode cX10_areJobsSound 63 = .ok (.istore 4, 2) := by decide +kernel
theorem dX10_areJobsSound_65 : decode cX10_areJobsSound 65 = .ok (.iload 4, 2) := by decide +kernel
theorem dX10_areJobsSound_67 : decode cX10_areJobsSound 67 = .ok (.iload_n 3, 1) := by decide +kernel
theorem dX10_areJobsSound_68 : decode cX10_areJobsSound 68 = .ok (.if_icmp .ge 32, 3) := by decide +kernel
theorem dX10_areJobsSound_71 : decode cX10_areJobsSound 71 = .ok (.aload_n 2, 1) := by decide +kernel
theorem dX10_areJobsSound_72 : decode cX10_areJobsSound 72 = .ok (.iload 4, 2) := by decide +kernel
theorem dX10_areJobsSound_74 : decode cX10_areJobsSound 74 = .ok (.aaload, 1) := by decide +kernel
theorem dX10_areJobsSound_75 : decode cX10_areJobsSound 75 = .ok (.astore 5, 2) := by decide +kernel
theorem dX10_areJobsSound_77 : decode cX10_areJobsSound 77 = .ok (.iload_n 1, 1) := by decide +kernel
theorem dX10_areJobsSound_78 : decode cX10_areJobsSound 78 = .ok (.aload 5, 2) := by decide +kernel
theorem dX10_areJobsSound_80 : decode cX10_areJobsSound 80 = .ok (.ifnull 11, 3) := by decide +kernel
theorem dX10_areJobsSound_83 : decode cX10_areJobsSound 83 = .ok (.aload 5, 2) := by decide +kernel
theorem dX10_areJobsSound_85 : decode cX10_areJobsSound 85 = .ok (.getfield 516, 3) := by decide +kernel
theorem dX10_areJobsSound_88 : decode cX10_areJobsSound 88 = .ok (.goto 4, 3) := by decide +kernel
theorem dX10_areJobsSound_91 : decode cX10_areJobsSound 91 = .ok (.iconst 0, 1) := by decide +kernel
theorem dX10_areJobsSound_92 : decode cX10_areJobsSound 92 = .ok (.isub, 1) := by decide +kernel
theorem dX10_areJobsSound_93 : decode cX10_areJobsSound 93 = .ok (.istore_n 1, 1) := by decide +kernel
theorem dX10_areJobsSound_94 : decode cX10_areJobsSound 94 = .ok (.iinc 4 1, 3) := by decide +kernel
theorem dX10_areJobsSound_97 : decode cX10_areJobsSound 97 = .ok (.goto (-32), 3) := by decide +kernel
theorem dX10_areJobsSound_100 : decode cX10_areJobsSound 100 = .ok (.iload_n 1, 1) := by decide +kernel
theorem dX10_areJobsSound_101 : decode cX10_areJobsSound 101 = .ok (.ifCond .ne 7, 3) := by decide +kernel
theorem dX10_areJobsSound_104 : decode cX10_areJobsSound 104 = .ok (.iconst 1, 1) := by decide +kernel
theorem dX10_areJobsSound_105 : decode cX10_areJobsSound 105 = .ok (.goto 4, 3) := by decide +kernel
theorem dX10_areJobsSound_108 : decode cX10_areJobsSound 108 = .ok (.iconst 0, 1) := by decide +kernel
theorem dX10_areJobsSound_109 : decode cX10_areJobsSound 109 = .ok (.ireturn, 1) := by decide +kernel
theorem dX10_areLotsSound_0 : decode cX10_areLotsSound 0 = .ok (.aload_n 0, 1) := by decide +kernel
theorem dX10_areLotsSound_1 : decode cX10_areLotsSound 1 = .ok (.getfield 29, 3) := by decide +kernel
theorem dX10_areLotsSound_4 : decode cX10_areLotsSound 4 = .ok (.astore_n 1, 1) := by decide +kernel
theorem dX10_areLotsSound_5 : decode cX10_areLotsSound 5 = .ok (.aload_n 1, 1) := by decide +kernel
theorem dX10_areLotsSound_6 : decode cX10_areLotsSound 6 = .ok (.arraylength, 1) := by decide +kernel
theorem dX10_areLotsSound_7 : decode cX10_areLotsSound 7 = .ok (.istore_n 2, 1) := by decide +kernel
theorem dX10_areLotsSound_8 : decode cX10_areLotsSound 8 = .ok (.iconst 0, 1) := by decide +kernel
theorem dX10_areLotsSound_9 : decode cX10_areLotsSound 9 = .ok (.istore_n 3, 1) := by decide +kernel
theorem dX10_areLotsSound_10 : decode cX10_areLotsSound 10 = .ok (.iload_n 3, 1) := by decide +kernel
theorem dX10_areLotsSound_11 : decode cX10_areLotsSound 11 = .ok (.iload_n 2, 1) := by decide +kernel
theorem dX10_areLotsSound_12 : decode cX10_areLotsSound 12 = .ok (.if_icmp .ge 48, 3) := by decide +kernel
theorem dX10_areLotsSound_15 : decode cX10_areLotsSound 15 = .ok (.aload_n 1, 1) := by decide +kernel
theorem dX10_areLotsSound_16 : decode cX10_areLotsSound 16 = .ok (.iload_n 3, 1) := by decide +kernel
theorem dX10_areLotsSound_17 : decode cX10_areLotsSound 17 = .ok (.aaload, 1) := by decide +kernel
theorem dX10_areLotsSound_18 : decode cX10_areLotsSound 18 = .ok (.astore 4, 2) := by decide +kernel
theorem dX10_areLotsSound_20 : decode cX10_areLotsSound 20 = .ok (.aload 4, 2) := by decide +kernel
theorem dX10_areLotsSound_22 : decode cX10_areLotsSound 22 = .ok (.ifnull 32, 3) := by decide +kernel
theorem dX10_areLotsSound_25 : decode cX10_areLotsSound 25 = .ok (.aload 4, 2) := by decide +kernel
theorem dX10_areLotsSound_27 : decode cX10_areLotsSound 27 = .ok (.getfield 518, 3) := by decide +kernel
theorem dX10_areLotsSound_30 : decode cX10_areLotsSound 30 = .ok (.aload 4, 2) := by decide +kernel
theorem dX10_areLotsSound_32 : decode cX10_areLotsSound 32 = .ok (.getfield 219, 3) := by decide +kernel
theorem dX10_areLotsSound_35 : decode cX10_areLotsSound 35 = .ok (.aload_n 0, 1) := by decide +kernel
theorem dX10_areLotsSound_36 : decode cX10_areLotsSound 36 = .ok (.aload 4, 2) := by decide +kernel
theorem dX10_areLotsSound_38 : decode cX10_areLotsSound 38 = .ok (.iconst 0, 1) := by decide +kernel
theorem dX10_areLotsSound_39 : decode cX10_areLotsSound 39 = .ok (.invokevirtual 519, 3) := by decide +kernel
theorem dX10_areLotsSound_42 : decode cX10_areLotsSound 42 = .ok (.iadd, 1) := by decide +kernel
theorem dX10_areLotsSound_43 : decode cX10_areLotsSound 43 = .ok (.aload 4, 2) := by decide +kernel
theorem dX10_areLotsSound_45 : decode cX10_areLotsSound 45 = .ok (.getfield 516, 3) := by decide +kernel
theorem dX10_areLotsSound_48 : decode cX10_areLotsSound 48 = .ok (.iadd, 1) := by decide +kernel
theorem dX10_areLotsSound_49 : decode cX10_areLotsSound 49 = .ok (.if_icmp .eq 5, 3) := by decide +kernel
theorem dX10_areLotsSound_52 : decode cX10_areLotsSound 52 = .ok (.iconst 0, 1) := by decide +kernel
theorem dX10_areLotsSound_53 : decode cX10_areLotsSound 53 = .ok (.ireturn, 1) := by decide +kernel
theorem dX10_areLotsSound_54 : decode cX10_areLotsSound 54 = .ok (.iinc 3 1, 3) := by decide +kernel
theorem dX10_areLotsSound_57 : decode cX10_areLotsSound 57 = .ok (.goto (-47), 3) := by decide +kernel
theorem dX10_areLotsSound_60 : decode cX10_areLotsSound 60 = .ok (.iconst 1, 1) := by decide +kernel
theorem dX10_areLotsSound_61 : decode cX10_areLotsSound 61 = .ok (.ireturn, 1) := by decide +kernel
theorem dX10_arePromisesSound_0 : decode cX10_arePromisesSound 0 = .ok (.aload_n 0, 1) := by decide +kernel
theorem dX10_arePromisesSound_1 : decode cX10_arePromisesSound 1 = .ok (.getfield 29, 3) := by decide +kernel
theorem dX10_arePromisesSound_4 : decode cX10_arePromisesSound 4 = .ok (.astore_n 1, 1) := by decide +kernel
theorem dX10_arePromisesSound_5 : decode cX10_arePromisesSound 5 = .ok (.aload_n 1, 1) := by decide +kernel
theorem dX10_arePromisesSound_6 : decode cX10_arePromisesSound 6 = .ok (.arraylength, 1) := by decide +kernel
theorem dX10_arePromisesSound_7 : decode cX10_arePromisesSound 7 = .ok (.istore_n 2, 1) := by decide +kernel
theorem dX10_arePromisesSound_8 : decode cX10_arePromisesSound 8 = .ok (.iconst 0, 1) := by decide +kernel
theorem dX10_arePromisesSound_9 : decode cX10_arePromisesSound 9 = .ok (.istore_n 3, 1) := by decide +kernel
theorem dX10_arePromisesSound_10 : decode cX10_arePromisesSound 10 = .ok (.iload_n 3, 1) := by decide +kernel
theorem dX10_arePromisesSound_11 : decode cX10_arePromisesSound 11 = .ok (.iload_n 2, 1) := by decide +kernel
theorem dX10_arePromisesSound_12 : decode cX10_arePromisesSound 12 = .ok (.if_icmp .ge 66, 3) := by decide +kernel
theorem dX10_arePromisesSound_15 : decode cX10_arePromisesSound 15 = .ok (.aload_n 1, 1) := by decide +kernel
theorem dX10_arePromisesSound_16 : decode cX10_arePromisesSound 16 = .ok (.iload_n 3, 1) := by decide +kernel
theorem dX10_arePromisesSound_17 : decode cX10_arePromisesSound 17 = .ok (.aaload, 1) := by decide +kernel
theorem dX10_arePromisesSound_18 : decode cX10_arePromisesSound 18 = .ok (.astore 4, 2) := by decide +kernel
theorem dX10_arePromisesSound_20 : decode cX10_arePromisesSound 20 = .ok (.aload 4, 2) := by decide +kernel
theorem dX10_arePromisesSound_22 : decode cX10_arePromisesSound 22 = .ok (.ifnull 50, 3) := by decide +kernel
theorem dX10_arePromisesSound_25 : decode cX10_arePromisesSound 25 = .ok (.aload 4, 2) := by decide +kernel
theorem dX10_arePromisesSound_27 : decode cX10_arePromisesSound 27 = .ok (.getfield 222, 3) := by decide +kernel
theorem dX10_arePromisesSound_30 : decode cX10_arePromisesSound 30 = .ok (.aload_n 0, 1) := by decide +kernel
theorem dX10_arePromisesSound_31 : decode cX10_arePromisesSound 31 = .ok (.aload 4, 2) := by decide +kernel
theorem dX10_arePromisesSound_33 : decode cX10_arePromisesSound 33 = .ok (.iconst 1, 1) := by decide +kernel
theorem dX10_arePromisesSound_34 : decode cX10_arePromisesSound 34 = .ok (.invokevirtual 519, 3) := by decide +kernel
theorem dX10_arePromisesSound_37 : decode cX10_arePromisesSound 37 = .ok (.if_icmp .ne 33, 3) := by decide +kernel
theorem dX10_arePromisesSound_40 : decode cX10_arePromisesSound 40 = .ok (.aload 4, 2) := by decide +kernel
theorem dX10_arePromisesSound_42 : decode cX10_arePromisesSound 42 = .ok (.getfield 222, 3) := by decide +kernel
theorem dX10_arePromisesSound_45 : decode cX10_arePromisesSound 45 = .ok (.aload 4, 2) := by decide +kernel
theorem dX10_arePromisesSound_47 : decode cX10_arePromisesSound 47 = .ok (.getfield 219, 3) := by decide +kernel
theorem dX10_arePromisesSound_50 : decode cX10_arePromisesSound 50 = .ok (.if_icmp .gt 20, 3) := by decide +kernel
theorem dX10_arePromisesSound_53 : decode cX10_arePromisesSound 53 = .ok (.aload 4, 2) := by decide +kernel
theorem dX10_arePromisesSound_55 : decode cX10_arePromisesSound 55 = .ok (.getfield 222, 3) := by decide +kernel
theorem dX10_arePromisesSound_58 : decode cX10_arePromisesSound 58 = .ok (.ifCond .le 14, 3) := by decide +kernel
theorem dX10_arePromisesSound_61 : decode cX10_arePromisesSound 61 = .ok (.aload_n 0, 1) := by decide +kernel
theorem dX10_arePromisesSound_62 : decode cX10_arePromisesSound 62 = .ok (.aload 4, 2) := by decide +kernel
theorem dX10_arePromisesSound_64 : decode cX10_arePromisesSound 64 = .ok (.invokevirtual 184, 3) := by decide +kernel
theorem dX10_arePromisesSound_67 : decode cX10_arePromisesSound 67 = .ok (.ifCond .eq 5, 3) := by decide +kernel
theorem dX10_arePromisesSound_70 : decode cX10_arePromisesSound 70 = .ok (.iconst 0, 1) := by decide +kernel
theorem dX10_arePromisesSound_71 : decode cX10_arePromisesSound 71 = .ok (.ireturn, 1) := by decide +kernel
theorem dX10_arePromisesSound_72 : decode cX10_arePromisesSound 72 = .ok (.iinc 3 1, 3) := by decide +kernel
theorem dX10_arePromisesSound_75 : decode cX10_arePromisesSound 75 = .ok (.goto (-65), 3) := by decide +kernel
theorem dX10_arePromisesSound_78 : decode cX10_arePromisesSound 78 = .ok (.iconst 1, 1) := by decide +kernel
theorem dX10_arePromisesSound_79 : decode cX10_arePromisesSound 79 = .ok (.ireturn, 1) := by decide +kernel
theorem dX10_areTracesSound_0 : decode cX10_areTracesSound 0 = .ok (.aload_n 0, 1) := by decide +kernel
theorem dX10_areTracesSound_1 : decode cX10_areTracesSound 1 = .ok (.getfield 29, 3) := by decide +kernel
theorem dX10_areTracesSound_4 : decode cX10_areTracesSound 4 = .ok (.astore_n 1, 1) := by decide +kernel
theorem dX10_areTracesSound_5 : decode cX10_areTracesSound 5 = .ok (.aload_n 1, 1) := by decide +kernel
theorem dX10_areTracesSound_6 : decode cX10_areTracesSound 6 = .ok (.arraylength, 1) := by decide +kernel
theorem dX10_areTracesSound_7 : decode cX10_areTracesSound 7 = .ok (.istore_n 2, 1) := by decide +kernel
theorem dX10_areTracesSound_8 : decode cX10_areTracesSound 8 = .ok (.iconst 0, 1) := by decide +kernel
theorem dX10_areTracesSound_9 : decode cX10_areTracesSound 9 = .ok (.istore_n 3, 1) := by decide +kernel
theorem dX10_areTracesSound_10 : decode cX10_areTracesSound 10 = .ok (.iload_n 3, 1) := by decide +kernel
theorem dX10_areTracesSound_11 : decode cX10_areTracesSound 11 = .ok (.iload_n 2, 1) := by decide +kernel
theorem dX10_areTracesSound_12 : decode cX10_areTracesSound 12 = .ok (.if_icmp .ge 30, 3) := by decide +kernel
theorem dX10_areTracesSound_15 : decode cX10_areTracesSound 15 = .ok (.aload_n 1, 1) := by decide +kernel
theorem dX10_areTracesSound_16 : decode cX10_areTracesSound 16 = .ok (.iload_n 3, 1) := by decide +kernel
theorem dX10_areTracesSound_17 : decode cX10_areTracesSound 17 = .ok (.aaload, 1) := by decide +kernel
theorem dX10_areTracesSound_18 : decode cX10_areTracesSound 18 = .ok (.astore 4, 2) := by decide +kernel
theorem dX10_areTracesSound_20 : decode cX10_areTracesSound 20 = .ok (.aload 4, 2) := by decide +kernel
theorem dX10_areTracesSound_22 : decode cX10_areTracesSound 22 = .ok (.ifnull 14, 3) := by decide +kernel
theorem dX10_areTracesSound_25 : decode cX10_areTracesSound 25 = .ok (.aload_n 0, 1) := by decide +kernel
theorem dX10_areTracesSound_26 : decode cX10_areTracesSound 26 = .ok (.aload 4, 2) := by decide +kernel
theorem dX10_areTracesSound_28 : decode cX10_areTracesSound 28 = .ok (.invokevirtual 526, 3) := by decide +kernel
theorem dX10_areTracesSound_31 : decode cX10_areTracesSound 31 = .ok (.ifCond .ne 5, 3) := by decide +kernel
theorem dX10_areTracesSound_34 : decode cX10_areTracesSound 34 = .ok (.iconst 0, 1) := by decide +kernel
theorem dX10_areTracesSound_35 : decode cX10_areTracesSound 35 = .ok (.ireturn, 1) := by decide +kernel
theorem dX10_areTracesSound_36 : decode cX10_areTracesSound 36 = .ok (.iinc 3 1, 3) := by decide +kernel
theorem dX10_areTracesSound_39 : decode cX10_areTracesSound 39 = .ok (.goto (-29), 3) := by decide +kernel
theorem dX10_areTracesSound_42 : decode cX10_areTracesSound 42 = .ok (.iconst 1, 1) := by decide +kernel
theorem dX10_areTracesSound_43 : decode cX10_areTracesSound 43 = .ok (.ireturn, 1) := by decide +kernel
theorem dX10_costOf_0 : decode cX10_costOf 0 = .ok (.aload_n 0, 1) := by decide +kernel
theorem dX10_costOf_1 : decode cX10_costOf 1 = .ok (.iload_n 1, 1) := by decide +kernel
theorem dX10_costOf_2 : decode cX10_costOf 2 = .ok (.invokevirtual 173, 3) := by decide +kernel
theorem dX10_costOf_5 : decode cX10_costOf 5 = .ok (.getfield 225, 3) := by decide +kernel
theorem dX10_costOf_8 : decode cX10_costOf 8 = .ok (.lreturn, 1) := by decide +kernel
theorem dX10_deliver_0 : decode cX10_deliver 0 = .ok (.aload_n 0, 1) := by decide +kernel
theorem dX10_deliver_1 : decode cX10_deliver 1 = .ok (.iload_n 1, 1) := by decide +kernel
theorem dX10_deliver_2 : decode cX10_deliver 2 = .ok (.invokevirtual 238, 3) := by decide +kernel
theorem dX10_deliver_5 : decode cX10_deliver 5 = .ok (.astore_n 2, 1) := by decide +kernel
theorem dX10_deliver_6 : decode cX10_deliver 6 = .ok (.aload_n 2, 1) := by decide +kernel
theorem dX10_deliver_7 : decode cX10_deliver 7 = .ok (.getfield 243, 3) := by decide +kernel
theorem dX10_deliver_10 : decode cX10_deliver 10 = .ok (.bipush 100, 2) := by decide +kernel
theorem dX10_deliver_12 : decode cX10_deliver 12 = .ok (.if_icmp .eq 22, 3) := by decide +kernel
theorem dX10_deliver_15 : decode cX10_deliver 15 = .ok (.aload_n 2, 1) := by decide +kernel
theorem dX10_deliver_16 : decode cX10_deliver 16 = .ok (.getfield 242, 3) := by decide +kernel
theorem dX10_deliver_19 : decode cX10_deliver 19 = .ok (.getfield 84, 3) := by decide +kernel
theorem dX10_deliver_22 : decode cX10_deliver 22 = .ok (.ifCond .eq 23, 3) := by decide +kernel
theorem dX10_deliver_25 : decode cX10_deliver 25 = .ok (.aload_n 2, 1) := by decide +kernel
theorem dX10_deliver_26 : decode cX10_deliver 26 = .ok (.getfield 243, 3) := by decide +kernel
theorem dX10_deliver_29 : decode cX10_deliver 29 = .ok (.bipush 102, 2) := by decide +kernel
theorem dX10_deliver_31 : decode cX10_deliver 31 = .ok (.if_icmp .eq 14, 3) := by decide +kernel
theorem dX10_deliver_34 : decode cX10_deliver 34 = .ok (.new 88, 3) := by decide +kernel
theorem dX10_deliver_37 : decode cX10_deliver 37 = .ok (.dup, 1) := by decide +kernel
theorem dX10_deliver_38 : decode cX10_deliver 38 = .ok (.ldc_w 302, 3) := by decide +kernel
theorem dX10_deliver_41 : decode cX10_deliver 41 = .ok (.invokespecial 92, 3) := by decide +kernel
theorem dX10_deliver_44 : decode cX10_deliver 44 = .ok (.athrow, 1) := by decide +kernel
theorem dX10_deliver_45 : decode cX10_deliver 45 = .ok (.aload_n 0, 1) := by decide +kernel
theorem dX10_deliver_46 : decode cX10_deliver 46 = .ok (.aload_n 2, 1) := by decide +kernel
theorem dX10_deliver_47 : decode cX10_deliver 47 = .ok (.getfield 242, 3) := by decide +kernel
theorem dX10_deliver_50 : decode cX10_deliver 50 = .ok (.invokevirtual 304, 3) := by decide +kernel
theorem dX10_deliver_53 : decode cX10_deliver 53 = .ok (.aload_n 2, 1) := by decide +kernel
theorem dX10_deliver_54 : decode cX10_deliver 54 = .ok (.getfield 308, 3) := by decide +kernel
theorem dX10_deliver_57 : decode cX10_deliver 57 = .ok (.if_icmp .ge 5, 3) := by decide +kernel
theorem dX10_deliver_60 : decode cX10_deliver 60 = .ok (.iconst 0, 1) := by decide +kernel
theorem dX10_deliver_61 : decode cX10_deliver 61 = .ok (.ireturn, 1) := by decide +kernel
theorem dX10_deliver_62 : decode cX10_deliver 62 = .ok (.aload_n 0, 1) := by decide +kernel
theorem dX10_deliver_63 : decode cX10_deliver 63 = .ok (.aload_n 2, 1) := by decide +kernel
theorem dX10_deliver_64 : decode cX10_deliver 64 = .ok (.invokevirtual 311, 3) := by decide +kernel
theorem dX10_deliver_67 : decode cX10_deliver 67 = .ok (.aload_n 0, 1) := by decide +kernel
theorem dX10_deliver_68 : decode cX10_deliver 68 = .ok (.aload_n 2, 1) := by decide +kernel
theorem dX10_deliver_69 : decode cX10_deliver 69 = .ok (.invokevirtual 314, 3) := by decide +kernel
theorem dX10_deliver_72 : decode cX10_deliver 72 = .ok (.aload_n 2, 1) := by decide +kernel
theorem dX10_deliver_73 : decode cX10_deliver 73 = .ok (.bipush 100, 2) := by decide +kernel
theorem dX10_deliver_75 : decode cX10_deliver 75 = .ok (.putfield 243, 3) := by decide +kernel
theorem dX10_deliver_78 : decode cX10_deliver 78 = .ok (.aload_n 2, 1) := by decide +kernel
theorem dX10_deliver_79 : decode cX10_deliver 79 = .ok (.aload_n 0, 1) := by decide +kernel
theorem dX10_deliver_80 : decode cX10_deliver 80 = .ok (.getfield 294, 3) := by decide +kernel
theorem dX10_deliver_83 : decode cX10_deliver 83 = .ok (.putfield 317, 3) := by decide +kernel
theorem dX10_deliver_86 : decode cX10_deliver 86 = .ok (.iconst 1, 1) := by decide +kernel
theorem dX10_deliver_87 : decode cX10_deliver 87 = .ok (.ireturn, 1) := by decide +kernel
theorem dX10_deliveredCost_0 : decode cX10_deliveredCost 0 = .ok (.aload_n 0, 1) := by decide +kernel
theorem dX10_deliveredCost_1 : decode cX10_deliveredCost 1 = .ok (.iload_n 1, 1) := by decide +kernel
theorem dX10_deliveredCost_2 : decode cX10_deliveredCost 2 = .ok (.invokevirtual 238, 3) := by decide +kernel
theorem dX10_deliveredCost_5 : decode cX10_deliveredCost 5 = .ok (.astore_n 2, 1) := by decide +kernel
theorem dX10_deliveredCost_6 : decode cX10_deliveredCost 6 = .ok (.aload_n 2, 1) := by decide +kernel
theorem dX10_deliveredCost_7 : decode cX10_deliveredCost 7 = .ok (.getfield 243, 3) := by decide +kernel
theorem dX10_deliveredCost_10 : decode cX10_deliveredCost 10 = .ok (.bipush 100, 2) := by decide +kernel
theorem dX10_deliveredCost_12 : decode cX10_deliveredCost 12 = .ok (.if_icmp .eq 14, 3) := by decide +kernel
theorem dX10_deliveredCost_15 : decode cX10_deliveredCost 15 = .ok (.new 324, 3) := by decide +kernel
theorem dX10_deliveredCost_18 : decode cX10_deliveredCost 18 = .ok (.dup, 1) := by decide +kernel
theorem dX10_deliveredCost_19 : decode cX10_deliveredCost 19 = .ok (.ldc_w 353, 3) := by decide +kernel
theorem dX10_deliveredCost_22 : decode cX10_deliveredCost 22 = .ok (.invokespecial 328, 3) := by decide +kernel
theorem dX10_deliveredCost_25 : decode cX10_deliveredCost 25 = .ok (.athrow, 1) := by decide +kernel
theorem dX10_deliveredCost_26 : decode cX10_deliveredCost 26 = .ok (.aload_n 2, 1) := by decide +kernel
theorem dX10_deliveredCost_27 : decode cX10_deliveredCost 27 = .ok (.getfield 355, 3) := by decide +kernel
theorem dX10_deliveredCost_30 : decode cX10_deliveredCost 30 = .ok (.lreturn, 1) := by decide +kernel
theorem dX10_findSupplier_0 : decode cX10_findSupplier 0 = .ok (.iload_n 1, 1) := by decide +kernel
theorem dX10_findSupplier_1 : decode cX10_findSupplier 1 = .ok (.ifCond .lt 21, 3) := by decide +kernel
theorem dX10_findSupplier_4 : decode cX10_findSupplier 4 = .ok (.iload_n 1, 1) := by decide +kernel
theorem dX10_findSupplier_5 : decode cX10_findSupplier 5 = .ok (.aload_n 0, 1) := by decide +kernel
theorem dX10_findSupplier_6 : decode cX10_findSupplier 6 = .ok (.getfield 23, 3) := by decide +kernel
theorem dX10_findSupplier_9 : decode cX10_findSupplier 9 = .ok (.arraylength, 1) := by decide +kernel
theorem dX10_findSupplier_10 : decode cX10_findSupplier 10 = .ok (.if_icmp .ge 12, 3) := by decide +kernel
theorem dX10_findSupplier_13 : decode cX10_findSupplier 13 = .ok (.aload_n 0, 1) := by decide +kernel
theorem dX10_findSupplier_14 : decode cX10_findSupplier 14 = .ok (.getfield 23, 3) := by decide +kernel
theorem dX10_findSupplier_17 : decode cX10_findSupplier 17 = .ok (.iload_n 1, 1) := by decide +kernel
theorem dX10_findSupplier_18 : decode cX10_findSupplier 18 = .ok (.aaload, 1) := by decide +kernel
theorem dX10_findSupplier_19 : decode cX10_findSupplier 19 = .ok (.goto 4, 3) := by decide +kernel
theorem dX10_findSupplier_22 : decode cX10_findSupplier 22 = .ok (.aconst_null, 1) := by decide +kernel
theorem dX10_findSupplier_23 : decode cX10_findSupplier 23 = .ok (.areturn, 1) := by decide +kernel
theorem dX10_finishedAt_0 : decode cX10_finishedAt 0 = .ok (.aload_n 0, 1) := by decide +kernel
theorem dX10_finishedAt_1 : decode cX10_finishedAt 1 = .ok (.iload_n 1, 1) := by decide +kernel
theorem dX10_finishedAt_2 : decode cX10_finishedAt 2 = .ok (.invokevirtual 238, 3) := by decide +kernel
theorem dX10_finishedAt_5 : decode cX10_finishedAt 5 = .ok (.astore_n 2, 1) := by decide +kernel
theorem dX10_finishedAt_6 : decode cX10_finishedAt 6 = .ok (.aload_n 2, 1) := by decide +kernel
theorem dX10_finishedAt_7 : decode cX10_finishedAt 7 = .ok (.getfield 280, 3) := by decide +kernel
theorem dX10_finishedAt_10 : decode cX10_finishedAt 10 = .ok (.getfield 329, 3) := by decide +kernel
theorem dX10_finishedAt_13 : decode cX10_finishedAt 13 = .ok (.iconst (-1), 1) := by decide +kernel
theorem dX10_finishedAt_14 : decode cX10_finishedAt 14 = .ok (.if_icmp .ne 14, 3) := by decide +kernel
theorem dX10_finishedAt_17 : decode cX10_finishedAt 17 = .ok (.new 324, 3) := by decide +kernel
theorem dX10_finishedAt_20 : decode cX10_finishedAt 20 = .ok (.dup, 1) := by decide +kernel
theorem dX10_finishedAt_21 : decode cX10_finishedAt 21 = .ok (.ldc_w 332, 3) := by decide +kernel
theorem dX10_finishedAt_24 : decode cX10_finishedAt 24 = .ok (.invokespecial 328, 3) := by decide +kernel
theorem dX10_finishedAt_27 : decode cX10_finishedAt 27 = .ok (.athrow, 1) := by decide +kernel
theorem dX10_finishedAt_28 : decode cX10_finishedAt 28 = .ok (.aload_n 2, 1) := by decide +kernel
theorem dX10_finishedAt_29 : decode cX10_finishedAt 29 = .ok (.getfield 280, 3) := by decide +kernel
theorem dX10_finishedAt_32 : decode cX10_finishedAt 32 = .ok (.getfield 329, 3) := by decide +kernel
theorem dX10_finishedAt_35 : decode cX10_finishedAt 35 = .ok (.ireturn, 1) := by decide +kernel
theorem dX10_hold_0 : decode cX10_hold 0 = .ok (.aload_n 0, 1) := by decide +kernel
theorem dX10_hold_1 : decode cX10_hold 1 = .ok (.iload_n 1, 1) := by decide +kernel
theorem dX10_hold_2 : decode cX10_hold 2 = .ok (.invokevirtual 173, 3) := by decide +kernel
theorem dX10_hold_5 : decode cX10_hold 5 = .ok (.astore_n 3, 1) := by decide +kernel
theorem dX10_hold_6 : decode cX10_hold 6 = .ok (.iload_n 2, 1) := by decide +kernel
theorem dX10_hold_7 : decode cX10_hold 7 = .ok (.ifCond .eq 9, 3) := by decide +kernel
theorem dX10_hold_10 : decode cX10_hold 10 = .ok (.aload_n 0, 1) := by decide +kernel
theorem dX10_hold_11 : decode cX10_hold 11 = .ok (.aload_n 3, 1) := by decide +kernel
theorem dX10_hold_12 : decode cX10_hold 12 = .ok (.invokevirtual 177, 3) := by decide +kernel
theorem dX10_hold_15 : decode cX10_hold 15 = .ok (.ireturn, 1) := by decide +kernel
theorem dX10_hold_16 : decode cX10_hold 16 = .ok (.aload_n 0, 1) := by decide +kernel
theorem dX10_hold_17 : decode cX10_hold 17 = .ok (.getfield 42, 3) := by decide +kernel
theorem dX10_hold_20 : decode cX10_hold 20 = .ok (.iload_n 1, 1) := by decide +kernel
theorem dX10_hold_21 : decode cX10_hold 21 = .ok (.invokevirtual 181, 3) := by decide +kernel
theorem dX10_hold_24 : decode cX10_hold 24 = .ok (.iconst 0, 1) := by decide +kernel
theorem dX10_hold_25 : decode cX10_hold 25 = .ok (.ireturn, 1) := by decide +kernel
theorem dX10_inTimeShare_0 : decode cX10_inTimeShare 0 = .ok (.iconst 0, 1) := by decide +kernel
theorem dX10_inTimeShare_1 : decode cX10_inTimeShare 1 = .ok (.istore_n 1, 1) := by decide +kernel
theorem dX10_inTimeShare_2 : decode cX10_inTimeShare 2 = .ok (.iconst 0, 1) := by decide +kernel
theorem dX10_inTimeShare_3 : decode cX10_inTimeShare 3 = .ok (.istore_n 2, 1) := by decide +kernel
theorem dX10_inTimeShare_4 : decode cX10_inTimeShare 4 = .ok (.aload_n 0, 1) := by decide +kernel
theorem dX10_inTimeShare_5 : decode cX10_inTimeShare 5 = .ok (.getfield 35, 3) := by decide +kernel
theorem dX10_inTimeShare_8 : decode cX10_inTimeShare 8 = .ok (.astore_n 3, 1) := by decide +kernel
theorem dX10_inTimeShare_9 : decode cX10_inTimeShare 9 = .ok (.aload_n 3, 1) := by decide +kernel
theorem dX10_inTimeShare_10 : decode cX10_inTimeShare 10 = .ok (.arraylength, 1) := by decide +kernel
theorem dX10_inTimeShare_11 : decode cX10_inTimeShare 11 = .ok (.istore 4, 2) := by decide +kernel
theorem dX10_inTimeShare_13 : decode cX10_inTimeShare 13 = .ok (.iconst 0, 1) := by decide +kernel
theorem dX10_inTimeShare_14 : decode cX10_inTimeShare 14 = .ok (.istore 5, 2) := by decide +kernel
theorem dX10_inTimeShare_16 : decode cX10_inTimeShare 16 = .ok (.iload 5, 2) := by decide +kernel
theorem dX10_inTimeShare_18 : decode cX10_inTimeShare 18 = .ok (.iload 4, 2) := by decide +kernel
theorem dX10_inTimeShare_20 : decode cX10_inTimeShare 20 = .ok (.if_icmp .ge 54, 3) := by decide +kernel
theorem dX10_inTimeShare_23 : decode cX10_inTimeShare 23 = .ok (.aload_n 3, 1) := by decide +kernel
theorem dX10_inTimeShare_24 : decode cX10_inTimeShare 24 = .ok (.iload 5, 2) := by decide +kernel
theorem dX10_inTimeShare_26 : decode cX10_inTimeShare 26 = .ok (.aaload, 1) := by decide +kernel
theorem dX10_inTimeShare_27 : decode cX10_inTimeShare 27 = .ok (.astore 6, 2) := by decide +kernel
theorem dX10_inTimeShare_29 : decode cX10_inTimeShare 29 = .ok (.aload 6, 2) := by decide +kernel
theorem dX10_inTimeShare_31 : decode cX10_inTimeShare 31 = .ok (.ifnull 37, 3) := by decide +kernel
theorem dX10_inTimeShare_34 : decode cX10_inTimeShare 34 = .ok (.aload 6, 2) := by decide +kernel
theorem dX10_inTimeShare_36 : decode cX10_inTimeShare 36 = .ok (.getfield 243, 3) := by decide +kernel
theorem dX10_inTimeShare_39 : decode cX10_inTimeShare 39 = .ok (.bipush 100, 2) := by decide +kernel
theorem dX10_inTimeShare_41 : decode cX10_inTimeShare 41 = .ok (.if_icmp .ne 27, 3) := by decide +kernel
theorem dX10_inTimeShare_44 : decode cX10_inTimeShare 44 = .ok (.iinc 1 1, 3) := by decide +kernel
theorem dX10_inTimeShare_47 : decode cX10_inTimeShare 47 = .ok (.iload_n 2, 1) := by decide +kernel
theorem dX10_inTimeShare_48 : decode cX10_inTimeShare 48 = .ok (.aload 6, 2) := by decide +kernel
theorem dX10_inTimeShare_50 : decode cX10_inTimeShare 50 = .ok (.getfield 317, 3) := by decide +kernel
theorem dX10_inTimeShare_53 : decode cX10_inTimeShare 53 = .ok (.aload 6, 2) := by decide +kernel
theorem dX10_inTimeShare_55 : decode cX10_inTimeShare 55 = .ok (.getfield 358, 3) := by decide +kernel
theorem dX10_inTimeShare_58 : decode cX10_inTimeShare 58 = .ok (.if_icmp .gt 7, 3) := by decide +kernel
theorem dX10_inTimeShare_61 : decode cX10_inTimeShare 61 = .ok (.iconst 1, 1) := by decide +kernel
theorem dX10_inTimeShare_62 : decode cX10_inTimeShare 62 = .ok (.goto 4, 3) := by decide +kernel
theorem dX10_inTimeShare_65 : decode cX10_inTimeShare 65 = .ok (.iconst 0, 1) := by decide +kernel
theorem dX10_inTimeShare_66 : decode cX10_inTimeShare 66 = .ok (.iadd, 1) := by decide +kernel
theorem dX10_inTimeShare_67 : decode cX10_inTimeShare 67 = .ok (.istore_n 2, 1) := by decide +kernel
theorem dX10_inTimeShare_68 : decode cX10_inTimeShare 68 = .ok (.iinc 5 1, 3) := by decide +kernel
theorem dX10_inTimeShare_71 : decode cX10_inTimeShare 71 = .ok (.goto (-55), 3) := by decide +kernel
theorem dX10_inTimeShare_74 : decode cX10_inTimeShare 74 = .ok (.iload_n 1, 1) := by decide +kernel
theorem dX10_inTimeShare_75 : decode cX10_inTimeShare 75 = .ok (.ifCond .ne 14, 3) := by decide +kernel
theorem dX10_inTimeShare_78 : decode cX10_inTimeShare 78 = .ok (.new 361, 3) := by decide +kernel
theorem dX10_inTimeShare_81 : decode cX10_inTimeShare 81 = .ok (.dup, 1) := by decide +kernel
theorem dX10_inTimeShare_82 : decode cX10_inTimeShare 82 = .ok (.ldc_w 363, 3) := by decide +kernel
theorem dX10_inTimeShare_85 : decode cX10_inTimeShare 85 = .ok (.invokespecial 365, 3) := by decide +kernel
theorem dX10_inTimeShare_88 : decode cX10_inTimeShare 88 = .ok (.athrow, 1) := by decide +kernel
theorem dX10_inTimeShare_89 : decode cX10_inTimeShare 89 = .ok (.iload_n 2, 1) := by decide +kernel
theorem dX10_inTimeShare_90 : decode cX10_inTimeShare 90 = .ok (.i2f, 1) := by decide +kernel
theorem dX10_inTimeShare_91 : decode cX10_inTimeShare 91 = .ok (.iload_n 1, 1) := by decide +kernel
theorem dX10_inTimeShare_92 : decode cX10_inTimeShare 92 = .ok (.i2f, 1) := by decide +kernel
theorem dX10_inTimeShare_93 : decode cX10_inTimeShare 93 = .ok (.fdiv, 1) := by decide +kernel
theorem dX10_inTimeShare_94 : decode cX10_inTimeShare 94 = .ok (.freturn, 1) := by decide +kernel
theorem dX10_init_0 : decode cX10_init 0 = .ok (.aload_n 0, 1) := by decide +kernel
theorem dX10_init_1 : decode cX10_init 1 = .ok (.invokespecial 1, 3) := by decide +kernel
theorem dX10_init_4 : decode cX10_init 4 = .ok (.aload_n 0, 1) := by decide +kernel
theorem dX10_init_5 : decode cX10_init 5 = .ok (.iconst 5, 1) := by decide +kernel
theorem dX10_init_6 : decode cX10_init 6 = .ok (.anewarray 9, 3) := by decide +kernel
theorem dX10_init_9 : decode cX10_init 9 = .ok (.putfield 11, 3) := by decide +kernel
theorem dX10_init_12 : decode cX10_init 12 = .ok (.aload_n 0, 1) := by decide +kernel
theorem dX10_init_13 : decode cX10_init 13 = .ok (.bipush 12, 2) := by decide +kernel
theorem dX10_init_15 : decode cX10_init 15 = .ok (.anewarray 15, 3) := by decide +kernel
theorem dX10_init_18 : decode cX10_init 18 = .ok (.putfield 17, 3) := by decide +kernel
theorem dX10_init_21 : decode cX10_init 21 = .ok (.aload_n 0, 1) := by decide +kernel
theorem dX10_init_22 : decode cX10_init 22 = .ok (.iconst 4, 1) := by decide +kernel
theorem dX10_init_23 : decode cX10_init 23 = .ok (.anewarray 21, 3) := by decide +kernel
theorem dX10_init_26 : decode cX10_init 26 = .ok (.putfield 23, 3) := by decide +kernel
theorem dX10_init_29 : decode cX10_init 29 = .ok (.aload_n 0, 1) := by decide +kernel
theorem dX10_init_30 : decode cX10_init 30 = .ok (.bipush 90, 2) := by decide +kernel
theorem dX10_init_32 : decode cX10_init 32 = .ok (.anewarray 27, 3) := by decide +kernel
theorem dX10_init_35 : decode cX10_init 35 = .ok (.putfield 29, 3) := by decide +kernel
theorem dX10_init_38 : decode cX10_init 38 = .ok (.aload_n 0, 1) := by decide +kernel
theorem dX10_init_39 : decode cX10_init 39 = .ok (.bipush 30, 2) := by decide +kernel
theorem dX10_init_41 : decode cX10_init 41 = .ok (.anewarray 33, 3) := by decide +kernel
theorem dX10_init_44 : decode cX10_init 44 = .ok (.putfield 35, 3) := by decide +kernel
theorem dX10_init_47 : decode cX10_init 47 = .ok (.aload_n 0, 1) := by decide +kernel
theorem dX10_init_48 : decode cX10_init 48 = .ok (.new 39, 3) := by decide +kernel
theorem dX10_init_51 : decode cX10_init 51 = .ok (.dup, 1) := by decide +kernel
theorem dX10_init_52 : decode cX10_init 52 = .ok (.invokespecial 41, 3) := by decide +kernel
theorem dX10_init_55 : decode cX10_init 55 = .ok (.putfield 42, 3) := by decide +kernel
theorem dX10_init_58 : decode cX10_init 58 = .ok (.iconst 0, 1) := by decide +kernel
theorem dX10_init_59 : decode cX10_init 59 = .ok (.istore_n 1, 1) := by decide +kernel
theorem dX10_init_60 : decode cX10_init 60 = .ok (.iload_n 1, 1) := by decide +kernel
theorem dX10_init_61 : decode cX10_init 61 = .ok (.aload_n 0, 1) := by decide +kernel
theorem dX10_init_62 : decode cX10_init 62 = .ok (.getfield 23, 3) := by decide +kernel
theorem dX10_init_65 : decode cX10_init 65 = .ok (.arraylength, 1) := by decide +kernel
theorem dX10_init_66 : decode cX10_init 66 = .ok (.if_icmp .ge 22, 3) := by decide +kernel
theorem dX10_init_69 : decode cX10_init 69 = .ok (.aload_n 0, 1) := by decide +kernel
theorem dX10_init_70 : decode cX10_init 70 = .ok (.getfield 23, 3) := by decide +kernel
theorem dX10_init_73 : decode cX10_init 73 = .ok (.iload_n 1, 1) := by decide +kernel
theorem dX10_init_74 : decode cX10_init 74 = .ok (.new 21, 3) := by decide +kernel
theorem dX10_init_77 : decode cX10_init 77 = .ok (.dup, 1) := by decide +kernel
theorem dX10_init_78 : decode cX10_init 78 = .ok (.invokespecial 46, 3) := by decide +kernel
theorem dX10_init_81 : decode cX10_init 81 = .ok (.aastore, 1) := by decide +kernel
theorem dX10_init_82 : decode cX10_init 82 = .ok (.iinc 1 1, 3) := by decide +kernel
theorem dX10_init_85 : decode cX10_init 85 = .ok (.goto (-25), 3) := by decide +kernel
theorem dX10_init_88 : decode cX10_init 88 = .ok (.return_, 1) := by decide +kernel
theorem dX10_isFrom_0 : decode cX10_isFrom 0 = .ok (.iload_n 0, 1) := by decide +kernel
theorem dX10_isFrom_1 : decode cX10_isFrom 1 = .ok (.iload_n 1, 1) := by decide +kernel
theorem dX10_isFrom_2 : decode cX10_isFrom 2 = .ok (.if_icmp .lt 12, 3) := by decide +kernel
theorem dX10_isFrom_5 : decode cX10_isFrom 5 = .ok (.iload_n 0, 1) := by decide +kernel
theorem dX10_isFrom_6 : decode cX10_isFrom 6 = .ok (.iload_n 2, 1) := by decide +kernel
theorem dX10_isFrom_7 : decode cX10_isFrom 7 = .ok (.if_icmp .gt 7, 3) := by decide +kernel
theorem dX10_isFrom_10 : decode cX10_isFrom 10 = .ok (.iconst 1, 1) := by decide +kernel
theorem dX10_isFrom_11 : decode cX10_isFrom 11 = .ok (.goto 4, 3) := by decide +kernel
theorem dX10_isFrom_14 : decode cX10_isFrom 14 = .ok (.iconst 0, 1) := by decide +kernel
theorem dX10_isFrom_15 : decode cX10_isFrom 15 = .ok (.ireturn, 1) := by decide +kernel
theorem dX10_isHeld_0 : decode cX10_isHeld 0 = .ok (.aload_n 0, 1) := by decide +kernel
theorem dX10_isHeld_1 : decode cX10_isHeld 1 = .ok (.aload_n 0, 1) := by decide +kernel
theorem dX10_isHeld_2 : decode cX10_isHeld 2 = .ok (.iload_n 1, 1) := by decide +kernel
theorem dX10_isHeld_3 : decode cX10_isHeld 3 = .ok (.invokevirtual 173, 3) := by decide +kernel
theorem dX10_isHeld_6 : decode cX10_isHeld 6 = .ok (.invokevirtual 184, 3) := by decide +kernel
theorem dX10_isHeld_9 : decode cX10_isHeld 9 = .ok (.ireturn, 1) := by decide +kernel
theorem dX10_isIn_0 : decode cX10_isIn 0 = .ok (.aload_n 0, 1) := by decide +kernel
theorem dX10_isIn_1 : decode cX10_isIn 1 = .ok (.iload_n 1, 1) := by decide +kernel
theorem dX10_isIn_2 : decode cX10_isIn 2 = .ok (.invokevirtual 173, 3) := by decide +kernel
theorem dX10_isIn_5 : decode cX10_isIn 5 = .ok (.astore_n 3, 1) := by decide +kernel
theorem dX10_isIn_6 : decode cX10_isIn 6 = .ok (.aload_n 0, 1) := by decide +kernel
theorem dX10_isIn_7 : decode cX10_isIn 7 = .ok (.iload_n 2, 1) := by decide +kernel
theorem dX10_isIn_8 : decode cX10_isIn 8 = .ok (.invokevirtual 173, 3) := by decide +kernel
theorem dX10_isIn_11 : decode cX10_isIn 11 = .ok (.astore 4, 2) := by decide +kernel
theorem dX10_isIn_13 : decode cX10_isIn 13 = .ok (.aload 4, 2) := by decide +kernel
theorem dX10_isIn_15 : decode cX10_isIn 15 = .ok (.getfield 342, 3) := by decide +kernel
theorem dX10_isIn_18 : decode cX10_isIn 18 = .ok (.aload_n 3, 1) := by decide +kernel
theorem dX10_isIn_19 : decode cX10_isIn 19 = .ok (.getfield 157, 3) := by decide +kernel
theorem dX10_isIn_22 : decode cX10_isIn 22 = .ok (.invokevirtual 212, 3) := by decide +kernel
theorem dX10_isIn_25 : decode cX10_isIn 25 = .ok (.ireturn, 1) := by decide +kernel
theorem dX10_isSound_0 : decode cX10_isSound 0 = .ok (.aload_n 0, 1) := by decide +kernel
theorem dX10_isSound_1 : decode cX10_isSound 1 = .ok (.invokevirtual 372, 3) := by decide +kernel
theorem dX10_isSound_4 : decode cX10_isSound 4 = .ok (.ifCond .eq 35, 3) := by decide +kernel
theorem dX10_isSound_7 : decode cX10_isSound 7 = .ok (.aload_n 0, 1) := by decide +kernel
theorem dX10_isSound_8 : decode cX10_isSound 8 = .ok (.invokevirtual 375, 3) := by decide +kernel
theorem dX10_isSound_11 : decode cX10_isSound 11 = .ok (.ifCond .eq 28, 3) := by decide +kernel
theorem dX10_isSound_14 : decode cX10_isSound 14 = .ok (.aload_n 0, 1) := by decide +kernel
theorem dX10_isSound_15 : decode cX10_isSound 15 = .ok (.invokevirtual 378, 3) := by decide +kernel
theorem dX10_isSound_18 : decode cX10_isSound 18 = .ok (.ifCond .eq 21, 3) := by decide +kernel
theorem dX10_isSound_21 : decode cX10_isSound 21 = .ok (.aload_n 0, 1) := by decide +kernel
theorem dX10_isSound_22 : decode cX10_isSound 22 = .ok (.invokevirtual 381, 3) := by decide +kernel
theorem dX10_isSound_25 : decode cX10_isSound 25 = .ok (.ifCond .eq 14, 3) := by decide +kernel
theorem dX10_isSound_28 : decode cX10_isSound 28 = .ok (.aload_n 0, 1) := by decide +kernel
theorem dX10_isSound_29 : decode cX10_isSound 29 = .ok (.invokevirtual 384, 3) := by decide +kernel
theorem dX10_isSound_32 : decode cX10_isSound 32 = .ok (.ifCond .eq 7, 3) := by decide +kernel
theorem dX10_isSound_35 : decode cX10_isSound 35 = .ok (.iconst 1, 1) := by decide +kernel
theorem dX10_isSound_36 : decode cX10_isSound 36 = .ok (.goto 4, 3) := by decide +kernel
theorem dX10_isSound_39 : decode cX10_isSound 39 = .ok (.iconst 0, 1) := by decide +kernel
theorem dX10_isSound_40 : decode cX10_isSound 40 = .ok (.ireturn, 1) := by decide +kernel
theorem dX10_knownLot_0 : decode cX10_knownLot 0 = .ok (.iload_n 1, 1) := by decide +kernel
theorem dX10_knownLot_1 : decode cX10_knownLot 1 = .ok (.ifCond .lt 21, 3) := by decide +kernel
theorem dX10_knownLot_4 : decode cX10_knownLot 4 = .ok (.iload_n 1, 1) := by decide +kernel
theorem dX10_knownLot_5 : decode cX10_knownLot 5 = .ok (.aload_n 0, 1) := by decide +kernel
theorem dX10_knownLot_6 : decode cX10_knownLot 6 = .ok (.getfield 29, 3) := by decide +kernel
theorem dX10_knownLot_9 : decode cX10_knownLot 9 = .ok (.arraylength, 1) := by decide +kernel
theorem dX10_knownLot_10 : decode cX10_knownLot 10 = .ok (.if_icmp .ge 12, 3) := by decide +kernel
theorem dX10_knownLot_13 : decode cX10_knownLot 13 = .ok (.aload_n 0, 1) := by decide +kernel
theorem dX10_knownLot_14 : decode cX10_knownLot 14 = .ok (.getfield 29, 3) := by decide +kernel
theorem dX10_knownLot_17 : decode cX10_knownLot 17 = .ok (.iload_n 1, 1) := by decide +kernel
theorem dX10_knownLot_18 : decode cX10_knownLot 18 = .ok (.aaload, 1) := by decide +kernel
theorem dX10_knownLot_19 : decode cX10_knownLot 19 = .ok (.goto 4, 3) := by decide +kernel
theorem dX10_knownLot_22 : decode cX10_knownLot 22 = .ok (.aconst_null, 1) := by decide +kernel
theorem dX10_knownLot_23 : decode cX10_knownLot 23 = .ok (.astore_n 2, 1) := by decide +kernel
theorem dX10_knownLot_24 : decode cX10_knownLot 24 = .ok (.aload_n 2, 1) := by decide +kernel
theorem dX10_knownLot_25 : decode cX10_knownLot 25 = .ok (.ifnonnull 14, 3) := by decide +kernel
theorem dX10_knownLot_28 : decode cX10_knownLot 28 = .ok (.new 164, 3) := by decide +kernel
theorem dX10_knownLot_31 : decode cX10_knownLot 31 = .ok (.dup, 1) := by decide +kernel
theorem dX10_knownLot_32 : decode cX10_knownLot 32 = .ok (.ldc_w 391, 3) := by decide +kernel
theorem dX10_knownLot_35 : decode cX10_knownLot 35 = .ok (.invokespecial 168, 3) := by decide +kernel
theorem dX10_knownLot_38 : decode cX10_knownLot 38 = .ok (.athrow, 1) := by decide +kernel
theorem dX10_knownLot_39 : decode cX10_knownLot 39 = .ok (.aload_n 2, 1) := by decide +kernel
theorem dX10_knownLot_40 : decode cX10_knownLot 40 = .ok (.areturn, 1) := by decide +kernel
theorem dX10_knownMachine_0 : decode cX10_knownMachine 0 = .ok (.iload_n 1, 1) := by decide +kernel
theorem dX10_knownMachine_1 : decode cX10_knownMachine 1 = .ok (.ifCond .lt 21, 3) := by decide +kernel
theorem dX10_knownMachine_4 : decode cX10_knownMachine 4 = .ok (.iload_n 1, 1) := by decide +kernel
theorem dX10_knownMachine_5 : decode cX10_knownMachine 5 = .ok (.aload_n 0, 1) := by decide +kernel
theorem dX10_knownMachine_6 : decode cX10_knownMachine 6 = .ok (.getfield 11, 3) := by decide +kernel
theorem dX10_knownMachine_9 : decode cX10_knownMachine 9 = .ok (.arraylength, 1) := by decide +kernel
theorem dX10_knownMachine_10 : decode cX10_knownMachine 10 = .ok (.if_icmp .ge 12, 3) := by decide +kernel
theorem dX10_knownMachine_13 : decode cX10_knownMachine 13 = .ok (.aload_n 0, 1) := by decide +kernel
theorem dX10_knownMachine_14 : decode cX10_knownMachine 14 = .ok (.getfield 11, 3) := by decide +kernel
theorem dX10_knownMachine_17 : decode cX10_knownMachine 17 = .ok (.iload_n 1, 1) := by decide +kernel
theorem dX10_knownMachine_18 : decode cX10_knownMachine 18 = .ok (.aaload, 1) := by decide +kernel
theorem dX10_knownMachine_19 : decode cX10_knownMachine 19 = .ok (.goto 4, 3) := by decide +kernel
theorem dX10_knownMachine_22 : decode cX10_knownMachine 22 = .ok (.aconst_null, 1) := by decide +kernel
theorem dX10_knownMachine_23 : decode cX10_knownMachine 23 = .ok (.astore_n 2, 1) := by decide +kernel
theorem dX10_knownMachine_24 : decode cX10_knownMachine 24 = .ok (.aload_n 2, 1) := by decide +kernel
theorem dX10_knownMachine_25 : decode cX10_knownMachine 25 = .ok (.ifnonnull 14, 3) := by decide +kernel
theorem dX10_knownMachine_28 : decode cX10_knownMachine 28 = .ok (.new 164, 3) := by decide +kernel
theorem dX10_knownMachine_31 : decode cX10_knownMachine 31 = .ok (.dup, 1) := by decide +kernel
theorem dX10_knownMachine_32 : decode cX10_knownMachine 32 = .ok (.ldc_w 387, 3) := by decide +kernel
theorem dX10_knownMachine_35 : decode cX10_knownMachine 35 = .ok (.invokespecial 168, 3) := by decide +kernel
theorem dX10_knownMachine_38 : decode cX10_knownMachine 38 = .ok (.athrow, 1) := by decide +kernel
theorem dX10_knownMachine_39 : decode cX10_knownMachine 39 = .ok (.aload_n 2, 1) := by decide +kernel
theorem dX10_knownMachine_40 : decode cX10_knownMachine 40 = .ok (.areturn, 1) := by decide +kernel
theorem dX10_knownOrder_0 : decode cX10_knownOrder 0 = .ok (.iload_n 1, 1) := by decide +kernel
theorem dX10_knownOrder_1 : decode cX10_knownOrder 1 = .ok (.ifCond .lt 21, 3) := by decide +kernel
theorem dX10_knownOrder_4 : decode cX10_knownOrder 4 = .ok (.iload_n 1, 1) := by decide +kernel
theorem dX10_knownOrder_5 : decode cX10_knownOrder 5 = .ok (.aload_n 0, 1) := by decide +kernel
theorem dX10_knownOrder_6 : decode cX10_knownOrder 6 = .ok (.getfield 35, 3) := by decide +kernel
theorem dX10_knownOrder_9 : decode cX10_knownOrder 9 = .ok (.arraylength, 1) := by decide +kernel
theorem dX10_knownOrder_10 : decode cX10_knownOrder 10 = .ok (.if_icmp .ge 12, 3) := by decide +kernel
theorem dX10_knownOrder_13 : decode cX10_knownOrder 13 = .ok (.aload_n 0, 1) := by decide +kernel
theorem dX10_knownOrder_14 : decode cX10_knownOrder 14 = .ok (.getfield 35, 3) := by decide +kernel
theorem dX10_knownOrder_17 : decode cX10_knownOrder 17 = .ok (.iload_n 1, 1) := by decide +kernel
theorem dX10_knownOrder_18 : decode cX10_knownOrder 18 = .ok (.aaload, 1) := by decide +kernel
theorem dX10_knownOrder_19 : decode cX10_knownOrder 19 = .ok (.goto 4, 3) := by decide +kernel
theorem dX10_knownOrder_22 : decode cX10_knownOrder 22 = .ok (.aconst_null, 1) := by decide +kernel
theorem dX10_knownOrder_23 : decode cX10_knownOrder 23 = .ok (.astore_n 2, 1) := by decide +kernel
theorem dX10_knownOrder_24 : decode cX10_knownOrder 24 = .ok (.aload_n 2, 1) := by decide +kernel
theorem dX10_knownOrder_25 : decode cX10_knownOrder 25 = .ok (.ifnonnull 14, 3) := by decide +kernel
theorem dX10_knownOrder_28 : decode cX10_knownOrder 28 = .ok (.new 164, 3) := by decide +kernel
theorem dX10_knownOrder_31 : decode cX10_knownOrder 31 = .ok (.dup, 1) := by decide +kernel
theorem dX10_knownOrder_32 : decode cX10_knownOrder 32 = .ok (.ldc_w 393, 3) := by decide +kernel
theorem dX10_knownOrder_35 : decode cX10_knownOrder 35 = .ok (.invokespecial 168, 3) := by decide +kernel
theorem dX10_knownOrder_38 : decode cX10_knownOrder 38 = .ok (.athrow, 1) := by decide +kernel
theorem dX10_knownOrder_39 : decode cX10_knownOrder 39 = .ok (.aload_n 2, 1) := by decide +kernel
theorem dX10_knownOrder_40 : decode cX10_knownOrder 40 = .ok (.areturn, 1) := by decide +kernel
theorem dX10_knownPart_0 : decode cX10_knownPart 0 = .ok (.iload_n 1, 1) := by decide +kernel
theorem dX10_knownPart_1 : decode cX10_knownPart 1 = .ok (.ifCond .lt 21, 3) := by decide +kernel
theorem dX10_knownPart_4 : decode cX10_knownPart 4 = .ok (.iload_n 1, 1) := by decide +kernel
theorem dX10_knownPart_5 : decode cX10_knownPart 5 = .ok (.aload_n 0, 1) := by decide +kernel
theorem dX10_knownPart_6 : decode cX10_knownPart 6 = .ok (.getfield 17, 3) := by decide +kernel
theorem dX10_knownPart_9 : decode cX10_knownPart 9 = .ok (.arraylength, 1) := by decide +kernel
theorem dX10_knownPart_10 : decode cX10_knownPart 10 = .ok (.if_icmp .ge 12, 3) := by decide +kernel
theorem dX10_knownPart_13 : decode cX10_knownPart 13 = .ok (.aload_n 0, 1) := by decide +kernel
theorem dX10_knownPart_14 : decode cX10_knownPart 14 = .ok (.getfield 17, 3) := by decide +kernel
theorem dX10_knownPart_17 : decode cX10_knownPart 17 = .ok (.iload_n 1, 1) := by decide +kernel
theorem dX10_knownPart_18 : decode cX10_knownPart 18 = .ok (.aaload, 1) := by decide +kernel
theorem dX10_knownPart_19 : decode cX10_knownPart 19 = .ok (.goto 4, 3) := by decide +kernel
theorem dX10_knownPart_22 : decode cX10_knownPart 22 = .ok (.aconst_null, 1) := by decide +kernel
theorem dX10_knownPart_23 : decode cX10_knownPart 23 = .ok (.astore_n 2, 1) := by decide +kernel
theorem dX10_knownPart_24 : decode cX10_knownPart 24 = .ok (.aload_n 2, 1) := by decide +kernel
theorem dX10_knownPart_25 : decode cX10_knownPart 25 = .ok (.ifnonnull 14, 3) := by decide +kernel
theorem dX10_knownPart_28 : decode cX10_knownPart 28 = .ok (.new 164, 3) := by decide +kernel
theorem dX10_knownPart_31 : decode cX10_knownPart 31 = .ok (.dup, 1) := by decide +kernel
theorem dX10_knownPart_32 : decode cX10_knownPart 32 = .ok (.ldc_w 389, 3) := by decide +kernel
theorem dX10_knownPart_35 : decode cX10_knownPart 35 = .ok (.invokespecial 168, 3) := by decide +kernel
theorem dX10_knownPart_38 : decode cX10_knownPart 38 = .ok (.athrow, 1) := by decide +kernel
theorem dX10_knownPart_39 : decode cX10_knownPart 39 = .ok (.aload_n 2, 1) := by decide +kernel
theorem dX10_knownPart_40 : decode cX10_knownPart 40 = .ok (.areturn, 1) := by decide +kernel
theorem dX10_lotOf_0 : decode cX10_lotOf 0 = .ok (.aload_n 0, 1) := by decide +kernel
theorem dX10_lotOf_1 : decode cX10_lotOf 1 = .ok (.iload_n 1, 1) := by decide +kernel
theorem dX10_lotOf_2 : decode cX10_lotOf 2 = .ok (.invokevirtual 238, 3) := by decide +kernel
theorem dX10_lotOf_5 : decode cX10_lotOf 5 = .ok (.astore_n 2, 1) := by decide +kernel
theorem dX10_lotOf_6 : decode cX10_lotOf 6 = .ok (.aload_n 2, 1) := by decide +kernel
theorem dX10_lotOf_7 : decode cX10_lotOf 7 = .ok (.getfield 280, 3) := by decide +kernel
theorem dX10_lotOf_10 : decode cX10_lotOf 10 = .ok (.getfield 320, 3) := by decide +kernel
theorem dX10_lotOf_13 : decode cX10_lotOf 13 = .ok (.astore_n 3, 1) := by decide +kernel
theorem dX10_lotOf_14 : decode cX10_lotOf 14 = .ok (.aload_n 3, 1) := by decide +kernel
theorem dX10_lotOf_15 : decode cX10_lotOf 15 = .ok (.ifnonnull 14, 3) := by decide +kernel
theorem dX10_lotOf_18 : decode cX10_lotOf 18 = .ok (.new 324, 3) := by decide +kernel
theorem dX10_lotOf_21 : decode cX10_lotOf 21 = .ok (.dup, 1) := by decide +kernel
theorem dX10_lotOf_22 : decode cX10_lotOf 22 = .ok (.ldc_w 326, 3) := by decide +kernel
theorem dX10_lotOf_25 : decode cX10_lotOf 25 = .ok (.invokespecial 328, 3) := by decide +kernel
theorem dX10_lotOf_28 : decode cX10_lotOf 28 = .ok (.athrow, 1) := by decide +kernel
theorem dX10_lotOf_29 : decode cX10_lotOf 29 = .ok (.aload_n 3, 1) := by decide +kernel
theorem dX10_lotOf_30 : decode cX10_lotOf 30 = .ok (.getfield 157, 3) := by decide +kernel
theorem dX10_lotOf_33 : decode cX10_lotOf 33 = .ok (.ireturn, 1) := by decide +kernel
theorem dX10_lots_0 : decode cX10_lots 0 = .ok (.aload_n 0, 1) := by decide +kernel
theorem dX10_lots_1 : decode cX10_lots 1 = .ok (.getfield 215, 3) := by decide +kernel
theorem dX10_lots_4 : decode cX10_lots 4 = .ok (.ireturn, 1) := by decide +kernel
theorem dX10_lotsIn_0 : decode cX10_lotsIn 0 = .ok (.aload_n 0, 1) := by decide +kernel
theorem dX10_lotsIn_1 : decode cX10_lotsIn 1 = .ok (.iload_n 1, 1) := by decide +kernel
theorem dX10_lotsIn_2 : decode cX10_lotsIn 2 = .ok (.invokevirtual 238, 3) := by decide +kernel
theorem dX10_lotsIn_5 : decode cX10_lotsIn 5 = .ok (.getfield 352, 3) := by decide +kernel
theorem dX10_lotsIn_8 : decode cX10_lotsIn 8 = .ok (.invokevirtual 348, 3) := by decide +kernel
theorem dX10_lotsIn_11 : decode cX10_lotsIn 11 = .ok (.ireturn, 1) := by decide +kernel
theorem dX10_machineIs_0 : decode cX10_machineIs 0 = .ok (.aload_n 0, 1) := by decide +kernel
theorem dX10_machineIs_1 : decode cX10_machineIs 1 = .ok (.iload_n 1, 1) := by decide +kernel
theorem dX10_machineIs_2 : decode cX10_machineIs 2 = .ok (.invokevirtual 110, 3) := by decide +kernel
theorem dX10_machineIs_5 : decode cX10_machineIs 5 = .ok (.getfield 334, 3) := by decide +kernel
theorem dX10_machineIs_8 : decode cX10_machineIs 8 = .ok (.ireturn, 1) := by decide +kernel
theorem dX10_meanBusy_0 : decode cX10_meanBusy 0 = .ok (.aload_n 0, 1) := by decide +kernel
theorem dX10_meanBusy_1 : decode cX10_meanBusy 1 = .ok (.getfield 58, 3) := by decide +kernel
theorem dX10_meanBusy_4 : decode cX10_meanBusy 4 = .ok (.ifCond .ne 14, 3) := by decide +kernel
theorem dX10_meanBusy_7 : decode cX10_meanBusy 7 = .ok (.new 361, 3) := by decide +kernel
theorem dX10_meanBusy_10 : decode cX10_meanBusy 10 = .ok (.dup, 1) := by decide +kernel
theorem dX10_meanBusy_11 : decode cX10_meanBusy 11 = .ok (.ldc_w 366, 3) := by decide +kernel
theorem dX10_meanBusy_14 : decode cX10_meanBusy 14 = .ok (.invokespecial 365, 3) := by decide +kernel
theorem dX10_meanBusy_17 : decode cX10_meanBusy 17 = .ok (.athrow, 1) := by decide +kernel
theorem dX10_meanBusy_18 : decode cX10_meanBusy 18 = .ok (.lconst 0, 1) := by decide +kernel
theorem dX10_meanBusy_19 : decode cX10_meanBusy 19 = .ok (.lstore_n 1, 1) := by decide +kernel
theorem dX10_meanBusy_20 : decode cX10_meanBusy 20 = .ok (.aload_n 0, 1) := by decide +kernel
theorem dX10_meanBusy_21 : decode cX10_meanBusy 21 = .ok (.getfield 11, 3) := by decide +kernel
theorem dX10_meanBusy_24 : decode cX10_meanBusy 24 = .ok (.astore_n 3, 1) := by decide +kernel
theorem dX10_meanBusy_25 : decode cX10_meanBusy 25 = .ok (.aload_n 3, 1) := by decide +kernel
theorem dX10_meanBusy_26 : decode cX10_meanBusy 26 = .ok (.arraylength, 1) := by decide +kernel
theorem dX10_meanBusy_27 : decode cX10_meanBusy 27 = .ok (.istore 4, 2) := by decide +kernel
theorem dX10_meanBusy_29 : decode cX10_meanBusy 29 = .ok (.iconst 0, 1) := by decide +kernel
theorem dX10_meanBusy_30 : decode cX10_meanBusy 30 = .ok (.istore 5, 2) := by decide +kernel
theorem dX10_meanBusy_32 : decode cX10_meanBusy 32 = .ok (.iload 5, 2) := by decide +kernel
theorem dX10_meanBusy_34 : decode cX10_meanBusy 34 = .ok (.iload 4, 2) := by decide +kernel
theorem dX10_meanBusy_36 : decode cX10_meanBusy 36 = .ok (.if_icmp .ge 33, 3) := by decide +kernel
theorem dX10_meanBusy_39 : decode cX10_meanBusy 39 = .ok (.aload_n 3, 1) := by decide +kernel
theorem dX10_meanBusy_40 : decode cX10_meanBusy 40 = .ok (.iload 5, 2) := by decide +kernel
theorem dX10_meanBusy_42 : decode cX10_meanBusy 42 = .ok (.aaload, 1) := by decide +kernel
theorem dX10_meanBusy_43 : decode cX10_meanBusy 43 = .ok (.astore 6, 2) := by decide +kernel
theorem dX10_meanBusy_45 : decode cX10_meanBusy 45 = .ok (.aload 6, 2) := by decide +kernel
theorem dX10_meanBusy_47 : decode cX10_meanBusy 47 = .ok (.ifnull 16, 3) := by decide +kernel
theorem dX10_meanBusy_50 : decode cX10_meanBusy 50 = .ok (.lload_n 1, 1) := by decide +kernel
theorem dX10_meanBusy_51 : decode cX10_meanBusy 51 = .ok (.aload 6, 2) := by decide +kernel
theorem dX10_meanBusy_53 : decode cX10_meanBusy 53 = .ok (.aload_n 0, 1) := by decide +kernel
theorem dX10_meanBusy_54 : decode cX10_meanBusy 54 = .ok (.getfield 294, 3) := by decide +kernel
theorem dX10_meanBusy_57 : decode cX10_meanBusy 57 = .ok (.invokevirtual 368, 3) := by decide +kernel
theorem dX10_meanBusy_60 : decode cX10_meanBusy 60 = .ok (.i2l, 1) := by decide +kernel
theorem dX10_meanBusy_61 : decode cX10_meanBusy 61 = .ok (.ladd, 1) := by decide +kernel
theorem dX10_meanBusy_62 : decode cX10_meanBusy 62 = .ok (.lstore_n 1, 1) := by decide +kernel
theorem dX10_meanBusy_63 : decode cX10_meanBusy 63 = .ok (.iinc 5 1, 3) := by decide +kernel
theorem dX10_meanBusy_66 : decode cX10_meanBusy 66 = .ok (.goto (-34), 3) := by decide +kernel
theorem dX10_meanBusy_69 : decode cX10_meanBusy 69 = .ok (.lload_n 1, 1) := by decide +kernel
theorem dX10_meanBusy_70 : decode cX10_meanBusy 70 = .ok (.l2d, 1) := by decide +kernel
theorem dX10_meanBusy_71 : decode cX10_meanBusy 71 = .ok (.aload_n 0, 1) := by decide +kernel
theorem dX10_meanBusy_72 : decode cX10_meanBusy 72 = .ok (.getfield 58, 3) := by decide +kernel
theorem dX10_meanBusy_75 : decode cX10_meanBusy 75 = .ok (.i2d, 1) := by decide +kernel
theorem dX10_meanBusy_76 : decode cX10_meanBusy 76 = .ok (.ddiv, 1) := by decide +kernel
theorem dX10_meanBusy_77 : decode cX10_meanBusy 77 = .ok (.dreturn, 1) := by decide +kernel
theorem dX10_measure_0 : decode cX10_measure 0 = .ok (.aload_n 0, 1) := by decide +kernel
theorem dX10_measure_1 : decode cX10_measure 1 = .ok (.iload_n 1, 1) := by decide +kernel
theorem dX10_measure_2 : decode cX10_measure 2 = .ok (.invokevirtual 173, 3) := by decide +kernel
theorem dX10_measure_5 : decode cX10_measure 5 = .ok (.astore_n 3, 1) := by decide +kernel
theorem dX10_measure_6 : decode cX10_measure 6 = .ok (.iload_n 2, 1) := by decide +kernel
theorem dX10_measure_7 : decode cX10_measure 7 = .ok (.iconst 0, 1) := by decide +kernel
theorem dX10_measure_8 : decode cX10_measure 8 = .ok (.sipush 2000, 3) := by decide +kernel
theorem dX10_measure_11 : decode cX10_measure 11 = .ok (.invokestatic 47, 3) := by decide +kernel
theorem dX10_measure_14 : decode cX10_measure 14 = .ok (.ifCond .ne 13, 3) := by decide +kernel
theorem dX10_measure_17 : decode cX10_measure 17 = .ok (.new 51, 3) := by decide +kernel
theorem dX10_measure_20 : decode cX10_measure 20 = .ok (.dup, 1) := by decide +kernel
theorem dX10_measure_21 : decode cX10_measure 21 = .ok (.ldc 203, 2) := by decide +kernel
theorem dX10_measure_23 : decode cX10_measure 23 = .ok (.invokespecial 55, 3) := by decide +kernel
theorem dX10_measure_26 : decode cX10_measure 26 = .ok (.athrow, 1) := by decide +kernel
theorem dX10_measure_27 : decode cX10_measure 27 = .ok (.aload_n 3, 1) := by decide +kernel
theorem dX10_measure_28 : decode cX10_measure 28 = .ok (.getfield 205, 3) := by decide +kernel
theorem dX10_measure_31 : decode cX10_measure 31 = .ok (.getfield 190, 3) := by decide +kernel
theorem dX10_measure_34 : decode cX10_measure 34 = .ok (.iload_n 2, 1) := by decide +kernel
theorem dX10_measure_35 : decode cX10_measure 35 = .ok (.invokevirtual 209, 3) := by decide +kernel
theorem dX10_measure_38 : decode cX10_measure 38 = .ok (.istore 4, 2) := by decide +kernel
theorem dX10_measure_40 : decode cX10_measure 40 = .ok (.iload 4, 2) := by decide +kernel
theorem dX10_measure_42 : decode cX10_measure 42 = .ok (.ifCond .eq 14, 3) := by decide +kernel
theorem dX10_measure_45 : decode cX10_measure 45 = .ok (.aload_n 0, 1) := by decide +kernel
theorem dX10_measure_46 : decode cX10_measure 46 = .ok (.getfield 42, 3) := by decide +kernel
theorem dX10_measure_49 : decode cX10_measure 49 = .ok (.iload_n 1, 1) := by decide +kernel
theorem dX10_measure_50 : decode cX10_measure 50 = .ok (.invokevirtual 212, 3) := by decide +kernel
theorem dX10_measure_53 : decode cX10_measure 53 = .ok (.ifCond .eq 5, 3) := by decide +kernel
theorem dX10_measure_56 : decode cX10_measure 56 = .ok (.iconst 0, 1) := by decide +kernel
theorem dX10_measure_57 : decode cX10_measure 57 = .ok (.ireturn, 1) := by decide +kernel
theorem dX10_measure_58 : decode cX10_measure 58 = .ok (.aload_n 0, 1) := by decide +kernel
theorem dX10_measure_59 : decode cX10_measure 59 = .ok (.aload_n 3, 1) := by decide +kernel
theorem dX10_measure_60 : decode cX10_measure 60 = .ok (.invokevirtual 177, 3) := by decide +kernel
theorem dX10_measure_63 : decode cX10_measure 63 = .ok (.pop, 1) := by decide +kernel
theorem dX10_measure_64 : decode cX10_measure 64 = .ok (.iconst 1, 1) := by decide +kernel
theorem dX10_measure_65 : decode cX10_measure 65 = .ok (.ireturn, 1) := by decide +kernel
theorem dX10_order_0 : decode cX10_order 0 = .ok (.aload_n 0, 1) := by decide +kernel
theorem dX10_order_1 : decode cX10_order 1 = .ok (.iload_n 1, 1) := by decide +kernel
theorem dX10_order_2 : decode cX10_order 2 = .ok (.invokevirtual 80, 3) := by decide +kernel
theorem dX10_order_5 : decode cX10_order 5 = .ok (.astore 5, 2) := by decide +kernel
theorem dX10_order_7 : decode cX10_order 7 = .ok (.iload_n 2, 1) := by decide +kernel
theorem dX10_order_8 : decode cX10_order 8 = .ok (.iconst 1, 1) := by decide +kernel
theorem dX10_order_9 : decode cX10_order 9 = .ok (.bipush 100, 2) := by decide +kernel
theorem dX10_order_11 : decode cX10_order 11 = .ok (.invokestatic 47, 3) := by decide +kernel
theorem dX10_order_14 : decode cX10_order 14 = .ok (.ifCond .eq 24, 3) := by decide +kernel
theorem dX10_order_17 : decode cX10_order 17 = .ok (.iload_n 3, 1) := by decide +kernel
theorem dX10_order_18 : decode cX10_order 18 = .ok (.iconst 0, 1) := by decide +kernel
theorem dX10_order_19 : decode cX10_order 19 = .ok (.iconst 2, 1) := by decide +kernel
theorem dX10_order_20 : decode cX10_order 20 = .ok (.invokestatic 47, 3) := by decide +kernel
theorem dX10_order_23 : decode cX10_order 23 = .ok (.ifCond .eq 15, 3) := by decide +kernel
theorem dX10_order_26 : decode cX10_order 26 = .ok (.iload 4, 2) := by decide +kernel
theorem dX10_order_28 : decode cX10_order 28 = .ok (.iconst 0, 1) := by decide +kernel
theorem dX10_order_29 : decode cX10_order 29 = .ok (.sipush 9999, 3) := by decide +kernel
theorem dX10_order_32 : decode cX10_order 32 = .ok (.invokestatic 47, 3) := by decide +kernel
theorem dX10_order_35 : decode cX10_order 35 = .ok (.ifCond .ne 13, 3) := by decide +kernel
theorem dX10_order_38 : decode cX10_order 38 = .ok (.new 51, 3) := by decide +kernel
theorem dX10_order_41 : decode cX10_order 41 = .ok (.dup, 1) := by decide +kernel
theorem dX10_order_42 : decode cX10_order 42 = .ok (.ldc 228, 2) := by decide +kernel
theorem dX10_order_44 : decode cX10_order 44 = .ok (.invokespecial 55, 3) := by decide +kernel
theorem dX10_order_47 : decode cX10_order 47 = .ok (.athrow, 1) := by decide +kernel
theorem dX10_order_48 : decode cX10_order 48 = .ok (.aload_n 0, 1) := by decide +kernel
theorem dX10_order_49 : decode cX10_order 49 = .ok (.getfield 230, 3) := by decide +kernel
theorem dX10_order_52 : decode cX10_order 52 = .ok (.aload_n 0, 1) := by decide +kernel
theorem dX10_order_53 : decode cX10_order 53 = .ok (.getfield 35, 3) := by decide +kernel
theorem dX10_order_56 : decode cX10_order 56 = .ok (.arraylength, 1) := by decide +kernel
theorem dX10_order_57 : decode cX10_order 57 = .ok (.if_icmp .lt 13, 3) := by decide +kernel
theorem dX10_order_60 : decode cX10_order 60 = .ok (.new 62, 3) := by decide +kernel
theorem dX10_order_63 : decode cX10_order 63 = .ok (.dup, 1) := by decide +kernel
theorem dX10_order_64 : decode cX10_order 64 = .ok (.ldc 233, 2) := by decide +kernel
theorem dX10_order_66 : decode cX10_order 66 = .ok (.invokespecial 66, 3) := by decide +kernel
theorem dX10_order_69 : decode cX10_order 69 = .ok (.athrow, 1) := by decide +kernel
theorem dX10_order_70 : decode cX10_order 70 = .ok (.aload_n 0, 1) := by decide +kernel
theorem dX10_order_71 : decode cX10_order 71 = .ok (.getfield 35, 3) := by decide +kernel
theorem dX10_order_74 : decode cX10_order 74 = .ok (.aload_n 0, 1) := by decide +kernel
theorem dX10_order_75 : decode cX10_order 75 = .ok (.getfield 230, 3) := by decide +kernel
theorem dX10_order_78 : decode cX10_order 78 = .ok (.new 33, 3) := by decide +kernel
theorem dX10_order_81 : decode cX10_order 81 = .ok (.dup, 1) := by decide +kernel
theorem dX10_order_82 : decode cX10_order 82 = .ok (.aload_n 0, 1) := by decide +kernel
theorem dX10_order_83 : decode cX10_order 83 = .ok (.getfield 230, 3) := by decide +kernel
theorem dX10_order_86 : decode cX10_order 86 = .ok (.aload 5, 2) := by decide +kernel
theorem dX10_order_88 : decode cX10_order 88 = .ok (.iload_n 2, 1) := by decide +kernel
theorem dX10_order_89 : decode cX10_order 89 = .ok (.iload_n 3, 1) := by decide +kernel
theorem dX10_order_90 : decode cX10_order 90 = .ok (.iload 4, 2) := by decide +kernel
theorem dX10_order_92 : decode cX10_order 92 = .ok (.invokespecial 235, 3) := by decide +kernel
theorem dX10_order_95 : decode cX10_order 95 = .ok (.aastore, 1) := by decide +kernel
theorem dX10_order_96 : decode cX10_order 96 = .ok (.aload_n 0, 1) := by decide +kernel
theorem dX10_order_97 : decode cX10_order 97 = .ok (.dup, 1) := by decide +kernel
theorem dX10_order_98 : decode cX10_order 98 = .ok (.getfield 230, 3) := by decide +kernel
theorem dX10_order_101 : decode cX10_order 101 = .ok (.iconst 1, 1) := by decide +kernel
theorem dX10_order_102 : decode cX10_order 102 = .ok (.iadd, 1) := by decide +kernel
theorem dX10_order_103 : decode cX10_order 103 = .ok (.putfield 230, 3) := by decide +kernel
theorem dX10_order_106 : decode cX10_order 106 = .ok (.aload_n 0, 1) := by decide +kernel
theorem dX10_order_107 : decode cX10_order 107 = .ok (.getfield 230, 3) := by decide +kernel
theorem dX10_order_110 : decode cX10_order 110 = .ok (.iconst 1, 1) := by decide +kernel
theorem dX10_order_111 : decode cX10_order 111 = .ok (.isub, 1) := by decide +kernel
theorem dX10_order_112 : decode cX10_order 112 = .ok (.ireturn, 1) := by decide +kernel
theorem dX10_partOf_0 : decode cX10_partOf 0 = .ok (.aload_n 0, 1) := by decide +kernel
theorem dX10_partOf_1 : decode cX10_partOf 1 = .ok (.iload_n 1, 1) := by decide +kernel
theorem dX10_partOf_2 : decode cX10_partOf 2 = .ok (.invokevirtual 173, 3) := by decide +kernel
theorem dX10_partOf_5 : decode cX10_partOf 5 = .ok (.getfield 205, 3) := by decide +kernel
theorem dX10_partOf_8 : decode cX10_partOf 8 = .ok (.getfield 218, 3) := by decide +kernel
theorem dX10_partOf_11 : decode cX10_partOf 11 = .ok (.ireturn, 1) := by decide +kernel
theorem dX10_passTime_0 : decode cX10_passTime 0 = .ok (.aload_n 0, 1) := by decide +kernel
theorem dX10_passTime_1 : decode cX10_passTime 1 = .ok (.dup, 1) := by decide +kernel
theorem dX10_passTime_2 : decode cX10_passTime 2 = .ok (.getfield 294, 3) := by decide +kernel
theorem dX10_passTime_5 : decode cX10_passTime 5 = .ok (.iconst 1, 1) := by decide +kernel
theorem dX10_passTime_6 : decode cX10_passTime 6 = .ok (.iadd, 1) := by decide +kernel
theorem dX10_passTime_7 : decode cX10_passTime 7 = .ok (.putfield 294, 3) := by decide +kernel
theorem dX10_passTime_10 : decode cX10_passTime 10 = .ok (.aload_n 0, 1) := by decide +kernel
theorem dX10_passTime_11 : decode cX10_passTime 11 = .ok (.getfield 11, 3) := by decide +kernel
theorem dX10_passTime_14 : decode cX10_passTime 14 = .ok (.astore_n 1, 1) := by decide +kernel
theorem dX10_passTime_15 : decode cX10_passTime 15 = .ok (.aload_n 1, 1) := by decide +kernel
theorem dX10_passTime_16 : decode cX10_passTime 16 = .ok (.arraylength, 1) := by decide +kernel
theorem dX10_passTime_17 : decode cX10_passTime 17 = .ok (.istore_n 2, 1) := by decide +kernel
theorem dX10_passTime_18 : decode cX10_passTime 18 = .ok (.iconst 0, 1) := by decide +kernel
theorem dX10_passTime_19 : decode cX10_passTime 19 = .ok (.istore_n 3, 1) := by decide +kernel
theorem dX10_passTime_20 : decode cX10_passTime 20 = .ok (.iload_n 3, 1) := by decide +kernel
theorem dX10_passTime_21 : decode cX10_passTime 21 = .ok (.iload_n 2, 1) := by decide +kernel
theorem dX10_passTime_22 : decode cX10_passTime 22 = .ok (.if_icmp .ge 37, 3) := by decide +kernel
theorem dX10_passTime_25 : decode cX10_passTime 25 = .ok (.aload_n 1, 1) := by decide +kernel
theorem dX10_passTime_26 : decode cX10_passTime 26 = .ok (.iload_n 3, 1) := by decide +kernel
theorem dX10_passTime_27 : decode cX10_passTime 27 = .ok (.aaload, 1) := by decide +kernel
theorem dX10_passTime_28 : decode cX10_passTime 28 = .ok (.astore 4, 2) := by decide +kernel
theorem dX10_passTime_30 : decode cX10_passTime 30 = .ok (.aload 4, 2) := by decide +kernel
theorem dX10_passTime_32 : decode cX10_passTime 32 = .ok (.ifnull 21, 3) := by decide +kernel
theorem dX10_passTime_35 : decode cX10_passTime 35 = .ok (.aload 4, 2) := by decide +kernel
theorem dX10_passTime_37 : decode cX10_passTime 37 = .ok (.getfield 470, 3) := by decide +kernel
theorem dX10_passTime_40 : decode cX10_passTime 40 = .ok (.aload_n 0, 1) := by decide +kernel
theorem dX10_passTime_41 : decode cX10_passTime 41 = .ok (.getfield 294, 3) := by decide +kernel
theorem dX10_passTime_44 : decode cX10_passTime 44 = .ok (.if_icmp .ne 9, 3) := by decide +kernel
theorem dX10_passTime_47 : decode cX10_passTime 47 = .ok (.aload_n 0, 1) := by decide +kernel
theorem dX10_passTime_48 : decode cX10_passTime 48 = .ok (.aload 4, 2) := by decide +kernel
theorem dX10_passTime_50 : decode cX10_passTime 50 = .ok (.invokevirtual 473, 3) := by decide +kernel
theorem dX10_passTime_53 : decode cX10_passTime 53 = .ok (.iinc 3 1, 3) := by decide +kernel
theorem dX10_passTime_56 : decode cX10_passTime 56 = .ok (.goto (-36), 3) := by decide +kernel
theorem dX10_passTime_59 : decode cX10_passTime 59 = .ok (.aload_n 0, 1) := by decide +kernel
theorem dX10_passTime_60 : decode cX10_passTime 60 = .ok (.getfield 11, 3) := by decide +kernel
theorem dX10_passTime_63 : decode cX10_passTime 63 = .ok (.astore_n 1, 1) := by decide +kernel
theorem dX10_passTime_64 : decode cX10_passTime 64 = .ok (.aload_n 1, 1) := by decide +kernel
theorem dX10_passTime_65 : decode cX10_passTime 65 = .ok (.arraylength, 1) := by decide +kernel
theorem dX10_passTime_66 : decode cX10_passTime 66 = .ok (.istore_n 2, 1) := by decide +kernel
theorem dX10_passTime_67 : decode cX10_passTime 67 = .ok (.iconst 0, 1) := by decide +kernel
theorem dX10_passTime_68 : decode cX10_passTime 68 = .ok (.istore_n 3, 1) := by decide +kernel
theorem dX10_passTime_69 : decode cX10_passTime 69 = .ok (.iload_n 3, 1) := by decide +kernel
theorem dX10_passTime_70 : decode cX10_passTime 70 = .ok (.iload_n 2, 1) := by decide +kernel
theorem dX10_passTime_71 : decode cX10_passTime 71 = .ok (.if_icmp .ge 25, 3) := by decide +kernel
theorem dX10_passTime_74 : decode cX10_passTime 74 = .ok (.aload_n 1, 1) := by decide +kernel
theorem dX10_passTime_75 : decode cX10_passTime 75 = .ok (.iload_n 3, 1) := by decide +kernel
theorem dX10_passTime_76 : decode cX10_passTime 76 = .ok (.aaload, 1) := by decide +kernel
theorem dX10_passTime_77 : decode cX10_passTime 77 = .ok (.astore 4, 2) := by decide +kernel
theorem dX10_passTime_79 : decode cX10_passTime 79 = .ok (.aload 4, 2) := by decide +kernel
theorem dX10_passTime_81 : decode cX10_passTime 81 = .ok (.ifnull 9, 3) := by decide +kernel
theorem dX10_passTime_84 : decode cX10_passTime 84 = .ok (.aload_n 0, 1) := by decide +kernel
theorem dX10_passTime_85 : decode cX10_passTime 85 = .ok (.aload 4, 2) := by decide +kernel
theorem dX10_passTime_87 : decode cX10_passTime 87 = .ok (.invokevirtual 271, 3) := by decide +kernel
theorem dX10_passTime_90 : decode cX10_passTime 90 = .ok (.iinc 3 1, 3) := by decide +kernel
theorem dX10_passTime_93 : decode cX10_passTime 93 = .ok (.goto (-24), 3) := by decide +kernel
theorem dX10_passTime_96 : decode cX10_passTime 96 = .ok (.return_, 1) := by decide +kernel
theorem dX10_promise_0 : decode cX10_promise 0 = .ok (.aload_n 0, 1) := by decide +kernel
theorem dX10_promise_1 : decode cX10_promise 1 = .ok (.iload_n 1, 1) := by decide +kernel
theorem dX10_promise_2 : decode cX10_promise 2 = .ok (.invokevirtual 238, 3) := by decide +kernel
theorem dX10_promise_5 : decode cX10_promise 5 = .ok (.astore_n 2, 1) := by decide +kernel
theorem dX10_promise_6 : decode cX10_promise 6 = .ok (.aload_n 2, 1) := by decide +kernel
theorem dX10_promise_7 : decode cX10_promise 7 = .ok (.getfield 242, 3) := by decide +kernel
theorem dX10_promise_10 : decode cX10_promise 10 = .ok (.getfield 84, 3) := by decide +kernel
theorem dX10_promise_13 : decode cX10_promise 13 = .ok (.ifCond .eq 12, 3) := by decide +kernel
theorem dX10_promise_16 : decode cX10_promise 16 = .ok (.aload_n 2, 1) := by decide +kernel
theorem dX10_promise_17 : decode cX10_promise 17 = .ok (.getfield 243, 3) := by decide +kernel
theorem dX10_promise_20 : decode cX10_promise 20 = .ok (.bipush 45, 2) := by decide +kernel
theorem dX10_promise_22 : decode cX10_promise 22 = .ok (.if_icmp .eq 13, 3) := by decide +kernel
theorem dX10_promise_25 : decode cX10_promise 25 = .ok (.new 88, 3) := by decide +kernel
theorem dX10_promise_28 : decode cX10_promise 28 = .ok (.dup, 1) := by decide +kernel
theorem dX10_promise_29 : decode cX10_promise 29 = .ok (.ldc 246, 2) := by decide +kernel
theorem dX10_promise_31 : decode cX10_promise 31 = .ok (.invokespecial 92, 3) := by decide +kernel
theorem dX10_promise_34 : decode cX10_promise 34 = .ok (.athrow, 1) := by decide +kernel
theorem dX10_promise_35 : decode cX10_promise 35 = .ok (.aload_n 0, 1) := by decide +kernel
theorem dX10_promise_36 : decode cX10_promise 36 = .ok (.aload_n 2, 1) := by decide +kernel
theorem dX10_promise_37 : decode cX10_promise 37 = .ok (.invokevirtual 248, 3) := by decide +kernel
theorem dX10_promise_40 : decode cX10_promise 40 = .ok (.ireturn, 1) := by decide +kernel
theorem dX10_receive_0 : decode cX10_receive 0 = .ok (.aload_n 0, 1) := by decide +kernel
theorem dX10_receive_1 : decode cX10_receive 1 = .ok (.iload_n 1, 1) := by decide +kernel
theorem dX10_receive_2 : decode cX10_receive 2 = .ok (.invokevirtual 80, 3) := by decide +kernel
theorem dX10_receive_5 : decode cX10_receive 5 = .ok (.astore 6, 2) := by decide +kernel
theorem dX10_receive_7 : decode cX10_receive 7 = .ok (.aload_n 0, 1) := by decide +kernel
theorem dX10_receive_8 : decode cX10_receive 8 = .ok (.iload 4, 2) := by decide +kernel
theorem dX10_receive_10 : decode cX10_receive 10 = .ok (.invokevirtual 132, 3) := by decide +kernel
theorem dX10_receive_13 : decode cX10_receive 13 = .ok (.astore 7, 2) := by decide +kernel
theorem dX10_receive_15 : decode cX10_receive 15 = .ok (.aload 6, 2) := by decide +kernel
theorem dX10_receive_17 : decode cX10_receive 17 = .ok (.getfield 84, 3) := by decide +kernel
theorem dX10_receive_20 : decode cX10_receive 20 = .ok (.ifCond .eq 13, 3) := by decide +kernel
theorem dX10_receive_23 : decode cX10_receive 23 = .ok (.new 88, 3) := by decide +kernel
theorem dX10_receive_26 : decode cX10_receive 26 = .ok (.dup, 1) := by decide +kernel
theorem dX10_receive_27 : decode cX10_receive 27 = .ok (.ldc 136, 2) := by decide +kernel
theorem dX10_receive_29 : decode cX10_receive 29 = .ok (.invokespecial 92, 3) := by decide +kernel
theorem dX10_receive_32 : decode cX10_receive 32 = .ok (.athrow, 1) := by decide +kernel
theorem dX10_receive_33 : decode cX10_receive 33 = .ok (.aload 7, 2) := by decide +kernel
theorem dX10_receive_35 : decode cX10_receive 35 = .ok (.ifnull 36, 3) := by decide +kernel
theorem dX10_receive_38 : decode cX10_receive 38 = .ok (.iload_n 2, 1) := by decide +kernel
theorem dX10_receive_39 : decode cX10_receive 39 = .ok (.iconst 1, 1) := by decide +kernel
theorem dX10_receive_40 : decode cX10_receive 40 = .ok (.sipush 500, 3) := by decide +kernel
theorem dX10_receive_43 : decode cX10_receive 43 = .ok (.invokestatic 47, 3) := by decide +kernel
theorem dX10_receive_46 : decode cX10_receive 46 = .ok (.ifCond .eq 25, 3) := by decide +kernel
theorem dX10_receive_49 : decode cX10_receive 49 = .ok (.iload_n 3, 1) := by decide +kernel
theorem dX10_receive_50 : decode cX10_receive 50 = .ok (.iconst 0, 1) := by decide +kernel
theorem dX10_receive_51 : decode cX10_receive 51 = .ok (.sipush 999, 3) := by decide +kernel
theorem dX10_receive_54 : decode cX10_receive 54 = .ok (.invokestatic 47, 3) := by decide +kernel
theorem dX10_receive_57 : decode cX10_receive 57 = .ok (.ifCond .eq 14, 3) := by decide +kernel
theorem dX10_receive_60 : decode cX10_receive 60 = .ok (.iload 5, 2) := by decide +kernel
theorem dX10_receive_62 : decode cX10_receive 62 = .ok (.iconst 0, 1) := by decide +kernel
theorem dX10_receive_63 : decode cX10_receive 63 = .ok (.bipush 20, 2) := by decide +kernel
theorem dX10_receive_65 : decode cX10_receive 65 = .ok (.invokestatic 47, 3) := by decide +kernel
theorem dX10_receive_68 : decode cX10_receive 68 = .ok (.ifCond .ne 13, 3) := by decide +kernel
theorem dX10_receive_71 : decode cX10_receive 71 = .ok (.new 51, 3) := by decide +kernel
theorem dX10_receive_74 : decode cX10_receive 74 = .ok (.dup, 1) := by decide +kernel
theorem dX10_receive_75 : decode cX10_receive 75 = .ok (.ldc 138, 2) := by decide +kernel
theorem dX10_receive_77 : decode cX10_receive 77 = .ok (.invokespecial 55, 3) := by decide +kernel
theorem dX10_receive_80 : decode cX10_receive 80 = .ok (.athrow, 1) := by decide +kernel
theorem dX10_receive_81 : decode cX10_receive 81 = .ok (.aload_n 0, 1) := by decide +kernel
theorem dX10_receive_82 : decode cX10_receive 82 = .ok (.getfield 140, 3) := by decide +kernel
theorem dX10_receive_85 : decode cX10_receive 85 = .ok (.bipush 60, 2) := by decide +kernel
theorem dX10_receive_87 : decode cX10_receive 87 = .ok (.if_icmp .lt 13, 3) := by decide +kernel
theorem dX10_receive_90 : decode cX10_receive 90 = .ok (.new 62, 3) := by decide +kernel
theorem dX10_receive_93 : decode cX10_receive 93 = .ok (.dup, 1) := by decide +kernel
theorem dX10_receive_94 : decode cX10_receive 94 = .ok (.ldc 143, 2) := by decide +kernel
theorem dX10_receive_96 : decode cX10_receive 96 = .ok (.invokespecial 66, 3) := by decide +kernel
theorem dX10_receive_99 : decode cX10_receive 99 = .ok (.athrow, 1) := by decide +kernel
theorem dX10_receive_100 : decode cX10_receive 100 = .ok (.aload_n 0, 1) := by decide +kernel
theorem dX10_receive_101 : decode cX10_receive 101 = .ok (.dup, 1) := by decide +kernel
theorem dX10_receive_102 : decode cX10_receive 102 = .ok (.getfield 140, 3) := by decide +kernel
theorem dX10_receive_105 : decode cX10_receive 105 = .ok (.iconst 1, 1) := by decide +kernel
theorem dX10_receive_106 : decode cX10_receive 106 = .ok (.iadd, 1) := by decide +kernel
theorem dX10_receive_107 : decode cX10_receive 107 = .ok (.putfield 140, 3) := by decide +kernel
theorem dX10_receive_110 : decode cX10_receive 110 = .ok (.iload_n 2, 1) := by decide +kernel
theorem dX10_receive_111 : decode cX10_receive 111 = .ok (.i2l, 1) := by decide +kernel
theorem dX10_receive_112 : decode cX10_receive 112 = .ok (.iload_n 3, 1) := by decide +kernel
theorem dX10_receive_113 : decode cX10_receive 113 = .ok (.i2l, 1) := by decide +kernel
theorem dX10_receive_114 : decode cX10_receive 114 = .ok (.lmul, 1) := by decide +kernel
theorem dX10_receive_115 : decode cX10_receive 115 = .ok (.lstore 8, 2) := by decide +kernel
theorem dX10_receive_117 : decode cX10_receive 117 = .ok (.aload_n 0, 1) := by decide +kernel
theorem dX10_receive_118 : decode cX10_receive 118 = .ok (.dup, 1) := by decide +kernel
theorem dX10_receive_119 : decode cX10_receive 119 = .ok (.getfield 145, 3) := by decide +kernel
theorem dX10_receive_122 : decode cX10_receive 122 = .ok (.lload 8, 2) := by decide +kernel
theorem dX10_receive_124 : decode cX10_receive 124 = .ok (.ladd, 1) := by decide +kernel
theorem dX10_receive_125 : decode cX10_receive 125 = .ok (.putfield 145, 3) := by decide +kernel
theorem dX10_receive_128 : decode cX10_receive 128 = .ok (.aload_n 0, 1) := by decide +kernel
theorem dX10_receive_129 : decode cX10_receive 129 = .ok (.aload 6, 2) := by decide +kernel
theorem dX10_receive_131 : decode cX10_receive 131 = .ok (.iload_n 2, 1) := by decide +kernel
theorem dX10_receive_132 : decode cX10_receive 132 = .ok (.lload 8, 2) := by decide +kernel
theorem dX10_receive_134 : decode cX10_receive 134 = .ok (.invokevirtual 149, 3) := by decide +kernel
theorem dX10_receive_137 : decode cX10_receive 137 = .ok (.astore 10, 2) := by decide +kernel
theorem dX10_receive_139 : decode cX10_receive 139 = .ok (.aload 7, 2) := by decide +kernel
theorem dX10_receive_141 : decode cX10_receive 141 = .ok (.iload 5, 2) := by decide +kernel
theorem dX10_receive_143 : decode cX10_receive 143 = .ok (.invokevirtual 153, 3) := by decide +kernel
theorem dX10_receive_146 : decode cX10_receive 146 = .ok (.ifCond .eq 15, 3) := by decide +kernel
theorem dX10_receive_149 : decode cX10_receive 149 = .ok (.aload_n 0, 1) := by decide +kernel
theorem dX10_receive_150 : decode cX10_receive 150 = .ok (.getfield 42, 3) := by decide +kernel
theorem dX10_receive_153 : decode cX10_receive 153 = .ok (.aload 10, 2) := by decide +kernel
theorem dX10_receive_155 : decode cX10_receive 155 = .ok (.getfield 157, 3) := by decide +kernel
theorem dX10_receive_158 : decode cX10_receive 158 = .ok (.invokevirtual 160, 3) := by decide +kernel
theorem dX10_receive_161 : decode cX10_receive 161 = .ok (.aload 10, 2) := by decide +kernel
theorem dX10_receive_163 : decode cX10_receive 163 = .ok (.getfield 157, 3) := by decide +kernel
theorem dX10_receive_166 : decode cX10_receive 166 = .ok (.ireturn, 1) := by decide +kernel
theorem dX10_release_0 : decode cX10_release 0 = .ok (.aload_n 0, 1) := by decide +kernel
theorem dX10_release_1 : decode cX10_release 1 = .ok (.iload_n 1, 1) := by decide +kernel
theorem dX10_release_2 : decode cX10_release 2 = .ok (.invokevirtual 238, 3) := by decide +kernel
theorem dX10_release_5 : decode cX10_release 5 = .ok (.astore_n 2, 1) := by decide +kernel
theorem dX10_release_6 : decode cX10_release 6 = .ok (.aload_n 2, 1) := by decide +kernel
theorem dX10_release_7 : decode cX10_release 7 = .ok (.getfield 242, 3) := by decide +kernel
theorem dX10_release_10 : decode cX10_release 10 = .ok (.getfield 84, 3) := by decide +kernel
theorem dX10_release_13 : decode cX10_release 13 = .ok (.ifCond .eq 21, 3) := by decide +kernel
theorem dX10_release_16 : decode cX10_release 16 = .ok (.aload_n 2, 1) := by decide +kernel
theorem dX10_release_17 : decode cX10_release 17 = .ok (.getfield 243, 3) := by decide +kernel
theorem dX10_release_20 : decode cX10_release 20 = .ok (.bipush 45, 2) := by decide +kernel
theorem dX10_release_22 : decode cX10_release 22 = .ok (.if_icmp .eq 23, 3) := by decide +kernel
theorem dX10_release_25 : decode cX10_release 25 = .ok (.aload_n 2, 1) := by decide +kernel
theorem dX10_release_26 : decode cX10_release 26 = .ok (.getfield 243, 3) := by decide +kernel
theorem dX10_release_29 : decode cX10_release 29 = .ok (.bipush 112, 2) := by decide +kernel
theorem dX10_release_31 : decode cX10_release 31 = .ok (.if_icmp .eq 14, 3) := by decide +kernel
theorem dX10_release_34 : decode cX10_release 34 = .ok (.new 88, 3) := by decide +kernel
theorem dX10_release_37 : decode cX10_release 37 = .ok (.dup, 1) := by decide +kernel
theorem dX10_release_38 : decode cX10_release 38 = .ok (.ldc_w 258, 3) := by decide +kernel
theorem dX10_release_41 : decode cX10_release 41 = .ok (.invokespecial 92, 3) := by decide +kernel
theorem dX10_release_44 : decode cX10_release 44 = .ok (.athrow, 1) := by decide +kernel
theorem dX10_release_45 : decode cX10_release 45 = .ok (.aload_n 2, 1) := by decide +kernel
theorem dX10_release_46 : decode cX10_release 46 = .ok (.getfield 243, 3) := by decide +kernel
theorem dX10_release_49 : decode cX10_release 49 = .ok (.bipush 112, 2) := by decide +kernel
theorem dX10_release_51 : decode cX10_release 51 = .ok (.if_icmp .eq 13, 3) := by decide +kernel
theorem dX10_release_54 : decode cX10_release 54 = .ok (.aload_n 0, 1) := by decide +kernel
theorem dX10_release_55 : decode cX10_release 55 = .ok (.aload_n 2, 1) := by decide +kernel
theorem dX10_release_56 : decode cX10_release 56 = .ok (.invokevirtual 248, 3) := by decide +kernel
theorem dX10_release_59 : decode cX10_release 59 = .ok (.ifCond .ne 5, 3) := by decide +kernel
theorem dX10_release_62 : decode cX10_release 62 = .ok (.iconst 0, 1) := by decide +kernel
theorem dX10_release_63 : decode cX10_release 63 = .ok (.ireturn, 1) := by decide +kernel
theorem dX10_release_64 : decode cX10_release 64 = .ok (.aload_n 0, 1) := by decide +kernel
theorem dX10_release_65 : decode cX10_release 65 = .ok (.aload_n 2, 1) := by decide +kernel
theorem dX10_release_66 : decode cX10_release 66 = .ok (.invokevirtual 260, 3) := by decide +kernel
theorem dX10_release_69 : decode cX10_release 69 = .ok (.aload_n 0, 1) := by decide +kernel
theorem dX10_release_70 : decode cX10_release 70 = .ok (.aload_n 2, 1) := by decide +kernel
theorem dX10_release_71 : decode cX10_release 71 = .ok (.invokevirtual 264, 3) := by decide +kernel
theorem dX10_release_74 : decode cX10_release 74 = .ok (.astore_n 3, 1) := by decide +kernel
theorem dX10_release_75 : decode cX10_release 75 = .ok (.aload_n 3, 1) := by decide +kernel
theorem dX10_release_76 : decode cX10_release 76 = .ok (.ifnonnull 11, 3) := by decide +kernel
theorem dX10_release_79 : decode cX10_release 79 = .ok (.aload_n 0, 1) := by decide +kernel
theorem dX10_release_80 : decode cX10_release 80 = .ok (.aload_n 2, 1) := by decide +kernel
theorem dX10_release_81 : decode cX10_release 81 = .ok (.invokevirtual 268, 3) := by decide +kernel
theorem dX10_release_84 : decode cX10_release 84 = .ok (.goto 8, 3) := by decide +kernel
theorem dX10_release_87 : decode cX10_release 87 = .ok (.aload_n 0, 1) := by decide +kernel
theorem dX10_release_88 : decode cX10_release 88 = .ok (.aload_n 3, 1) := by decide +kernel
theorem dX10_release_89 : decode cX10_release 89 = .ok (.invokevirtual 271, 3) := by decide +kernel
theorem dX10_release_92 : decode cX10_release 92 = .ok (.iconst 1, 1) := by decide +kernel
theorem dX10_release_93 : decode cX10_release 93 = .ok (.ireturn, 1) := by decide +kernel
theorem dX10_reserved_0 : decode cX10_reserved 0 = .ok (.aload_n 0, 1) := by decide +kernel
theorem dX10_reserved_1 : decode cX10_reserved 1 = .ok (.iload_n 1, 1) := by decide +kernel
theorem dX10_reserved_2 : decode cX10_reserved 2 = .ok (.invokevirtual 173, 3) := by decide +kernel
theorem dX10_reserved_5 : decode cX10_reserved 5 = .ok (.getfield 222, 3) := by decide +kernel
theorem dX10_reserved_8 : decode cX10_reserved 8 = .ok (.ireturn, 1) := by decide +kernel
theorem dX10_rest_0 : decode cX10_rest 0 = .ok (.aload_n 0, 1) := by decide +kernel
theorem dX10_rest_1 : decode cX10_rest 1 = .ok (.iload_n 1, 1) := by decide +kernel
theorem dX10_rest_2 : decode cX10_rest 2 = .ok (.invokevirtual 173, 3) := by decide +kernel
theorem dX10_rest_5 : decode cX10_rest 5 = .ok (.getfield 219, 3) := by decide +kernel
theorem dX10_rest_8 : decode cX10_rest 8 = .ok (.ireturn, 1) := by decide +kernel
theorem dX10_rule_0 : decode cX10_rule 0 = .ok (.aload_n 0, 1) := by decide +kernel
theorem dX10_rule_1 : decode cX10_rule 1 = .ok (.iload_n 1, 1) := by decide +kernel
theorem dX10_rule_2 : decode cX10_rule 2 = .ok (.invokevirtual 132, 3) := by decide +kernel
theorem dX10_rule_5 : decode cX10_rule 5 = .ok (.astore_n 2, 1) := by decide +kernel
theorem dX10_rule_6 : decode cX10_rule 6 = .ok (.aload_n 2, 1) := by decide +kernel
theorem dX10_rule_7 : decode cX10_rule 7 = .ok (.ifnonnull 13, 3) := by decide +kernel
theorem dX10_rule_10 : decode cX10_rule 10 = .ok (.new 164, 3) := by decide +kernel
theorem dX10_rule_13 : decode cX10_rule 13 = .ok (.dup, 1) := by decide +kernel
theorem dX10_rule_14 : decode cX10_rule 14 = .ok (.ldc 166, 2) := by decide +kernel
theorem dX10_rule_16 : decode cX10_rule 16 = .ok (.invokespecial 168, 3) := by decide +kernel
theorem dX10_rule_19 : decode cX10_rule 19 = .ok (.athrow, 1) := by decide +kernel
theorem dX10_rule_20 : decode cX10_rule 20 = .ok (.aload_n 2, 1) := by decide +kernel
theorem dX10_rule_21 : decode cX10_rule 21 = .ok (.getfield 169, 3) := by decide +kernel
theorem dX10_rule_24 : decode cX10_rule 24 = .ok (.ireturn, 1) := by decide +kernel
theorem dX10_scrap_0 : decode cX10_scrap 0 = .ok (.aload_n 0, 1) := by decide +kernel
theorem dX10_scrap_1 : decode cX10_scrap 1 = .ok (.iload_n 1, 1) := by decide +kernel
theorem dX10_scrap_2 : decode cX10_scrap 2 = .ok (.invokevirtual 238, 3) := by decide +kernel
theorem dX10_scrap_5 : decode cX10_scrap 5 = .ok (.astore_n 3, 1) := by decide +kernel
theorem dX10_scrap_6 : decode cX10_scrap 6 = .ok (.aload_n 3, 1) := by decide +kernel
theorem dX10_scrap_7 : decode cX10_scrap 7 = .ok (.invokevirtual 275, 3) := by decide +kernel
theorem dX10_scrap_10 : decode cX10_scrap 10 = .ok (.ifCond .ne 14, 3) := by decide +kernel
theorem dX10_scrap_13 : decode cX10_scrap 13 = .ok (.new 88, 3) := by decide +kernel
theorem dX10_scrap_16 : decode cX10_scrap 16 = .ok (.dup, 1) := by decide +kernel
theorem dX10_scrap_17 : decode cX10_scrap 17 = .ok (.ldc_w 278, 3) := by decide +kernel
theorem dX10_scrap_20 : decode cX10_scrap 20 = .ok (.invokespecial 92, 3) := by decide +kernel
theorem dX10_scrap_23 : decode cX10_scrap 23 = .ok (.athrow, 1) := by decide +kernel
theorem dX10_scrap_24 : decode cX10_scrap 24 = .ok (.aload_n 3, 1) := by decide +kernel
theorem dX10_scrap_25 : decode cX10_scrap 25 = .ok (.getfield 280, 3) := by decide +kernel
theorem dX10_scrap_28 : decode cX10_scrap 28 = .ok (.astore 4, 2) := by decide +kernel
theorem dX10_scrap_30 : decode cX10_scrap 30 = .ok (.iload_n 2, 1) := by decide +kernel
theorem dX10_scrap_31 : decode cX10_scrap 31 = .ok (.iconst 1, 1) := by decide +kernel
theorem dX10_scrap_32 : decode cX10_scrap 32 = .ok (.aload 4, 2) := by decide +kernel
theorem dX10_scrap_34 : decode cX10_scrap 34 = .ok (.getfield 284, 3) := by decide +kernel
theorem dX10_scrap_37 : decode cX10_scrap 37 = .ok (.invokestatic 47, 3) := by decide +kernel
theorem dX10_scrap_40 : decode cX10_scrap 40 = .ok (.ifCond .ne 14, 3) := by decide +kernel
theorem dX10_scrap_43 : decode cX10_scrap 43 = .ok (.new 51, 3) := by decide +kernel
theorem dX10_scrap_46 : decode cX10_scrap 46 = .ok (.dup, 1) := by decide +kernel
theorem dX10_scrap_47 : decode cX10_scrap 47 = .ok (.ldc_w 289, 3) := by decide +kernel
theorem dX10_scrap_50 : decode cX10_scrap 50 = .ok (.invokespecial 55, 3) := by decide +kernel
theorem dX10_scrap_53 : decode cX10_scrap 53 = .ok (.athrow, 1) := by decide +kernel
theorem dX10_scrap_54 : decode cX10_scrap 54 = .ok (.aload 4, 2) := by decide +kernel
theorem dX10_scrap_56 : decode cX10_scrap 56 = .ok (.dup, 1) := by decide +kernel
theorem dX10_scrap_57 : decode cX10_scrap 57 = .ok (.getfield 284, 3) := by decide +kernel
theorem dX10_scrap_60 : decode cX10_scrap 60 = .ok (.iload_n 2, 1) := by decide +kernel
theorem dX10_scrap_61 : decode cX10_scrap 61 = .ok (.isub, 1) := by decide +kernel
theorem dX10_scrap_62 : decode cX10_scrap 62 = .ok (.putfield 284, 3) := by decide +kernel
theorem dX10_scrap_65 : decode cX10_scrap 65 = .ok (.aload 4, 2) := by decide +kernel
theorem dX10_scrap_67 : decode cX10_scrap 67 = .ok (.dup, 1) := by decide +kernel
theorem dX10_scrap_68 : decode cX10_scrap 68 = .ok (.getfield 291, 3) := by decide +kernel
theorem dX10_scrap_71 : decode cX10_scrap 71 = .ok (.iload_n 2, 1) := by decide +kernel
theorem dX10_scrap_72 : decode cX10_scrap 72 = .ok (.iadd, 1) := by decide +kernel
theorem dX10_scrap_73 : decode cX10_scrap 73 = .ok (.putfield 291, 3) := by decide +kernel
theorem dX10_scrap_76 : decode cX10_scrap 76 = .ok (.aload 4, 2) := by decide +kernel
theorem dX10_scrap_78 : decode cX10_scrap 78 = .ok (.getfield 284, 3) := by decide +kernel
theorem dX10_scrap_81 : decode cX10_scrap 81 = .ok (.ireturn, 1) := by decide +kernel
theorem dX10_setChart_0 : decode cX10_setChart 0 = .ok (.aload_n 0, 1) := by decide +kernel
theorem dX10_setChart_1 : decode cX10_setChart 1 = .ok (.iload_n 1, 1) := by decide +kernel
theorem dX10_setChart_2 : decode cX10_setChart 2 = .ok (.invokevirtual 80, 3) := by decide +kernel
theorem dX10_setChart_5 : decode cX10_setChart 5 = .ok (.astore 4, 2) := by decide +kernel
theorem dX10_setChart_7 : decode cX10_setChart 7 = .ok (.iload_n 2, 1) := by decide +kernel
theorem dX10_setChart_8 : decode cX10_setChart 8 = .ok (.iconst 0, 1) := by decide +kernel
theorem dX10_setChart_9 : decode cX10_setChart 9 = .ok (.sipush 1000, 3) := by decide +kernel
theorem dX10_setChart_12 : decode cX10_setChart 12 = .ok (.invokestatic 47, 3) := by decide +kernel
theorem dX10_setChart_15 : decode cX10_setChart 15 = .ok (.ifCond .eq 14, 3) := by decide +kernel
theorem dX10_setChart_18 : decode cX10_setChart 18 = .ok (.iload_n 3, 1) := by decide +kernel
theorem dX10_setChart_19 : decode cX10_setChart 19 = .ok (.iconst 0, 1) := by decide +kernel
theorem dX10_setChart_20 : decode cX10_setChart 20 = .ok (.sipush 500, 3) := by decide +kernel
theorem dX10_setChart_23 : decode cX10_setChart 23 = .ok (.invokestatic 47, 3) := by decide +kernel
theorem dX10_setChart_26 : decode cX10_setChart 26 = .ok (.ifCond .ne 13, 3) := by decide +kernel
theorem dX10_setChart_29 : decode cX10_setChart 29 = .ok (.new 51, 3) := by decide +kernel
theorem dX10_setChart_32 : decode cX10_setChart 32 = .ok (.dup, 1) := by decide +kernel
theorem dX10_setChart_33 : decode cX10_setChart 33 = .ok (.ldc 188, 2) := by decide +kernel
theorem dX10_setChart_35 : decode cX10_setChart 35 = .ok (.invokespecial 55, 3) := by decide +kernel
theorem dX10_setChart_38 : decode cX10_setChart 38 = .ok (.athrow, 1) := by decide +kernel
theorem dX10_setChart_39 : decode cX10_setChart 39 = .ok (.aload 4, 2) := by decide +kernel
theorem dX10_setChart_41 : decode cX10_setChart 41 = .ok (.getfield 190, 3) := by decide +kernel
theorem dX10_setChart_44 : decode cX10_setChart 44 = .ok (.iload_n 2, 1) := by decide +kernel
theorem dX10_setChart_45 : decode cX10_setChart 45 = .ok (.iload_n 3, 1) := by decide +kernel
theorem dX10_setChart_46 : decode cX10_setChart 46 = .ok (.invokevirtual 194, 3) := by decide +kernel
theorem dX10_setChart_49 : decode cX10_setChart 49 = .ok (.aload 4, 2) := by decide +kernel
theorem dX10_setChart_51 : decode cX10_setChart 51 = .ok (.getfield 190, 3) := by decide +kernel
theorem dX10_setChart_54 : decode cX10_setChart 54 = .ok (.getfield 200, 3) := by decide +kernel
theorem dX10_setChart_57 : decode cX10_setChart 57 = .ok (.ireturn, 1) := by decide +kernel
theorem dX10_stateOf_0 : decode cX10_stateOf 0 = .ok (.aload_n 0, 1) := by decide +kernel
theorem dX10_stateOf_1 : decode cX10_stateOf 1 = .ok (.iload_n 1, 1) := by decide +kernel
theorem dX10_stateOf_2 : decode cX10_stateOf 2 = .ok (.invokevirtual 238, 3) := by decide +kernel
theorem dX10_stateOf_5 : decode cX10_stateOf 5 = .ok (.getfield 243, 3) := by decide +kernel
theorem dX10_stateOf_8 : decode cX10_stateOf 8 = .ok (.ireturn, 1) := by decide +kernel
theorem dX10_touched_0 : decode cX10_touched 0 = .ok (.aload_n 0, 1) := by decide +kernel
theorem dX10_touched_1 : decode cX10_touched 1 = .ok (.iload_n 1, 1) := by decide +kernel
theorem dX10_touched_2 : decode cX10_touched 2 = .ok (.invokevirtual 173, 3) := by decide +kernel
theorem dX10_touched_5 : decode cX10_touched 5 = .ok (.getfield 345, 3) := by decide +kernel
theorem dX10_touched_8 : decode cX10_touched 8 = .ok (.invokevirtual 348, 3) := by decide +kernel
theorem dX10_touched_11 : decode cX10_touched 11 = .ok (.ireturn, 1) := by decide +kernel
theorem dX10_waiting_0 : decode cX10_waiting 0 = .ok (.aload_n 0, 1) := by decide +kernel
theorem dX10_waiting_1 : decode cX10_waiting 1 = .ok (.aload_n 0, 1) := by decide +kernel
theorem dX10_waiting_2 : decode cX10_waiting 2 = .ok (.iload_n 1, 1) := by decide +kernel
theorem dX10_waiting_3 : decode cX10_waiting 3 = .ok (.invokevirtual 110, 3) := by decide +kernel
theorem dX10_waiting_6 : decode cX10_waiting 6 = .ok (.invokevirtual 338, 3) := by decide +kernel
theorem dX10_waiting_9 : decode cX10_waiting 9 = .ok (.ireturn, 1) := by decide +kernel
theorem dX10_wear_0 : decode cX10_wear 0 = .ok (.aload_n 0, 1) := by decide +kernel
theorem dX10_wear_1 : decode cX10_wear 1 = .ok (.iload_n 1, 1) := by decide +kernel
theorem dX10_wear_2 : decode cX10_wear 2 = .ok (.invokevirtual 110, 3) := by decide +kernel
theorem dX10_wear_5 : decode cX10_wear 5 = .ok (.getfield 335, 3) := by decide +kernel
theorem dX10_wear_8 : decode cX10_wear 8 = .ok (.ireturn, 1) := by decide +kernel
theorem dX10_withdraw_0 : decode cX10_withdraw 0 = .ok (.aload_n 0, 1) := by decide +kernel
theorem dX10_withdraw_1 : decode cX10_withdraw 1 = .ok (.iload_n 1, 1) := by decide +kernel
theorem dX10_withdraw_2 : decode cX10_withdraw 2 = .ok (.invokevirtual 238, 3) := by decide +kernel
theorem dX10_withdraw_5 : decode cX10_withdraw 5 = .ok (.astore_n 2, 1) := by decide +kernel
theorem dX10_withdraw_6 : decode cX10_withdraw 6 = .ok (.aload_n 2, 1) := by decide +kernel
theorem dX10_withdraw_7 : decode cX10_withdraw 7 = .ok (.getfield 243, 3) := by decide +kernel
theorem dX10_withdraw_10 : decode cX10_withdraw 10 = .ok (.bipush 112, 2) := by decide +kernel
theorem dX10_withdraw_12 : decode cX10_withdraw 12 = .ok (.if_icmp .eq 13, 3) := by decide +kernel
theorem dX10_withdraw_15 : decode cX10_withdraw 15 = .ok (.new 88, 3) := by decide +kernel
theorem dX10_withdraw_18 : decode cX10_withdraw 18 = .ok (.dup, 1) := by decide +kernel
theorem dX10_withdraw_19 : decode cX10_withdraw 19 = .ok (.ldc 252, 2) := by decide +kernel
theorem dX10_withdraw_21 : decode cX10_withdraw 21 = .ok (.invokespecial 92, 3) := by decide +kernel
theorem dX10_withdraw_24 : decode cX10_withdraw 24 = .ok (.athrow, 1) := by decide +kernel
theorem dX10_withdraw_25 : decode cX10_withdraw 25 = .ok (.aload_n 0, 1) := by decide +kernel
theorem dX10_withdraw_26 : decode cX10_withdraw 26 = .ok (.aload_n 2, 1) := by decide +kernel
theorem dX10_withdraw_27 : decode cX10_withdraw 27 = .ok (.invokevirtual 254, 3) := by decide +kernel
theorem dX10_withdraw_30 : decode cX10_withdraw 30 = .ok (.ireturn, 1) := by decide +kernel
theorem dX15_in_0 : decode cX15_in 0 = .ok (.iload_n 0, 1) := by decide +kernel
theorem dX15_in_1 : decode cX15_in 1 = .ok (.iload_n 1, 1) := by decide +kernel
theorem dX15_in_2 : decode cX15_in 2 = .ok (.if_icmp .lt 12, 3) := by decide +kernel
theorem dX15_in_5 : decode cX15_in 5 = .ok (.iload_n 0, 1) := by decide +kernel
theorem dX15_in_6 : decode cX15_in 6 = .ok (.iload_n 2, 1) := by decide +kernel
theorem dX15_in_7 : decode cX15_in 7 = .ok (.if_icmp .gt 7, 3) := by decide +kernel
theorem dX15_in_10 : decode cX15_in 10 = .ok (.iconst 1, 1) := by decide +kernel
theorem dX15_in_11 : decode cX15_in 11 = .ok (.goto 4, 3) := by decide +kernel
theorem dX15_in_14 : decode cX15_in 14 = .ok (.iconst 0, 1) := by decide +kernel
theorem dX15_in_15 : decode cX15_in 15 = .ok (.ireturn, 1) := by decide +kernel
theorem dX4_init_0 : decode cX4_init 0 = .ok (.aload_n 0, 1) := by decide +kernel
theorem dX4_init_1 : decode cX4_init 1 = .ok (.invokespecial 3, 3) := by decide +kernel
theorem dX4_init_4 : decode cX4_init 4 = .ok (.aload_n 0, 1) := by decide +kernel
theorem dX4_init_5 : decode cX4_init 5 = .ok (.bipush 45, 2) := by decide +kernel
theorem dX4_init_7 : decode cX4_init 7 = .ok (.putfield 9, 3) := by decide +kernel
theorem dX4_init_10 : decode cX4_init 10 = .ok (.aload_n 0, 1) := by decide +kernel
theorem dX4_init_11 : decode cX4_init 11 = .ok (.iconst (-1), 1) := by decide +kernel
theorem dX4_init_12 : decode cX4_init 12 = .ok (.putfield 15, 3) := by decide +kernel
theorem dX4_init_15 : decode cX4_init 15 = .ok (.aload_n 0, 1) := by decide +kernel
theorem dX4_init_16 : decode cX4_init 16 = .ok (.iconst (-1), 1) := by decide +kernel
theorem dX4_init_17 : decode cX4_init 17 = .ok (.putfield 19, 3) := by decide +kernel
theorem dX4_init_20 : decode cX4_init 20 = .ok (.aload_n 0, 1) := by decide +kernel
theorem dX4_init_21 : decode cX4_init 21 = .ok (.iload_n 1, 1) := by decide +kernel
theorem dX4_init_22 : decode cX4_init 22 = .ok (.putfield 22, 3) := by decide +kernel
theorem dX4_init_25 : decode cX4_init 25 = .ok (.aload_n 0, 1) := by decide +kernel
theorem dX4_init_26 : decode cX4_init 26 = .ok (.iload_n 2, 1) := by decide +kernel
theorem dX4_init_27 : decode cX4_init 27 = .ok (.putfield 25, 3) := by decide +kernel
theorem dX4_init_30 : decode cX4_init 30 = .ok (.aload_n 0, 1) := by decide +kernel
theorem dX4_init_31 : decode cX4_init 31 = .ok (.iload_n 3, 1) := by decide +kernel
theorem dX4_init_32 : decode cX4_init 32 = .ok (.putfield 28, 3) := by decide +kernel
theorem dX4_init_35 : decode cX4_init 35 = .ok (.aload_n 0, 1) := by decide +kernel
theorem dX4_init_36 : decode cX4_init 36 = .ok (.iload 4, 2) := by decide +kernel
theorem dX4_init_38 : decode cX4_init 38 = .ok (.putfield 31, 3) := by decide +kernel
theorem dX4_init_41 : decode cX4_init 41 = .ok (.return_, 1) := by decide +kernel
theorem dX5_init_0 : decode cX5_init 0 = .ok (.aload_n 0, 1) := by decide +kernel
theorem dX5_init_1 : decode cX5_init 1 = .ok (.invokespecial 1, 3) := by decide +kernel
theorem dX5_init_4 : decode cX5_init 4 = .ok (.return_, 1) := by decide +kernel
theorem dX8_init_0 : decode cX8_init 0 = .ok (.aload_n 0, 1) := by decide +kernel
theorem dX8_init_1 : decode cX8_init 1 = .ok (.invokespecial 3, 3) := by decide +kernel
theorem dX8_init_4 : decode cX8_init 4 = .ok (.aload_n 0, 1) := by decide +kernel
theorem dX8_init_5 : decode cX8_init 5 = .ok (.iconst 4, 1) := by decide +kernel
theorem dX8_init_6 : decode cX8_init 6 = .ok (.anewarray 9, 3) := by decide +kernel
theorem dX8_init_9 : decode cX8_init 9 = .ok (.putfield 11, 3) := by decide +kernel
theorem dX8_init_12 : decode cX8_init 12 = .ok (.aload_n 0, 1) := by decide +kernel
theorem dX8_init_13 : decode cX8_init 13 = .ok (.iconst 3, 1) := by decide +kernel
theorem dX8_init_14 : decode cX8_init 14 = .ok (.anewarray 17, 3) := by decide +kernel
theorem dX8_init_17 : decode cX8_init 17 = .ok (.putfield 19, 3) := by decide +kernel
theorem dX8_init_20 : decode cX8_init 20 = .ok (.aload_n 0, 1) := by decide +kernel
theorem dX8_init_21 : decode cX8_init 21 = .ok (.new 23, 3) := by decide +kernel
theorem dX8_init_24 : decode cX8_init 24 = .ok (.dup, 1) := by decide +kernel
theorem dX8_init_25 : decode cX8_init 25 = .ok (.invokespecial 25, 3) := by decide +kernel
theorem dX8_init_28 : decode cX8_init 28 = .ok (.putfield 26, 3) := by decide +kernel
theorem dX8_init_31 : decode cX8_init 31 = .ok (.aload_n 0, 1) := by decide +kernel
theorem dX8_init_32 : decode cX8_init 32 = .ok (.iload_n 1, 1) := by decide +kernel
theorem dX8_init_33 : decode cX8_init 33 = .ok (.putfield 30, 3) := by decide +kernel
theorem dX8_init_36 : decode cX8_init 36 = .ok (.aload_n 0, 1) := by decide +kernel
theorem dX8_init_37 : decode cX8_init 37 = .ok (.iload_n 2, 1) := by decide +kernel
theorem dX8_init_38 : decode cX8_init 38 = .ok (.putfield 34, 3) := by decide +kernel
theorem dX8_init_41 : decode cX8_init 41 = .ok (.aload_n 0, 1) := by decide +kernel
theorem dX8_init_42 : decode cX8_init 42 = .ok (.iload_n 3, 1) := by decide +kernel
theorem dX8_init_43 : decode cX8_init 43 = .ok (.putfield 38, 3) := by decide +kernel
theorem dX8_init_46 : decode cX8_init 46 = .ok (.return_, 1) := by decide +kernel
theorem dX9_init_0 : decode cX9_init 0 = .ok (.aload_n 0, 1) := by decide +kernel
theorem dX9_init_1 : decode cX9_init 1 = .ok (.invokespecial 3, 3) := by decide +kernel
theorem dX9_init_4 : decode cX9_init 4 = .ok (.aload_n 0, 1) := by decide +kernel
theorem dX9_init_5 : decode cX9_init 5 = .ok (.bipush 110, 2) := by decide +kernel
theorem dX9_init_7 : decode cX9_init 7 = .ok (.putfield 9, 3) := by decide +kernel
theorem dX9_init_10 : decode cX9_init 10 = .ok (.return_, 1) := by decide +kernel
