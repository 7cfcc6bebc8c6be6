/-! decode rows of the methods that are walked (printed by TURN) -/
theorem dJx35411_hasNext_aae02_0 : decode cJx35411_hasNext_aae02 0 = .ok (.aload_n 0, 1) := by decide +kernel
theorem dJx35411_hasNext_aae02_1 : decode cJx35411_hasNext_aae02 1 = .ok (.getfield 25, 3) := by decide +kernel
theorem dJx35411_hasNext_aae02_4 : decode cJx35411_hasNext_aae02 4 = .ok (.aload_n 0, 1) := by decide +kernel
theorem dJx35411_hasNext_aae02_5 : decode cJx35411_hasNext_aae02 5 = .ok (.getfield 1, 3) := by decide +kernel
theorem dJx35411_hasNext_aae02_8 : decode cJx35411_hasNext_aae02 8 = .ok (.getfield 28, 3) := by decide +kernel
theorem dJx35411_hasNext_aae02_11 : decode cJx35411_hasNext_aae02 11 = .ok (.if_icmp .eq 7, 3) := by decide +kernel
theorem dJx35411_hasNext_aae02_14 : decode cJx35411_hasNext_aae02 14 = .ok (.iconst 1, 1) := by decide +kernel
theorem dJx35411_hasNext_aae02_15 : decode cJx35411_hasNext_aae02 15 = .ok (.goto 4, 3) := by decide +kernel
theorem dJx35411_hasNext_aae02_18 : decode cJx35411_hasNext_aae02 18 = .ok (.iconst 0, 1) := by decide +kernel
theorem dJx35411_hasNext_aae02_19 : decode cJx35411_hasNext_aae02 19 = .ok (.ireturn, 1) := by decide +kernel
theorem dJx35411_init_45d68_0 : decode cJx35411_init_45d68 0 = .ok (.aload_n 0, 1) := by decide +kernel
theorem dJx35411_init_45d68_1 : decode cJx35411_init_45d68 1 = .ok (.aload_n 1, 1) := by decide +kernel
theorem dJx35411_init_45d68_2 : decode cJx35411_init_45d68 2 = .ok (.putfield 1, 3) := by decide +kernel
theorem dJx35411_init_45d68_5 : decode cJx35411_init_45d68 5 = .ok (.aload_n 0, 1) := by decide +kernel
theorem dJx35411_init_45d68_6 : decode cJx35411_init_45d68 6 = .ok (.invokespecial 7, 3) := by decide +kernel
theorem dJx35411_init_45d68_9 : decode cJx35411_init_45d68 9 = .ok (.aload_n 0, 1) := by decide +kernel
theorem dJx35411_init_45d68_10 : decode cJx35411_init_45d68 10 = .ok (.iconst (-1), 1) := by decide +kernel
theorem dJx35411_init_45d68_11 : decode cJx35411_init_45d68 11 = .ok (.putfield 13, 3) := by decide +kernel
theorem dJx35411_init_45d68_14 : decode cJx35411_init_45d68 14 = .ok (.aload_n 0, 1) := by decide +kernel
theorem dJx35411_init_45d68_15 : decode cJx35411_init_45d68 15 = .ok (.aload_n 0, 1) := by decide +kernel
theorem dJx35411_init_45d68_16 : decode cJx35411_init_45d68 16 = .ok (.getfield 1, 3) := by decide +kernel
theorem dJx35411_init_45d68_19 : decode cJx35411_init_45d68 19 = .ok (.getfield 17, 3) := by decide +kernel
theorem dJx35411_init_45d68_22 : decode cJx35411_init_45d68 22 = .ok (.putfield 22, 3) := by decide +kernel
theorem dJx35411_init_45d68_25 : decode cJx35411_init_45d68 25 = .ok (.return_, 1) := by decide +kernel
theorem dJx4a65c_add_72be8_0 : decode cJx4a65c_add_72be8 0 = .ok (.iload_n 3, 1) := by decide +kernel
theorem dJx4a65c_add_72be8_1 : decode cJx4a65c_add_72be8 1 = .ok (.aload_n 2, 1) := by decide +kernel
theorem dJx4a65c_add_72be8_2 : decode cJx4a65c_add_72be8 2 = .ok (.arraylength, 1) := by decide +kernel
theorem dJx4a65c_add_72be8_3 : decode cJx4a65c_add_72be8 3 = .ok (.if_icmp .ne 8, 3) := by decide +kernel
theorem dJx4a65c_add_72be8_6 : decode cJx4a65c_add_72be8 6 = .ok (.aload_n 0, 1) := by decide +kernel
theorem dJx4a65c_add_72be8_7 : decode cJx4a65c_add_72be8 7 = .ok (.invokevirtual 129, 3) := by decide +kernel
theorem dJx4a65c_add_72be8_10 : decode cJx4a65c_add_72be8 10 = .ok (.astore_n 2, 1) := by decide +kernel
theorem dJx4a65c_add_72be8_11 : decode cJx4a65c_add_72be8 11 = .ok (.aload_n 2, 1) := by decide +kernel
theorem dJx4a65c_add_72be8_12 : decode cJx4a65c_add_72be8 12 = .ok (.iload_n 3, 1) := by decide +kernel
theorem dJx4a65c_add_72be8_13 : decode cJx4a65c_add_72be8 13 = .ok (.aload_n 1, 1) := by decide +kernel
theorem dJx4a65c_add_72be8_14 : decode cJx4a65c_add_72be8 14 = .ok (.aastore, 1) := by decide +kernel
theorem dJx4a65c_add_72be8_15 : decode cJx4a65c_add_72be8 15 = .ok (.aload_n 0, 1) := by decide +kernel
theorem dJx4a65c_add_72be8_16 : decode cJx4a65c_add_72be8 16 = .ok (.iload_n 3, 1) := by decide +kernel
theorem dJx4a65c_add_72be8_17 : decode cJx4a65c_add_72be8 17 = .ok (.iconst 1, 1) := by decide +kernel
theorem dJx4a65c_add_72be8_18 : decode cJx4a65c_add_72be8 18 = .ok (.iadd, 1) := by decide +kernel
theorem dJx4a65c_add_72be8_19 : decode cJx4a65c_add_72be8 19 = .ok (.putfield 48, 3) := by decide +kernel
theorem dJx4a65c_add_72be8_22 : decode cJx4a65c_add_72be8 22 = .ok (.return_, 1) := by decide +kernel
theorem dJx4a65c_add_9ea2d_0 : decode cJx4a65c_add_9ea2d 0 = .ok (.aload_n 0, 1) := by decide +kernel
theorem dJx4a65c_add_9ea2d_1 : decode cJx4a65c_add_9ea2d 1 = .ok (.dup, 1) := by decide +kernel
theorem dJx4a65c_add_9ea2d_2 : decode cJx4a65c_add_9ea2d 2 = .ok (.getfield 63, 3) := by decide +kernel
theorem dJx4a65c_add_9ea2d_5 : decode cJx4a65c_add_9ea2d 5 = .ok (.iconst 1, 1) := by decide +kernel
theorem dJx4a65c_add_9ea2d_6 : decode cJx4a65c_add_9ea2d 6 = .ok (.iadd, 1) := by decide +kernel
theorem dJx4a65c_add_9ea2d_7 : decode cJx4a65c_add_9ea2d 7 = .ok (.putfield 63, 3) := by decide +kernel
theorem dJx4a65c_add_9ea2d_10 : decode cJx4a65c_add_9ea2d 10 = .ok (.aload_n 0, 1) := by decide +kernel
theorem dJx4a65c_add_9ea2d_11 : decode cJx4a65c_add_9ea2d 11 = .ok (.aload_n 1, 1) := by decide +kernel
theorem dJx4a65c_add_9ea2d_12 : decode cJx4a65c_add_9ea2d 12 = .ok (.aload_n 0, 1) := by decide +kernel
theorem dJx4a65c_add_9ea2d_13 : decode cJx4a65c_add_9ea2d 13 = .ok (.getfield 9, 3) := by decide +kernel
theorem dJx4a65c_add_9ea2d_16 : decode cJx4a65c_add_9ea2d 16 = .ok (.aload_n 0, 1) := by decide +kernel
theorem dJx4a65c_add_9ea2d_17 : decode cJx4a65c_add_9ea2d 17 = .ok (.getfield 48, 3) := by decide +kernel
theorem dJx4a65c_add_9ea2d_20 : decode cJx4a65c_add_9ea2d 20 = .ok (.invokevirtual 131, 3) := by decide +kernel
theorem dJx4a65c_add_9ea2d_23 : decode cJx4a65c_add_9ea2d 23 = .ok (.iconst 1, 1) := by decide +kernel
theorem dJx4a65c_add_9ea2d_24 : decode cJx4a65c_add_9ea2d 24 = .ok (.ireturn, 1) := by decide +kernel
theorem dJx4a65c_grow_92f84_0 : decode cJx4a65c_grow_92f84 0 = .ok (.aload_n 0, 1) := by decide +kernel
theorem dJx4a65c_grow_92f84_1 : decode cJx4a65c_grow_92f84 1 = .ok (.getfield 9, 3) := by decide +kernel
theorem dJx4a65c_grow_92f84_4 : decode cJx4a65c_grow_92f84 4 = .ok (.arraylength, 1) := by decide +kernel
theorem dJx4a65c_grow_92f84_5 : decode cJx4a65c_grow_92f84 5 = .ok (.istore_n 2, 1) := by decide +kernel
theorem dJx4a65c_grow_92f84_6 : decode cJx4a65c_grow_92f84 6 = .ok (.iload_n 2, 1) := by decide +kernel
theorem dJx4a65c_grow_92f84_7 : decode cJx4a65c_grow_92f84 7 = .ok (.ifCond .gt 13, 3) := by decide +kernel
theorem dJx4a65c_grow_92f84_10 : decode cJx4a65c_grow_92f84 10 = .ok (.aload_n 0, 1) := by decide +kernel
theorem dJx4a65c_grow_92f84_11 : decode cJx4a65c_grow_92f84 11 = .ok (.getfield 9, 3) := by decide +kernel
theorem dJx4a65c_grow_92f84_14 : decode cJx4a65c_grow_92f84 14 = .ok (.getstatic 39, 3) := by decide +kernel
theorem dJx4a65c_grow_92f84_17 : decode cJx4a65c_grow_92f84 17 = .ok (.if_acmp .eq 28, 3) := by decide +kernel
theorem dJx4a65c_grow_92f84_20 : decode cJx4a65c_grow_92f84 20 = .ok (.iload_n 2, 1) := by decide +kernel
theorem dJx4a65c_grow_92f84_21 : decode cJx4a65c_grow_92f84 21 = .ok (.iload_n 1, 1) := by decide +kernel
theorem dJx4a65c_grow_92f84_22 : decode cJx4a65c_grow_92f84 22 = .ok (.iload_n 2, 1) := by decide +kernel
theorem dJx4a65c_grow_92f84_23 : decode cJx4a65c_grow_92f84 23 = .ok (.isub, 1) := by decide +kernel
theorem dJx4a65c_grow_92f84_24 : decode cJx4a65c_grow_92f84 24 = .ok (.iload_n 2, 1) := by decide +kernel
theorem dJx4a65c_grow_92f84_25 : decode cJx4a65c_grow_92f84 25 = .ok (.iconst 1, 1) := by decide +kernel
theorem dJx4a65c_grow_92f84_26 : decode cJx4a65c_grow_92f84 26 = .ok (.ishr, 1) := by decide +kernel
theorem dJx4a65c_grow_92f84_27 : decode cJx4a65c_grow_92f84 27 = .ok (.invokestatic 73, 3) := by decide +kernel
theorem dJx4a65c_grow_92f84_30 : decode cJx4a65c_grow_92f84 30 = .ok (.istore_n 3, 1) := by decide +kernel
theorem dJx4a65c_grow_92f84_31 : decode cJx4a65c_grow_92f84 31 = .ok (.aload_n 0, 1) := by decide +kernel
theorem dJx4a65c_grow_92f84_32 : decode cJx4a65c_grow_92f84 32 = .ok (.aload_n 0, 1) := by decide +kernel
theorem dJx4a65c_grow_92f84_33 : decode cJx4a65c_grow_92f84 33 = .ok (.getfield 9, 3) := by decide +kernel
theorem dJx4a65c_grow_92f84_36 : decode cJx4a65c_grow_92f84 36 = .ok (.iload_n 3, 1) := by decide +kernel
theorem dJx4a65c_grow_92f84_37 : decode cJx4a65c_grow_92f84 37 = .ok (.invokestatic 66, 3) := by decide +kernel
theorem dJx4a65c_grow_92f84_40 : decode cJx4a65c_grow_92f84 40 = .ok (.dup_x1, 1) := by decide +kernel
theorem dJx4a65c_grow_92f84_41 : decode cJx4a65c_grow_92f84 41 = .ok (.putfield 9, 3) := by decide +kernel
theorem dJx4a65c_grow_92f84_44 : decode cJx4a65c_grow_92f84 44 = .ok (.areturn, 1) := by decide +kernel
theorem dJx4a65c_grow_92f84_45 : decode cJx4a65c_grow_92f84 45 = .ok (.aload_n 0, 1) := by decide +kernel
theorem dJx4a65c_grow_92f84_46 : decode cJx4a65c_grow_92f84 46 = .ok (.bipush 10, 2) := by decide +kernel
theorem dJx4a65c_grow_92f84_48 : decode cJx4a65c_grow_92f84 48 = .ok (.iload_n 1, 1) := by decide +kernel
theorem dJx4a65c_grow_92f84_49 : decode cJx4a65c_grow_92f84 49 = .ok (.invokestatic 79, 3) := by decide +kernel
theorem dJx4a65c_grow_92f84_52 : decode cJx4a65c_grow_92f84 52 = .ok (.anewarray 7, 3) := by decide +kernel
theorem dJx4a65c_grow_92f84_55 : decode cJx4a65c_grow_92f84 55 = .ok (.dup_x1, 1) := by decide +kernel
theorem dJx4a65c_grow_92f84_56 : decode cJx4a65c_grow_92f84 56 = .ok (.putfield 9, 3) := by decide +kernel
theorem dJx4a65c_grow_92f84_59 : decode cJx4a65c_grow_92f84 59 = .ok (.areturn, 1) := by decide +kernel
theorem dJx4a65c_grow_d5877_0 : decode cJx4a65c_grow_d5877 0 = .ok (.aload_n 0, 1) := by decide +kernel
theorem dJx4a65c_grow_d5877_1 : decode cJx4a65c_grow_d5877 1 = .ok (.aload_n 0, 1) := by decide +kernel
theorem dJx4a65c_grow_d5877_2 : decode cJx4a65c_grow_d5877 2 = .ok (.getfield 48, 3) := by decide +kernel
theorem dJx4a65c_grow_d5877_5 : decode cJx4a65c_grow_d5877 5 = .ok (.iconst 1, 1) := by decide +kernel
theorem dJx4a65c_grow_d5877_6 : decode cJx4a65c_grow_d5877 6 = .ok (.iadd, 1) := by decide +kernel
theorem dJx4a65c_grow_d5877_7 : decode cJx4a65c_grow_d5877 7 = .ok (.invokevirtual 69, 3) := by decide +kernel
theorem dJx4a65c_grow_d5877_10 : decode cJx4a65c_grow_d5877 10 = .ok (.areturn, 1) := by decide +kernel
theorem dJx4a65c_init_da8c8_0 : decode cJx4a65c_init_da8c8 0 = .ok (.aload_n 0, 1) := by decide +kernel
theorem dJx4a65c_init_da8c8_1 : decode cJx4a65c_init_da8c8 1 = .ok (.invokespecial 1, 3) := by decide +kernel
theorem dJx4a65c_init_da8c8_4 : decode cJx4a65c_init_da8c8 4 = .ok (.aload_n 0, 1) := by decide +kernel
theorem dJx4a65c_init_da8c8_5 : decode cJx4a65c_init_da8c8 5 = .ok (.getstatic 39, 3) := by decide +kernel
theorem dJx4a65c_init_da8c8_8 : decode cJx4a65c_init_da8c8 8 = .ok (.putfield 9, 3) := by decide +kernel
theorem dJx4a65c_init_da8c8_11 : decode cJx4a65c_init_da8c8 11 = .ok (.return_, 1) := by decide +kernel
theorem dJx4a65c_isEmpty_aae02_0 : decode cJx4a65c_isEmpty_aae02 0 = .ok (.aload_n 0, 1) := by decide +kernel
theorem dJx4a65c_isEmpty_aae02_1 : decode cJx4a65c_isEmpty_aae02 1 = .ok (.getfield 48, 3) := by decide +kernel
theorem dJx4a65c_isEmpty_aae02_4 : decode cJx4a65c_isEmpty_aae02 4 = .ok (.ifCond .ne 7, 3) := by decide +kernel
theorem dJx4a65c_isEmpty_aae02_7 : decode cJx4a65c_isEmpty_aae02 7 = .ok (.iconst 1, 1) := by decide +kernel
theorem dJx4a65c_isEmpty_aae02_8 : decode cJx4a65c_isEmpty_aae02 8 = .ok (.goto 4, 3) := by decide +kernel
theorem dJx4a65c_isEmpty_aae02_11 : decode cJx4a65c_isEmpty_aae02 11 = .ok (.iconst 0, 1) := by decide +kernel
theorem dJx4a65c_isEmpty_aae02_12 : decode cJx4a65c_isEmpty_aae02 12 = .ok (.ireturn, 1) := by decide +kernel
theorem dJx4a65c_iterator_32c93_0 : decode cJx4a65c_iterator_32c93 0 = .ok (.new 267, 3) := by decide +kernel
theorem dJx4a65c_iterator_32c93_3 : decode cJx4a65c_iterator_32c93 3 = .ok (.dup, 1) := by decide +kernel
theorem dJx4a65c_iterator_32c93_4 : decode cJx4a65c_iterator_32c93 4 = .ok (.aload_n 0, 1) := by decide +kernel
theorem dJx4a65c_iterator_32c93_5 : decode cJx4a65c_iterator_32c93 5 = .ok (.invokespecial 269, 3) := by decide +kernel
theorem dJx4a65c_iterator_32c93_8 : decode cJx4a65c_iterator_32c93 8 = .ok (.areturn, 1) := by decide +kernel
theorem dJx4a65c_size_8abf5_0 : decode cJx4a65c_size_8abf5 0 = .ok (.aload_n 0, 1) := by decide +kernel
theorem dJx4a65c_size_8abf5_1 : decode cJx4a65c_size_8abf5 1 = .ok (.getfield 48, 3) := by decide +kernel
theorem dJx4a65c_size_8abf5_4 : decode cJx4a65c_size_8abf5 4 = .ok (.ireturn, 1) := by decide +kernel
theorem dJxa1e45_init_da8c8_0 : decode cJxa1e45_init_da8c8 0 = .ok (.aload_n 0, 1) := by decide +kernel
theorem dJxa1e45_init_da8c8_1 : decode cJxa1e45_init_da8c8 1 = .ok (.invokespecial 1, 3) := by decide +kernel
theorem dJxa1e45_init_da8c8_4 : decode cJxa1e45_init_da8c8 4 = .ok (.return_, 1) := by decide +kernel
theorem dJxc12de_init_da8c8_0 : decode cJxc12de_init_da8c8 0 = .ok (.aload_n 0, 1) := by decide +kernel
theorem dJxc12de_init_da8c8_1 : decode cJxc12de_init_da8c8 1 = .ok (.invokespecial 1, 3) := by decide +kernel
theorem dJxc12de_init_da8c8_4 : decode cJxc12de_init_da8c8 4 = .ok (.aload_n 0, 1) := by decide +kernel
theorem dJxc12de_init_da8c8_5 : decode cJxc12de_init_da8c8 5 = .ok (.iconst 0, 1) := by decide +kernel
theorem dJxc12de_init_da8c8_6 : decode cJxc12de_init_da8c8 6 = .ok (.putfield 7, 3) := by decide +kernel
theorem dJxc12de_init_da8c8_9 : decode cJxc12de_init_da8c8 9 = .ok (.return_, 1) := by decide +kernel
theorem dL_addComponent_0 : decode cL_addComponent 0 = .ok (.aload 5, 2) := by decide +kernel
theorem dL_addComponent_2 : decode cL_addComponent 2 = .ok (.iconst 0, 1) := by decide +kernel
theorem dL_addComponent_3 : decode cL_addComponent 3 = .ok (.aload_n 0, 1) := by decide +kernel
theorem dL_addComponent_4 : decode cL_addComponent 4 = .ok (.iload_n 1, 1) := by decide +kernel
theorem dL_addComponent_5 : decode cL_addComponent 5 = .ok (.iload_n 2, 1) := by decide +kernel
theorem dL_addComponent_6 : decode cL_addComponent 6 = .ok (.iload_n 3, 1) := by decide +kernel
theorem dL_addComponent_7 : decode cL_addComponent 7 = .ok (.iload 4, 2) := by decide +kernel
theorem dL_addComponent_9 : decode cL_addComponent 9 = .ok (.invokevirtual 21, 3) := by decide +kernel
theorem dL_addComponent_12 : decode cL_addComponent 12 = .ok (.i2l, 1) := by decide +kernel
theorem dL_addComponent_13 : decode cL_addComponent 13 = .ok (.lastore, 1) := by decide +kernel
theorem dL_addComponent_14 : decode cL_addComponent 14 = .ok (.goto 19, 3) := by decide +kernel
theorem dL_addComponent_17 : decode cL_addComponent 17 = .ok (.astore 6, 2) := by decide +kernel
theorem dL_addComponent_19 : decode cL_addComponent 19 = .ok (.iconst 1, 1) := by decide +kernel
theorem dL_addComponent_20 : decode cL_addComponent 20 = .ok (.ireturn, 1) := by decide +kernel
theorem dL_addComponent_21 : decode cL_addComponent 21 = .ok (.astore 6, 2) := by decide +kernel
theorem dL_addComponent_23 : decode cL_addComponent 23 = .ok (.iconst 2, 1) := by decide +kernel
theorem dL_addComponent_24 : decode cL_addComponent 24 = .ok (.ireturn, 1) := by decide +kernel
theorem dL_addComponent_25 : decode cL_addComponent 25 = .ok (.astore 6, 2) := by decide +kernel
theorem dL_addComponent_27 : decode cL_addComponent 27 = .ok (.iconst 3, 1) := by decide +kernel
theorem dL_addComponent_28 : decode cL_addComponent 28 = .ok (.ireturn, 1) := by decide +kernel
theorem dL_addComponent_29 : decode cL_addComponent 29 = .ok (.astore 6, 2) := by decide +kernel
theorem dL_addComponent_31 : decode cL_addComponent 31 = .ok (.iconst 4, 1) := by decide +kernel
theorem dL_addComponent_32 : decode cL_addComponent 32 = .ok (.ireturn, 1) := by decide +kernel
theorem dL_addComponent_33 : decode cL_addComponent 33 = .ok (.iconst 0, 1) := by decide +kernel
theorem dL_addComponent_34 : decode cL_addComponent 34 = .ok (.ireturn, 1) := by decide +kernel
theorem dL_addMachine_0 : decode cL_addMachine 0 = .ok (.aload 5, 2) := by decide +kernel
theorem dL_addMachine_2 : decode cL_addMachine 2 = .ok (.iconst 0, 1) := by decide +kernel
theorem dL_addMachine_3 : decode cL_addMachine 3 = .ok (.aload_n 0, 1) := by decide +kernel
theorem dL_addMachine_4 : decode cL_addMachine 4 = .ok (.iload_n 1, 1) := by decide +kernel
theorem dL_addMachine_5 : decode cL_addMachine 5 = .ok (.iload_n 2, 1) := by decide +kernel
theorem dL_addMachine_6 : decode cL_addMachine 6 = .ok (.iload_n 3, 1) := by decide +kernel
theorem dL_addMachine_7 : decode cL_addMachine 7 = .ok (.iload 4, 2) := by decide +kernel
theorem dL_addMachine_9 : decode cL_addMachine 9 = .ok (.invokevirtual 7, 3) := by decide +kernel
theorem dL_addMachine_12 : decode cL_addMachine 12 = .ok (.i2l, 1) := by decide +kernel
theorem dL_addMachine_13 : decode cL_addMachine 13 = .ok (.lastore, 1) := by decide +kernel
theorem dL_addMachine_14 : decode cL_addMachine 14 = .ok (.goto 11, 3) := by decide +kernel
theorem dL_addMachine_17 : decode cL_addMachine 17 = .ok (.astore 6, 2) := by decide +kernel
theorem dL_addMachine_19 : decode cL_addMachine 19 = .ok (.iconst 1, 1) := by decide +kernel
theorem dL_addMachine_20 : decode cL_addMachine 20 = .ok (.ireturn, 1) := by decide +kernel
theorem dL_addMachine_21 : decode cL_addMachine 21 = .ok (.astore 6, 2) := by decide +kernel
theorem dL_addMachine_23 : decode cL_addMachine 23 = .ok (.iconst 2, 1) := by decide +kernel
theorem dL_addMachine_24 : decode cL_addMachine 24 = .ok (.ireturn, 1) := by decide +kernel
theorem dL_addMachine_25 : decode cL_addMachine 25 = .ok (.iconst 0, 1) := by decide +kernel
theorem dL_addMachine_26 : decode cL_addMachine 26 = .ok (.ireturn, 1) := by decide +kernel
theorem dL_addOperation_0 : decode cL_addOperation 0 = .ok (.aload 5, 2) := by decide +kernel
theorem dL_addOperation_2 : decode cL_addOperation 2 = .ok (.iconst 0, 1) := by decide +kernel
theorem dL_addOperation_3 : decode cL_addOperation 3 = .ok (.aload_n 0, 1) := by decide +kernel
theorem dL_addOperation_4 : decode cL_addOperation 4 = .ok (.iload_n 1, 1) := by decide +kernel
theorem dL_addOperation_5 : decode cL_addOperation 5 = .ok (.iload_n 2, 1) := by decide +kernel
theorem dL_addOperation_6 : decode cL_addOperation 6 = .ok (.iload_n 3, 1) := by decide +kernel
theorem dL_addOperation_7 : decode cL_addOperation 7 = .ok (.iload 4, 2) := by decide +kernel
theorem dL_addOperation_9 : decode cL_addOperation 9 = .ok (.invokevirtual 28, 3) := by decide +kernel
theorem dL_addOperation_12 : decode cL_addOperation 12 = .ok (.i2l, 1) := by decide +kernel
theorem dL_addOperation_13 : decode cL_addOperation 13 = .ok (.lastore, 1) := by decide +kernel
theorem dL_addOperation_14 : decode cL_addOperation 14 = .ok (.goto 19, 3) := by decide +kernel
theorem dL_addOperation_17 : decode cL_addOperation 17 = .ok (.astore 6, 2) := by decide +kernel
theorem dL_addOperation_19 : decode cL_addOperation 19 = .ok (.iconst 1, 1) := by decide +kernel
theorem dL_addOperation_20 : decode cL_addOperation 20 = .ok (.ireturn, 1) := by decide +kernel
theorem dL_addOperation_21 : decode cL_addOperation 21 = .ok (.astore 6, 2) := by decide +kernel
theorem dL_addOperation_23 : decode cL_addOperation 23 = .ok (.iconst 2, 1) := by decide +kernel
theorem dL_addOperation_24 : decode cL_addOperation 24 = .ok (.ireturn, 1) := by decide +kernel
theorem dL_addOperation_25 : decode cL_addOperation 25 = .ok (.astore 6, 2) := by decide +kernel
theorem dL_addOperation_27 : decode cL_addOperation 27 = .ok (.iconst 3, 1) := by decide +kernel
theorem dL_addOperation_28 : decode cL_addOperation 28 = .ok (.ireturn, 1) := by decide +kernel
theorem dL_addOperation_29 : decode cL_addOperation 29 = .ok (.astore 6, 2) := by decide +kernel
theorem dL_addOperation_31 : decode cL_addOperation 31 = .ok (.iconst 4, 1) := by decide +kernel
theorem dL_addOperation_32 : decode cL_addOperation 32 = .ok (.ireturn, 1) := by decide +kernel
theorem dL_addOperation_33 : decode cL_addOperation 33 = .ok (.iconst 0, 1) := by decide +kernel
theorem dL_addOperation_34 : decode cL_addOperation 34 = .ok (.ireturn, 1) := by decide +kernel
theorem dL_addPart_0 : decode cL_addPart 0 = .ok (.aload_n 3, 1) := by decide +kernel
theorem dL_addPart_1 : decode cL_addPart 1 = .ok (.iconst 0, 1) := by decide +kernel
theorem dL_addPart_2 : decode cL_addPart 2 = .ok (.aload_n 0, 1) := by decide +kernel
theorem dL_addPart_3 : decode cL_addPart 3 = .ok (.iload_n 1, 1) := by decide +kernel
theorem dL_addPart_4 : decode cL_addPart 4 = .ok (.iload_n 2, 1) := by decide +kernel
theorem dL_addPart_5 : decode cL_addPart 5 = .ok (.invokevirtual 17, 3) := by decide +kernel
theorem dL_addPart_8 : decode cL_addPart 8 = .ok (.i2l, 1) := by decide +kernel
theorem dL_addPart_9 : decode cL_addPart 9 = .ok (.lastore, 1) := by decide +kernel
theorem dL_addPart_10 : decode cL_addPart 10 = .ok (.goto 11, 3) := by decide +kernel
theorem dL_addPart_13 : decode cL_addPart 13 = .ok (.astore 4, 2) := by decide +kernel
theorem dL_addPart_15 : decode cL_addPart 15 = .ok (.iconst 1, 1) := by decide +kernel
theorem dL_addPart_16 : decode cL_addPart 16 = .ok (.ireturn, 1) := by decide +kernel
theorem dL_addPart_17 : decode cL_addPart 17 = .ok (.astore 4, 2) := by decide +kernel
theorem dL_addPart_19 : decode cL_addPart 19 = .ok (.iconst 2, 1) := by decide +kernel
theorem dL_addPart_20 : decode cL_addPart 20 = .ok (.ireturn, 1) := by decide +kernel
theorem dL_addPart_21 : decode cL_addPart 21 = .ok (.iconst 0, 1) := by decide +kernel
theorem dL_addPart_22 : decode cL_addPart 22 = .ok (.ireturn, 1) := by decide +kernel
theorem dL_advance_0 : decode cL_advance 0 = .ok (.aload_n 2, 1) := by decide +kernel
theorem dL_advance_1 : decode cL_advance 1 = .ok (.iconst 0, 1) := by decide +kernel
theorem dL_advance_2 : decode cL_advance 2 = .ok (.aload_n 0, 1) := by decide +kernel
theorem dL_advance_3 : decode cL_advance 3 = .ok (.iload_n 1, 1) := by decide +kernel
theorem dL_advance_4 : decode cL_advance 4 = .ok (.invokevirtual 85, 3) := by decide +kernel
theorem dL_advance_7 : decode cL_advance 7 = .ok (.i2l, 1) := by decide +kernel
theorem dL_advance_8 : decode cL_advance 8 = .ok (.lastore, 1) := by decide +kernel
theorem dL_advance_9 : decode cL_advance 9 = .ok (.goto 9, 3) := by decide +kernel
theorem dL_advance_12 : decode cL_advance 12 = .ok (.astore_n 3, 1) := by decide +kernel
theorem dL_advance_13 : decode cL_advance 13 = .ok (.iconst 1, 1) := by decide +kernel
theorem dL_advance_14 : decode cL_advance 14 = .ok (.ireturn, 1) := by decide +kernel
theorem dL_advance_15 : decode cL_advance 15 = .ok (.astore_n 3, 1) := by decide +kernel
theorem dL_advance_16 : decode cL_advance 16 = .ok (.iconst 2, 1) := by decide +kernel
theorem dL_advance_17 : decode cL_advance 17 = .ok (.ireturn, 1) := by decide +kernel
theorem dL_advance_18 : decode cL_advance 18 = .ok (.iconst 0, 1) := by decide +kernel
theorem dL_advance_19 : decode cL_advance 19 = .ok (.ireturn, 1) := by decide +kernel
theorem dL_costOf_0 : decode cL_costOf 0 = .ok (.aload_n 2, 1) := by decide +kernel
theorem dL_costOf_1 : decode cL_costOf 1 = .ok (.iconst 0, 1) := by decide +kernel
theorem dL_costOf_2 : decode cL_costOf 2 = .ok (.aload_n 0, 1) := by decide +kernel
theorem dL_costOf_3 : decode cL_costOf 3 = .ok (.iload_n 1, 1) := by decide +kernel
theorem dL_costOf_4 : decode cL_costOf 4 = .ok (.invokevirtual 65, 3) := by decide +kernel
theorem dL_costOf_7 : decode cL_costOf 7 = .ok (.lastore, 1) := by decide +kernel
theorem dL_costOf_8 : decode cL_costOf 8 = .ok (.goto 6, 3) := by decide +kernel
theorem dL_costOf_11 : decode cL_costOf 11 = .ok (.astore_n 3, 1) := by decide +kernel
theorem dL_costOf_12 : decode cL_costOf 12 = .ok (.iconst 1, 1) := by decide +kernel
theorem dL_costOf_13 : decode cL_costOf 13 = .ok (.ireturn, 1) := by decide +kernel
theorem dL_costOf_14 : decode cL_costOf 14 = .ok (.iconst 0, 1) := by decide +kernel
theorem dL_costOf_15 : decode cL_costOf 15 = .ok (.ireturn, 1) := by decide +kernel
theorem dL_deliver_0 : decode cL_deliver 0 = .ok (.aload_n 2, 1) := by decide +kernel
theorem dL_deliver_1 : decode cL_deliver 1 = .ok (.iconst 0, 1) := by decide +kernel
theorem dL_deliver_2 : decode cL_deliver 2 = .ok (.aload_n 0, 1) := by decide +kernel
theorem dL_deliver_3 : decode cL_deliver 3 = .ok (.iload_n 1, 1) := by decide +kernel
theorem dL_deliver_4 : decode cL_deliver 4 = .ok (.invokevirtual 88, 3) := by decide +kernel
theorem dL_deliver_7 : decode cL_deliver 7 = .ok (.ifCond .eq 7, 3) := by decide +kernel
theorem dL_deliver_10 : decode cL_deliver 10 = .ok (.lconst 1, 1) := by decide +kernel
theorem dL_deliver_11 : decode cL_deliver 11 = .ok (.goto 4, 3) := by decide +kernel
theorem dL_deliver_14 : decode cL_deliver 14 = .ok (.lconst 0, 1) := by decide +kernel
theorem dL_deliver_15 : decode cL_deliver 15 = .ok (.lastore, 1) := by decide +kernel
theorem dL_deliver_16 : decode cL_deliver 16 = .ok (.goto 9, 3) := by decide +kernel
theorem dL_deliver_19 : decode cL_deliver 19 = .ok (.astore_n 3, 1) := by decide +kernel
theorem dL_deliver_20 : decode cL_deliver 20 = .ok (.iconst 1, 1) := by decide +kernel
theorem dL_deliver_21 : decode cL_deliver 21 = .ok (.ireturn, 1) := by decide +kernel
theorem dL_deliver_22 : decode cL_deliver 22 = .ok (.astore_n 3, 1) := by decide +kernel
theorem dL_deliver_23 : decode cL_deliver 23 = .ok (.iconst 2, 1) := by decide +kernel
theorem dL_deliver_24 : decode cL_deliver 24 = .ok (.ireturn, 1) := by decide +kernel
theorem dL_deliver_25 : decode cL_deliver 25 = .ok (.iconst 0, 1) := by decide +kernel
theorem dL_deliver_26 : decode cL_deliver 26 = .ok (.ireturn, 1) := by decide +kernel
theorem dL_deliveredCost_0 : decode cL_deliveredCost 0 = .ok (.aload_n 2, 1) := by decide +kernel
theorem dL_deliveredCost_1 : decode cL_deliveredCost 1 = .ok (.iconst 0, 1) := by decide +kernel
theorem dL_deliveredCost_2 : decode cL_deliveredCost 2 = .ok (.aload_n 0, 1) := by decide +kernel
theorem dL_deliveredCost_3 : decode cL_deliveredCost 3 = .ok (.iload_n 1, 1) := by decide +kernel
theorem dL_deliveredCost_4 : decode cL_deliveredCost 4 = .ok (.invokevirtual 120, 3) := by decide +kernel
theorem dL_deliveredCost_7 : decode cL_deliveredCost 7 = .ok (.lastore, 1) := by decide +kernel
theorem dL_deliveredCost_8 : decode cL_deliveredCost 8 = .ok (.goto 9, 3) := by decide +kernel
theorem dL_deliveredCost_11 : decode cL_deliveredCost 11 = .ok (.astore_n 3, 1) := by decide +kernel
theorem dL_deliveredCost_12 : decode cL_deliveredCost 12 = .ok (.iconst 1, 1) := by decide +kernel
theorem dL_deliveredCost_13 : decode cL_deliveredCost 13 = .ok (.ireturn, 1) := by decide +kernel
theorem dL_deliveredCost_14 : decode cL_deliveredCost 14 = .ok (.astore_n 3, 1) := by decide +kernel
theorem dL_deliveredCost_15 : decode cL_deliveredCost 15 = .ok (.iconst 2, 1) := by decide +kernel
theorem dL_deliveredCost_16 : decode cL_deliveredCost 16 = .ok (.ireturn, 1) := by decide +kernel
theorem dL_deliveredCost_17 : decode cL_deliveredCost 17 = .ok (.iconst 0, 1) := by decide +kernel
theorem dL_deliveredCost_18 : decode cL_deliveredCost 18 = .ok (.ireturn, 1) := by decide +kernel
theorem dL_finishedAt_0 : decode cL_finishedAt 0 = .ok (.aload_n 2, 1) := by decide +kernel
theorem dL_finishedAt_1 : decode cL_finishedAt 1 = .ok (.iconst 0, 1) := by decide +kernel
theorem dL_finishedAt_2 : decode cL_finishedAt 2 = .ok (.aload_n 0, 1) := by decide +kernel
theorem dL_finishedAt_3 : decode cL_finishedAt 3 = .ok (.iload_n 1, 1) := by decide +kernel
theorem dL_finishedAt_4 : decode cL_finishedAt 4 = .ok (.invokevirtual 99, 3) := by decide +kernel
theorem dL_finishedAt_7 : decode cL_finishedAt 7 = .ok (.i2l, 1) := by decide +kernel
theorem dL_finishedAt_8 : decode cL_finishedAt 8 = .ok (.lastore, 1) := by decide +kernel
theorem dL_finishedAt_9 : decode cL_finishedAt 9 = .ok (.goto 9, 3) := by decide +kernel
theorem dL_finishedAt_12 : decode cL_finishedAt 12 = .ok (.astore_n 3, 1) := by decide +kernel
theorem dL_finishedAt_13 : decode cL_finishedAt 13 = .ok (.iconst 1, 1) := by decide +kernel
theorem dL_finishedAt_14 : decode cL_finishedAt 14 = .ok (.ireturn, 1) := by decide +kernel
theorem dL_finishedAt_15 : decode cL_finishedAt 15 = .ok (.astore_n 3, 1) := by decide +kernel
theorem dL_finishedAt_16 : decode cL_finishedAt 16 = .ok (.iconst 2, 1) := by decide +kernel
theorem dL_finishedAt_17 : decode cL_finishedAt 17 = .ok (.ireturn, 1) := by decide +kernel
theorem dL_finishedAt_18 : decode cL_finishedAt 18 = .ok (.iconst 0, 1) := by decide +kernel
theorem dL_finishedAt_19 : decode cL_finishedAt 19 = .ok (.ireturn, 1) := by decide +kernel
theorem dL_hold_0 : decode cL_hold 0 = .ok (.aload_n 3, 1) := by decide +kernel
theorem dL_hold_1 : decode cL_hold 1 = .ok (.iconst 0, 1) := by decide +kernel
theorem dL_hold_2 : decode cL_hold 2 = .ok (.aload_n 0, 1) := by decide +kernel
theorem dL_hold_3 : decode cL_hold 3 = .ok (.iload_n 1, 1) := by decide +kernel
theorem dL_hold_4 : decode cL_hold 4 = .ok (.iload_n 2, 1) := by decide +kernel
theorem dL_hold_5 : decode cL_hold 5 = .ok (.invokevirtual 39, 3) := by decide +kernel
theorem dL_hold_8 : decode cL_hold 8 = .ok (.i2l, 1) := by decide +kernel
theorem dL_hold_9 : decode cL_hold 9 = .ok (.lastore, 1) := by decide +kernel
theorem dL_hold_10 : decode cL_hold 10 = .ok (.goto 7, 3) := by decide +kernel
theorem dL_hold_13 : decode cL_hold 13 = .ok (.astore 4, 2) := by decide +kernel
theorem dL_hold_15 : decode cL_hold 15 = .ok (.iconst 1, 1) := by decide +kernel
theorem dL_hold_16 : decode cL_hold 16 = .ok (.ireturn, 1) := by decide +kernel
theorem dL_hold_17 : decode cL_hold 17 = .ok (.iconst 0, 1) := by decide +kernel
theorem dL_hold_18 : decode cL_hold 18 = .ok (.ireturn, 1) := by decide +kernel
theorem dL_inTimeShare_0 : decode cL_inTimeShare 0 = .ok (.aload_n 1, 1) := by decide +kernel
theorem dL_inTimeShare_1 : decode cL_inTimeShare 1 = .ok (.iconst 0, 1) := by decide +kernel
theorem dL_inTimeShare_2 : decode cL_inTimeShare 2 = .ok (.aload_n 0, 1) := by decide +kernel
theorem dL_inTimeShare_3 : decode cL_inTimeShare 3 = .ok (.invokevirtual 123, 3) := by decide +kernel
theorem dL_inTimeShare_6 : decode cL_inTimeShare 6 = .ok (.f2d, 1) := by decide +kernel
theorem dL_inTimeShare_7 : decode cL_inTimeShare 7 = .ok (.dastore, 1) := by decide +kernel
theorem dL_inTimeShare_8 : decode cL_inTimeShare 8 = .ok (.goto 6, 3) := by decide +kernel
theorem dL_inTimeShare_11 : decode cL_inTimeShare 11 = .ok (.astore_n 2, 1) := by decide +kernel
theorem dL_inTimeShare_12 : decode cL_inTimeShare 12 = .ok (.iconst 1, 1) := by decide +kernel
theorem dL_inTimeShare_13 : decode cL_inTimeShare 13 = .ok (.ireturn, 1) := by decide +kernel
theorem dL_inTimeShare_14 : decode cL_inTimeShare 14 = .ok (.iconst 0, 1) := by decide +kernel
theorem dL_inTimeShare_15 : decode cL_inTimeShare 15 = .ok (.ireturn, 1) := by decide +kernel
theorem dL_isHeld_0 : decode cL_isHeld 0 = .ok (.aload_n 2, 1) := by decide +kernel
theorem dL_isHeld_1 : decode cL_isHeld 1 = .ok (.iconst 0, 1) := by decide +kernel
theorem dL_isHeld_2 : decode cL_isHeld 2 = .ok (.aload_n 0, 1) := by decide +kernel
theorem dL_isHeld_3 : decode cL_isHeld 3 = .ok (.iload_n 1, 1) := by decide +kernel
theorem dL_isHeld_4 : decode cL_isHeld 4 = .ok (.invokevirtual 43, 3) := by decide +kernel
theorem dL_isHeld_7 : decode cL_isHeld 7 = .ok (.ifCond .eq 7, 3) := by decide +kernel
theorem dL_isHeld_10 : decode cL_isHeld 10 = .ok (.lconst 1, 1) := by decide +kernel
theorem dL_isHeld_11 : decode cL_isHeld 11 = .ok (.goto 4, 3) := by decide +kernel
theorem dL_isHeld_14 : decode cL_isHeld 14 = .ok (.lconst 0, 1) := by decide +kernel
theorem dL_isHeld_15 : decode cL_isHeld 15 = .ok (.lastore, 1) := by decide +kernel
theorem dL_isHeld_16 : decode cL_isHeld 16 = .ok (.goto 6, 3) := by decide +kernel
theorem dL_isHeld_19 : decode cL_isHeld 19 = .ok (.astore_n 3, 1) := by decide +kernel
theorem dL_isHeld_20 : decode cL_isHeld 20 = .ok (.iconst 1, 1) := by decide +kernel
theorem dL_isHeld_21 : decode cL_isHeld 21 = .ok (.ireturn, 1) := by decide +kernel
theorem dL_isHeld_22 : decode cL_isHeld 22 = .ok (.iconst 0, 1) := by decide +kernel
theorem dL_isHeld_23 : decode cL_isHeld 23 = .ok (.ireturn, 1) := by decide +kernel
theorem dL_isIn_0 : decode cL_isIn 0 = .ok (.aload_n 3, 1) := by decide +kernel
theorem dL_isIn_1 : decode cL_isIn 1 = .ok (.iconst 0, 1) := by decide +kernel
theorem dL_isIn_2 : decode cL_isIn 2 = .ok (.aload_n 0, 1) := by decide +kernel
theorem dL_isIn_3 : decode cL_isIn 3 = .ok (.iload_n 1, 1) := by decide +kernel
theorem dL_isIn_4 : decode cL_isIn 4 = .ok (.iload_n 2, 1) := by decide +kernel
theorem dL_isIn_5 : decode cL_isIn 5 = .ok (.invokevirtual 111, 3) := by decide +kernel
theorem dL_isIn_8 : decode cL_isIn 8 = .ok (.ifCond .eq 7, 3) := by decide +kernel
theorem dL_isIn_11 : decode cL_isIn 11 = .ok (.lconst 1, 1) := by decide +kernel
theorem dL_isIn_12 : decode cL_isIn 12 = .ok (.goto 4, 3) := by decide +kernel
theorem dL_isIn_15 : decode cL_isIn 15 = .ok (.lconst 0, 1) := by decide +kernel
theorem dL_isIn_16 : decode cL_isIn 16 = .ok (.lastore, 1) := by decide +kernel
theorem dL_isIn_17 : decode cL_isIn 17 = .ok (.goto 7, 3) := by decide +kernel
theorem dL_isIn_20 : decode cL_isIn 20 = .ok (.astore 4, 2) := by decide +kernel
theorem dL_isIn_22 : decode cL_isIn 22 = .ok (.iconst 1, 1) := by decide +kernel
theorem dL_isIn_23 : decode cL_isIn 23 = .ok (.ireturn, 1) := by decide +kernel
theorem dL_isIn_24 : decode cL_isIn 24 = .ok (.iconst 0, 1) := by decide +kernel
theorem dL_isIn_25 : decode cL_isIn 25 = .ok (.ireturn, 1) := by decide +kernel
theorem dL_law_0 : decode cL_law 0 = .ok (.new 8, 3) := by decide +kernel
theorem dL_law_3 : decode cL_law 3 = .ok (.dup, 1) := by decide +kernel
theorem dL_law_4 : decode cL_law 4 = .ok (.invokespecial 133, 3) := by decide +kernel
theorem dL_law_7 : decode cL_law 7 = .ok (.astore_n 1, 1) := by decide +kernel
theorem dL_law_8 : decode cL_law 8 = .ok (.new 134, 3) := by decide +kernel
theorem dL_law_11 : decode cL_law 11 = .ok (.dup, 1) := by decide +kernel
theorem dL_law_12 : decode cL_law 12 = .ok (.invokespecial 136, 3) := by decide +kernel
theorem dL_law_15 : decode cL_law 15 = .ok (.astore_n 2, 1) := by decide +kernel
theorem dL_law_16 : decode cL_law 16 = .ok (.iconst 1, 1) := by decide +kernel
theorem dL_law_17 : decode cL_law 17 = .ok (.newarray .long, 2) := by decide +kernel
theorem dL_law_19 : decode cL_law 19 = .ok (.astore_n 3, 1) := by decide +kernel
theorem dL_law_20 : decode cL_law 20 = .ok (.iconst 1, 1) := by decide +kernel
theorem dL_law_21 : decode cL_law 21 = .ok (.newarray .double, 2) := by decide +kernel
theorem dL_law_23 : decode cL_law 23 = .ok (.astore 4, 2) := by decide +kernel
theorem dL_law_25 : decode cL_law 25 = .ok (.iconst 0, 1) := by decide +kernel
theorem dL_law_26 : decode cL_law 26 = .ok (.istore 5, 2) := by decide +kernel
theorem dL_law_28 : decode cL_law 28 = .ok (.iload 5, 2) := by decide +kernel
theorem dL_law_30 : decode cL_law 30 = .ok (.aload_n 0, 1) := by decide +kernel
theorem dL_law_31 : decode cL_law 31 = .ok (.arraylength, 1) := by decide +kernel
theorem dL_law_32 : decode cL_law 32 = .ok (.bipush 6, 2) := by decide +kernel
theorem dL_law_34 : decode cL_law 34 = .ok (.isub, 1) := by decide +kernel
theorem dL_law_35 : decode cL_law 35 = .ok (.if_icmp .gt 2412, 3) := by decide +kernel
theorem dL_law_38 : decode cL_law 38 = .ok (.aload_n 0, 1) := by decide +kernel
theorem dL_law_39 : decode cL_law 39 = .ok (.iload 5, 2) := by decide +kernel
theorem dL_law_41 : decode cL_law 41 = .ok (.iaload, 1) := by decide +kernel
theorem dL_law_42 : decode cL_law 42 = .ok (.bipush 63, 2) := by decide +kernel
theorem dL_law_44 : decode cL_law 44 = .ok (.iand, 1) := by decide +kernel
theorem dL_law_45 : decode cL_law 45 = .ok (.tableswitch 2396 0 34 #[155, 247, 331, 423, 515, 619, 675, 759, 822, 902, 977, 990, 1046, 1102, 1158, 1213, 1305, 1368, 1424, 1487, 1555, 1611, 1674, 1730, 1786, 1842, 1898, 1954, 2010, 2085, 2141, 2197, 2252, 2318, 2383], 155) := by decide +kernel
theorem dL_law_200 : decode cL_law 200 = .ok (.aload_n 1, 1) := by decide +kernel
theorem dL_law_201 : decode cL_law 201 = .ok (.aload_n 0, 1) := by decide +kernel
theorem dL_law_202 : decode cL_law 202 = .ok (.iload 5, 2) := by decide +kernel
theorem dL_law_204 : decode cL_law 204 = .ok (.iconst 1, 1) := by decide +kernel
theorem dL_law_205 : decode cL_law 205 = .ok (.iadd, 1) := by decide +kernel
theorem dL_law_206 : decode cL_law 206 = .ok (.iaload, 1) := by decide +kernel
theorem dL_law_207 : decode cL_law 207 = .ok (.aload_n 0, 1) := by decide +kernel
theorem dL_law_208 : decode cL_law 208 = .ok (.iload 5, 2) := by decide +kernel
theorem dL_law_210 : decode cL_law 210 = .ok (.iconst 2, 1) := by decide +kernel
theorem dL_law_211 : decode cL_law 211 = .ok (.iadd, 1) := by decide +kernel
theorem dL_law_212 : decode cL_law 212 = .ok (.iaload, 1) := by decide +kernel
theorem dL_law_213 : decode cL_law 213 = .ok (.aload_n 0, 1) := by decide +kernel
theorem dL_law_214 : decode cL_law 214 = .ok (.iload 5, 2) := by decide +kernel
theorem dL_law_216 : decode cL_law 216 = .ok (.iconst 3, 1) := by decide +kernel
theorem dL_law_217 : decode cL_law 217 = .ok (.iadd, 1) := by decide +kernel
theorem dL_law_218 : decode cL_law 218 = .ok (.iaload, 1) := by decide +kernel
theorem dL_law_219 : decode cL_law 219 = .ok (.aload_n 0, 1) := by decide +kernel
theorem dL_law_220 : decode cL_law 220 = .ok (.iload 5, 2) := by decide +kernel
theorem dL_law_222 : decode cL_law 222 = .ok (.iconst 4, 1) := by decide +kernel
theorem dL_law_223 : decode cL_law 223 = .ok (.iadd, 1) := by decide +kernel
theorem dL_law_224 : decode cL_law 224 = .ok (.iaload, 1) := by decide +kernel
theorem dL_law_225 : decode cL_law 225 = .ok (.aload_n 3, 1) := by decide +kernel
theorem dL_law_226 : decode cL_law 226 = .ok (.invokestatic 137, 3) := by decide +kernel
theorem dL_law_229 : decode cL_law 229 = .ok (.istore 6, 2) := by decide +kernel
theorem dL_law_231 : decode cL_law 231 = .ok (.aload_n 2, 1) := by decide +kernel
theorem dL_law_232 : decode cL_law 232 = .ok (.aload_n 0, 1) := by decide +kernel
theorem dL_law_233 : decode cL_law 233 = .ok (.iload 5, 2) := by decide +kernel
theorem dL_law_235 : decode cL_law 235 = .ok (.iconst 1, 1) := by decide +kernel
theorem dL_law_236 : decode cL_law 236 = .ok (.iadd, 1) := by decide +kernel
theorem dL_law_237 : decode cL_law 237 = .ok (.iaload, 1) := by decide +kernel
theorem dL_law_238 : decode cL_law 238 = .ok (.aload_n 0, 1) := by decide +kernel
theorem dL_law_239 : decode cL_law 239 = .ok (.iload 5, 2) := by decide +kernel
theorem dL_law_241 : decode cL_law 241 = .ok (.iconst 2, 1) := by decide +kernel
theorem dL_law_242 : decode cL_law 242 = .ok (.iadd, 1) := by decide +kernel
theorem dL_law_243 : decode cL_law 243 = .ok (.iaload, 1) := by decide +kernel
theorem dL_law_244 : decode cL_law 244 = .ok (.aload_n 0, 1) := by decide +kernel
theorem dL_law_245 : decode cL_law 245 = .ok (.iload 5, 2) := by decide +kernel
theorem dL_law_247 : decode cL_law 247 = .ok (.iconst 3, 1) := by decide +kernel
theorem dL_law_248 : decode cL_law 248 = .ok (.iadd, 1) := by decide +kernel
theorem dL_law_249 : decode cL_law 249 = .ok (.iaload, 1) := by decide +kernel
theorem dL_law_250 : decode cL_law 250 = .ok (.aload_n 0, 1) := by decide +kernel
theorem dL_law_251 : decode cL_law 251 = .ok (.iload 5, 2) := by decide +kernel
theorem dL_law_253 : decode cL_law 253 = .ok (.iconst 4, 1) := by decide +kernel
theorem dL_law_254 : decode cL_law 254 = .ok (.iadd, 1) := by decide +kernel
theorem dL_law_255 : decode cL_law 255 = .ok (.iaload, 1) := by decide +kernel
theorem dL_law_256 : decode cL_law 256 = .ok (.invokevirtual 142, 3) := by decide +kernel
theorem dL_law_259 : decode cL_law 259 = .ok (.istore 7, 2) := by decide +kernel
theorem dL_law_261 : decode cL_law 261 = .ok (.aload_n 2, 1) := by decide +kernel
theorem dL_law_262 : decode cL_law 262 = .ok (.invokevirtual 143, 3) := by decide +kernel
theorem dL_law_265 : decode cL_law 265 = .ok (.iload 6, 2) := by decide +kernel
theorem dL_law_267 : decode cL_law 267 = .ok (.if_icmp .eq 5, 3) := by decide +kernel
theorem dL_law_270 : decode cL_law 270 = .ok (.iconst 0, 1) := by decide +kernel
theorem dL_law_271 : decode cL_law 271 = .ok (.ireturn, 1) := by decide +kernel
theorem dL_law_272 : decode cL_law 272 = .ok (.iload 6, 2) := by decide +kernel
theorem dL_law_274 : decode cL_law 274 = .ok (.ifCond .ne 15, 3) := by decide +kernel
theorem dL_law_277 : decode cL_law 277 = .ok (.aload_n 3, 1) := by decide +kernel
theorem dL_law_278 : decode cL_law 278 = .ok (.iconst 0, 1) := by decide +kernel
theorem dL_law_279 : decode cL_law 279 = .ok (.laload, 1) := by decide +kernel
theorem dL_law_280 : decode cL_law 280 = .ok (.iload 7, 2) := by decide +kernel
theorem dL_law_282 : decode cL_law 282 = .ok (.i2l, 1) := by decide +kernel
theorem dL_law_283 : decode cL_law 283 = .ok (.lcmp, 1) := by decide +kernel
theorem dL_law_284 : decode cL_law 284 = .ok (.ifCond .eq 5, 3) := by decide +kernel
theorem dL_law_287 : decode cL_law 287 = .ok (.iconst 0, 1) := by decide +kernel
theorem dL_law_288 : decode cL_law 288 = .ok (.ireturn, 1) := by decide +kernel
theorem dL_law_289 : decode cL_law 289 = .ok (.goto 2152, 3) := by decide +kernel
theorem dL_law_292 : decode cL_law 292 = .ok (.aload_n 1, 1) := by decide +kernel
theorem dL_law_293 : decode cL_law 293 = .ok (.aload_n 0, 1) := by decide +kernel
theorem dL_law_294 : decode cL_law 294 = .ok (.iload 5, 2) := by decide +kernel
theorem dL_law_296 : decode cL_law 296 = .ok (.iconst 1, 1) := by decide +kernel
theorem dL_law_297 : decode cL_law 297 = .ok (.iadd, 1) := by decide +kernel
theorem dL_law_298 : decode cL_law 298 = .ok (.iaload, 1) := by decide +kernel
theorem dL_law_299 : decode cL_law 299 = .ok (.ifCond .eq 7, 3) := by decide +kernel
theorem dL_law_302 : decode cL_law 302 = .ok (.iconst 1, 1) := by decide +kernel
theorem dL_law_303 : decode cL_law 303 = .ok (.goto 4, 3) := by decide +kernel
theorem dL_law_306 : decode cL_law 306 = .ok (.iconst 0, 1) := by decide +kernel
theorem dL_law_307 : decode cL_law 307 = .ok (.aload_n 0, 1) := by decide +kernel
theorem dL_law_308 : decode cL_law 308 = .ok (.iload 5, 2) := by decide +kernel
theorem dL_law_310 : decode cL_law 310 = .ok (.iconst 2, 1) := by decide +kernel
theorem dL_law_311 : decode cL_law 311 = .ok (.iadd, 1) := by decide +kernel
theorem dL_law_312 : decode cL_law 312 = .ok (.iaload, 1) := by decide +kernel
theorem dL_law_313 : decode cL_law 313 = .ok (.aload_n 3, 1) := by decide +kernel
theorem dL_law_314 : decode cL_law 314 = .ok (.invokestatic 147, 3) := by decide +kernel
theorem dL_law_317 : decode cL_law 317 = .ok (.istore 6, 2) := by decide +kernel
theorem dL_law_319 : decode cL_law 319 = .ok (.aload_n 2, 1) := by decide +kernel
theorem dL_law_320 : decode cL_law 320 = .ok (.aload_n 0, 1) := by decide +kernel
theorem dL_law_321 : decode cL_law 321 = .ok (.iload 5, 2) := by decide +kernel
theorem dL_law_323 : decode cL_law 323 = .ok (.iconst 1, 1) := by decide +kernel
theorem dL_law_324 : decode cL_law 324 = .ok (.iadd, 1) := by decide +kernel
theorem dL_law_325 : decode cL_law 325 = .ok (.iaload, 1) := by decide +kernel
theorem dL_law_326 : decode cL_law 326 = .ok (.ifCond .eq 7, 3) := by decide +kernel
theorem dL_law_329 : decode cL_law 329 = .ok (.iconst 1, 1) := by decide +kernel
theorem dL_law_330 : decode cL_law 330 = .ok (.goto 4, 3) := by decide +kernel
theorem dL_law_333 : decode cL_law 333 = .ok (.iconst 0, 1) := by decide +kernel
theorem dL_law_334 : decode cL_law 334 = .ok (.aload_n 0, 1) := by decide +kernel
theorem dL_law_335 : decode cL_law 335 = .ok (.iload 5, 2) := by decide +kernel
theorem dL_law_337 : decode cL_law 337 = .ok (.iconst 2, 1) := by decide +kernel
theorem dL_law_338 : decode cL_law 338 = .ok (.iadd, 1) := by decide +kernel
theorem dL_law_339 : decode cL_law 339 = .ok (.iaload, 1) := by decide +kernel
theorem dL_law_340 : decode cL_law 340 = .ok (.invokevirtual 150, 3) := by decide +kernel
theorem dL_law_343 : decode cL_law 343 = .ok (.istore 7, 2) := by decide +kernel
theorem dL_law_345 : decode cL_law 345 = .ok (.aload_n 2, 1) := by decide +kernel
theorem dL_law_346 : decode cL_law 346 = .ok (.invokevirtual 143, 3) := by decide +kernel
theorem dL_law_349 : decode cL_law 349 = .ok (.iload 6, 2) := by decide +kernel
theorem dL_law_351 : decode cL_law 351 = .ok (.if_icmp .eq 5, 3) := by decide +kernel
theorem dL_law_354 : decode cL_law 354 = .ok (.iconst 0, 1) := by decide +kernel
theorem dL_law_355 : decode cL_law 355 = .ok (.ireturn, 1) := by decide +kernel
theorem dL_law_356 : decode cL_law 356 = .ok (.iload 6, 2) := by decide +kernel
theorem dL_law_358 : decode cL_law 358 = .ok (.ifCond .ne 15, 3) := by decide +kernel
theorem dL_law_361 : decode cL_law 361 = .ok (.aload_n 3, 1) := by decide +kernel
theorem dL_law_362 : decode cL_law 362 = .ok (.iconst 0, 1) := by decide +kernel
theorem dL_law_363 : decode cL_law 363 = .ok (.laload, 1) := by decide +kernel
theorem dL_law_364 : decode cL_law 364 = .ok (.iload 7, 2) := by decide +kernel
theorem dL_law_366 : decode cL_law 366 = .ok (.i2l, 1) := by decide +kernel
theorem dL_law_367 : decode cL_law 367 = .ok (.lcmp, 1) := by decide +kernel
theorem dL_law_368 : decode cL_law 368 = .ok (.ifCond .eq 5, 3) := by decide +kernel
theorem dL_law_371 : decode cL_law 371 = .ok (.iconst 0, 1) := by decide +kernel
theorem dL_law_372 : decode cL_law 372 = .ok (.ireturn, 1) := by decide +kernel
theorem dL_law_373 : decode cL_law 373 = .ok (.goto 2068, 3) := by decide +kernel
theorem dL_law_376 : decode cL_law 376 = .ok (.aload_n 1, 1) := by decide +kernel
theorem dL_law_377 : decode cL_law 377 = .ok (.aload_n 0, 1) := by decide +kernel
theorem dL_law_378 : decode cL_law 378 = .ok (.iload 5, 2) := by decide +kernel
theorem dL_law_380 : decode cL_law 380 = .ok (.iconst 1, 1) := by decide +kernel
theorem dL_law_381 : decode cL_law 381 = .ok (.iadd, 1) := by decide +kernel
theorem dL_law_382 : decode cL_law 382 = .ok (.iaload, 1) := by decide +kernel
theorem dL_law_383 : decode cL_law 383 = .ok (.aload_n 0, 1) := by decide +kernel
theorem dL_law_384 : decode cL_law 384 = .ok (.iload 5, 2) := by decide +kernel
theorem dL_law_386 : decode cL_law 386 = .ok (.iconst 2, 1) := by decide +kernel
theorem dL_law_387 : decode cL_law 387 = .ok (.iadd, 1) := by decide +kernel
theorem dL_law_388 : decode cL_law 388 = .ok (.iaload, 1) := by decide +kernel
theorem dL_law_389 : decode cL_law 389 = .ok (.aload_n 0, 1) := by decide +kernel
theorem dL_law_390 : decode cL_law 390 = .ok (.iload 5, 2) := by decide +kernel
theorem dL_law_392 : decode cL_law 392 = .ok (.iconst 3, 1) := by decide +kernel
theorem dL_law_393 : decode cL_law 393 = .ok (.iadd, 1) := by decide +kernel
theorem dL_law_394 : decode cL_law 394 = .ok (.iaload, 1) := by decide +kernel
theorem dL_law_395 : decode cL_law 395 = .ok (.aload_n 0, 1) := by decide +kernel
theorem dL_law_396 : decode cL_law 396 = .ok (.iload 5, 2) := by decide +kernel
theorem dL_law_398 : decode cL_law 398 = .ok (.iconst 4, 1) := by decide +kernel
theorem dL_law_399 : decode cL_law 399 = .ok (.iadd, 1) := by decide +kernel
theorem dL_law_400 : decode cL_law 400 = .ok (.iaload, 1) := by decide +kernel
theorem dL_law_401 : decode cL_law 401 = .ok (.aload_n 3, 1) := by decide +kernel
theorem dL_law_402 : decode cL_law 402 = .ok (.invokestatic 151, 3) := by decide +kernel
theorem dL_law_405 : decode cL_law 405 = .ok (.istore 6, 2) := by decide +kernel
theorem dL_law_407 : decode cL_law 407 = .ok (.aload_n 2, 1) := by decide +kernel
theorem dL_law_408 : decode cL_law 408 = .ok (.aload_n 0, 1) := by decide +kernel
theorem dL_law_409 : decode cL_law 409 = .ok (.iload 5, 2) := by decide +kernel
theorem dL_law_411 : decode cL_law 411 = .ok (.iconst 1, 1) := by decide +kernel
theorem dL_law_412 : decode cL_law 412 = .ok (.iadd, 1) := by decide +kernel
theorem dL_law_413 : decode cL_law 413 = .ok (.iaload, 1) := by decide +kernel
theorem dL_law_414 : decode cL_law 414 = .ok (.aload_n 0, 1) := by decide +kernel
theorem dL_law_415 : decode cL_law 415 = .ok (.iload 5, 2) := by decide +kernel
theorem dL_law_417 : decode cL_law 417 = .ok (.iconst 2, 1) := by decide +kernel
theorem dL_law_418 : decode cL_law 418 = .ok (.iadd, 1) := by decide +kernel
theorem dL_law_419 : decode cL_law 419 = .ok (.iaload, 1) := by decide +kernel
theorem dL_law_420 : decode cL_law 420 = .ok (.aload_n 0, 1) := by decide +kernel
theorem dL_law_421 : decode cL_law 421 = .ok (.iload 5, 2) := by decide +kernel
theorem dL_law_423 : decode cL_law 423 = .ok (.iconst 3, 1) := by decide +kernel
theorem dL_law_424 : decode cL_law 424 = .ok (.iadd, 1) := by decide +kernel
theorem dL_law_425 : decode cL_law 425 = .ok (.iaload, 1) := by decide +kernel
theorem dL_law_426 : decode cL_law 426 = .ok (.aload_n 0, 1) := by decide +kernel
theorem dL_law_427 : decode cL_law 427 = .ok (.iload 5, 2) := by decide +kernel
theorem dL_law_429 : decode cL_law 429 = .ok (.iconst 4, 1) := by decide +kernel
theorem dL_law_430 : decode cL_law 430 = .ok (.iadd, 1) := by decide +kernel
theorem dL_law_431 : decode cL_law 431 = .ok (.iaload, 1) := by decide +kernel
theorem dL_law_432 : decode cL_law 432 = .ok (.invokevirtual 153, 3) := by decide +kernel
theorem dL_law_435 : decode cL_law 435 = .ok (.istore 7, 2) := by decide +kernel
theorem dL_law_437 : decode cL_law 437 = .ok (.aload_n 2, 1) := by decide +kernel
theorem dL_law_438 : decode cL_law 438 = .ok (.invokevirtual 143, 3) := by decide +kernel
theorem dL_law_441 : decode cL_law 441 = .ok (.iload 6, 2) := by decide +kernel
theorem dL_law_443 : decode cL_law 443 = .ok (.if_icmp .eq 5, 3) := by decide +kernel
theorem dL_law_446 : decode cL_law 446 = .ok (.iconst 0, 1) := by decide +kernel
theorem dL_law_447 : decode cL_law 447 = .ok (.ireturn, 1) := by decide +kernel
theorem dL_law_448 : decode cL_law 448 = .ok (.iload 6, 2) := by decide +kernel
theorem dL_law_450 : decode cL_law 450 = .ok (.ifCond .ne 15, 3) := by decide +kernel
theorem dL_law_453 : decode cL_law 453 = .ok (.aload_n 3, 1) := by decide +kernel
theorem dL_law_454 : decode cL_law 454 = .ok (.iconst 0, 1) := by decide +kernel
theorem dL_law_455 : decode cL_law 455 = .ok (.laload, 1) := by decide +kernel
theorem dL_law_456 : decode cL_law 456 = .ok (.iload 7, 2) := by decide +kernel
theorem dL_law_458 : decode cL_law 458 = .ok (.i2l, 1) := by decide +kernel
theorem dL_law_459 : decode cL_law 459 = .ok (.lcmp, 1) := by decide +kernel
theorem dL_law_460 : decode cL_law 460 = .ok (.ifCond .eq 5, 3) := by decide +kernel
theorem dL_law_463 : decode cL_law 463 = .ok (.iconst 0, 1) := by decide +kernel
theorem dL_law_464 : decode cL_law 464 = .ok (.ireturn, 1) := by decide +kernel
theorem dL_law_465 : decode cL_law 465 = .ok (.goto 1976, 3) := by decide +kernel
theorem dL_law_468 : decode cL_law 468 = .ok (.aload_n 1, 1) := by decide +kernel
theorem dL_law_469 : decode cL_law 469 = .ok (.aload_n 0, 1) := by decide +kernel
theorem dL_law_470 : decode cL_law 470 = .ok (.iload 5, 2) := by decide +kernel
theorem dL_law_472 : decode cL_law 472 = .ok (.iconst 1, 1) := by decide +kernel
theorem dL_law_473 : decode cL_law 473 = .ok (.iadd, 1) := by decide +kernel
theorem dL_law_474 : decode cL_law 474 = .ok (.iaload, 1) := by decide +kernel
theorem dL_law_475 : decode cL_law 475 = .ok (.aload_n 0, 1) := by decide +kernel
theorem dL_law_476 : decode cL_law 476 = .ok (.iload 5, 2) := by decide +kernel
theorem dL_law_478 : decode cL_law 478 = .ok (.iconst 2, 1) := by decide +kernel
theorem dL_law_479 : decode cL_law 479 = .ok (.iadd, 1) := by decide +kernel
theorem dL_law_480 : decode cL_law 480 = .ok (.iaload, 1) := by decide +kernel
theorem dL_law_481 : decode cL_law 481 = .ok (.aload_n 0, 1) := by decide +kernel
theorem dL_law_482 : decode cL_law 482 = .ok (.iload 5, 2) := by decide +kernel
theorem dL_law_484 : decode cL_law 484 = .ok (.iconst 3, 1) := by decide +kernel
theorem dL_law_485 : decode cL_law 485 = .ok (.iadd, 1) := by decide +kernel
theorem dL_law_486 : decode cL_law 486 = .ok (.iaload, 1) := by decide +kernel
theorem dL_law_487 : decode cL_law 487 = .ok (.aload_n 0, 1) := by decide +kernel
theorem dL_law_488 : decode cL_law 488 = .ok (.iload 5, 2) := by decide +kernel
theorem dL_law_490 : decode cL_law 490 = .ok (.iconst 4, 1) := by decide +kernel
theorem dL_law_491 : decode cL_law 491 = .ok (.iadd, 1) := by decide +kernel
theorem dL_law_492 : decode cL_law 492 = .ok (.iaload, 1) := by decide +kernel
theorem dL_law_493 : decode cL_law 493 = .ok (.aload_n 3, 1) := by decide +kernel
theorem dL_law_494 : decode cL_law 494 = .ok (.invokestatic 154, 3) := by decide +kernel
theorem dL_law_497 : decode cL_law 497 = .ok (.istore 6, 2) := by decide +kernel
theorem dL_law_499 : decode cL_law 499 = .ok (.aload_n 2, 1) := by decide +kernel
theorem dL_law_500 : decode cL_law 500 = .ok (.aload_n 0, 1) := by decide +kernel
theorem dL_law_501 : decode cL_law 501 = .ok (.iload 5, 2) := by decide +kernel
theorem dL_law_503 : decode cL_law 503 = .ok (.iconst 1, 1) := by decide +kernel
theorem dL_law_504 : decode cL_law 504 = .ok (.iadd, 1) := by decide +kernel
theorem dL_law_505 : decode cL_law 505 = .ok (.iaload, 1) := by decide +kernel
theorem dL_law_506 : decode cL_law 506 = .ok (.aload_n 0, 1) := by decide +kernel
theorem dL_law_507 : decode cL_law 507 = .ok (.iload 5, 2) := by decide +kernel
theorem dL_law_509 : decode cL_law 509 = .ok (.iconst 2, 1) := by decide +kernel
theorem dL_law_510 : decode cL_law 510 = .ok (.iadd, 1) := by decide +kernel
theorem dL_law_511 : decode cL_law 511 = .ok (.iaload, 1) := by decide +kernel
theorem dL_law_512 : decode cL_law 512 = .ok (.aload_n 0, 1) := by decide +kernel
theorem dL_law_513 : decode cL_law 513 = .ok (.iload 5, 2) := by decide +kernel
theorem dL_law_515 : decode cL_law 515 = .ok (.iconst 3, 1) := by decide +kernel
theorem dL_law_516 : decode cL_law 516 = .ok (.iadd, 1) := by decide +kernel
theorem dL_law_517 : decode cL_law 517 = .ok (.iaload, 1) := by decide +kernel
theorem dL_law_518 : decode cL_law 518 = .ok (.aload_n 0, 1) := by decide +kernel
theorem dL_law_519 : decode cL_law 519 = .ok (.iload 5, 2) := by decide +kernel
theorem dL_law_521 : decode cL_law 521 = .ok (.iconst 4, 1) := by decide +kernel
theorem dL_law_522 : decode cL_law 522 = .ok (.iadd, 1) := by decide +kernel
theorem dL_law_523 : decode cL_law 523 = .ok (.iaload, 1) := by decide +kernel
theorem dL_law_524 : decode cL_law 524 = .ok (.invokevirtual 156, 3) := by decide +kernel
theorem dL_law_527 : decode cL_law 527 = .ok (.istore 7, 2) := by decide +kernel
theorem dL_law_529 : decode cL_law 529 = .ok (.aload_n 2, 1) := by decide +kernel
theorem dL_law_530 : decode cL_law 530 = .ok (.invokevirtual 143, 3) := by decide +kernel
theorem dL_law_533 : decode cL_law 533 = .ok (.iload 6, 2) := by decide +kernel
theorem dL_law_535 : decode cL_law 535 = .ok (.if_icmp .eq 5, 3) := by decide +kernel
theorem dL_law_538 : decode cL_law 538 = .ok (.iconst 0, 1) := by decide +kernel
theorem dL_law_539 : decode cL_law 539 = .ok (.ireturn, 1) := by decide +kernel
theorem dL_law_540 : decode cL_law 540 = .ok (.iload 6, 2) := by decide +kernel
theorem dL_law_542 : decode cL_law 542 = .ok (.ifCond .ne 15, 3) := by decide +kernel
theorem dL_law_545 : decode cL_law 545 = .ok (.aload_n 3, 1) := by decide +kernel
theorem dL_law_546 : decode cL_law 546 = .ok (.iconst 0, 1) := by decide +kernel
theorem dL_law_547 : decode cL_law 547 = .ok (.laload, 1) := by decide +kernel
theorem dL_law_548 : decode cL_law 548 = .ok (.iload 7, 2) := by decide +kernel
theorem dL_law_550 : decode cL_law 550 = .ok (.i2l, 1) := by decide +kernel
theorem dL_law_551 : decode cL_law 551 = .ok (.lcmp, 1) := by decide +kernel
theorem dL_law_552 : decode cL_law 552 = .ok (.ifCond .eq 5, 3) := by decide +kernel
theorem dL_law_555 : decode cL_law 555 = .ok (.iconst 0, 1) := by decide +kernel
theorem dL_law_556 : decode cL_law 556 = .ok (.ireturn, 1) := by decide +kernel
theorem dL_law_557 : decode cL_law 557 = .ok (.goto 1884, 3) := by decide +kernel
theorem dL_law_560 : decode cL_law 560 = .ok (.aload_n 1, 1) := by decide +kernel
theorem dL_law_561 : decode cL_law 561 = .ok (.aload_n 0, 1) := by decide +kernel
theorem dL_law_562 : decode cL_law 562 = .ok (.iload 5, 2) := by decide +kernel
theorem dL_law_564 : decode cL_law 564 = .ok (.iconst 1, 1) := by decide +kernel
theorem dL_law_565 : decode cL_law 565 = .ok (.iadd, 1) := by decide +kernel
theorem dL_law_566 : decode cL_law 566 = .ok (.iaload, 1) := by decide +kernel
theorem dL_law_567 : decode cL_law 567 = .ok (.aload_n 0, 1) := by decide +kernel
theorem dL_law_568 : decode cL_law 568 = .ok (.iload 5, 2) := by decide +kernel
theorem dL_law_570 : decode cL_law 570 = .ok (.iconst 2, 1) := by decide +kernel
theorem dL_law_571 : decode cL_law 571 = .ok (.iadd, 1) := by decide +kernel
theorem dL_law_572 : decode cL_law 572 = .ok (.iaload, 1) := by decide +kernel
theorem dL_law_573 : decode cL_law 573 = .ok (.aload_n 0, 1) := by decide +kernel
theorem dL_law_574 : decode cL_law 574 = .ok (.iload 5, 2) := by decide +kernel
theorem dL_law_576 : decode cL_law 576 = .ok (.iconst 3, 1) := by decide +kernel
theorem dL_law_577 : decode cL_law 577 = .ok (.iadd, 1) := by decide +kernel
theorem dL_law_578 : decode cL_law 578 = .ok (.iaload, 1) := by decide +kernel
theorem dL_law_579 : decode cL_law 579 = .ok (.aload_n 0, 1) := by decide +kernel
theorem dL_law_580 : decode cL_law 580 = .ok (.iload 5, 2) := by decide +kernel
theorem dL_law_582 : decode cL_law 582 = .ok (.iconst 4, 1) := by decide +kernel
theorem dL_law_583 : decode cL_law 583 = .ok (.iadd, 1) := by decide +kernel
theorem dL_law_584 : decode cL_law 584 = .ok (.iaload, 1) := by decide +kernel
theorem dL_law_585 : decode cL_law 585 = .ok (.aload_n 0, 1) := by decide +kernel
theorem dL_law_586 : decode cL_law 586 = .ok (.iload 5, 2) := by decide +kernel
theorem dL_law_588 : decode cL_law 588 = .ok (.iconst 5, 1) := by decide +kernel
theorem dL_law_589 : decode cL_law 589 = .ok (.iadd, 1) := by decide +kernel
theorem dL_law_590 : decode cL_law 590 = .ok (.iaload, 1) := by decide +kernel
theorem dL_law_591 : decode cL_law 591 = .ok (.aload_n 3, 1) := by decide +kernel
theorem dL_law_592 : decode cL_law 592 = .ok (.invokestatic 157, 3) := by decide +kernel
theorem dL_law_595 : decode cL_law 595 = .ok (.istore 6, 2) := by decide +kernel
theorem dL_law_597 : decode cL_law 597 = .ok (.aload_n 2, 1) := by decide +kernel
theorem dL_law_598 : decode cL_law 598 = .ok (.aload_n 0, 1) := by decide +kernel
theorem dL_law_599 : decode cL_law 599 = .ok (.iload 5, 2) := by decide +kernel
theorem dL_law_601 : decode cL_law 601 = .ok (.iconst 1, 1) := by decide +kernel
theorem dL_law_602 : decode cL_law 602 = .ok (.iadd, 1) := by decide +kernel
theorem dL_law_603 : decode cL_law 603 = .ok (.iaload, 1) := by decide +kernel
theorem dL_law_604 : decode cL_law 604 = .ok (.aload_n 0, 1) := by decide +kernel
theorem dL_law_605 : decode cL_law 605 = .ok (.iload 5, 2) := by decide +kernel
theorem dL_law_607 : decode cL_law 607 = .ok (.iconst 2, 1) := by decide +kernel
theorem dL_law_608 : decode cL_law 608 = .ok (.iadd, 1) := by decide +kernel
theorem dL_law_609 : decode cL_law 609 = .ok (.iaload, 1) := by decide +kernel
theorem dL_law_610 : decode cL_law 610 = .ok (.aload_n 0, 1) := by decide +kernel
theorem dL_law_611 : decode cL_law 611 = .ok (.iload 5, 2) := by decide +kernel
theorem dL_law_613 : decode cL_law 613 = .ok (.iconst 3, 1) := by decide +kernel
theorem dL_law_614 : decode cL_law 614 = .ok (.iadd, 1) := by decide +kernel
theorem dL_law_615 : decode cL_law 615 = .ok (.iaload, 1) := by decide +kernel
theorem dL_law_616 : decode cL_law 616 = .ok (.aload_n 0, 1) := by decide +kernel
theorem dL_law_617 : decode cL_law 617 = .ok (.iload 5, 2) := by decide +kernel
theorem dL_law_619 : decode cL_law 619 = .ok (.iconst 4, 1) := by decide +kernel
theorem dL_law_620 : decode cL_law 620 = .ok (.iadd, 1) := by decide +kernel
theorem dL_law_621 : decode cL_law 621 = .ok (.iaload, 1) := by decide +kernel
theorem dL_law_622 : decode cL_law 622 = .ok (.aload_n 0, 1) := by decide +kernel
theorem dL_law_623 : decode cL_law 623 = .ok (.iload 5, 2) := by decide +kernel
theorem dL_law_625 : decode cL_law 625 = .ok (.iconst 5, 1) := by decide +kernel
theorem dL_law_626 : decode cL_law 626 = .ok (.iadd, 1) := by decide +kernel
theorem dL_law_627 : decode cL_law 627 = .ok (.iaload, 1) := by decide +kernel
theorem dL_law_628 : decode cL_law 628 = .ok (.invokevirtual 160, 3) := by decide +kernel
theorem dL_law_631 : decode cL_law 631 = .ok (.istore 7, 2) := by decide +kernel
theorem dL_law_633 : decode cL_law 633 = .ok (.aload_n 2, 1) := by decide +kernel
theorem dL_law_634 : decode cL_law 634 = .ok (.invokevirtual 143, 3) := by decide +kernel
theorem dL_law_637 : decode cL_law 637 = .ok (.iload 6, 2) := by decide +kernel
theorem dL_law_639 : decode cL_law 639 = .ok (.if_icmp .eq 5, 3) := by decide +kernel
theorem dL_law_642 : decode cL_law 642 = .ok (.iconst 0, 1) := by decide +kernel
theorem dL_law_643 : decode cL_law 643 = .ok (.ireturn, 1) := by decide +kernel
theorem dL_law_644 : decode cL_law 644 = .ok (.iload 6, 2) := by decide +kernel
theorem dL_law_646 : decode cL_law 646 = .ok (.ifCond .ne 15, 3) := by decide +kernel
theorem dL_law_649 : decode cL_law 649 = .ok (.aload_n 3, 1) := by decide +kernel
theorem dL_law_650 : decode cL_law 650 = .ok (.iconst 0, 1) := by decide +kernel
theorem dL_law_651 : decode cL_law 651 = .ok (.laload, 1) := by decide +kernel
theorem dL_law_652 : decode cL_law 652 = .ok (.iload 7, 2) := by decide +kernel
theorem dL_law_654 : decode cL_law 654 = .ok (.i2l, 1) := by decide +kernel
theorem dL_law_655 : decode cL_law 655 = .ok (.lcmp, 1) := by decide +kernel
theorem dL_law_656 : decode cL_law 656 = .ok (.ifCond .eq 5, 3) := by decide +kernel
theorem dL_law_659 : decode cL_law 659 = .ok (.iconst 0, 1) := by decide +kernel
theorem dL_law_660 : decode cL_law 660 = .ok (.ireturn, 1) := by decide +kernel
theorem dL_law_661 : decode cL_law 661 = .ok (.goto 1780, 3) := by decide +kernel
theorem dL_law_664 : decode cL_law 664 = .ok (.aload_n 1, 1) := by decide +kernel
theorem dL_law_665 : decode cL_law 665 = .ok (.aload_n 0, 1) := by decide +kernel
theorem dL_law_666 : decode cL_law 666 = .ok (.iload 5, 2) := by decide +kernel
theorem dL_law_668 : decode cL_law 668 = .ok (.iconst 1, 1) := by decide +kernel
theorem dL_law_669 : decode cL_law 669 = .ok (.iadd, 1) := by decide +kernel
theorem dL_law_670 : decode cL_law 670 = .ok (.iaload, 1) := by decide +kernel
theorem dL_law_671 : decode cL_law 671 = .ok (.aload_n 3, 1) := by decide +kernel
theorem dL_law_672 : decode cL_law 672 = .ok (.invokestatic 161, 3) := by decide +kernel
theorem dL_law_675 : decode cL_law 675 = .ok (.istore 6, 2) := by decide +kernel
theorem dL_law_677 : decode cL_law 677 = .ok (.aload_n 2, 1) := by decide +kernel
theorem dL_law_678 : decode cL_law 678 = .ok (.aload_n 0, 1) := by decide +kernel
theorem dL_law_679 : decode cL_law 679 = .ok (.iload 5, 2) := by decide +kernel
theorem dL_law_681 : decode cL_law 681 = .ok (.iconst 1, 1) := by decide +kernel
theorem dL_law_682 : decode cL_law 682 = .ok (.iadd, 1) := by decide +kernel
theorem dL_law_683 : decode cL_law 683 = .ok (.iaload, 1) := by decide +kernel
theorem dL_law_684 : decode cL_law 684 = .ok (.invokevirtual 164, 3) := by decide +kernel
theorem dL_law_687 : decode cL_law 687 = .ok (.istore 7, 2) := by decide +kernel
theorem dL_law_689 : decode cL_law 689 = .ok (.aload_n 2, 1) := by decide +kernel
theorem dL_law_690 : decode cL_law 690 = .ok (.invokevirtual 143, 3) := by decide +kernel
theorem dL_law_693 : decode cL_law 693 = .ok (.iload 6, 2) := by decide +kernel
theorem dL_law_695 : decode cL_law 695 = .ok (.if_icmp .eq 5, 3) := by decide +kernel
theorem dL_law_698 : decode cL_law 698 = .ok (.iconst 0, 1) := by decide +kernel
theorem dL_law_699 : decode cL_law 699 = .ok (.ireturn, 1) := by decide +kernel
theorem dL_law_700 : decode cL_law 700 = .ok (.iload 6, 2) := by decide +kernel
theorem dL_law_702 : decode cL_law 702 = .ok (.ifCond .ne 15, 3) := by decide +kernel
theorem dL_law_705 : decode cL_law 705 = .ok (.aload_n 3, 1) := by decide +kernel
theorem dL_law_706 : decode cL_law 706 = .ok (.iconst 0, 1) := by decide +kernel
theorem dL_law_707 : decode cL_law 707 = .ok (.laload, 1) := by decide +kernel
theorem dL_law_708 : decode cL_law 708 = .ok (.iload 7, 2) := by decide +kernel
theorem dL_law_710 : decode cL_law 710 = .ok (.i2l, 1) := by decide +kernel
theorem dL_law_711 : decode cL_law 711 = .ok (.lcmp, 1) := by decide +kernel
theorem dL_law_712 : decode cL_law 712 = .ok (.ifCond .eq 5, 3) := by decide +kernel
theorem dL_law_715 : decode cL_law 715 = .ok (.iconst 0, 1) := by decide +kernel
theorem dL_law_716 : decode cL_law 716 = .ok (.ireturn, 1) := by decide +kernel
theorem dL_law_717 : decode cL_law 717 = .ok (.goto 1724, 3) := by decide +kernel
theorem dL_law_720 : decode cL_law 720 = .ok (.aload_n 1, 1) := by decide +kernel
theorem dL_law_721 : decode cL_law 721 = .ok (.aload_n 0, 1) := by decide +kernel
theorem dL_law_722 : decode cL_law 722 = .ok (.iload 5, 2) := by decide +kernel
theorem dL_law_724 : decode cL_law 724 = .ok (.iconst 1, 1) := by decide +kernel
theorem dL_law_725 : decode cL_law 725 = .ok (.iadd, 1) := by decide +kernel
theorem dL_law_726 : decode cL_law 726 = .ok (.iaload, 1) := by decide +kernel
theorem dL_law_727 : decode cL_law 727 = .ok (.aload_n 0, 1) := by decide +kernel
theorem dL_law_728 : decode cL_law 728 = .ok (.iload 5, 2) := by decide +kernel
theorem dL_law_730 : decode cL_law 730 = .ok (.iconst 2, 1) := by decide +kernel
theorem dL_law_731 : decode cL_law 731 = .ok (.iadd, 1) := by decide +kernel
theorem dL_law_732 : decode cL_law 732 = .ok (.iaload, 1) := by decide +kernel
theorem dL_law_733 : decode cL_law 733 = .ok (.ifCond .eq 7, 3) := by decide +kernel
theorem dL_law_736 : decode cL_law 736 = .ok (.iconst 1, 1) := by decide +kernel
theorem dL_law_737 : decode cL_law 737 = .ok (.goto 4, 3) := by decide +kernel
theorem dL_law_740 : decode cL_law 740 = .ok (.iconst 0, 1) := by decide +kernel
theorem dL_law_741 : decode cL_law 741 = .ok (.aload_n 3, 1) := by decide +kernel
theorem dL_law_742 : decode cL_law 742 = .ok (.invokestatic 165, 3) := by decide +kernel
theorem dL_law_745 : decode cL_law 745 = .ok (.istore 6, 2) := by decide +kernel
theorem dL_law_747 : decode cL_law 747 = .ok (.aload_n 2, 1) := by decide +kernel
theorem dL_law_748 : decode cL_law 748 = .ok (.aload_n 0, 1) := by decide +kernel
theorem dL_law_749 : decode cL_law 749 = .ok (.iload 5, 2) := by decide +kernel
theorem dL_law_751 : decode cL_law 751 = .ok (.iconst 1, 1) := by decide +kernel
theorem dL_law_752 : decode cL_law 752 = .ok (.iadd, 1) := by decide +kernel
theorem dL_law_753 : decode cL_law 753 = .ok (.iaload, 1) := by decide +kernel
theorem dL_law_754 : decode cL_law 754 = .ok (.aload_n 0, 1) := by decide +kernel
theorem dL_law_755 : decode cL_law 755 = .ok (.iload 5, 2) := by decide +kernel
theorem dL_law_757 : decode cL_law 757 = .ok (.iconst 2, 1) := by decide +kernel
theorem dL_law_758 : decode cL_law 758 = .ok (.iadd, 1) := by decide +kernel
theorem dL_law_759 : decode cL_law 759 = .ok (.iaload, 1) := by decide +kernel
theorem dL_law_760 : decode cL_law 760 = .ok (.ifCond .eq 7, 3) := by decide +kernel
theorem dL_law_763 : decode cL_law 763 = .ok (.iconst 1, 1) := by decide +kernel
theorem dL_law_764 : decode cL_law 764 = .ok (.goto 4, 3) := by decide +kernel
theorem dL_law_767 : decode cL_law 767 = .ok (.iconst 0, 1) := by decide +kernel
theorem dL_law_768 : decode cL_law 768 = .ok (.invokevirtual 168, 3) := by decide +kernel
theorem dL_law_771 : decode cL_law 771 = .ok (.istore 7, 2) := by decide +kernel
theorem dL_law_773 : decode cL_law 773 = .ok (.aload_n 2, 1) := by decide +kernel
theorem dL_law_774 : decode cL_law 774 = .ok (.invokevirtual 143, 3) := by decide +kernel
theorem dL_law_777 : decode cL_law 777 = .ok (.iload 6, 2) := by decide +kernel
theorem dL_law_779 : decode cL_law 779 = .ok (.if_icmp .eq 5, 3) := by decide +kernel
theorem dL_law_782 : decode cL_law 782 = .ok (.iconst 0, 1) := by decide +kernel
theorem dL_law_783 : decode cL_law 783 = .ok (.ireturn, 1) := by decide +kernel
theorem dL_law_784 : decode cL_law 784 = .ok (.iload 6, 2) := by decide +kernel
theorem dL_law_786 : decode cL_law 786 = .ok (.ifCond .ne 15, 3) := by decide +kernel
theorem dL_law_789 : decode cL_law 789 = .ok (.aload_n 3, 1) := by decide +kernel
theorem dL_law_790 : decode cL_law 790 = .ok (.iconst 0, 1) := by decide +kernel
theorem dL_law_791 : decode cL_law 791 = .ok (.laload, 1) := by decide +kernel
theorem dL_law_792 : decode cL_law 792 = .ok (.iload 7, 2) := by decide +kernel
theorem dL_law_794 : decode cL_law 794 = .ok (.i2l, 1) := by decide +kernel
theorem dL_law_795 : decode cL_law 795 = .ok (.lcmp, 1) := by decide +kernel
theorem dL_law_796 : decode cL_law 796 = .ok (.ifCond .eq 5, 3) := by decide +kernel
theorem dL_law_799 : decode cL_law 799 = .ok (.iconst 0, 1) := by decide +kernel
theorem dL_law_800 : decode cL_law 800 = .ok (.ireturn, 1) := by decide +kernel
theorem dL_law_801 : decode cL_law 801 = .ok (.goto 1640, 3) := by decide +kernel
theorem dL_law_804 : decode cL_law 804 = .ok (.aload_n 1, 1) := by decide +kernel
theorem dL_law_805 : decode cL_law 805 = .ok (.aload_n 0, 1) := by decide +kernel
theorem dL_law_806 : decode cL_law 806 = .ok (.iload 5, 2) := by decide +kernel
theorem dL_law_808 : decode cL_law 808 = .ok (.iconst 1, 1) := by decide +kernel
theorem dL_law_809 : decode cL_law 809 = .ok (.iadd, 1) := by decide +kernel
theorem dL_law_810 : decode cL_law 810 = .ok (.iaload, 1) := by decide +kernel
theorem dL_law_811 : decode cL_law 811 = .ok (.aload_n 3, 1) := by decide +kernel
theorem dL_law_812 : decode cL_law 812 = .ok (.invokestatic 169, 3) := by decide +kernel
theorem dL_law_815 : decode cL_law 815 = .ok (.istore 6, 2) := by decide +kernel
theorem dL_law_817 : decode cL_law 817 = .ok (.aload_n 2, 1) := by decide +kernel
theorem dL_law_818 : decode cL_law 818 = .ok (.aload_n 0, 1) := by decide +kernel
theorem dL_law_819 : decode cL_law 819 = .ok (.iload 5, 2) := by decide +kernel
theorem dL_law_821 : decode cL_law 821 = .ok (.iconst 1, 1) := by decide +kernel
theorem dL_law_822 : decode cL_law 822 = .ok (.iadd, 1) := by decide +kernel
theorem dL_law_823 : decode cL_law 823 = .ok (.iaload, 1) := by decide +kernel
theorem dL_law_824 : decode cL_law 824 = .ok (.invokevirtual 171, 3) := by decide +kernel
theorem dL_law_827 : decode cL_law 827 = .ok (.istore 7, 2) := by decide +kernel
theorem dL_law_829 : decode cL_law 829 = .ok (.aload_n 2, 1) := by decide +kernel
theorem dL_law_830 : decode cL_law 830 = .ok (.invokevirtual 143, 3) := by decide +kernel
theorem dL_law_833 : decode cL_law 833 = .ok (.iload 6, 2) := by decide +kernel
theorem dL_law_835 : decode cL_law 835 = .ok (.if_icmp .eq 5, 3) := by decide +kernel
theorem dL_law_838 : decode cL_law 838 = .ok (.iconst 0, 1) := by decide +kernel
theorem dL_law_839 : decode cL_law 839 = .ok (.ireturn, 1) := by decide +kernel
theorem dL_law_840 : decode cL_law 840 = .ok (.iload 6, 2) := by decide +kernel
theorem dL_law_842 : decode cL_law 842 = .ok (.ifCond .ne 22, 3) := by decide +kernel
theorem dL_law_845 : decode cL_law 845 = .ok (.aload_n 3, 1) := by decide +kernel
theorem dL_law_846 : decode cL_law 846 = .ok (.iconst 0, 1) := by decide +kernel
theorem dL_law_847 : decode cL_law 847 = .ok (.laload, 1) := by decide +kernel
theorem dL_law_848 : decode cL_law 848 = .ok (.iload 7, 2) := by decide +kernel
theorem dL_law_850 : decode cL_law 850 = .ok (.ifCond .eq 7, 3) := by decide +kernel
theorem dL_law_853 : decode cL_law 853 = .ok (.lconst 1, 1) := by decide +kernel
theorem dL_law_854 : decode cL_law 854 = .ok (.goto 4, 3) := by decide +kernel
theorem dL_law_857 : decode cL_law 857 = .ok (.lconst 0, 1) := by decide +kernel
theorem dL_law_858 : decode cL_law 858 = .ok (.lcmp, 1) := by decide +kernel
theorem dL_law_859 : decode cL_law 859 = .ok (.ifCond .eq 5, 3) := by decide +kernel
theorem dL_law_862 : decode cL_law 862 = .ok (.iconst 0, 1) := by decide +kernel
theorem dL_law_863 : decode cL_law 863 = .ok (.ireturn, 1) := by decide +kernel
theorem dL_law_864 : decode cL_law 864 = .ok (.goto 1577, 3) := by decide +kernel
theorem dL_law_867 : decode cL_law 867 = .ok (.aload_n 1, 1) := by decide +kernel
theorem dL_law_868 : decode cL_law 868 = .ok (.aload_n 0, 1) := by decide +kernel
theorem dL_law_869 : decode cL_law 869 = .ok (.iload 5, 2) := by decide +kernel
theorem dL_law_871 : decode cL_law 871 = .ok (.iconst 1, 1) := by decide +kernel
theorem dL_law_872 : decode cL_law 872 = .ok (.iadd, 1) := by decide +kernel
theorem dL_law_873 : decode cL_law 873 = .ok (.iaload, 1) := by decide +kernel
theorem dL_law_874 : decode cL_law 874 = .ok (.aload_n 0, 1) := by decide +kernel
theorem dL_law_875 : decode cL_law 875 = .ok (.iload 5, 2) := by decide +kernel
theorem dL_law_877 : decode cL_law 877 = .ok (.iconst 2, 1) := by decide +kernel
theorem dL_law_878 : decode cL_law 878 = .ok (.iadd, 1) := by decide +kernel
theorem dL_law_879 : decode cL_law 879 = .ok (.iaload, 1) := by decide +kernel
theorem dL_law_880 : decode cL_law 880 = .ok (.aload_n 0, 1) := by decide +kernel
theorem dL_law_881 : decode cL_law 881 = .ok (.iload 5, 2) := by decide +kernel
theorem dL_law_883 : decode cL_law 883 = .ok (.iconst 3, 1) := by decide +kernel
theorem dL_law_884 : decode cL_law 884 = .ok (.iadd, 1) := by decide +kernel
theorem dL_law_885 : decode cL_law 885 = .ok (.iaload, 1) := by decide +kernel
theorem dL_law_886 : decode cL_law 886 = .ok (.aload_n 3, 1) := by decide +kernel
theorem dL_law_887 : decode cL_law 887 = .ok (.invokestatic 172, 3) := by decide +kernel
theorem dL_law_890 : decode cL_law 890 = .ok (.istore 6, 2) := by decide +kernel
theorem dL_law_892 : decode cL_law 892 = .ok (.aload_n 2, 1) := by decide +kernel
theorem dL_law_893 : decode cL_law 893 = .ok (.aload_n 0, 1) := by decide +kernel
theorem dL_law_894 : decode cL_law 894 = .ok (.iload 5, 2) := by decide +kernel
theorem dL_law_896 : decode cL_law 896 = .ok (.iconst 1, 1) := by decide +kernel
theorem dL_law_897 : decode cL_law 897 = .ok (.iadd, 1) := by decide +kernel
theorem dL_law_898 : decode cL_law 898 = .ok (.iaload, 1) := by decide +kernel
theorem dL_law_899 : decode cL_law 899 = .ok (.aload_n 0, 1) := by decide +kernel
theorem dL_law_900 : decode cL_law 900 = .ok (.iload 5, 2) := by decide +kernel
theorem dL_law_902 : decode cL_law 902 = .ok (.iconst 2, 1) := by decide +kernel
theorem dL_law_903 : decode cL_law 903 = .ok (.iadd, 1) := by decide +kernel
theorem dL_law_904 : decode cL_law 904 = .ok (.iaload, 1) := by decide +kernel
theorem dL_law_905 : decode cL_law 905 = .ok (.aload_n 0, 1) := by decide +kernel
theorem dL_law_906 : decode cL_law 906 = .ok (.iload 5, 2) := by decide +kernel
theorem dL_law_908 : decode cL_law 908 = .ok (.iconst 3, 1) := by decide +kernel
theorem dL_law_909 : decode cL_law 909 = .ok (.iadd, 1) := by decide +kernel
theorem dL_law_910 : decode cL_law 910 = .ok (.iaload, 1) := by decide +kernel
theorem dL_law_911 : decode cL_law 911 = .ok (.invokevirtual 175, 3) := by decide +kernel
theorem dL_law_914 : decode cL_law 914 = .ok (.istore 7, 2) := by decide +kernel
theorem dL_law_916 : decode cL_law 916 = .ok (.aload_n 2, 1) := by decide +kernel
theorem dL_law_917 : decode cL_law 917 = .ok (.invokevirtual 143, 3) := by decide +kernel
theorem dL_law_920 : decode cL_law 920 = .ok (.iload 6, 2) := by decide +kernel
theorem dL_law_922 : decode cL_law 922 = .ok (.if_icmp .eq 5, 3) := by decide +kernel
theorem dL_law_925 : decode cL_law 925 = .ok (.iconst 0, 1) := by decide +kernel
theorem dL_law_926 : decode cL_law 926 = .ok (.ireturn, 1) := by decide +kernel
theorem dL_law_927 : decode cL_law 927 = .ok (.iload 6, 2) := by decide +kernel
theorem dL_law_929 : decode cL_law 929 = .ok (.ifCond .ne 15, 3) := by decide +kernel
theorem dL_law_932 : decode cL_law 932 = .ok (.aload_n 3, 1) := by decide +kernel
theorem dL_law_933 : decode cL_law 933 = .ok (.iconst 0, 1) := by decide +kernel
theorem dL_law_934 : decode cL_law 934 = .ok (.laload, 1) := by decide +kernel
theorem dL_law_935 : decode cL_law 935 = .ok (.iload 7, 2) := by decide +kernel
theorem dL_law_937 : decode cL_law 937 = .ok (.i2l, 1) := by decide +kernel
theorem dL_law_938 : decode cL_law 938 = .ok (.lcmp, 1) := by decide +kernel
theorem dL_law_939 : decode cL_law 939 = .ok (.ifCond .eq 5, 3) := by decide +kernel
theorem dL_law_942 : decode cL_law 942 = .ok (.iconst 0, 1) := by decide +kernel
theorem dL_law_943 : decode cL_law 943 = .ok (.ireturn, 1) := by decide +kernel
theorem dL_law_944 : decode cL_law 944 = .ok (.goto 1497, 3) := by decide +kernel
theorem dL_law_947 : decode cL_law 947 = .ok (.aload_n 1, 1) := by decide +kernel
theorem dL_law_948 : decode cL_law 948 = .ok (.aload_n 0, 1) := by decide +kernel
theorem dL_law_949 : decode cL_law 949 = .ok (.iload 5, 2) := by decide +kernel
theorem dL_law_951 : decode cL_law 951 = .ok (.iconst 1, 1) := by decide +kernel
theorem dL_law_952 : decode cL_law 952 = .ok (.iadd, 1) := by decide +kernel
theorem dL_law_953 : decode cL_law 953 = .ok (.iaload, 1) := by decide +kernel
theorem dL_law_954 : decode cL_law 954 = .ok (.aload_n 0, 1) := by decide +kernel
theorem dL_law_955 : decode cL_law 955 = .ok (.iload 5, 2) := by decide +kernel
theorem dL_law_957 : decode cL_law 957 = .ok (.iconst 2, 1) := by decide +kernel
theorem dL_law_958 : decode cL_law 958 = .ok (.iadd, 1) := by decide +kernel
theorem dL_law_959 : decode cL_law 959 = .ok (.iaload, 1) := by decide +kernel
theorem dL_law_960 : decode cL_law 960 = .ok (.aload_n 3, 1) := by decide +kernel
theorem dL_law_961 : decode cL_law 961 = .ok (.invokestatic 176, 3) := by decide +kernel
theorem dL_law_964 : decode cL_law 964 = .ok (.istore 6, 2) := by decide +kernel
theorem dL_law_966 : decode cL_law 966 = .ok (.aload_n 2, 1) := by decide +kernel
theorem dL_law_967 : decode cL_law 967 = .ok (.aload_n 0, 1) := by decide +kernel
theorem dL_law_968 : decode cL_law 968 = .ok (.iload 5, 2) := by decide +kernel
theorem dL_law_970 : decode cL_law 970 = .ok (.iconst 1, 1) := by decide +kernel
theorem dL_law_971 : decode cL_law 971 = .ok (.iadd, 1) := by decide +kernel
theorem dL_law_972 : decode cL_law 972 = .ok (.iaload, 1) := by decide +kernel
theorem dL_law_973 : decode cL_law 973 = .ok (.aload_n 0, 1) := by decide +kernel
theorem dL_law_974 : decode cL_law 974 = .ok (.iload 5, 2) := by decide +kernel
theorem dL_law_976 : decode cL_law 976 = .ok (.iconst 2, 1) := by decide +kernel
theorem dL_law_977 : decode cL_law 977 = .ok (.iadd, 1) := by decide +kernel
theorem dL_law_978 : decode cL_law 978 = .ok (.iaload, 1) := by decide +kernel
theorem dL_law_979 : decode cL_law 979 = .ok (.invokevirtual 179, 3) := by decide +kernel
theorem dL_law_982 : decode cL_law 982 = .ok (.istore 7, 2) := by decide +kernel
theorem dL_law_984 : decode cL_law 984 = .ok (.aload_n 2, 1) := by decide +kernel
theorem dL_law_985 : decode cL_law 985 = .ok (.invokevirtual 143, 3) := by decide +kernel
theorem dL_law_988 : decode cL_law 988 = .ok (.iload 6, 2) := by decide +kernel
theorem dL_law_990 : decode cL_law 990 = .ok (.if_icmp .eq 5, 3) := by decide +kernel
theorem dL_law_993 : decode cL_law 993 = .ok (.iconst 0, 1) := by decide +kernel
theorem dL_law_994 : decode cL_law 994 = .ok (.ireturn, 1) := by decide +kernel
theorem dL_law_995 : decode cL_law 995 = .ok (.iload 6, 2) := by decide +kernel
theorem dL_law_997 : decode cL_law 997 = .ok (.ifCond .ne 22, 3) := by decide +kernel
theorem dL_law_1000 : decode cL_law 1000 = .ok (.aload_n 3, 1) := by decide +kernel
theorem dL_law_1001 : decode cL_law 1001 = .ok (.iconst 0, 1) := by decide +kernel
theorem dL_law_1002 : decode cL_law 1002 = .ok (.laload, 1) := by decide +kernel
theorem dL_law_1003 : decode cL_law 1003 = .ok (.iload 7, 2) := by decide +kernel
theorem dL_law_1005 : decode cL_law 1005 = .ok (.ifCond .eq 7, 3) := by decide +kernel
theorem dL_law_1008 : decode cL_law 1008 = .ok (.lconst 1, 1) := by decide +kernel
theorem dL_law_1009 : decode cL_law 1009 = .ok (.goto 4, 3) := by decide +kernel
theorem dL_law_1012 : decode cL_law 1012 = .ok (.lconst 0, 1) := by decide +kernel
theorem dL_law_1013 : decode cL_law 1013 = .ok (.lcmp, 1) := by decide +kernel
theorem dL_law_1014 : decode cL_law 1014 = .ok (.ifCond .eq 5, 3) := by decide +kernel
theorem dL_law_1017 : decode cL_law 1017 = .ok (.iconst 0, 1) := by decide +kernel
theorem dL_law_1018 : decode cL_law 1018 = .ok (.ireturn, 1) := by decide +kernel
theorem dL_law_1019 : decode cL_law 1019 = .ok (.goto 1422, 3) := by decide +kernel
theorem dL_law_1022 : decode cL_law 1022 = .ok (.aload_n 1, 1) := by decide +kernel
theorem dL_law_1023 : decode cL_law 1023 = .ok (.invokevirtual 180, 3) := by decide +kernel
theorem dL_law_1026 : decode cL_law 1026 = .ok (.aload_n 2, 1) := by decide +kernel
theorem dL_law_1027 : decode cL_law 1027 = .ok (.invokevirtual 183, 3) := by decide +kernel
theorem dL_law_1030 : decode cL_law 1030 = .ok (.if_icmp .eq 1411, 3) := by decide +kernel
theorem dL_law_1033 : decode cL_law 1033 = .ok (.iconst 0, 1) := by decide +kernel
theorem dL_law_1034 : decode cL_law 1034 = .ok (.ireturn, 1) := by decide +kernel
theorem dL_law_1035 : decode cL_law 1035 = .ok (.aload_n 1, 1) := by decide +kernel
theorem dL_law_1036 : decode cL_law 1036 = .ok (.aload_n 0, 1) := by decide +kernel
theorem dL_law_1037 : decode cL_law 1037 = .ok (.iload 5, 2) := by decide +kernel
theorem dL_law_1039 : decode cL_law 1039 = .ok (.iconst 1, 1) := by decide +kernel
theorem dL_law_1040 : decode cL_law 1040 = .ok (.iadd, 1) := by decide +kernel
theorem dL_law_1041 : decode cL_law 1041 = .ok (.iaload, 1) := by decide +kernel
theorem dL_law_1042 : decode cL_law 1042 = .ok (.aload_n 3, 1) := by decide +kernel
theorem dL_law_1043 : decode cL_law 1043 = .ok (.invokestatic 184, 3) := by decide +kernel
theorem dL_law_1046 : decode cL_law 1046 = .ok (.istore 6, 2) := by decide +kernel
theorem dL_law_1048 : decode cL_law 1048 = .ok (.aload_n 2, 1) := by decide +kernel
theorem dL_law_1049 : decode cL_law 1049 = .ok (.aload_n 0, 1) := by decide +kernel
theorem dL_law_1050 : decode cL_law 1050 = .ok (.iload 5, 2) := by decide +kernel
theorem dL_law_1052 : decode cL_law 1052 = .ok (.iconst 1, 1) := by decide +kernel
theorem dL_law_1053 : decode cL_law 1053 = .ok (.iadd, 1) := by decide +kernel
theorem dL_law_1054 : decode cL_law 1054 = .ok (.iaload, 1) := by decide +kernel
theorem dL_law_1055 : decode cL_law 1055 = .ok (.invokevirtual 186, 3) := by decide +kernel
theorem dL_law_1058 : decode cL_law 1058 = .ok (.istore 7, 2) := by decide +kernel
theorem dL_law_1060 : decode cL_law 1060 = .ok (.aload_n 2, 1) := by decide +kernel
theorem dL_law_1061 : decode cL_law 1061 = .ok (.invokevirtual 143, 3) := by decide +kernel
theorem dL_law_1064 : decode cL_law 1064 = .ok (.iload 6, 2) := by decide +kernel
theorem dL_law_1066 : decode cL_law 1066 = .ok (.if_icmp .eq 5, 3) := by decide +kernel
theorem dL_law_1069 : decode cL_law 1069 = .ok (.iconst 0, 1) := by decide +kernel
theorem dL_law_1070 : decode cL_law 1070 = .ok (.ireturn, 1) := by decide +kernel
theorem dL_law_1071 : decode cL_law 1071 = .ok (.iload 6, 2) := by decide +kernel
theorem dL_law_1073 : decode cL_law 1073 = .ok (.ifCond .ne 15, 3) := by decide +kernel
theorem dL_law_1076 : decode cL_law 1076 = .ok (.aload_n 3, 1) := by decide +kernel
theorem dL_law_1077 : decode cL_law 1077 = .ok (.iconst 0, 1) := by decide +kernel
theorem dL_law_1078 : decode cL_law 1078 = .ok (.laload, 1) := by decide +kernel
theorem dL_law_1079 : decode cL_law 1079 = .ok (.iload 7, 2) := by decide +kernel
theorem dL_law_1081 : decode cL_law 1081 = .ok (.i2l, 1) := by decide +kernel
theorem dL_law_1082 : decode cL_law 1082 = .ok (.lcmp, 1) := by decide +kernel
theorem dL_law_1083 : decode cL_law 1083 = .ok (.ifCond .eq 5, 3) := by decide +kernel
theorem dL_law_1086 : decode cL_law 1086 = .ok (.iconst 0, 1) := by decide +kernel
theorem dL_law_1087 : decode cL_law 1087 = .ok (.ireturn, 1) := by decide +kernel
theorem dL_law_1088 : decode cL_law 1088 = .ok (.goto 1353, 3) := by decide +kernel
theorem dL_law_1091 : decode cL_law 1091 = .ok (.aload_n 1, 1) := by decide +kernel
theorem dL_law_1092 : decode cL_law 1092 = .ok (.aload_n 0, 1) := by decide +kernel
theorem dL_law_1093 : decode cL_law 1093 = .ok (.iload 5, 2) := by decide +kernel
theorem dL_law_1095 : decode cL_law 1095 = .ok (.iconst 1, 1) := by decide +kernel
theorem dL_law_1096 : decode cL_law 1096 = .ok (.iadd, 1) := by decide +kernel
theorem dL_law_1097 : decode cL_law 1097 = .ok (.iaload, 1) := by decide +kernel
theorem dL_law_1098 : decode cL_law 1098 = .ok (.aload_n 3, 1) := by decide +kernel
theorem dL_law_1099 : decode cL_law 1099 = .ok (.invokestatic 187, 3) := by decide +kernel
theorem dL_law_1102 : decode cL_law 1102 = .ok (.istore 6, 2) := by decide +kernel
theorem dL_law_1104 : decode cL_law 1104 = .ok (.aload_n 2, 1) := by decide +kernel
theorem dL_law_1105 : decode cL_law 1105 = .ok (.aload_n 0, 1) := by decide +kernel
theorem dL_law_1106 : decode cL_law 1106 = .ok (.iload 5, 2) := by decide +kernel
theorem dL_law_1108 : decode cL_law 1108 = .ok (.iconst 1, 1) := by decide +kernel
theorem dL_law_1109 : decode cL_law 1109 = .ok (.iadd, 1) := by decide +kernel
theorem dL_law_1110 : decode cL_law 1110 = .ok (.iaload, 1) := by decide +kernel
theorem dL_law_1111 : decode cL_law 1111 = .ok (.invokevirtual 189, 3) := by decide +kernel
theorem dL_law_1114 : decode cL_law 1114 = .ok (.istore 7, 2) := by decide +kernel
theorem dL_law_1116 : decode cL_law 1116 = .ok (.aload_n 2, 1) := by decide +kernel
theorem dL_law_1117 : decode cL_law 1117 = .ok (.invokevirtual 143, 3) := by decide +kernel
theorem dL_law_1120 : decode cL_law 1120 = .ok (.iload 6, 2) := by decide +kernel
theorem dL_law_1122 : decode cL_law 1122 = .ok (.if_icmp .eq 5, 3) := by decide +kernel
theorem dL_law_1125 : decode cL_law 1125 = .ok (.iconst 0, 1) := by decide +kernel
theorem dL_law_1126 : decode cL_law 1126 = .ok (.ireturn, 1) := by decide +kernel
theorem dL_law_1127 : decode cL_law 1127 = .ok (.iload 6, 2) := by decide +kernel
theorem dL_law_1129 : decode cL_law 1129 = .ok (.ifCond .ne 15, 3) := by decide +kernel
theorem dL_law_1132 : decode cL_law 1132 = .ok (.aload_n 3, 1) := by decide +kernel
theorem dL_law_1133 : decode cL_law 1133 = .ok (.iconst 0, 1) := by decide +kernel
theorem dL_law_1134 : decode cL_law 1134 = .ok (.laload, 1) := by decide +kernel
theorem dL_law_1135 : decode cL_law 1135 = .ok (.iload 7, 2) := by decide +kernel
theorem dL_law_1137 : decode cL_law 1137 = .ok (.i2l, 1) := by decide +kernel
theorem dL_law_1138 : decode cL_law 1138 = .ok (.lcmp, 1) := by decide +kernel
theorem dL_law_1139 : decode cL_law 1139 = .ok (.ifCond .eq 5, 3) := by decide +kernel
theorem dL_law_1142 : decode cL_law 1142 = .ok (.iconst 0, 1) := by decide +kernel
theorem dL_law_1143 : decode cL_law 1143 = .ok (.ireturn, 1) := by decide +kernel
theorem dL_law_1144 : decode cL_law 1144 = .ok (.goto 1297, 3) := by decide +kernel
theorem dL_law_1147 : decode cL_law 1147 = .ok (.aload_n 1, 1) := by decide +kernel
theorem dL_law_1148 : decode cL_law 1148 = .ok (.aload_n 0, 1) := by decide +kernel
theorem dL_law_1149 : decode cL_law 1149 = .ok (.iload 5, 2) := by decide +kernel
theorem dL_law_1151 : decode cL_law 1151 = .ok (.iconst 1, 1) := by decide +kernel
theorem dL_law_1152 : decode cL_law 1152 = .ok (.iadd, 1) := by decide +kernel
theorem dL_law_1153 : decode cL_law 1153 = .ok (.iaload, 1) := by decide +kernel
theorem dL_law_1154 : decode cL_law 1154 = .ok (.aload_n 3, 1) := by decide +kernel
theorem dL_law_1155 : decode cL_law 1155 = .ok (.invokestatic 190, 3) := by decide +kernel
theorem dL_law_1158 : decode cL_law 1158 = .ok (.istore 6, 2) := by decide +kernel
theorem dL_law_1160 : decode cL_law 1160 = .ok (.aload_n 2, 1) := by decide +kernel
theorem dL_law_1161 : decode cL_law 1161 = .ok (.aload_n 0, 1) := by decide +kernel
theorem dL_law_1162 : decode cL_law 1162 = .ok (.iload 5, 2) := by decide +kernel
theorem dL_law_1164 : decode cL_law 1164 = .ok (.iconst 1, 1) := by decide +kernel
theorem dL_law_1165 : decode cL_law 1165 = .ok (.iadd, 1) := by decide +kernel
theorem dL_law_1166 : decode cL_law 1166 = .ok (.iaload, 1) := by decide +kernel
theorem dL_law_1167 : decode cL_law 1167 = .ok (.invokevirtual 192, 3) := by decide +kernel
theorem dL_law_1170 : decode cL_law 1170 = .ok (.istore 7, 2) := by decide +kernel
theorem dL_law_1172 : decode cL_law 1172 = .ok (.aload_n 2, 1) := by decide +kernel
theorem dL_law_1173 : decode cL_law 1173 = .ok (.invokevirtual 143, 3) := by decide +kernel
theorem dL_law_1176 : decode cL_law 1176 = .ok (.iload 6, 2) := by decide +kernel
theorem dL_law_1178 : decode cL_law 1178 = .ok (.if_icmp .eq 5, 3) := by decide +kernel
theorem dL_law_1181 : decode cL_law 1181 = .ok (.iconst 0, 1) := by decide +kernel
theorem dL_law_1182 : decode cL_law 1182 = .ok (.ireturn, 1) := by decide +kernel
theorem dL_law_1183 : decode cL_law 1183 = .ok (.iload 6, 2) := by decide +kernel
theorem dL_law_1185 : decode cL_law 1185 = .ok (.ifCond .ne 15, 3) := by decide +kernel
theorem dL_law_1188 : decode cL_law 1188 = .ok (.aload_n 3, 1) := by decide +kernel
theorem dL_law_1189 : decode cL_law 1189 = .ok (.iconst 0, 1) := by decide +kernel
theorem dL_law_1190 : decode cL_law 1190 = .ok (.laload, 1) := by decide +kernel
theorem dL_law_1191 : decode cL_law 1191 = .ok (.iload 7, 2) := by decide +kernel
theorem dL_law_1193 : decode cL_law 1193 = .ok (.i2l, 1) := by decide +kernel
theorem dL_law_1194 : decode cL_law 1194 = .ok (.lcmp, 1) := by decide +kernel
theorem dL_law_1195 : decode cL_law 1195 = .ok (.ifCond .eq 5, 3) := by decide +kernel
theorem dL_law_1198 : decode cL_law 1198 = .ok (.iconst 0, 1) := by decide +kernel
theorem dL_law_1199 : decode cL_law 1199 = .ok (.ireturn, 1) := by decide +kernel
theorem dL_law_1200 : decode cL_law 1200 = .ok (.goto 1241, 3) := by decide +kernel
theorem dL_law_1203 : decode cL_law 1203 = .ok (.aload_n 1, 1) := by decide +kernel
theorem dL_law_1204 : decode cL_law 1204 = .ok (.aload_n 0, 1) := by decide +kernel
theorem dL_law_1205 : decode cL_law 1205 = .ok (.iload 5, 2) := by decide +kernel
theorem dL_law_1207 : decode cL_law 1207 = .ok (.iconst 1, 1) := by decide +kernel
theorem dL_law_1208 : decode cL_law 1208 = .ok (.iadd, 1) := by decide +kernel
theorem dL_law_1209 : decode cL_law 1209 = .ok (.iaload, 1) := by decide +kernel
theorem dL_law_1210 : decode cL_law 1210 = .ok (.aload_n 3, 1) := by decide +kernel
theorem dL_law_1211 : decode cL_law 1211 = .ok (.invokestatic 193, 3) := by decide +kernel
theorem dL_law_1214 : decode cL_law 1214 = .ok (.istore 6, 2) := by decide +kernel
theorem dL_law_1216 : decode cL_law 1216 = .ok (.aload_n 2, 1) := by decide +kernel
theorem dL_law_1217 : decode cL_law 1217 = .ok (.aload_n 0, 1) := by decide +kernel
theorem dL_law_1218 : decode cL_law 1218 = .ok (.iload 5, 2) := by decide +kernel
theorem dL_law_1220 : decode cL_law 1220 = .ok (.iconst 1, 1) := by decide +kernel
theorem dL_law_1221 : decode cL_law 1221 = .ok (.iadd, 1) := by decide +kernel
theorem dL_law_1222 : decode cL_law 1222 = .ok (.iaload, 1) := by decide +kernel
theorem dL_law_1223 : decode cL_law 1223 = .ok (.invokevirtual 195, 3) := by decide +kernel
theorem dL_law_1226 : decode cL_law 1226 = .ok (.lstore 7, 2) := by decide +kernel
theorem dL_law_1228 : decode cL_law 1228 = .ok (.aload_n 2, 1) := by decide +kernel
theorem dL_law_1229 : decode cL_law 1229 = .ok (.invokevirtual 143, 3) := by decide +kernel
theorem dL_law_1232 : decode cL_law 1232 = .ok (.iload 6, 2) := by decide +kernel
theorem dL_law_1234 : decode cL_law 1234 = .ok (.if_icmp .eq 5, 3) := by decide +kernel
theorem dL_law_1237 : decode cL_law 1237 = .ok (.iconst 0, 1) := by decide +kernel
theorem dL_law_1238 : decode cL_law 1238 = .ok (.ireturn, 1) := by decide +kernel
theorem dL_law_1239 : decode cL_law 1239 = .ok (.iload 6, 2) := by decide +kernel
theorem dL_law_1241 : decode cL_law 1241 = .ok (.ifCond .ne 14, 3) := by decide +kernel
theorem dL_law_1244 : decode cL_law 1244 = .ok (.aload_n 3, 1) := by decide +kernel
theorem dL_law_1245 : decode cL_law 1245 = .ok (.iconst 0, 1) := by decide +kernel
theorem dL_law_1246 : decode cL_law 1246 = .ok (.laload, 1) := by decide +kernel
theorem dL_law_1247 : decode cL_law 1247 = .ok (.lload 7, 2) := by decide +kernel
theorem dL_law_1249 : decode cL_law 1249 = .ok (.lcmp, 1) := by decide +kernel
theorem dL_law_1250 : decode cL_law 1250 = .ok (.ifCond .eq 5, 3) := by decide +kernel
theorem dL_law_1253 : decode cL_law 1253 = .ok (.iconst 0, 1) := by decide +kernel
theorem dL_law_1254 : decode cL_law 1254 = .ok (.ireturn, 1) := by decide +kernel
theorem dL_law_1255 : decode cL_law 1255 = .ok (.goto 1186, 3) := by decide +kernel
theorem dL_law_1258 : decode cL_law 1258 = .ok (.aload_n 1, 1) := by decide +kernel
theorem dL_law_1259 : decode cL_law 1259 = .ok (.aload_n 0, 1) := by decide +kernel
theorem dL_law_1260 : decode cL_law 1260 = .ok (.iload 5, 2) := by decide +kernel
theorem dL_law_1262 : decode cL_law 1262 = .ok (.iconst 1, 1) := by decide +kernel
theorem dL_law_1263 : decode cL_law 1263 = .ok (.iadd, 1) := by decide +kernel
theorem dL_law_1264 : decode cL_law 1264 = .ok (.iaload, 1) := by decide +kernel
theorem dL_law_1265 : decode cL_law 1265 = .ok (.aload_n 0, 1) := by decide +kernel
theorem dL_law_1266 : decode cL_law 1266 = .ok (.iload 5, 2) := by decide +kernel
theorem dL_law_1268 : decode cL_law 1268 = .ok (.iconst 2, 1) := by decide +kernel
theorem dL_law_1269 : decode cL_law 1269 = .ok (.iadd, 1) := by decide +kernel
theorem dL_law_1270 : decode cL_law 1270 = .ok (.iaload, 1) := by decide +kernel
theorem dL_law_1271 : decode cL_law 1271 = .ok (.aload_n 0, 1) := by decide +kernel
theorem dL_law_1272 : decode cL_law 1272 = .ok (.iload 5, 2) := by decide +kernel
theorem dL_law_1274 : decode cL_law 1274 = .ok (.iconst 3, 1) := by decide +kernel
theorem dL_law_1275 : decode cL_law 1275 = .ok (.iadd, 1) := by decide +kernel
theorem dL_law_1276 : decode cL_law 1276 = .ok (.iaload, 1) := by decide +kernel
theorem dL_law_1277 : decode cL_law 1277 = .ok (.aload_n 0, 1) := by decide +kernel
theorem dL_law_1278 : decode cL_law 1278 = .ok (.iload 5, 2) := by decide +kernel
theorem dL_law_1280 : decode cL_law 1280 = .ok (.iconst 4, 1) := by decide +kernel
theorem dL_law_1281 : decode cL_law 1281 = .ok (.iadd, 1) := by decide +kernel
theorem dL_law_1282 : decode cL_law 1282 = .ok (.iaload, 1) := by decide +kernel
theorem dL_law_1283 : decode cL_law 1283 = .ok (.aload_n 3, 1) := by decide +kernel
theorem dL_law_1284 : decode cL_law 1284 = .ok (.invokestatic 196, 3) := by decide +kernel
theorem dL_law_1287 : decode cL_law 1287 = .ok (.istore 6, 2) := by decide +kernel
theorem dL_law_1289 : decode cL_law 1289 = .ok (.aload_n 2, 1) := by decide +kernel
theorem dL_law_1290 : decode cL_law 1290 = .ok (.aload_n 0, 1) := by decide +kernel
theorem dL_law_1291 : decode cL_law 1291 = .ok (.iload 5, 2) := by decide +kernel
theorem dL_law_1293 : decode cL_law 1293 = .ok (.iconst 1, 1) := by decide +kernel
theorem dL_law_1294 : decode cL_law 1294 = .ok (.iadd, 1) := by decide +kernel
theorem dL_law_1295 : decode cL_law 1295 = .ok (.iaload, 1) := by decide +kernel
theorem dL_law_1296 : decode cL_law 1296 = .ok (.aload_n 0, 1) := by decide +kernel
theorem dL_law_1297 : decode cL_law 1297 = .ok (.iload 5, 2) := by decide +kernel
theorem dL_law_1299 : decode cL_law 1299 = .ok (.iconst 2, 1) := by decide +kernel
theorem dL_law_1300 : decode cL_law 1300 = .ok (.iadd, 1) := by decide +kernel
theorem dL_law_1301 : decode cL_law 1301 = .ok (.iaload, 1) := by decide +kernel
theorem dL_law_1302 : decode cL_law 1302 = .ok (.aload_n 0, 1) := by decide +kernel
theorem dL_law_1303 : decode cL_law 1303 = .ok (.iload 5, 2) := by decide +kernel
theorem dL_law_1305 : decode cL_law 1305 = .ok (.iconst 3, 1) := by decide +kernel
theorem dL_law_1306 : decode cL_law 1306 = .ok (.iadd, 1) := by decide +kernel
theorem dL_law_1307 : decode cL_law 1307 = .ok (.iaload, 1) := by decide +kernel
theorem dL_law_1308 : decode cL_law 1308 = .ok (.aload_n 0, 1) := by decide +kernel
theorem dL_law_1309 : decode cL_law 1309 = .ok (.iload 5, 2) := by decide +kernel
theorem dL_law_1311 : decode cL_law 1311 = .ok (.iconst 4, 1) := by decide +kernel
theorem dL_law_1312 : decode cL_law 1312 = .ok (.iadd, 1) := by decide +kernel
theorem dL_law_1313 : decode cL_law 1313 = .ok (.iaload, 1) := by decide +kernel
theorem dL_law_1314 : decode cL_law 1314 = .ok (.invokevirtual 198, 3) := by decide +kernel
theorem dL_law_1317 : decode cL_law 1317 = .ok (.istore 7, 2) := by decide +kernel
theorem dL_law_1319 : decode cL_law 1319 = .ok (.aload_n 2, 1) := by decide +kernel
theorem dL_law_1320 : decode cL_law 1320 = .ok (.invokevirtual 143, 3) := by decide +kernel
theorem dL_law_1323 : decode cL_law 1323 = .ok (.iload 6, 2) := by decide +kernel
theorem dL_law_1325 : decode cL_law 1325 = .ok (.if_icmp .eq 5, 3) := by decide +kernel
theorem dL_law_1328 : decode cL_law 1328 = .ok (.iconst 0, 1) := by decide +kernel
theorem dL_law_1329 : decode cL_law 1329 = .ok (.ireturn, 1) := by decide +kernel
theorem dL_law_1330 : decode cL_law 1330 = .ok (.iload 6, 2) := by decide +kernel
theorem dL_law_1332 : decode cL_law 1332 = .ok (.ifCond .ne 15, 3) := by decide +kernel
theorem dL_law_1335 : decode cL_law 1335 = .ok (.aload_n 3, 1) := by decide +kernel
theorem dL_law_1336 : decode cL_law 1336 = .ok (.iconst 0, 1) := by decide +kernel
theorem dL_law_1337 : decode cL_law 1337 = .ok (.laload, 1) := by decide +kernel
theorem dL_law_1338 : decode cL_law 1338 = .ok (.iload 7, 2) := by decide +kernel
theorem dL_law_1340 : decode cL_law 1340 = .ok (.i2l, 1) := by decide +kernel
theorem dL_law_1341 : decode cL_law 1341 = .ok (.lcmp, 1) := by decide +kernel
theorem dL_law_1342 : decode cL_law 1342 = .ok (.ifCond .eq 5, 3) := by decide +kernel
theorem dL_law_1345 : decode cL_law 1345 = .ok (.iconst 0, 1) := by decide +kernel
theorem dL_law_1346 : decode cL_law 1346 = .ok (.ireturn, 1) := by decide +kernel
theorem dL_law_1347 : decode cL_law 1347 = .ok (.goto 1094, 3) := by decide +kernel
theorem dL_law_1350 : decode cL_law 1350 = .ok (.aload_n 1, 1) := by decide +kernel
theorem dL_law_1351 : decode cL_law 1351 = .ok (.aload_n 0, 1) := by decide +kernel
theorem dL_law_1352 : decode cL_law 1352 = .ok (.iload 5, 2) := by decide +kernel
theorem dL_law_1354 : decode cL_law 1354 = .ok (.iconst 1, 1) := by decide +kernel
theorem dL_law_1355 : decode cL_law 1355 = .ok (.iadd, 1) := by decide +kernel
theorem dL_law_1356 : decode cL_law 1356 = .ok (.iaload, 1) := by decide +kernel
theorem dL_law_1357 : decode cL_law 1357 = .ok (.aload_n 3, 1) := by decide +kernel
theorem dL_law_1358 : decode cL_law 1358 = .ok (.invokestatic 199, 3) := by decide +kernel
theorem dL_law_1361 : decode cL_law 1361 = .ok (.istore 6, 2) := by decide +kernel
theorem dL_law_1363 : decode cL_law 1363 = .ok (.aload_n 2, 1) := by decide +kernel
theorem dL_law_1364 : decode cL_law 1364 = .ok (.aload_n 0, 1) := by decide +kernel
theorem dL_law_1365 : decode cL_law 1365 = .ok (.iload 5, 2) := by decide +kernel
theorem dL_law_1367 : decode cL_law 1367 = .ok (.iconst 1, 1) := by decide +kernel
theorem dL_law_1368 : decode cL_law 1368 = .ok (.iadd, 1) := by decide +kernel
theorem dL_law_1369 : decode cL_law 1369 = .ok (.iaload, 1) := by decide +kernel
theorem dL_law_1370 : decode cL_law 1370 = .ok (.invokevirtual 201, 3) := by decide +kernel
theorem dL_law_1373 : decode cL_law 1373 = .ok (.istore 7, 2) := by decide +kernel
theorem dL_law_1375 : decode cL_law 1375 = .ok (.aload_n 2, 1) := by decide +kernel
theorem dL_law_1376 : decode cL_law 1376 = .ok (.invokevirtual 143, 3) := by decide +kernel
theorem dL_law_1379 : decode cL_law 1379 = .ok (.iload 6, 2) := by decide +kernel
theorem dL_law_1381 : decode cL_law 1381 = .ok (.if_icmp .eq 5, 3) := by decide +kernel
theorem dL_law_1384 : decode cL_law 1384 = .ok (.iconst 0, 1) := by decide +kernel
theorem dL_law_1385 : decode cL_law 1385 = .ok (.ireturn, 1) := by decide +kernel
theorem dL_law_1386 : decode cL_law 1386 = .ok (.iload 6, 2) := by decide +kernel
theorem dL_law_1388 : decode cL_law 1388 = .ok (.ifCond .ne 22, 3) := by decide +kernel
theorem dL_law_1391 : decode cL_law 1391 = .ok (.aload_n 3, 1) := by decide +kernel
theorem dL_law_1392 : decode cL_law 1392 = .ok (.iconst 0, 1) := by decide +kernel
theorem dL_law_1393 : decode cL_law 1393 = .ok (.laload, 1) := by decide +kernel
theorem dL_law_1394 : decode cL_law 1394 = .ok (.iload 7, 2) := by decide +kernel
theorem dL_law_1396 : decode cL_law 1396 = .ok (.ifCond .eq 7, 3) := by decide +kernel
theorem dL_law_1399 : decode cL_law 1399 = .ok (.lconst 1, 1) := by decide +kernel
theorem dL_law_1400 : decode cL_law 1400 = .ok (.goto 4, 3) := by decide +kernel
theorem dL_law_1403 : decode cL_law 1403 = .ok (.lconst 0, 1) := by decide +kernel
theorem dL_law_1404 : decode cL_law 1404 = .ok (.lcmp, 1) := by decide +kernel
theorem dL_law_1405 : decode cL_law 1405 = .ok (.ifCond .eq 5, 3) := by decide +kernel
theorem dL_law_1408 : decode cL_law 1408 = .ok (.iconst 0, 1) := by decide +kernel
theorem dL_law_1409 : decode cL_law 1409 = .ok (.ireturn, 1) := by decide +kernel
theorem dL_law_1410 : decode cL_law 1410 = .ok (.goto 1031, 3) := by decide +kernel
theorem dL_law_1413 : decode cL_law 1413 = .ok (.aload_n 1, 1) := by decide +kernel
theorem dL_law_1414 : decode cL_law 1414 = .ok (.aload_n 0, 1) := by decide +kernel
theorem dL_law_1415 : decode cL_law 1415 = .ok (.iload 5, 2) := by decide +kernel
theorem dL_law_1417 : decode cL_law 1417 = .ok (.iconst 1, 1) := by decide +kernel
theorem dL_law_1418 : decode cL_law 1418 = .ok (.iadd, 1) := by decide +kernel
theorem dL_law_1419 : decode cL_law 1419 = .ok (.iaload, 1) := by decide +kernel
theorem dL_law_1420 : decode cL_law 1420 = .ok (.aload_n 3, 1) := by decide +kernel
theorem dL_law_1421 : decode cL_law 1421 = .ok (.invokestatic 202, 3) := by decide +kernel
theorem dL_law_1424 : decode cL_law 1424 = .ok (.istore 6, 2) := by decide +kernel
theorem dL_law_1426 : decode cL_law 1426 = .ok (.aload_n 2, 1) := by decide +kernel
theorem dL_law_1427 : decode cL_law 1427 = .ok (.aload_n 0, 1) := by decide +kernel
theorem dL_law_1428 : decode cL_law 1428 = .ok (.iload 5, 2) := by decide +kernel
theorem dL_law_1430 : decode cL_law 1430 = .ok (.iconst 1, 1) := by decide +kernel
theorem dL_law_1431 : decode cL_law 1431 = .ok (.iadd, 1) := by decide +kernel
theorem dL_law_1432 : decode cL_law 1432 = .ok (.iaload, 1) := by decide +kernel
theorem dL_law_1433 : decode cL_law 1433 = .ok (.invokevirtual 204, 3) := by decide +kernel
theorem dL_law_1436 : decode cL_law 1436 = .ok (.istore 7, 2) := by decide +kernel
theorem dL_law_1438 : decode cL_law 1438 = .ok (.aload_n 2, 1) := by decide +kernel
theorem dL_law_1439 : decode cL_law 1439 = .ok (.invokevirtual 143, 3) := by decide +kernel
theorem dL_law_1442 : decode cL_law 1442 = .ok (.iload 6, 2) := by decide +kernel
theorem dL_law_1444 : decode cL_law 1444 = .ok (.if_icmp .eq 5, 3) := by decide +kernel
theorem dL_law_1447 : decode cL_law 1447 = .ok (.iconst 0, 1) := by decide +kernel
theorem dL_law_1448 : decode cL_law 1448 = .ok (.ireturn, 1) := by decide +kernel
theorem dL_law_1449 : decode cL_law 1449 = .ok (.iload 6, 2) := by decide +kernel
theorem dL_law_1451 : decode cL_law 1451 = .ok (.ifCond .ne 15, 3) := by decide +kernel
theorem dL_law_1454 : decode cL_law 1454 = .ok (.aload_n 3, 1) := by decide +kernel
theorem dL_law_1455 : decode cL_law 1455 = .ok (.iconst 0, 1) := by decide +kernel
theorem dL_law_1456 : decode cL_law 1456 = .ok (.laload, 1) := by decide +kernel
theorem dL_law_1457 : decode cL_law 1457 = .ok (.iload 7, 2) := by decide +kernel
theorem dL_law_1459 : decode cL_law 1459 = .ok (.i2l, 1) := by decide +kernel
theorem dL_law_1460 : decode cL_law 1460 = .ok (.lcmp, 1) := by decide +kernel
theorem dL_law_1461 : decode cL_law 1461 = .ok (.ifCond .eq 5, 3) := by decide +kernel
theorem dL_law_1464 : decode cL_law 1464 = .ok (.iconst 0, 1) := by decide +kernel
theorem dL_law_1465 : decode cL_law 1465 = .ok (.ireturn, 1) := by decide +kernel
theorem dL_law_1466 : decode cL_law 1466 = .ok (.goto 975, 3) := by decide +kernel
theorem dL_law_1469 : decode cL_law 1469 = .ok (.aload_n 1, 1) := by decide +kernel
theorem dL_law_1470 : decode cL_law 1470 = .ok (.aload_n 0, 1) := by decide +kernel
theorem dL_law_1471 : decode cL_law 1471 = .ok (.iload 5, 2) := by decide +kernel
theorem dL_law_1473 : decode cL_law 1473 = .ok (.iconst 1, 1) := by decide +kernel
theorem dL_law_1474 : decode cL_law 1474 = .ok (.iadd, 1) := by decide +kernel
theorem dL_law_1475 : decode cL_law 1475 = .ok (.iaload, 1) := by decide +kernel
theorem dL_law_1476 : decode cL_law 1476 = .ok (.aload_n 3, 1) := by decide +kernel
theorem dL_law_1477 : decode cL_law 1477 = .ok (.invokestatic 205, 3) := by decide +kernel
theorem dL_law_1480 : decode cL_law 1480 = .ok (.istore 6, 2) := by decide +kernel
theorem dL_law_1482 : decode cL_law 1482 = .ok (.aload_n 2, 1) := by decide +kernel
theorem dL_law_1483 : decode cL_law 1483 = .ok (.aload_n 0, 1) := by decide +kernel
theorem dL_law_1484 : decode cL_law 1484 = .ok (.iload 5, 2) := by decide +kernel
theorem dL_law_1486 : decode cL_law 1486 = .ok (.iconst 1, 1) := by decide +kernel
theorem dL_law_1487 : decode cL_law 1487 = .ok (.iadd, 1) := by decide +kernel
theorem dL_law_1488 : decode cL_law 1488 = .ok (.iaload, 1) := by decide +kernel
theorem dL_law_1489 : decode cL_law 1489 = .ok (.invokevirtual 207, 3) := by decide +kernel
theorem dL_law_1492 : decode cL_law 1492 = .ok (.istore 7, 2) := by decide +kernel
theorem dL_law_1494 : decode cL_law 1494 = .ok (.aload_n 2, 1) := by decide +kernel
theorem dL_law_1495 : decode cL_law 1495 = .ok (.invokevirtual 143, 3) := by decide +kernel
theorem dL_law_1498 : decode cL_law 1498 = .ok (.iload 6, 2) := by decide +kernel
theorem dL_law_1500 : decode cL_law 1500 = .ok (.if_icmp .eq 5, 3) := by decide +kernel
theorem dL_law_1503 : decode cL_law 1503 = .ok (.iconst 0, 1) := by decide +kernel
theorem dL_law_1504 : decode cL_law 1504 = .ok (.ireturn, 1) := by decide +kernel
theorem dL_law_1505 : decode cL_law 1505 = .ok (.iload 6, 2) := by decide +kernel
theorem dL_law_1507 : decode cL_law 1507 = .ok (.ifCond .ne 22, 3) := by decide +kernel
theorem dL_law_1510 : decode cL_law 1510 = .ok (.aload_n 3, 1) := by decide +kernel
theorem dL_law_1511 : decode cL_law 1511 = .ok (.iconst 0, 1) := by decide +kernel
theorem dL_law_1512 : decode cL_law 1512 = .ok (.laload, 1) := by decide +kernel
theorem dL_law_1513 : decode cL_law 1513 = .ok (.iload 7, 2) := by decide +kernel
theorem dL_law_1515 : decode cL_law 1515 = .ok (.ifCond .eq 7, 3) := by decide +kernel
theorem dL_law_1518 : decode cL_law 1518 = .ok (.lconst 1, 1) := by decide +kernel
theorem dL_law_1519 : decode cL_law 1519 = .ok (.goto 4, 3) := by decide +kernel
theorem dL_law_1522 : decode cL_law 1522 = .ok (.lconst 0, 1) := by decide +kernel
theorem dL_law_1523 : decode cL_law 1523 = .ok (.lcmp, 1) := by decide +kernel
theorem dL_law_1524 : decode cL_law 1524 = .ok (.ifCond .eq 5, 3) := by decide +kernel
theorem dL_law_1527 : decode cL_law 1527 = .ok (.iconst 0, 1) := by decide +kernel
theorem dL_law_1528 : decode cL_law 1528 = .ok (.ireturn, 1) := by decide +kernel
theorem dL_law_1529 : decode cL_law 1529 = .ok (.goto 912, 3) := by decide +kernel
theorem dL_law_1532 : decode cL_law 1532 = .ok (.aload_n 1, 1) := by decide +kernel
theorem dL_law_1533 : decode cL_law 1533 = .ok (.aload_n 0, 1) := by decide +kernel
theorem dL_law_1534 : decode cL_law 1534 = .ok (.iload 5, 2) := by decide +kernel
theorem dL_law_1536 : decode cL_law 1536 = .ok (.iconst 1, 1) := by decide +kernel
theorem dL_law_1537 : decode cL_law 1537 = .ok (.iadd, 1) := by decide +kernel
theorem dL_law_1538 : decode cL_law 1538 = .ok (.iaload, 1) := by decide +kernel
theorem dL_law_1539 : decode cL_law 1539 = .ok (.aload_n 0, 1) := by decide +kernel
theorem dL_law_1540 : decode cL_law 1540 = .ok (.iload 5, 2) := by decide +kernel
theorem dL_law_1542 : decode cL_law 1542 = .ok (.iconst 2, 1) := by decide +kernel
theorem dL_law_1543 : decode cL_law 1543 = .ok (.iadd, 1) := by decide +kernel
theorem dL_law_1544 : decode cL_law 1544 = .ok (.iaload, 1) := by decide +kernel
theorem dL_law_1545 : decode cL_law 1545 = .ok (.aload_n 3, 1) := by decide +kernel
theorem dL_law_1546 : decode cL_law 1546 = .ok (.invokestatic 208, 3) := by decide +kernel
theorem dL_law_1549 : decode cL_law 1549 = .ok (.istore 6, 2) := by decide +kernel
theorem dL_law_1551 : decode cL_law 1551 = .ok (.aload_n 2, 1) := by decide +kernel
theorem dL_law_1552 : decode cL_law 1552 = .ok (.aload_n 0, 1) := by decide +kernel
theorem dL_law_1553 : decode cL_law 1553 = .ok (.iload 5, 2) := by decide +kernel
theorem dL_law_1555 : decode cL_law 1555 = .ok (.iconst 1, 1) := by decide +kernel
theorem dL_law_1556 : decode cL_law 1556 = .ok (.iadd, 1) := by decide +kernel
theorem dL_law_1557 : decode cL_law 1557 = .ok (.iaload, 1) := by decide +kernel
theorem dL_law_1558 : decode cL_law 1558 = .ok (.aload_n 0, 1) := by decide +kernel
theorem dL_law_1559 : decode cL_law 1559 = .ok (.iload 5, 2) := by decide +kernel
theorem dL_law_1561 : decode cL_law 1561 = .ok (.iconst 2, 1) := by decide +kernel
theorem dL_law_1562 : decode cL_law 1562 = .ok (.iadd, 1) := by decide +kernel
theorem dL_law_1563 : decode cL_law 1563 = .ok (.iaload, 1) := by decide +kernel
theorem dL_law_1564 : decode cL_law 1564 = .ok (.invokevirtual 210, 3) := by decide +kernel
theorem dL_law_1567 : decode cL_law 1567 = .ok (.istore 7, 2) := by decide +kernel
theorem dL_law_1569 : decode cL_law 1569 = .ok (.aload_n 2, 1) := by decide +kernel
theorem dL_law_1570 : decode cL_law 1570 = .ok (.invokevirtual 143, 3) := by decide +kernel
theorem dL_law_1573 : decode cL_law 1573 = .ok (.iload 6, 2) := by decide +kernel
theorem dL_law_1575 : decode cL_law 1575 = .ok (.if_icmp .eq 5, 3) := by decide +kernel
theorem dL_law_1578 : decode cL_law 1578 = .ok (.iconst 0, 1) := by decide +kernel
theorem dL_law_1579 : decode cL_law 1579 = .ok (.ireturn, 1) := by decide +kernel
theorem dL_law_1580 : decode cL_law 1580 = .ok (.iload 6, 2) := by decide +kernel
theorem dL_law_1582 : decode cL_law 1582 = .ok (.ifCond .ne 15, 3) := by decide +kernel
theorem dL_law_1585 : decode cL_law 1585 = .ok (.aload_n 3, 1) := by decide +kernel
theorem dL_law_1586 : decode cL_law 1586 = .ok (.iconst 0, 1) := by decide +kernel
theorem dL_law_1587 : decode cL_law 1587 = .ok (.laload, 1) := by decide +kernel
theorem dL_law_1588 : decode cL_law 1588 = .ok (.iload 7, 2) := by decide +kernel
theorem dL_law_1590 : decode cL_law 1590 = .ok (.i2l, 1) := by decide +kernel
theorem dL_law_1591 : decode cL_law 1591 = .ok (.lcmp, 1) := by decide +kernel
theorem dL_law_1592 : decode cL_law 1592 = .ok (.ifCond .eq 5, 3) := by decide +kernel
theorem dL_law_1595 : decode cL_law 1595 = .ok (.iconst 0, 1) := by decide +kernel
theorem dL_law_1596 : decode cL_law 1596 = .ok (.ireturn, 1) := by decide +kernel
theorem dL_law_1597 : decode cL_law 1597 = .ok (.goto 844, 3) := by decide +kernel
theorem dL_law_1600 : decode cL_law 1600 = .ok (.aload_n 1, 1) := by decide +kernel
theorem dL_law_1601 : decode cL_law 1601 = .ok (.aload_n 0, 1) := by decide +kernel
theorem dL_law_1602 : decode cL_law 1602 = .ok (.iload 5, 2) := by decide +kernel
theorem dL_law_1604 : decode cL_law 1604 = .ok (.iconst 1, 1) := by decide +kernel
theorem dL_law_1605 : decode cL_law 1605 = .ok (.iadd, 1) := by decide +kernel
theorem dL_law_1606 : decode cL_law 1606 = .ok (.iaload, 1) := by decide +kernel
theorem dL_law_1607 : decode cL_law 1607 = .ok (.aload_n 3, 1) := by decide +kernel
theorem dL_law_1608 : decode cL_law 1608 = .ok (.invokestatic 211, 3) := by decide +kernel
theorem dL_law_1611 : decode cL_law 1611 = .ok (.istore 6, 2) := by decide +kernel
theorem dL_law_1613 : decode cL_law 1613 = .ok (.aload_n 2, 1) := by decide +kernel
theorem dL_law_1614 : decode cL_law 1614 = .ok (.aload_n 0, 1) := by decide +kernel
theorem dL_law_1615 : decode cL_law 1615 = .ok (.iload 5, 2) := by decide +kernel
theorem dL_law_1617 : decode cL_law 1617 = .ok (.iconst 1, 1) := by decide +kernel
theorem dL_law_1618 : decode cL_law 1618 = .ok (.iadd, 1) := by decide +kernel
theorem dL_law_1619 : decode cL_law 1619 = .ok (.iaload, 1) := by decide +kernel
theorem dL_law_1620 : decode cL_law 1620 = .ok (.invokevirtual 213, 3) := by decide +kernel
theorem dL_law_1623 : decode cL_law 1623 = .ok (.istore 7, 2) := by decide +kernel
theorem dL_law_1625 : decode cL_law 1625 = .ok (.aload_n 2, 1) := by decide +kernel
theorem dL_law_1626 : decode cL_law 1626 = .ok (.invokevirtual 143, 3) := by decide +kernel
theorem dL_law_1629 : decode cL_law 1629 = .ok (.iload 6, 2) := by decide +kernel
theorem dL_law_1631 : decode cL_law 1631 = .ok (.if_icmp .eq 5, 3) := by decide +kernel
theorem dL_law_1634 : decode cL_law 1634 = .ok (.iconst 0, 1) := by decide +kernel
theorem dL_law_1635 : decode cL_law 1635 = .ok (.ireturn, 1) := by decide +kernel
theorem dL_law_1636 : decode cL_law 1636 = .ok (.iload 6, 2) := by decide +kernel
theorem dL_law_1638 : decode cL_law 1638 = .ok (.ifCond .ne 15, 3) := by decide +kernel
theorem dL_law_1641 : decode cL_law 1641 = .ok (.aload_n 3, 1) := by decide +kernel
theorem dL_law_1642 : decode cL_law 1642 = .ok (.iconst 0, 1) := by decide +kernel
theorem dL_law_1643 : decode cL_law 1643 = .ok (.laload, 1) := by decide +kernel
theorem dL_law_1644 : decode cL_law 1644 = .ok (.iload 7, 2) := by decide +kernel
theorem dL_law_1646 : decode cL_law 1646 = .ok (.i2l, 1) := by decide +kernel
theorem dL_law_1647 : decode cL_law 1647 = .ok (.lcmp, 1) := by decide +kernel
theorem dL_law_1648 : decode cL_law 1648 = .ok (.ifCond .eq 5, 3) := by decide +kernel
theorem dL_law_1651 : decode cL_law 1651 = .ok (.iconst 0, 1) := by decide +kernel
theorem dL_law_1652 : decode cL_law 1652 = .ok (.ireturn, 1) := by decide +kernel
theorem dL_law_1653 : decode cL_law 1653 = .ok (.goto 788, 3) := by decide +kernel
theorem dL_law_1656 : decode cL_law 1656 = .ok (.aload_n 1, 1) := by decide +kernel
theorem dL_law_1657 : decode cL_law 1657 = .ok (.aload_n 0, 1) := by decide +kernel
theorem dL_law_1658 : decode cL_law 1658 = .ok (.iload 5, 2) := by decide +kernel
theorem dL_law_1660 : decode cL_law 1660 = .ok (.iconst 1, 1) := by decide +kernel
theorem dL_law_1661 : decode cL_law 1661 = .ok (.iadd, 1) := by decide +kernel
theorem dL_law_1662 : decode cL_law 1662 = .ok (.iaload, 1) := by decide +kernel
theorem dL_law_1663 : decode cL_law 1663 = .ok (.aload_n 3, 1) := by decide +kernel
theorem dL_law_1664 : decode cL_law 1664 = .ok (.invokestatic 214, 3) := by decide +kernel
theorem dL_law_1667 : decode cL_law 1667 = .ok (.istore 6, 2) := by decide +kernel
theorem dL_law_1669 : decode cL_law 1669 = .ok (.aload_n 2, 1) := by decide +kernel
theorem dL_law_1670 : decode cL_law 1670 = .ok (.aload_n 0, 1) := by decide +kernel
theorem dL_law_1671 : decode cL_law 1671 = .ok (.iload 5, 2) := by decide +kernel
theorem dL_law_1673 : decode cL_law 1673 = .ok (.iconst 1, 1) := by decide +kernel
theorem dL_law_1674 : decode cL_law 1674 = .ok (.iadd, 1) := by decide +kernel
theorem dL_law_1675 : decode cL_law 1675 = .ok (.iaload, 1) := by decide +kernel
theorem dL_law_1676 : decode cL_law 1676 = .ok (.invokevirtual 216, 3) := by decide +kernel
theorem dL_law_1679 : decode cL_law 1679 = .ok (.istore 7, 2) := by decide +kernel
theorem dL_law_1681 : decode cL_law 1681 = .ok (.aload_n 2, 1) := by decide +kernel
theorem dL_law_1682 : decode cL_law 1682 = .ok (.invokevirtual 143, 3) := by decide +kernel
theorem dL_law_1685 : decode cL_law 1685 = .ok (.iload 6, 2) := by decide +kernel
theorem dL_law_1687 : decode cL_law 1687 = .ok (.if_icmp .eq 5, 3) := by decide +kernel
theorem dL_law_1690 : decode cL_law 1690 = .ok (.iconst 0, 1) := by decide +kernel
theorem dL_law_1691 : decode cL_law 1691 = .ok (.ireturn, 1) := by decide +kernel
theorem dL_law_1692 : decode cL_law 1692 = .ok (.iload 6, 2) := by decide +kernel
theorem dL_law_1694 : decode cL_law 1694 = .ok (.ifCond .ne 22, 3) := by decide +kernel
theorem dL_law_1697 : decode cL_law 1697 = .ok (.aload_n 3, 1) := by decide +kernel
theorem dL_law_1698 : decode cL_law 1698 = .ok (.iconst 0, 1) := by decide +kernel
theorem dL_law_1699 : decode cL_law 1699 = .ok (.laload, 1) := by decide +kernel
theorem dL_law_1700 : decode cL_law 1700 = .ok (.iload 7, 2) := by decide +kernel
theorem dL_law_1702 : decode cL_law 1702 = .ok (.ifCond .eq 7, 3) := by decide +kernel
theorem dL_law_1705 : decode cL_law 1705 = .ok (.lconst 1, 1) := by decide +kernel
theorem dL_law_1706 : decode cL_law 1706 = .ok (.goto 4, 3) := by decide +kernel
theorem dL_law_1709 : decode cL_law 1709 = .ok (.lconst 0, 1) := by decide +kernel
theorem dL_law_1710 : decode cL_law 1710 = .ok (.lcmp, 1) := by decide +kernel
theorem dL_law_1711 : decode cL_law 1711 = .ok (.ifCond .eq 5, 3) := by decide +kernel
theorem dL_law_1714 : decode cL_law 1714 = .ok (.iconst 0, 1) := by decide +kernel
theorem dL_law_1715 : decode cL_law 1715 = .ok (.ireturn, 1) := by decide +kernel
theorem dL_law_1716 : decode cL_law 1716 = .ok (.goto 725, 3) := by decide +kernel
theorem dL_law_1719 : decode cL_law 1719 = .ok (.aload_n 1, 1) := by decide +kernel
theorem dL_law_1720 : decode cL_law 1720 = .ok (.aload_n 0, 1) := by decide +kernel
theorem dL_law_1721 : decode cL_law 1721 = .ok (.iload 5, 2) := by decide +kernel
theorem dL_law_1723 : decode cL_law 1723 = .ok (.iconst 1, 1) := by decide +kernel
theorem dL_law_1724 : decode cL_law 1724 = .ok (.iadd, 1) := by decide +kernel
theorem dL_law_1725 : decode cL_law 1725 = .ok (.iaload, 1) := by decide +kernel
theorem dL_law_1726 : decode cL_law 1726 = .ok (.aload_n 3, 1) := by decide +kernel
theorem dL_law_1727 : decode cL_law 1727 = .ok (.invokestatic 217, 3) := by decide +kernel
theorem dL_law_1730 : decode cL_law 1730 = .ok (.istore 6, 2) := by decide +kernel
theorem dL_law_1732 : decode cL_law 1732 = .ok (.aload_n 2, 1) := by decide +kernel
theorem dL_law_1733 : decode cL_law 1733 = .ok (.aload_n 0, 1) := by decide +kernel
theorem dL_law_1734 : decode cL_law 1734 = .ok (.iload 5, 2) := by decide +kernel
theorem dL_law_1736 : decode cL_law 1736 = .ok (.iconst 1, 1) := by decide +kernel
theorem dL_law_1737 : decode cL_law 1737 = .ok (.iadd, 1) := by decide +kernel
theorem dL_law_1738 : decode cL_law 1738 = .ok (.iaload, 1) := by decide +kernel
theorem dL_law_1739 : decode cL_law 1739 = .ok (.invokevirtual 219, 3) := by decide +kernel
theorem dL_law_1742 : decode cL_law 1742 = .ok (.istore 7, 2) := by decide +kernel
theorem dL_law_1744 : decode cL_law 1744 = .ok (.aload_n 2, 1) := by decide +kernel
theorem dL_law_1745 : decode cL_law 1745 = .ok (.invokevirtual 143, 3) := by decide +kernel
theorem dL_law_1748 : decode cL_law 1748 = .ok (.iload 6, 2) := by decide +kernel
theorem dL_law_1750 : decode cL_law 1750 = .ok (.if_icmp .eq 5, 3) := by decide +kernel
theorem dL_law_1753 : decode cL_law 1753 = .ok (.iconst 0, 1) := by decide +kernel
theorem dL_law_1754 : decode cL_law 1754 = .ok (.ireturn, 1) := by decide +kernel
theorem dL_law_1755 : decode cL_law 1755 = .ok (.iload 6, 2) := by decide +kernel
theorem dL_law_1757 : decode cL_law 1757 = .ok (.ifCond .ne 15, 3) := by decide +kernel
theorem dL_law_1760 : decode cL_law 1760 = .ok (.aload_n 3, 1) := by decide +kernel
theorem dL_law_1761 : decode cL_law 1761 = .ok (.iconst 0, 1) := by decide +kernel
theorem dL_law_1762 : decode cL_law 1762 = .ok (.laload, 1) := by decide +kernel
theorem dL_law_1763 : decode cL_law 1763 = .ok (.iload 7, 2) := by decide +kernel
theorem dL_law_1765 : decode cL_law 1765 = .ok (.i2l, 1) := by decide +kernel
theorem dL_law_1766 : decode cL_law 1766 = .ok (.lcmp, 1) := by decide +kernel
theorem dL_law_1767 : decode cL_law 1767 = .ok (.ifCond .eq 5, 3) := by decide +kernel
theorem dL_law_1770 : decode cL_law 1770 = .ok (.iconst 0, 1) := by decide +kernel
theorem dL_law_1771 : decode cL_law 1771 = .ok (.ireturn, 1) := by decide +kernel
theorem dL_law_1772 : decode cL_law 1772 = .ok (.goto 669, 3) := by decide +kernel
theorem dL_law_1775 : decode cL_law 1775 = .ok (.aload_n 1, 1) := by decide +kernel
theorem dL_law_1776 : decode cL_law 1776 = .ok (.aload_n 0, 1) := by decide +kernel
theorem dL_law_1777 : decode cL_law 1777 = .ok (.iload 5, 2) := by decide +kernel
theorem dL_law_1779 : decode cL_law 1779 = .ok (.iconst 1, 1) := by decide +kernel
theorem dL_law_1780 : decode cL_law 1780 = .ok (.iadd, 1) := by decide +kernel
theorem dL_law_1781 : decode cL_law 1781 = .ok (.iaload, 1) := by decide +kernel
theorem dL_law_1782 : decode cL_law 1782 = .ok (.aload_n 3, 1) := by decide +kernel
theorem dL_law_1783 : decode cL_law 1783 = .ok (.invokestatic 220, 3) := by decide +kernel
theorem dL_law_1786 : decode cL_law 1786 = .ok (.istore 6, 2) := by decide +kernel
theorem dL_law_1788 : decode cL_law 1788 = .ok (.aload_n 2, 1) := by decide +kernel
theorem dL_law_1789 : decode cL_law 1789 = .ok (.aload_n 0, 1) := by decide +kernel
theorem dL_law_1790 : decode cL_law 1790 = .ok (.iload 5, 2) := by decide +kernel
theorem dL_law_1792 : decode cL_law 1792 = .ok (.iconst 1, 1) := by decide +kernel
theorem dL_law_1793 : decode cL_law 1793 = .ok (.iadd, 1) := by decide +kernel
theorem dL_law_1794 : decode cL_law 1794 = .ok (.iaload, 1) := by decide +kernel
theorem dL_law_1795 : decode cL_law 1795 = .ok (.invokevirtual 222, 3) := by decide +kernel
theorem dL_law_1798 : decode cL_law 1798 = .ok (.istore 7, 2) := by decide +kernel
theorem dL_law_1800 : decode cL_law 1800 = .ok (.aload_n 2, 1) := by decide +kernel
theorem dL_law_1801 : decode cL_law 1801 = .ok (.invokevirtual 143, 3) := by decide +kernel
theorem dL_law_1804 : decode cL_law 1804 = .ok (.iload 6, 2) := by decide +kernel
theorem dL_law_1806 : decode cL_law 1806 = .ok (.if_icmp .eq 5, 3) := by decide +kernel
theorem dL_law_1809 : decode cL_law 1809 = .ok (.iconst 0, 1) := by decide +kernel
theorem dL_law_1810 : decode cL_law 1810 = .ok (.ireturn, 1) := by decide +kernel
theorem dL_law_1811 : decode cL_law 1811 = .ok (.iload 6, 2) := by decide +kernel
theorem dL_law_1813 : decode cL_law 1813 = .ok (.ifCond .ne 15, 3) := by decide +kernel
theorem dL_law_1816 : decode cL_law 1816 = .ok (.aload_n 3, 1) := by decide +kernel
theorem dL_law_1817 : decode cL_law 1817 = .ok (.iconst 0, 1) := by decide +kernel
theorem dL_law_1818 : decode cL_law 1818 = .ok (.laload, 1) := by decide +kernel
theorem dL_law_1819 : decode cL_law 1819 = .ok (.iload 7, 2) := by decide +kernel
theorem dL_law_1821 : decode cL_law 1821 = .ok (.i2l, 1) := by decide +kernel
theorem dL_law_1822 : decode cL_law 1822 = .ok (.lcmp, 1) := by decide +kernel
theorem dL_law_1823 : decode cL_law 1823 = .ok (.ifCond .eq 5, 3) := by decide +kernel
theorem dL_law_1826 : decode cL_law 1826 = .ok (.iconst 0, 1) := by decide +kernel
theorem dL_law_1827 : decode cL_law 1827 = .ok (.ireturn, 1) := by decide +kernel
theorem dL_law_1828 : decode cL_law 1828 = .ok (.goto 613, 3) := by decide +kernel
theorem dL_law_1831 : decode cL_law 1831 = .ok (.aload_n 1, 1) := by decide +kernel
theorem dL_law_1832 : decode cL_law 1832 = .ok (.aload_n 0, 1) := by decide +kernel
theorem dL_law_1833 : decode cL_law 1833 = .ok (.iload 5, 2) := by decide +kernel
theorem dL_law_1835 : decode cL_law 1835 = .ok (.iconst 1, 1) := by decide +kernel
theorem dL_law_1836 : decode cL_law 1836 = .ok (.iadd, 1) := by decide +kernel
theorem dL_law_1837 : decode cL_law 1837 = .ok (.iaload, 1) := by decide +kernel
theorem dL_law_1838 : decode cL_law 1838 = .ok (.aload_n 3, 1) := by decide +kernel
theorem dL_law_1839 : decode cL_law 1839 = .ok (.invokestatic 223, 3) := by decide +kernel
theorem dL_law_1842 : decode cL_law 1842 = .ok (.istore 6, 2) := by decide +kernel
theorem dL_law_1844 : decode cL_law 1844 = .ok (.aload_n 2, 1) := by decide +kernel
theorem dL_law_1845 : decode cL_law 1845 = .ok (.aload_n 0, 1) := by decide +kernel
theorem dL_law_1846 : decode cL_law 1846 = .ok (.iload 5, 2) := by decide +kernel
theorem dL_law_1848 : decode cL_law 1848 = .ok (.iconst 1, 1) := by decide +kernel
theorem dL_law_1849 : decode cL_law 1849 = .ok (.iadd, 1) := by decide +kernel
theorem dL_law_1850 : decode cL_law 1850 = .ok (.iaload, 1) := by decide +kernel
theorem dL_law_1851 : decode cL_law 1851 = .ok (.invokevirtual 225, 3) := by decide +kernel
theorem dL_law_1854 : decode cL_law 1854 = .ok (.istore 7, 2) := by decide +kernel
theorem dL_law_1856 : decode cL_law 1856 = .ok (.aload_n 2, 1) := by decide +kernel
theorem dL_law_1857 : decode cL_law 1857 = .ok (.invokevirtual 143, 3) := by decide +kernel
theorem dL_law_1860 : decode cL_law 1860 = .ok (.iload 6, 2) := by decide +kernel
theorem dL_law_1862 : decode cL_law 1862 = .ok (.if_icmp .eq 5, 3) := by decide +kernel
theorem dL_law_1865 : decode cL_law 1865 = .ok (.iconst 0, 1) := by decide +kernel
theorem dL_law_1866 : decode cL_law 1866 = .ok (.ireturn, 1) := by decide +kernel
theorem dL_law_1867 : decode cL_law 1867 = .ok (.iload 6, 2) := by decide +kernel
theorem dL_law_1869 : decode cL_law 1869 = .ok (.ifCond .ne 15, 3) := by decide +kernel
theorem dL_law_1872 : decode cL_law 1872 = .ok (.aload_n 3, 1) := by decide +kernel
theorem dL_law_1873 : decode cL_law 1873 = .ok (.iconst 0, 1) := by decide +kernel
theorem dL_law_1874 : decode cL_law 1874 = .ok (.laload, 1) := by decide +kernel
theorem dL_law_1875 : decode cL_law 1875 = .ok (.iload 7, 2) := by decide +kernel
theorem dL_law_1877 : decode cL_law 1877 = .ok (.i2l, 1) := by decide +kernel
theorem dL_law_1878 : decode cL_law 1878 = .ok (.lcmp, 1) := by decide +kernel
theorem dL_law_1879 : decode cL_law 1879 = .ok (.ifCond .eq 5, 3) := by decide +kernel
theorem dL_law_1882 : decode cL_law 1882 = .ok (.iconst 0, 1) := by decide +kernel
theorem dL_law_1883 : decode cL_law 1883 = .ok (.ireturn, 1) := by decide +kernel
theorem dL_law_1884 : decode cL_law 1884 = .ok (.goto 557, 3) := by decide +kernel
theorem dL_law_1887 : decode cL_law 1887 = .ok (.aload_n 1, 1) := by decide +kernel
theorem dL_law_1888 : decode cL_law 1888 = .ok (.aload_n 0, 1) := by decide +kernel
theorem dL_law_1889 : decode cL_law 1889 = .ok (.iload 5, 2) := by decide +kernel
theorem dL_law_1891 : decode cL_law 1891 = .ok (.iconst 1, 1) := by decide +kernel
theorem dL_law_1892 : decode cL_law 1892 = .ok (.iadd, 1) := by decide +kernel
theorem dL_law_1893 : decode cL_law 1893 = .ok (.iaload, 1) := by decide +kernel
theorem dL_law_1894 : decode cL_law 1894 = .ok (.aload_n 3, 1) := by decide +kernel
theorem dL_law_1895 : decode cL_law 1895 = .ok (.invokestatic 226, 3) := by decide +kernel
theorem dL_law_1898 : decode cL_law 1898 = .ok (.istore 6, 2) := by decide +kernel
theorem dL_law_1900 : decode cL_law 1900 = .ok (.aload_n 2, 1) := by decide +kernel
theorem dL_law_1901 : decode cL_law 1901 = .ok (.aload_n 0, 1) := by decide +kernel
theorem dL_law_1902 : decode cL_law 1902 = .ok (.iload 5, 2) := by decide +kernel
theorem dL_law_1904 : decode cL_law 1904 = .ok (.iconst 1, 1) := by decide +kernel
theorem dL_law_1905 : decode cL_law 1905 = .ok (.iadd, 1) := by decide +kernel
theorem dL_law_1906 : decode cL_law 1906 = .ok (.iaload, 1) := by decide +kernel
theorem dL_law_1907 : decode cL_law 1907 = .ok (.invokevirtual 228, 3) := by decide +kernel
theorem dL_law_1910 : decode cL_law 1910 = .ok (.istore 7, 2) := by decide +kernel
theorem dL_law_1912 : decode cL_law 1912 = .ok (.aload_n 2, 1) := by decide +kernel
theorem dL_law_1913 : decode cL_law 1913 = .ok (.invokevirtual 143, 3) := by decide +kernel
theorem dL_law_1916 : decode cL_law 1916 = .ok (.iload 6, 2) := by decide +kernel
theorem dL_law_1918 : decode cL_law 1918 = .ok (.if_icmp .eq 5, 3) := by decide +kernel
theorem dL_law_1921 : decode cL_law 1921 = .ok (.iconst 0, 1) := by decide +kernel
theorem dL_law_1922 : decode cL_law 1922 = .ok (.ireturn, 1) := by decide +kernel
theorem dL_law_1923 : decode cL_law 1923 = .ok (.iload 6, 2) := by decide +kernel
theorem dL_law_1925 : decode cL_law 1925 = .ok (.ifCond .ne 15, 3) := by decide +kernel
theorem dL_law_1928 : decode cL_law 1928 = .ok (.aload_n 3, 1) := by decide +kernel
theorem dL_law_1929 : decode cL_law 1929 = .ok (.iconst 0, 1) := by decide +kernel
theorem dL_law_1930 : decode cL_law 1930 = .ok (.laload, 1) := by decide +kernel
theorem dL_law_1931 : decode cL_law 1931 = .ok (.iload 7, 2) := by decide +kernel
theorem dL_law_1933 : decode cL_law 1933 = .ok (.i2l, 1) := by decide +kernel
theorem dL_law_1934 : decode cL_law 1934 = .ok (.lcmp, 1) := by decide +kernel
theorem dL_law_1935 : decode cL_law 1935 = .ok (.ifCond .eq 5, 3) := by decide +kernel
theorem dL_law_1938 : decode cL_law 1938 = .ok (.iconst 0, 1) := by decide +kernel
theorem dL_law_1939 : decode cL_law 1939 = .ok (.ireturn, 1) := by decide +kernel
theorem dL_law_1940 : decode cL_law 1940 = .ok (.goto 501, 3) := by decide +kernel
theorem dL_law_1943 : decode cL_law 1943 = .ok (.aload_n 1, 1) := by decide +kernel
theorem dL_law_1944 : decode cL_law 1944 = .ok (.aload_n 0, 1) := by decide +kernel
theorem dL_law_1945 : decode cL_law 1945 = .ok (.iload 5, 2) := by decide +kernel
theorem dL_law_1947 : decode cL_law 1947 = .ok (.iconst 1, 1) := by decide +kernel
theorem dL_law_1948 : decode cL_law 1948 = .ok (.iadd, 1) := by decide +kernel
theorem dL_law_1949 : decode cL_law 1949 = .ok (.iaload, 1) := by decide +kernel
theorem dL_law_1950 : decode cL_law 1950 = .ok (.aload_n 3, 1) := by decide +kernel
theorem dL_law_1951 : decode cL_law 1951 = .ok (.invokestatic 229, 3) := by decide +kernel
theorem dL_law_1954 : decode cL_law 1954 = .ok (.istore 6, 2) := by decide +kernel
theorem dL_law_1956 : decode cL_law 1956 = .ok (.aload_n 2, 1) := by decide +kernel
theorem dL_law_1957 : decode cL_law 1957 = .ok (.aload_n 0, 1) := by decide +kernel
theorem dL_law_1958 : decode cL_law 1958 = .ok (.iload 5, 2) := by decide +kernel
theorem dL_law_1960 : decode cL_law 1960 = .ok (.iconst 1, 1) := by decide +kernel
theorem dL_law_1961 : decode cL_law 1961 = .ok (.iadd, 1) := by decide +kernel
theorem dL_law_1962 : decode cL_law 1962 = .ok (.iaload, 1) := by decide +kernel
theorem dL_law_1963 : decode cL_law 1963 = .ok (.invokevirtual 231, 3) := by decide +kernel
theorem dL_law_1966 : decode cL_law 1966 = .ok (.istore 7, 2) := by decide +kernel
theorem dL_law_1968 : decode cL_law 1968 = .ok (.aload_n 2, 1) := by decide +kernel
theorem dL_law_1969 : decode cL_law 1969 = .ok (.invokevirtual 143, 3) := by decide +kernel
theorem dL_law_1972 : decode cL_law 1972 = .ok (.iload 6, 2) := by decide +kernel
theorem dL_law_1974 : decode cL_law 1974 = .ok (.if_icmp .eq 5, 3) := by decide +kernel
theorem dL_law_1977 : decode cL_law 1977 = .ok (.iconst 0, 1) := by decide +kernel
theorem dL_law_1978 : decode cL_law 1978 = .ok (.ireturn, 1) := by decide +kernel
theorem dL_law_1979 : decode cL_law 1979 = .ok (.iload 6, 2) := by decide +kernel
theorem dL_law_1981 : decode cL_law 1981 = .ok (.ifCond .ne 15, 3) := by decide +kernel
theorem dL_law_1984 : decode cL_law 1984 = .ok (.aload_n 3, 1) := by decide +kernel
theorem dL_law_1985 : decode cL_law 1985 = .ok (.iconst 0, 1) := by decide +kernel
theorem dL_law_1986 : decode cL_law 1986 = .ok (.laload, 1) := by decide +kernel
theorem dL_law_1987 : decode cL_law 1987 = .ok (.iload 7, 2) := by decide +kernel
theorem dL_law_1989 : decode cL_law 1989 = .ok (.i2l, 1) := by decide +kernel
theorem dL_law_1990 : decode cL_law 1990 = .ok (.lcmp, 1) := by decide +kernel
theorem dL_law_1991 : decode cL_law 1991 = .ok (.ifCond .eq 5, 3) := by decide +kernel
theorem dL_law_1994 : decode cL_law 1994 = .ok (.iconst 0, 1) := by decide +kernel
theorem dL_law_1995 : decode cL_law 1995 = .ok (.ireturn, 1) := by decide +kernel
theorem dL_law_1996 : decode cL_law 1996 = .ok (.goto 445, 3) := by decide +kernel
theorem dL_law_1999 : decode cL_law 1999 = .ok (.aload_n 1, 1) := by decide +kernel
theorem dL_law_2000 : decode cL_law 2000 = .ok (.aload_n 0, 1) := by decide +kernel
theorem dL_law_2001 : decode cL_law 2001 = .ok (.iload 5, 2) := by decide +kernel
theorem dL_law_2003 : decode cL_law 2003 = .ok (.iconst 1, 1) := by decide +kernel
theorem dL_law_2004 : decode cL_law 2004 = .ok (.iadd, 1) := by decide +kernel
theorem dL_law_2005 : decode cL_law 2005 = .ok (.iaload, 1) := by decide +kernel
theorem dL_law_2006 : decode cL_law 2006 = .ok (.aload_n 3, 1) := by decide +kernel
theorem dL_law_2007 : decode cL_law 2007 = .ok (.invokestatic 232, 3) := by decide +kernel
theorem dL_law_2010 : decode cL_law 2010 = .ok (.istore 6, 2) := by decide +kernel
theorem dL_law_2012 : decode cL_law 2012 = .ok (.aload_n 2, 1) := by decide +kernel
theorem dL_law_2013 : decode cL_law 2013 = .ok (.aload_n 0, 1) := by decide +kernel
theorem dL_law_2014 : decode cL_law 2014 = .ok (.iload 5, 2) := by decide +kernel
theorem dL_law_2016 : decode cL_law 2016 = .ok (.iconst 1, 1) := by decide +kernel
theorem dL_law_2017 : decode cL_law 2017 = .ok (.iadd, 1) := by decide +kernel
theorem dL_law_2018 : decode cL_law 2018 = .ok (.iaload, 1) := by decide +kernel
theorem dL_law_2019 : decode cL_law 2019 = .ok (.invokevirtual 234, 3) := by decide +kernel
theorem dL_law_2022 : decode cL_law 2022 = .ok (.istore 7, 2) := by decide +kernel
theorem dL_law_2024 : decode cL_law 2024 = .ok (.aload_n 2, 1) := by decide +kernel
theorem dL_law_2025 : decode cL_law 2025 = .ok (.invokevirtual 143, 3) := by decide +kernel
theorem dL_law_2028 : decode cL_law 2028 = .ok (.iload 6, 2) := by decide +kernel
theorem dL_law_2030 : decode cL_law 2030 = .ok (.if_icmp .eq 5, 3) := by decide +kernel
theorem dL_law_2033 : decode cL_law 2033 = .ok (.iconst 0, 1) := by decide +kernel
theorem dL_law_2034 : decode cL_law 2034 = .ok (.ireturn, 1) := by decide +kernel
theorem dL_law_2035 : decode cL_law 2035 = .ok (.iload 6, 2) := by decide +kernel
theorem dL_law_2037 : decode cL_law 2037 = .ok (.ifCond .ne 15, 3) := by decide +kernel
theorem dL_law_2040 : decode cL_law 2040 = .ok (.aload_n 3, 1) := by decide +kernel
theorem dL_law_2041 : decode cL_law 2041 = .ok (.iconst 0, 1) := by decide +kernel
theorem dL_law_2042 : decode cL_law 2042 = .ok (.laload, 1) := by decide +kernel
theorem dL_law_2043 : decode cL_law 2043 = .ok (.iload 7, 2) := by decide +kernel
theorem dL_law_2045 : decode cL_law 2045 = .ok (.i2l, 1) := by decide +kernel
theorem dL_law_2046 : decode cL_law 2046 = .ok (.lcmp, 1) := by decide +kernel
theorem dL_law_2047 : decode cL_law 2047 = .ok (.ifCond .eq 5, 3) := by decide +kernel
theorem dL_law_2050 : decode cL_law 2050 = .ok (.iconst 0, 1) := by decide +kernel
theorem dL_law_2051 : decode cL_law 2051 = .ok (.ireturn, 1) := by decide +kernel
theorem dL_law_2052 : decode cL_law 2052 = .ok (.goto 389, 3) := by decide +kernel
theorem dL_law_2055 : decode cL_law 2055 = .ok (.aload_n 1, 1) := by decide +kernel
theorem dL_law_2056 : decode cL_law 2056 = .ok (.aload_n 0, 1) := by decide +kernel
theorem dL_law_2057 : decode cL_law 2057 = .ok (.iload 5, 2) := by decide +kernel
theorem dL_law_2059 : decode cL_law 2059 = .ok (.iconst 1, 1) := by decide +kernel
theorem dL_law_2060 : decode cL_law 2060 = .ok (.iadd, 1) := by decide +kernel
theorem dL_law_2061 : decode cL_law 2061 = .ok (.iaload, 1) := by decide +kernel
theorem dL_law_2062 : decode cL_law 2062 = .ok (.aload_n 0, 1) := by decide +kernel
theorem dL_law_2063 : decode cL_law 2063 = .ok (.iload 5, 2) := by decide +kernel
theorem dL_law_2065 : decode cL_law 2065 = .ok (.iconst 2, 1) := by decide +kernel
theorem dL_law_2066 : decode cL_law 2066 = .ok (.iadd, 1) := by decide +kernel
theorem dL_law_2067 : decode cL_law 2067 = .ok (.iaload, 1) := by decide +kernel
theorem dL_law_2068 : decode cL_law 2068 = .ok (.aload_n 3, 1) := by decide +kernel
theorem dL_law_2069 : decode cL_law 2069 = .ok (.invokestatic 235, 3) := by decide +kernel
theorem dL_law_2072 : decode cL_law 2072 = .ok (.istore 6, 2) := by decide +kernel
theorem dL_law_2074 : decode cL_law 2074 = .ok (.aload_n 2, 1) := by decide +kernel
theorem dL_law_2075 : decode cL_law 2075 = .ok (.aload_n 0, 1) := by decide +kernel
theorem dL_law_2076 : decode cL_law 2076 = .ok (.iload 5, 2) := by decide +kernel
theorem dL_law_2078 : decode cL_law 2078 = .ok (.iconst 1, 1) := by decide +kernel
theorem dL_law_2079 : decode cL_law 2079 = .ok (.iadd, 1) := by decide +kernel
theorem dL_law_2080 : decode cL_law 2080 = .ok (.iaload, 1) := by decide +kernel
theorem dL_law_2081 : decode cL_law 2081 = .ok (.aload_n 0, 1) := by decide +kernel
theorem dL_law_2082 : decode cL_law 2082 = .ok (.iload 5, 2) := by decide +kernel
theorem dL_law_2084 : decode cL_law 2084 = .ok (.iconst 2, 1) := by decide +kernel
theorem dL_law_2085 : decode cL_law 2085 = .ok (.iadd, 1) := by decide +kernel
theorem dL_law_2086 : decode cL_law 2086 = .ok (.iaload, 1) := by decide +kernel
theorem dL_law_2087 : decode cL_law 2087 = .ok (.invokevirtual 237, 3) := by decide +kernel
theorem dL_law_2090 : decode cL_law 2090 = .ok (.istore 7, 2) := by decide +kernel
theorem dL_law_2092 : decode cL_law 2092 = .ok (.aload_n 2, 1) := by decide +kernel
theorem dL_law_2093 : decode cL_law 2093 = .ok (.invokevirtual 143, 3) := by decide +kernel
theorem dL_law_2096 : decode cL_law 2096 = .ok (.iload 6, 2) := by decide +kernel
theorem dL_law_2098 : decode cL_law 2098 = .ok (.if_icmp .eq 5, 3) := by decide +kernel
theorem dL_law_2101 : decode cL_law 2101 = .ok (.iconst 0, 1) := by decide +kernel
theorem dL_law_2102 : decode cL_law 2102 = .ok (.ireturn, 1) := by decide +kernel
theorem dL_law_2103 : decode cL_law 2103 = .ok (.iload 6, 2) := by decide +kernel
theorem dL_law_2105 : decode cL_law 2105 = .ok (.ifCond .ne 22, 3) := by decide +kernel
theorem dL_law_2108 : decode cL_law 2108 = .ok (.aload_n 3, 1) := by decide +kernel
theorem dL_law_2109 : decode cL_law 2109 = .ok (.iconst 0, 1) := by decide +kernel
theorem dL_law_2110 : decode cL_law 2110 = .ok (.laload, 1) := by decide +kernel
theorem dL_law_2111 : decode cL_law 2111 = .ok (.iload 7, 2) := by decide +kernel
theorem dL_law_2113 : decode cL_law 2113 = .ok (.ifCond .eq 7, 3) := by decide +kernel
theorem dL_law_2116 : decode cL_law 2116 = .ok (.lconst 1, 1) := by decide +kernel
theorem dL_law_2117 : decode cL_law 2117 = .ok (.goto 4, 3) := by decide +kernel
theorem dL_law_2120 : decode cL_law 2120 = .ok (.lconst 0, 1) := by decide +kernel
theorem dL_law_2121 : decode cL_law 2121 = .ok (.lcmp, 1) := by decide +kernel
theorem dL_law_2122 : decode cL_law 2122 = .ok (.ifCond .eq 5, 3) := by decide +kernel
theorem dL_law_2125 : decode cL_law 2125 = .ok (.iconst 0, 1) := by decide +kernel
theorem dL_law_2126 : decode cL_law 2126 = .ok (.ireturn, 1) := by decide +kernel
theorem dL_law_2127 : decode cL_law 2127 = .ok (.goto 314, 3) := by decide +kernel
theorem dL_law_2130 : decode cL_law 2130 = .ok (.aload_n 1, 1) := by decide +kernel
theorem dL_law_2131 : decode cL_law 2131 = .ok (.aload_n 0, 1) := by decide +kernel
theorem dL_law_2132 : decode cL_law 2132 = .ok (.iload 5, 2) := by decide +kernel
theorem dL_law_2134 : decode cL_law 2134 = .ok (.iconst 1, 1) := by decide +kernel
theorem dL_law_2135 : decode cL_law 2135 = .ok (.iadd, 1) := by decide +kernel
theorem dL_law_2136 : decode cL_law 2136 = .ok (.iaload, 1) := by decide +kernel
theorem dL_law_2137 : decode cL_law 2137 = .ok (.aload_n 3, 1) := by decide +kernel
theorem dL_law_2138 : decode cL_law 2138 = .ok (.invokestatic 238, 3) := by decide +kernel
theorem dL_law_2141 : decode cL_law 2141 = .ok (.istore 6, 2) := by decide +kernel
theorem dL_law_2143 : decode cL_law 2143 = .ok (.aload_n 2, 1) := by decide +kernel
theorem dL_law_2144 : decode cL_law 2144 = .ok (.aload_n 0, 1) := by decide +kernel
theorem dL_law_2145 : decode cL_law 2145 = .ok (.iload 5, 2) := by decide +kernel
theorem dL_law_2147 : decode cL_law 2147 = .ok (.iconst 1, 1) := by decide +kernel
theorem dL_law_2148 : decode cL_law 2148 = .ok (.iadd, 1) := by decide +kernel
theorem dL_law_2149 : decode cL_law 2149 = .ok (.iaload, 1) := by decide +kernel
theorem dL_law_2150 : decode cL_law 2150 = .ok (.invokevirtual 240, 3) := by decide +kernel
theorem dL_law_2153 : decode cL_law 2153 = .ok (.istore 7, 2) := by decide +kernel
theorem dL_law_2155 : decode cL_law 2155 = .ok (.aload_n 2, 1) := by decide +kernel
theorem dL_law_2156 : decode cL_law 2156 = .ok (.invokevirtual 143, 3) := by decide +kernel
theorem dL_law_2159 : decode cL_law 2159 = .ok (.iload 6, 2) := by decide +kernel
theorem dL_law_2161 : decode cL_law 2161 = .ok (.if_icmp .eq 5, 3) := by decide +kernel
theorem dL_law_2164 : decode cL_law 2164 = .ok (.iconst 0, 1) := by decide +kernel
theorem dL_law_2165 : decode cL_law 2165 = .ok (.ireturn, 1) := by decide +kernel
theorem dL_law_2166 : decode cL_law 2166 = .ok (.iload 6, 2) := by decide +kernel
theorem dL_law_2168 : decode cL_law 2168 = .ok (.ifCond .ne 15, 3) := by decide +kernel
theorem dL_law_2171 : decode cL_law 2171 = .ok (.aload_n 3, 1) := by decide +kernel
theorem dL_law_2172 : decode cL_law 2172 = .ok (.iconst 0, 1) := by decide +kernel
theorem dL_law_2173 : decode cL_law 2173 = .ok (.laload, 1) := by decide +kernel
theorem dL_law_2174 : decode cL_law 2174 = .ok (.iload 7, 2) := by decide +kernel
theorem dL_law_2176 : decode cL_law 2176 = .ok (.i2l, 1) := by decide +kernel
theorem dL_law_2177 : decode cL_law 2177 = .ok (.lcmp, 1) := by decide +kernel
theorem dL_law_2178 : decode cL_law 2178 = .ok (.ifCond .eq 5, 3) := by decide +kernel
theorem dL_law_2181 : decode cL_law 2181 = .ok (.iconst 0, 1) := by decide +kernel
theorem dL_law_2182 : decode cL_law 2182 = .ok (.ireturn, 1) := by decide +kernel
theorem dL_law_2183 : decode cL_law 2183 = .ok (.goto 258, 3) := by decide +kernel
theorem dL_law_2186 : decode cL_law 2186 = .ok (.aload_n 1, 1) := by decide +kernel
theorem dL_law_2187 : decode cL_law 2187 = .ok (.aload_n 0, 1) := by decide +kernel
theorem dL_law_2188 : decode cL_law 2188 = .ok (.iload 5, 2) := by decide +kernel
theorem dL_law_2190 : decode cL_law 2190 = .ok (.iconst 1, 1) := by decide +kernel
theorem dL_law_2191 : decode cL_law 2191 = .ok (.iadd, 1) := by decide +kernel
theorem dL_law_2192 : decode cL_law 2192 = .ok (.iaload, 1) := by decide +kernel
theorem dL_law_2193 : decode cL_law 2193 = .ok (.aload_n 3, 1) := by decide +kernel
theorem dL_law_2194 : decode cL_law 2194 = .ok (.invokestatic 241, 3) := by decide +kernel
theorem dL_law_2197 : decode cL_law 2197 = .ok (.istore 6, 2) := by decide +kernel
theorem dL_law_2199 : decode cL_law 2199 = .ok (.aload_n 2, 1) := by decide +kernel
theorem dL_law_2200 : decode cL_law 2200 = .ok (.aload_n 0, 1) := by decide +kernel
theorem dL_law_2201 : decode cL_law 2201 = .ok (.iload 5, 2) := by decide +kernel
theorem dL_law_2203 : decode cL_law 2203 = .ok (.iconst 1, 1) := by decide +kernel
theorem dL_law_2204 : decode cL_law 2204 = .ok (.iadd, 1) := by decide +kernel
theorem dL_law_2205 : decode cL_law 2205 = .ok (.iaload, 1) := by decide +kernel
theorem dL_law_2206 : decode cL_law 2206 = .ok (.invokevirtual 243, 3) := by decide +kernel
theorem dL_law_2209 : decode cL_law 2209 = .ok (.istore 7, 2) := by decide +kernel
theorem dL_law_2211 : decode cL_law 2211 = .ok (.aload_n 2, 1) := by decide +kernel
theorem dL_law_2212 : decode cL_law 2212 = .ok (.invokevirtual 143, 3) := by decide +kernel
theorem dL_law_2215 : decode cL_law 2215 = .ok (.iload 6, 2) := by decide +kernel
theorem dL_law_2217 : decode cL_law 2217 = .ok (.if_icmp .eq 5, 3) := by decide +kernel
theorem dL_law_2220 : decode cL_law 2220 = .ok (.iconst 0, 1) := by decide +kernel
theorem dL_law_2221 : decode cL_law 2221 = .ok (.ireturn, 1) := by decide +kernel
theorem dL_law_2222 : decode cL_law 2222 = .ok (.iload 6, 2) := by decide +kernel
theorem dL_law_2224 : decode cL_law 2224 = .ok (.ifCond .ne 15, 3) := by decide +kernel
theorem dL_law_2227 : decode cL_law 2227 = .ok (.aload_n 3, 1) := by decide +kernel
theorem dL_law_2228 : decode cL_law 2228 = .ok (.iconst 0, 1) := by decide +kernel
theorem dL_law_2229 : decode cL_law 2229 = .ok (.laload, 1) := by decide +kernel
theorem dL_law_2230 : decode cL_law 2230 = .ok (.iload 7, 2) := by decide +kernel
theorem dL_law_2232 : decode cL_law 2232 = .ok (.i2l, 1) := by decide +kernel
theorem dL_law_2233 : decode cL_law 2233 = .ok (.lcmp, 1) := by decide +kernel
theorem dL_law_2234 : decode cL_law 2234 = .ok (.ifCond .eq 5, 3) := by decide +kernel
theorem dL_law_2237 : decode cL_law 2237 = .ok (.iconst 0, 1) := by decide +kernel
theorem dL_law_2238 : decode cL_law 2238 = .ok (.ireturn, 1) := by decide +kernel
theorem dL_law_2239 : decode cL_law 2239 = .ok (.goto 202, 3) := by decide +kernel
theorem dL_law_2242 : decode cL_law 2242 = .ok (.aload_n 1, 1) := by decide +kernel
theorem dL_law_2243 : decode cL_law 2243 = .ok (.aload_n 0, 1) := by decide +kernel
theorem dL_law_2244 : decode cL_law 2244 = .ok (.iload 5, 2) := by decide +kernel
theorem dL_law_2246 : decode cL_law 2246 = .ok (.iconst 1, 1) := by decide +kernel
theorem dL_law_2247 : decode cL_law 2247 = .ok (.iadd, 1) := by decide +kernel
theorem dL_law_2248 : decode cL_law 2248 = .ok (.iaload, 1) := by decide +kernel
theorem dL_law_2249 : decode cL_law 2249 = .ok (.aload_n 3, 1) := by decide +kernel
theorem dL_law_2250 : decode cL_law 2250 = .ok (.invokestatic 244, 3) := by decide +kernel
theorem dL_law_2253 : decode cL_law 2253 = .ok (.istore 6, 2) := by decide +kernel
theorem dL_law_2255 : decode cL_law 2255 = .ok (.aload_n 2, 1) := by decide +kernel
theorem dL_law_2256 : decode cL_law 2256 = .ok (.aload_n 0, 1) := by decide +kernel
theorem dL_law_2257 : decode cL_law 2257 = .ok (.iload 5, 2) := by decide +kernel
theorem dL_law_2259 : decode cL_law 2259 = .ok (.iconst 1, 1) := by decide +kernel
theorem dL_law_2260 : decode cL_law 2260 = .ok (.iadd, 1) := by decide +kernel
theorem dL_law_2261 : decode cL_law 2261 = .ok (.iaload, 1) := by decide +kernel
theorem dL_law_2262 : decode cL_law 2262 = .ok (.invokevirtual 246, 3) := by decide +kernel
theorem dL_law_2265 : decode cL_law 2265 = .ok (.lstore 7, 2) := by decide +kernel
theorem dL_law_2267 : decode cL_law 2267 = .ok (.aload_n 2, 1) := by decide +kernel
theorem dL_law_2268 : decode cL_law 2268 = .ok (.invokevirtual 143, 3) := by decide +kernel
theorem dL_law_2271 : decode cL_law 2271 = .ok (.iload 6, 2) := by decide +kernel
theorem dL_law_2273 : decode cL_law 2273 = .ok (.if_icmp .eq 5, 3) := by decide +kernel
theorem dL_law_2276 : decode cL_law 2276 = .ok (.iconst 0, 1) := by decide +kernel
theorem dL_law_2277 : decode cL_law 2277 = .ok (.ireturn, 1) := by decide +kernel
theorem dL_law_2278 : decode cL_law 2278 = .ok (.iload 6, 2) := by decide +kernel
theorem dL_law_2280 : decode cL_law 2280 = .ok (.ifCond .ne 14, 3) := by decide +kernel
theorem dL_law_2283 : decode cL_law 2283 = .ok (.aload_n 3, 1) := by decide +kernel
theorem dL_law_2284 : decode cL_law 2284 = .ok (.iconst 0, 1) := by decide +kernel
theorem dL_law_2285 : decode cL_law 2285 = .ok (.laload, 1) := by decide +kernel
theorem dL_law_2286 : decode cL_law 2286 = .ok (.lload 7, 2) := by decide +kernel
theorem dL_law_2288 : decode cL_law 2288 = .ok (.lcmp, 1) := by decide +kernel
theorem dL_law_2289 : decode cL_law 2289 = .ok (.ifCond .eq 5, 3) := by decide +kernel
theorem dL_law_2292 : decode cL_law 2292 = .ok (.iconst 0, 1) := by decide +kernel
theorem dL_law_2293 : decode cL_law 2293 = .ok (.ireturn, 1) := by decide +kernel
theorem dL_law_2294 : decode cL_law 2294 = .ok (.goto 147, 3) := by decide +kernel
theorem dL_law_2297 : decode cL_law 2297 = .ok (.aload_n 1, 1) := by decide +kernel
theorem dL_law_2298 : decode cL_law 2298 = .ok (.aload 4, 2) := by decide +kernel
theorem dL_law_2300 : decode cL_law 2300 = .ok (.invokestatic 247, 3) := by decide +kernel
theorem dL_law_2303 : decode cL_law 2303 = .ok (.istore 6, 2) := by decide +kernel
theorem dL_law_2305 : decode cL_law 2305 = .ok (.aload_n 2, 1) := by decide +kernel
theorem dL_law_2306 : decode cL_law 2306 = .ok (.invokevirtual 250, 3) := by decide +kernel
theorem dL_law_2309 : decode cL_law 2309 = .ok (.fstore 7, 2) := by decide +kernel
theorem dL_law_2311 : decode cL_law 2311 = .ok (.aload_n 2, 1) := by decide +kernel
theorem dL_law_2312 : decode cL_law 2312 = .ok (.invokevirtual 143, 3) := by decide +kernel
theorem dL_law_2315 : decode cL_law 2315 = .ok (.iload 6, 2) := by decide +kernel
theorem dL_law_2317 : decode cL_law 2317 = .ok (.if_icmp .eq 5, 3) := by decide +kernel
theorem dL_law_2320 : decode cL_law 2320 = .ok (.iconst 0, 1) := by decide +kernel
theorem dL_law_2321 : decode cL_law 2321 = .ok (.ireturn, 1) := by decide +kernel
theorem dL_law_2322 : decode cL_law 2322 = .ok (.iload 6, 2) := by decide +kernel
theorem dL_law_2324 : decode cL_law 2324 = .ok (.ifCond .ne 36, 3) := by decide +kernel
theorem dL_law_2327 : decode cL_law 2327 = .ok (.aload 4, 2) := by decide +kernel
theorem dL_law_2329 : decode cL_law 2329 = .ok (.iconst 0, 1) := by decide +kernel
theorem dL_law_2330 : decode cL_law 2330 = .ok (.daload, 1) := by decide +kernel
theorem dL_law_2331 : decode cL_law 2331 = .ok (.fload 7, 2) := by decide +kernel
theorem dL_law_2333 : decode cL_law 2333 = .ok (.f2d, 1) := by decide +kernel
theorem dL_law_2334 : decode cL_law 2334 = .ok (.dcmp .l, 1) := by decide +kernel
theorem dL_law_2335 : decode cL_law 2335 = .ok (.ifCond .eq 25, 3) := by decide +kernel
theorem dL_law_2338 : decode cL_law 2338 = .ok (.aload 4, 2) := by decide +kernel
theorem dL_law_2340 : decode cL_law 2340 = .ok (.iconst 0, 1) := by decide +kernel
theorem dL_law_2341 : decode cL_law 2341 = .ok (.daload, 1) := by decide +kernel
theorem dL_law_2342 : decode cL_law 2342 = .ok (.aload 4, 2) := by decide +kernel
theorem dL_law_2344 : decode cL_law 2344 = .ok (.iconst 0, 1) := by decide +kernel
theorem dL_law_2345 : decode cL_law 2345 = .ok (.daload, 1) := by decide +kernel
theorem dL_law_2346 : decode cL_law 2346 = .ok (.dcmp .l, 1) := by decide +kernel
theorem dL_law_2347 : decode cL_law 2347 = .ok (.ifCond .eq 11, 3) := by decide +kernel
theorem dL_law_2350 : decode cL_law 2350 = .ok (.fload 7, 2) := by decide +kernel
theorem dL_law_2352 : decode cL_law 2352 = .ok (.fload 7, 2) := by decide +kernel
theorem dL_law_2354 : decode cL_law 2354 = .ok (.fcmp .l, 1) := by decide +kernel
theorem dL_law_2355 : decode cL_law 2355 = .ok (.ifCond .ne 5, 3) := by decide +kernel
theorem dL_law_2358 : decode cL_law 2358 = .ok (.iconst 0, 1) := by decide +kernel
theorem dL_law_2359 : decode cL_law 2359 = .ok (.ireturn, 1) := by decide +kernel
theorem dL_law_2360 : decode cL_law 2360 = .ok (.goto 81, 3) := by decide +kernel
theorem dL_law_2363 : decode cL_law 2363 = .ok (.aload_n 1, 1) := by decide +kernel
theorem dL_law_2364 : decode cL_law 2364 = .ok (.aload 4, 2) := by decide +kernel
theorem dL_law_2366 : decode cL_law 2366 = .ok (.invokestatic 251, 3) := by decide +kernel
theorem dL_law_2369 : decode cL_law 2369 = .ok (.istore 6, 2) := by decide +kernel
theorem dL_law_2371 : decode cL_law 2371 = .ok (.aload_n 2, 1) := by decide +kernel
theorem dL_law_2372 : decode cL_law 2372 = .ok (.invokevirtual 253, 3) := by decide +kernel
theorem dL_law_2375 : decode cL_law 2375 = .ok (.dstore 7, 2) := by decide +kernel
theorem dL_law_2377 : decode cL_law 2377 = .ok (.aload_n 2, 1) := by decide +kernel
theorem dL_law_2378 : decode cL_law 2378 = .ok (.invokevirtual 143, 3) := by decide +kernel
theorem dL_law_2381 : decode cL_law 2381 = .ok (.iload 6, 2) := by decide +kernel
theorem dL_law_2383 : decode cL_law 2383 = .ok (.if_icmp .eq 5, 3) := by decide +kernel
theorem dL_law_2386 : decode cL_law 2386 = .ok (.iconst 0, 1) := by decide +kernel
theorem dL_law_2387 : decode cL_law 2387 = .ok (.ireturn, 1) := by decide +kernel
theorem dL_law_2388 : decode cL_law 2388 = .ok (.iload 6, 2) := by decide +kernel
theorem dL_law_2390 : decode cL_law 2390 = .ok (.ifCond .ne 35, 3) := by decide +kernel
theorem dL_law_2393 : decode cL_law 2393 = .ok (.aload 4, 2) := by decide +kernel
theorem dL_law_2395 : decode cL_law 2395 = .ok (.iconst 0, 1) := by decide +kernel
theorem dL_law_2396 : decode cL_law 2396 = .ok (.daload, 1) := by decide +kernel
theorem dL_law_2397 : decode cL_law 2397 = .ok (.dload 7, 2) := by decide +kernel
theorem dL_law_2399 : decode cL_law 2399 = .ok (.dcmp .l, 1) := by decide +kernel
theorem dL_law_2400 : decode cL_law 2400 = .ok (.ifCond .eq 25, 3) := by decide +kernel
theorem dL_law_2403 : decode cL_law 2403 = .ok (.aload 4, 2) := by decide +kernel
theorem dL_law_2405 : decode cL_law 2405 = .ok (.iconst 0, 1) := by decide +kernel
theorem dL_law_2406 : decode cL_law 2406 = .ok (.daload, 1) := by decide +kernel
theorem dL_law_2407 : decode cL_law 2407 = .ok (.aload 4, 2) := by decide +kernel
theorem dL_law_2409 : decode cL_law 2409 = .ok (.iconst 0, 1) := by decide +kernel
theorem dL_law_2410 : decode cL_law 2410 = .ok (.daload, 1) := by decide +kernel
theorem dL_law_2411 : decode cL_law 2411 = .ok (.dcmp .l, 1) := by decide +kernel
theorem dL_law_2412 : decode cL_law 2412 = .ok (.ifCond .eq 11, 3) := by decide +kernel
theorem dL_law_2415 : decode cL_law 2415 = .ok (.dload 7, 2) := by decide +kernel
theorem dL_law_2417 : decode cL_law 2417 = .ok (.dload 7, 2) := by decide +kernel
theorem dL_law_2419 : decode cL_law 2419 = .ok (.dcmp .l, 1) := by decide +kernel
theorem dL_law_2420 : decode cL_law 2420 = .ok (.ifCond .ne 5, 3) := by decide +kernel
theorem dL_law_2423 : decode cL_law 2423 = .ok (.iconst 0, 1) := by decide +kernel
theorem dL_law_2424 : decode cL_law 2424 = .ok (.ireturn, 1) := by decide +kernel
theorem dL_law_2425 : decode cL_law 2425 = .ok (.goto 16, 3) := by decide +kernel
theorem dL_law_2428 : decode cL_law 2428 = .ok (.aload_n 1, 1) := by decide +kernel
theorem dL_law_2429 : decode cL_law 2429 = .ok (.invokevirtual 254, 3) := by decide +kernel
theorem dL_law_2432 : decode cL_law 2432 = .ok (.aload_n 2, 1) := by decide +kernel
theorem dL_law_2433 : decode cL_law 2433 = .ok (.invokevirtual 258, 3) := by decide +kernel
theorem dL_law_2436 : decode cL_law 2436 = .ok (.if_icmp .eq 5, 3) := by decide +kernel
theorem dL_law_2439 : decode cL_law 2439 = .ok (.iconst 0, 1) := by decide +kernel
theorem dL_law_2440 : decode cL_law 2440 = .ok (.ireturn, 1) := by decide +kernel
theorem dL_law_2441 : decode cL_law 2441 = .ok (.iinc 5 6, 3) := by decide +kernel
theorem dL_law_2444 : decode cL_law 2444 = .ok (.goto (-2416), 3) := by decide +kernel
theorem dL_law_2447 : decode cL_law 2447 = .ok (.iconst 1, 1) := by decide +kernel
theorem dL_law_2448 : decode cL_law 2448 = .ok (.ireturn, 1) := by decide +kernel
theorem dL_lotOf_0 : decode cL_lotOf 0 = .ok (.aload_n 2, 1) := by decide +kernel
theorem dL_lotOf_1 : decode cL_lotOf 1 = .ok (.iconst 0, 1) := by decide +kernel
theorem dL_lotOf_2 : decode cL_lotOf 2 = .ok (.aload_n 0, 1) := by decide +kernel
theorem dL_lotOf_3 : decode cL_lotOf 3 = .ok (.iload_n 1, 1) := by decide +kernel
theorem dL_lotOf_4 : decode cL_lotOf 4 = .ok (.invokevirtual 94, 3) := by decide +kernel
theorem dL_lotOf_7 : decode cL_lotOf 7 = .ok (.i2l, 1) := by decide +kernel
theorem dL_lotOf_8 : decode cL_lotOf 8 = .ok (.lastore, 1) := by decide +kernel
theorem dL_lotOf_9 : decode cL_lotOf 9 = .ok (.goto 9, 3) := by decide +kernel
theorem dL_lotOf_12 : decode cL_lotOf 12 = .ok (.astore_n 3, 1) := by decide +kernel
theorem dL_lotOf_13 : decode cL_lotOf 13 = .ok (.iconst 1, 1) := by decide +kernel
theorem dL_lotOf_14 : decode cL_lotOf 14 = .ok (.ireturn, 1) := by decide +kernel
theorem dL_lotOf_15 : decode cL_lotOf 15 = .ok (.astore_n 3, 1) := by decide +kernel
theorem dL_lotOf_16 : decode cL_lotOf 16 = .ok (.iconst 2, 1) := by decide +kernel
theorem dL_lotOf_17 : decode cL_lotOf 17 = .ok (.ireturn, 1) := by decide +kernel
theorem dL_lotOf_18 : decode cL_lotOf 18 = .ok (.iconst 0, 1) := by decide +kernel
theorem dL_lotOf_19 : decode cL_lotOf 19 = .ok (.ireturn, 1) := by decide +kernel
theorem dL_lotsIn_0 : decode cL_lotsIn 0 = .ok (.aload_n 2, 1) := by decide +kernel
theorem dL_lotsIn_1 : decode cL_lotsIn 1 = .ok (.iconst 0, 1) := by decide +kernel
theorem dL_lotsIn_2 : decode cL_lotsIn 2 = .ok (.aload_n 0, 1) := by decide +kernel
theorem dL_lotsIn_3 : decode cL_lotsIn 3 = .ok (.iload_n 1, 1) := by decide +kernel
theorem dL_lotsIn_4 : decode cL_lotsIn 4 = .ok (.invokevirtual 117, 3) := by decide +kernel
theorem dL_lotsIn_7 : decode cL_lotsIn 7 = .ok (.i2l, 1) := by decide +kernel
theorem dL_lotsIn_8 : decode cL_lotsIn 8 = .ok (.lastore, 1) := by decide +kernel
theorem dL_lotsIn_9 : decode cL_lotsIn 9 = .ok (.goto 6, 3) := by decide +kernel
theorem dL_lotsIn_12 : decode cL_lotsIn 12 = .ok (.astore_n 3, 1) := by decide +kernel
theorem dL_lotsIn_13 : decode cL_lotsIn 13 = .ok (.iconst 1, 1) := by decide +kernel
theorem dL_lotsIn_14 : decode cL_lotsIn 14 = .ok (.ireturn, 1) := by decide +kernel
theorem dL_lotsIn_15 : decode cL_lotsIn 15 = .ok (.iconst 0, 1) := by decide +kernel
theorem dL_lotsIn_16 : decode cL_lotsIn 16 = .ok (.ireturn, 1) := by decide +kernel
theorem dL_machineIs_0 : decode cL_machineIs 0 = .ok (.aload_n 2, 1) := by decide +kernel
theorem dL_machineIs_1 : decode cL_machineIs 1 = .ok (.iconst 0, 1) := by decide +kernel
theorem dL_machineIs_2 : decode cL_machineIs 2 = .ok (.aload_n 0, 1) := by decide +kernel
theorem dL_machineIs_3 : decode cL_machineIs 3 = .ok (.iload_n 1, 1) := by decide +kernel
theorem dL_machineIs_4 : decode cL_machineIs 4 = .ok (.invokevirtual 102, 3) := by decide +kernel
theorem dL_machineIs_7 : decode cL_machineIs 7 = .ok (.i2l, 1) := by decide +kernel
theorem dL_machineIs_8 : decode cL_machineIs 8 = .ok (.lastore, 1) := by decide +kernel
theorem dL_machineIs_9 : decode cL_machineIs 9 = .ok (.goto 6, 3) := by decide +kernel
theorem dL_machineIs_12 : decode cL_machineIs 12 = .ok (.astore_n 3, 1) := by decide +kernel
theorem dL_machineIs_13 : decode cL_machineIs 13 = .ok (.iconst 1, 1) := by decide +kernel
theorem dL_machineIs_14 : decode cL_machineIs 14 = .ok (.ireturn, 1) := by decide +kernel
theorem dL_machineIs_15 : decode cL_machineIs 15 = .ok (.iconst 0, 1) := by decide +kernel
theorem dL_machineIs_16 : decode cL_machineIs 16 = .ok (.ireturn, 1) := by decide +kernel
theorem dL_meanBusy_0 : decode cL_meanBusy 0 = .ok (.aload_n 1, 1) := by decide +kernel
theorem dL_meanBusy_1 : decode cL_meanBusy 1 = .ok (.iconst 0, 1) := by decide +kernel
theorem dL_meanBusy_2 : decode cL_meanBusy 2 = .ok (.aload_n 0, 1) := by decide +kernel
theorem dL_meanBusy_3 : decode cL_meanBusy 3 = .ok (.invokevirtual 129, 3) := by decide +kernel
theorem dL_meanBusy_6 : decode cL_meanBusy 6 = .ok (.dastore, 1) := by decide +kernel
theorem dL_meanBusy_7 : decode cL_meanBusy 7 = .ok (.goto 6, 3) := by decide +kernel
theorem dL_meanBusy_10 : decode cL_meanBusy 10 = .ok (.astore_n 2, 1) := by decide +kernel
theorem dL_meanBusy_11 : decode cL_meanBusy 11 = .ok (.iconst 1, 1) := by decide +kernel
theorem dL_meanBusy_12 : decode cL_meanBusy 12 = .ok (.ireturn, 1) := by decide +kernel
theorem dL_meanBusy_13 : decode cL_meanBusy 13 = .ok (.iconst 0, 1) := by decide +kernel
theorem dL_meanBusy_14 : decode cL_meanBusy 14 = .ok (.ireturn, 1) := by decide +kernel
theorem dL_measure_0 : decode cL_measure 0 = .ok (.aload_n 3, 1) := by decide +kernel
theorem dL_measure_1 : decode cL_measure 1 = .ok (.iconst 0, 1) := by decide +kernel
theorem dL_measure_2 : decode cL_measure 2 = .ok (.aload_n 0, 1) := by decide +kernel
theorem dL_measure_3 : decode cL_measure 3 = .ok (.iload_n 1, 1) := by decide +kernel
theorem dL_measure_4 : decode cL_measure 4 = .ok (.iload_n 2, 1) := by decide +kernel
theorem dL_measure_5 : decode cL_measure 5 = .ok (.invokevirtual 51, 3) := by decide +kernel
theorem dL_measure_8 : decode cL_measure 8 = .ok (.ifCond .eq 7, 3) := by decide +kernel
theorem dL_measure_11 : decode cL_measure 11 = .ok (.lconst 1, 1) := by decide +kernel
theorem dL_measure_12 : decode cL_measure 12 = .ok (.goto 4, 3) := by decide +kernel
theorem dL_measure_15 : decode cL_measure 15 = .ok (.lconst 0, 1) := by decide +kernel
theorem dL_measure_16 : decode cL_measure 16 = .ok (.lastore, 1) := by decide +kernel
theorem dL_measure_17 : decode cL_measure 17 = .ok (.goto 11, 3) := by decide +kernel
theorem dL_measure_20 : decode cL_measure 20 = .ok (.astore 4, 2) := by decide +kernel
theorem dL_measure_22 : decode cL_measure 22 = .ok (.iconst 1, 1) := by decide +kernel
theorem dL_measure_23 : decode cL_measure 23 = .ok (.ireturn, 1) := by decide +kernel
theorem dL_measure_24 : decode cL_measure 24 = .ok (.astore 4, 2) := by decide +kernel
theorem dL_measure_26 : decode cL_measure 26 = .ok (.iconst 2, 1) := by decide +kernel
theorem dL_measure_27 : decode cL_measure 27 = .ok (.ireturn, 1) := by decide +kernel
theorem dL_measure_28 : decode cL_measure 28 = .ok (.iconst 0, 1) := by decide +kernel
theorem dL_measure_29 : decode cL_measure 29 = .ok (.ireturn, 1) := by decide +kernel
theorem dL_order_0 : decode cL_order 0 = .ok (.aload 5, 2) := by decide +kernel
theorem dL_order_2 : decode cL_order 2 = .ok (.iconst 0, 1) := by decide +kernel
theorem dL_order_3 : decode cL_order 3 = .ok (.aload_n 0, 1) := by decide +kernel
theorem dL_order_4 : decode cL_order 4 = .ok (.iload_n 1, 1) := by decide +kernel
theorem dL_order_5 : decode cL_order 5 = .ok (.iload_n 2, 1) := by decide +kernel
theorem dL_order_6 : decode cL_order 6 = .ok (.iload_n 3, 1) := by decide +kernel
theorem dL_order_7 : decode cL_order 7 = .ok (.iload 4, 2) := by decide +kernel
theorem dL_order_9 : decode cL_order 9 = .ok (.invokevirtual 69, 3) := by decide +kernel
theorem dL_order_12 : decode cL_order 12 = .ok (.i2l, 1) := by decide +kernel
theorem dL_order_13 : decode cL_order 13 = .ok (.lastore, 1) := by decide +kernel
theorem dL_order_14 : decode cL_order 14 = .ok (.goto 15, 3) := by decide +kernel
theorem dL_order_17 : decode cL_order 17 = .ok (.astore 6, 2) := by decide +kernel
theorem dL_order_19 : decode cL_order 19 = .ok (.iconst 1, 1) := by decide +kernel
theorem dL_order_20 : decode cL_order 20 = .ok (.ireturn, 1) := by decide +kernel
theorem dL_order_21 : decode cL_order 21 = .ok (.astore 6, 2) := by decide +kernel
theorem dL_order_23 : decode cL_order 23 = .ok (.iconst 2, 1) := by decide +kernel
theorem dL_order_24 : decode cL_order 24 = .ok (.ireturn, 1) := by decide +kernel
theorem dL_order_25 : decode cL_order 25 = .ok (.astore 6, 2) := by decide +kernel
theorem dL_order_27 : decode cL_order 27 = .ok (.iconst 3, 1) := by decide +kernel
theorem dL_order_28 : decode cL_order 28 = .ok (.ireturn, 1) := by decide +kernel
theorem dL_order_29 : decode cL_order 29 = .ok (.iconst 0, 1) := by decide +kernel
theorem dL_order_30 : decode cL_order 30 = .ok (.ireturn, 1) := by decide +kernel
theorem dL_partOf_0 : decode cL_partOf 0 = .ok (.aload_n 2, 1) := by decide +kernel
theorem dL_partOf_1 : decode cL_partOf 1 = .ok (.iconst 0, 1) := by decide +kernel
theorem dL_partOf_2 : decode cL_partOf 2 = .ok (.aload_n 0, 1) := by decide +kernel
theorem dL_partOf_3 : decode cL_partOf 3 = .ok (.iload_n 1, 1) := by decide +kernel
theorem dL_partOf_4 : decode cL_partOf 4 = .ok (.invokevirtual 55, 3) := by decide +kernel
theorem dL_partOf_7 : decode cL_partOf 7 = .ok (.i2l, 1) := by decide +kernel
theorem dL_partOf_8 : decode cL_partOf 8 = .ok (.lastore, 1) := by decide +kernel
theorem dL_partOf_9 : decode cL_partOf 9 = .ok (.goto 6, 3) := by decide +kernel
theorem dL_partOf_12 : decode cL_partOf 12 = .ok (.astore_n 3, 1) := by decide +kernel
theorem dL_partOf_13 : decode cL_partOf 13 = .ok (.iconst 1, 1) := by decide +kernel
theorem dL_partOf_14 : decode cL_partOf 14 = .ok (.ireturn, 1) := by decide +kernel
theorem dL_partOf_15 : decode cL_partOf 15 = .ok (.iconst 0, 1) := by decide +kernel
theorem dL_partOf_16 : decode cL_partOf 16 = .ok (.ireturn, 1) := by decide +kernel
theorem dL_promise_0 : decode cL_promise 0 = .ok (.aload_n 2, 1) := by decide +kernel
theorem dL_promise_1 : decode cL_promise 1 = .ok (.iconst 0, 1) := by decide +kernel
theorem dL_promise_2 : decode cL_promise 2 = .ok (.aload_n 0, 1) := by decide +kernel
theorem dL_promise_3 : decode cL_promise 3 = .ok (.iload_n 1, 1) := by decide +kernel
theorem dL_promise_4 : decode cL_promise 4 = .ok (.invokevirtual 72, 3) := by decide +kernel
theorem dL_promise_7 : decode cL_promise 7 = .ok (.ifCond .eq 7, 3) := by decide +kernel
theorem dL_promise_10 : decode cL_promise 10 = .ok (.lconst 1, 1) := by decide +kernel
theorem dL_promise_11 : decode cL_promise 11 = .ok (.goto 4, 3) := by decide +kernel
theorem dL_promise_14 : decode cL_promise 14 = .ok (.lconst 0, 1) := by decide +kernel
theorem dL_promise_15 : decode cL_promise 15 = .ok (.lastore, 1) := by decide +kernel
theorem dL_promise_16 : decode cL_promise 16 = .ok (.goto 9, 3) := by decide +kernel
theorem dL_promise_19 : decode cL_promise 19 = .ok (.astore_n 3, 1) := by decide +kernel
theorem dL_promise_20 : decode cL_promise 20 = .ok (.iconst 1, 1) := by decide +kernel
theorem dL_promise_21 : decode cL_promise 21 = .ok (.ireturn, 1) := by decide +kernel
theorem dL_promise_22 : decode cL_promise 22 = .ok (.astore_n 3, 1) := by decide +kernel
theorem dL_promise_23 : decode cL_promise 23 = .ok (.iconst 2, 1) := by decide +kernel
theorem dL_promise_24 : decode cL_promise 24 = .ok (.ireturn, 1) := by decide +kernel
theorem dL_promise_25 : decode cL_promise 25 = .ok (.iconst 0, 1) := by decide +kernel
theorem dL_promise_26 : decode cL_promise 26 = .ok (.ireturn, 1) := by decide +kernel
theorem dL_receive_0 : decode cL_receive 0 = .ok (.aload 6, 2) := by decide +kernel
theorem dL_receive_2 : decode cL_receive 2 = .ok (.iconst 0, 1) := by decide +kernel
theorem dL_receive_3 : decode cL_receive 3 = .ok (.aload_n 0, 1) := by decide +kernel
theorem dL_receive_4 : decode cL_receive 4 = .ok (.iload_n 1, 1) := by decide +kernel
theorem dL_receive_5 : decode cL_receive 5 = .ok (.iload_n 2, 1) := by decide +kernel
theorem dL_receive_6 : decode cL_receive 6 = .ok (.iload_n 3, 1) := by decide +kernel
theorem dL_receive_7 : decode cL_receive 7 = .ok (.iload 4, 2) := by decide +kernel
theorem dL_receive_9 : decode cL_receive 9 = .ok (.iload 5, 2) := by decide +kernel
theorem dL_receive_11 : decode cL_receive 11 = .ok (.invokevirtual 31, 3) := by decide +kernel
theorem dL_receive_14 : decode cL_receive 14 = .ok (.i2l, 1) := by decide +kernel
theorem dL_receive_15 : decode cL_receive 15 = .ok (.lastore, 1) := by decide +kernel
theorem dL_receive_16 : decode cL_receive 16 = .ok (.goto 19, 3) := by decide +kernel
theorem dL_receive_19 : decode cL_receive 19 = .ok (.astore 7, 2) := by decide +kernel
theorem dL_receive_21 : decode cL_receive 21 = .ok (.iconst 1, 1) := by decide +kernel
theorem dL_receive_22 : decode cL_receive 22 = .ok (.ireturn, 1) := by decide +kernel
theorem dL_receive_23 : decode cL_receive 23 = .ok (.astore 7, 2) := by decide +kernel
theorem dL_receive_25 : decode cL_receive 25 = .ok (.iconst 2, 1) := by decide +kernel
theorem dL_receive_26 : decode cL_receive 26 = .ok (.ireturn, 1) := by decide +kernel
theorem dL_receive_27 : decode cL_receive 27 = .ok (.astore 7, 2) := by decide +kernel
theorem dL_receive_29 : decode cL_receive 29 = .ok (.iconst 3, 1) := by decide +kernel
theorem dL_receive_30 : decode cL_receive 30 = .ok (.ireturn, 1) := by decide +kernel
theorem dL_receive_31 : decode cL_receive 31 = .ok (.astore 7, 2) := by decide +kernel
theorem dL_receive_33 : decode cL_receive 33 = .ok (.iconst 4, 1) := by decide +kernel
theorem dL_receive_34 : decode cL_receive 34 = .ok (.ireturn, 1) := by decide +kernel
theorem dL_receive_35 : decode cL_receive 35 = .ok (.iconst 0, 1) := by decide +kernel
theorem dL_receive_36 : decode cL_receive 36 = .ok (.ireturn, 1) := by decide +kernel
theorem dL_release_0 : decode cL_release 0 = .ok (.aload_n 2, 1) := by decide +kernel
theorem dL_release_1 : decode cL_release 1 = .ok (.iconst 0, 1) := by decide +kernel
theorem dL_release_2 : decode cL_release 2 = .ok (.aload_n 0, 1) := by decide +kernel
theorem dL_release_3 : decode cL_release 3 = .ok (.iload_n 1, 1) := by decide +kernel
theorem dL_release_4 : decode cL_release 4 = .ok (.invokevirtual 78, 3) := by decide +kernel
theorem dL_release_7 : decode cL_release 7 = .ok (.ifCond .eq 7, 3) := by decide +kernel
theorem dL_release_10 : decode cL_release 10 = .ok (.lconst 1, 1) := by decide +kernel
theorem dL_release_11 : decode cL_release 11 = .ok (.goto 4, 3) := by decide +kernel
theorem dL_release_14 : decode cL_release 14 = .ok (.lconst 0, 1) := by decide +kernel
theorem dL_release_15 : decode cL_release 15 = .ok (.lastore, 1) := by decide +kernel
theorem dL_release_16 : decode cL_release 16 = .ok (.goto 9, 3) := by decide +kernel
theorem dL_release_19 : decode cL_release 19 = .ok (.astore_n 3, 1) := by decide +kernel
theorem dL_release_20 : decode cL_release 20 = .ok (.iconst 1, 1) := by decide +kernel
theorem dL_release_21 : decode cL_release 21 = .ok (.ireturn, 1) := by decide +kernel
theorem dL_release_22 : decode cL_release 22 = .ok (.astore_n 3, 1) := by decide +kernel
theorem dL_release_23 : decode cL_release 23 = .ok (.iconst 2, 1) := by decide +kernel
theorem dL_release_24 : decode cL_release 24 = .ok (.ireturn, 1) := by decide +kernel
theorem dL_release_25 : decode cL_release 25 = .ok (.iconst 0, 1) := by decide +kernel
theorem dL_release_26 : decode cL_release 26 = .ok (.ireturn, 1) := by decide +kernel
theorem dL_reserved_0 : decode cL_reserved 0 = .ok (.aload_n 2, 1) := by decide +kernel
theorem dL_reserved_1 : decode cL_reserved 1 = .ok (.iconst 0, 1) := by decide +kernel
theorem dL_reserved_2 : decode cL_reserved 2 = .ok (.aload_n 0, 1) := by decide +kernel
theorem dL_reserved_3 : decode cL_reserved 3 = .ok (.iload_n 1, 1) := by decide +kernel
theorem dL_reserved_4 : decode cL_reserved 4 = .ok (.invokevirtual 62, 3) := by decide +kernel
theorem dL_reserved_7 : decode cL_reserved 7 = .ok (.i2l, 1) := by decide +kernel
theorem dL_reserved_8 : decode cL_reserved 8 = .ok (.lastore, 1) := by decide +kernel
theorem dL_reserved_9 : decode cL_reserved 9 = .ok (.goto 6, 3) := by decide +kernel
theorem dL_reserved_12 : decode cL_reserved 12 = .ok (.astore_n 3, 1) := by decide +kernel
theorem dL_reserved_13 : decode cL_reserved 13 = .ok (.iconst 1, 1) := by decide +kernel
theorem dL_reserved_14 : decode cL_reserved 14 = .ok (.ireturn, 1) := by decide +kernel
theorem dL_reserved_15 : decode cL_reserved 15 = .ok (.iconst 0, 1) := by decide +kernel
theorem dL_reserved_16 : decode cL_reserved 16 = .ok (.ireturn, 1) := by decide +kernel
theorem dL_rest_0 : decode cL_rest 0 = .ok (.aload_n 2, 1) := by decide +kernel
theorem dL_rest_1 : decode cL_rest 1 = .ok (.iconst 0, 1) := by decide +kernel
theorem dL_rest_2 : decode cL_rest 2 = .ok (.aload_n 0, 1) := by decide +kernel
theorem dL_rest_3 : decode cL_rest 3 = .ok (.iload_n 1, 1) := by decide +kernel
theorem dL_rest_4 : decode cL_rest 4 = .ok (.invokevirtual 59, 3) := by decide +kernel
theorem dL_rest_7 : decode cL_rest 7 = .ok (.i2l, 1) := by decide +kernel
theorem dL_rest_8 : decode cL_rest 8 = .ok (.lastore, 1) := by decide +kernel
theorem dL_rest_9 : decode cL_rest 9 = .ok (.goto 6, 3) := by decide +kernel
theorem dL_rest_12 : decode cL_rest 12 = .ok (.astore_n 3, 1) := by decide +kernel
theorem dL_rest_13 : decode cL_rest 13 = .ok (.iconst 1, 1) := by decide +kernel
theorem dL_rest_14 : decode cL_rest 14 = .ok (.ireturn, 1) := by decide +kernel
theorem dL_rest_15 : decode cL_rest 15 = .ok (.iconst 0, 1) := by decide +kernel
theorem dL_rest_16 : decode cL_rest 16 = .ok (.ireturn, 1) := by decide +kernel
theorem dL_rule_0 : decode cL_rule 0 = .ok (.aload_n 2, 1) := by decide +kernel
theorem dL_rule_1 : decode cL_rule 1 = .ok (.iconst 0, 1) := by decide +kernel
theorem dL_rule_2 : decode cL_rule 2 = .ok (.aload_n 0, 1) := by decide +kernel
theorem dL_rule_3 : decode cL_rule 3 = .ok (.iload_n 1, 1) := by decide +kernel
theorem dL_rule_4 : decode cL_rule 4 = .ok (.invokevirtual 35, 3) := by decide +kernel
theorem dL_rule_7 : decode cL_rule 7 = .ok (.i2l, 1) := by decide +kernel
theorem dL_rule_8 : decode cL_rule 8 = .ok (.lastore, 1) := by decide +kernel
theorem dL_rule_9 : decode cL_rule 9 = .ok (.goto 6, 3) := by decide +kernel
theorem dL_rule_12 : decode cL_rule 12 = .ok (.astore_n 3, 1) := by decide +kernel
theorem dL_rule_13 : decode cL_rule 13 = .ok (.iconst 1, 1) := by decide +kernel
theorem dL_rule_14 : decode cL_rule 14 = .ok (.ireturn, 1) := by decide +kernel
theorem dL_rule_15 : decode cL_rule 15 = .ok (.iconst 0, 1) := by decide +kernel
theorem dL_rule_16 : decode cL_rule 16 = .ok (.ireturn, 1) := by decide +kernel
theorem dL_scrap_0 : decode cL_scrap 0 = .ok (.aload_n 3, 1) := by decide +kernel
theorem dL_scrap_1 : decode cL_scrap 1 = .ok (.iconst 0, 1) := by decide +kernel
theorem dL_scrap_2 : decode cL_scrap 2 = .ok (.aload_n 0, 1) := by decide +kernel
theorem dL_scrap_3 : decode cL_scrap 3 = .ok (.iload_n 1, 1) := by decide +kernel
theorem dL_scrap_4 : decode cL_scrap 4 = .ok (.iload_n 2, 1) := by decide +kernel
theorem dL_scrap_5 : decode cL_scrap 5 = .ok (.invokevirtual 81, 3) := by decide +kernel
theorem dL_scrap_8 : decode cL_scrap 8 = .ok (.i2l, 1) := by decide +kernel
theorem dL_scrap_9 : decode cL_scrap 9 = .ok (.lastore, 1) := by decide +kernel
theorem dL_scrap_10 : decode cL_scrap 10 = .ok (.goto 15, 3) := by decide +kernel
theorem dL_scrap_13 : decode cL_scrap 13 = .ok (.astore 4, 2) := by decide +kernel
theorem dL_scrap_15 : decode cL_scrap 15 = .ok (.iconst 1, 1) := by decide +kernel
theorem dL_scrap_16 : decode cL_scrap 16 = .ok (.ireturn, 1) := by decide +kernel
theorem dL_scrap_17 : decode cL_scrap 17 = .ok (.astore 4, 2) := by decide +kernel
theorem dL_scrap_19 : decode cL_scrap 19 = .ok (.iconst 2, 1) := by decide +kernel
theorem dL_scrap_20 : decode cL_scrap 20 = .ok (.ireturn, 1) := by decide +kernel
theorem dL_scrap_21 : decode cL_scrap 21 = .ok (.astore 4, 2) := by decide +kernel
theorem dL_scrap_23 : decode cL_scrap 23 = .ok (.iconst 3, 1) := by decide +kernel
theorem dL_scrap_24 : decode cL_scrap 24 = .ok (.ireturn, 1) := by decide +kernel
theorem dL_scrap_25 : decode cL_scrap 25 = .ok (.iconst 0, 1) := by decide +kernel
theorem dL_scrap_26 : decode cL_scrap 26 = .ok (.ireturn, 1) := by decide +kernel
theorem dL_setChart_0 : decode cL_setChart 0 = .ok (.aload 4, 2) := by decide +kernel
theorem dL_setChart_2 : decode cL_setChart 2 = .ok (.iconst 0, 1) := by decide +kernel
theorem dL_setChart_3 : decode cL_setChart 3 = .ok (.aload_n 0, 1) := by decide +kernel
theorem dL_setChart_4 : decode cL_setChart 4 = .ok (.iload_n 1, 1) := by decide +kernel
theorem dL_setChart_5 : decode cL_setChart 5 = .ok (.iload_n 2, 1) := by decide +kernel
theorem dL_setChart_6 : decode cL_setChart 6 = .ok (.iload_n 3, 1) := by decide +kernel
theorem dL_setChart_7 : decode cL_setChart 7 = .ok (.invokevirtual 47, 3) := by decide +kernel
theorem dL_setChart_10 : decode cL_setChart 10 = .ok (.i2l, 1) := by decide +kernel
theorem dL_setChart_11 : decode cL_setChart 11 = .ok (.lastore, 1) := by decide +kernel
theorem dL_setChart_12 : decode cL_setChart 12 = .ok (.goto 11, 3) := by decide +kernel
theorem dL_setChart_15 : decode cL_setChart 15 = .ok (.astore 5, 2) := by decide +kernel
theorem dL_setChart_17 : decode cL_setChart 17 = .ok (.iconst 1, 1) := by decide +kernel
theorem dL_setChart_18 : decode cL_setChart 18 = .ok (.ireturn, 1) := by decide +kernel
theorem dL_setChart_19 : decode cL_setChart 19 = .ok (.astore 5, 2) := by decide +kernel
theorem dL_setChart_21 : decode cL_setChart 21 = .ok (.iconst 2, 1) := by decide +kernel
theorem dL_setChart_22 : decode cL_setChart 22 = .ok (.ireturn, 1) := by decide +kernel
theorem dL_setChart_23 : decode cL_setChart 23 = .ok (.iconst 0, 1) := by decide +kernel
theorem dL_setChart_24 : decode cL_setChart 24 = .ok (.ireturn, 1) := by decide +kernel
theorem dL_stateOf_0 : decode cL_stateOf 0 = .ok (.aload_n 2, 1) := by decide +kernel
theorem dL_stateOf_1 : decode cL_stateOf 1 = .ok (.iconst 0, 1) := by decide +kernel
theorem dL_stateOf_2 : decode cL_stateOf 2 = .ok (.aload_n 0, 1) := by decide +kernel
theorem dL_stateOf_3 : decode cL_stateOf 3 = .ok (.iload_n 1, 1) := by decide +kernel
theorem dL_stateOf_4 : decode cL_stateOf 4 = .ok (.invokevirtual 91, 3) := by decide +kernel
theorem dL_stateOf_7 : decode cL_stateOf 7 = .ok (.i2l, 1) := by decide +kernel
theorem dL_stateOf_8 : decode cL_stateOf 8 = .ok (.lastore, 1) := by decide +kernel
theorem dL_stateOf_9 : decode cL_stateOf 9 = .ok (.goto 6, 3) := by decide +kernel
theorem dL_stateOf_12 : decode cL_stateOf 12 = .ok (.astore_n 3, 1) := by decide +kernel
theorem dL_stateOf_13 : decode cL_stateOf 13 = .ok (.iconst 1, 1) := by decide +kernel
theorem dL_stateOf_14 : decode cL_stateOf 14 = .ok (.ireturn, 1) := by decide +kernel
theorem dL_stateOf_15 : decode cL_stateOf 15 = .ok (.iconst 0, 1) := by decide +kernel
theorem dL_stateOf_16 : decode cL_stateOf 16 = .ok (.ireturn, 1) := by decide +kernel
theorem dL_touched_0 : decode cL_touched 0 = .ok (.aload_n 2, 1) := by decide +kernel
theorem dL_touched_1 : decode cL_touched 1 = .ok (.iconst 0, 1) := by decide +kernel
theorem dL_touched_2 : decode cL_touched 2 = .ok (.aload_n 0, 1) := by decide +kernel
theorem dL_touched_3 : decode cL_touched 3 = .ok (.iload_n 1, 1) := by decide +kernel
theorem dL_touched_4 : decode cL_touched 4 = .ok (.invokevirtual 114, 3) := by decide +kernel
theorem dL_touched_7 : decode cL_touched 7 = .ok (.i2l, 1) := by decide +kernel
theorem dL_touched_8 : decode cL_touched 8 = .ok (.lastore, 1) := by decide +kernel
theorem dL_touched_9 : decode cL_touched 9 = .ok (.goto 6, 3) := by decide +kernel
theorem dL_touched_12 : decode cL_touched 12 = .ok (.astore_n 3, 1) := by decide +kernel
theorem dL_touched_13 : decode cL_touched 13 = .ok (.iconst 1, 1) := by decide +kernel
theorem dL_touched_14 : decode cL_touched 14 = .ok (.ireturn, 1) := by decide +kernel
theorem dL_touched_15 : decode cL_touched 15 = .ok (.iconst 0, 1) := by decide +kernel
theorem dL_touched_16 : decode cL_touched 16 = .ok (.ireturn, 1) := by decide +kernel
theorem dL_waiting_0 : decode cL_waiting 0 = .ok (.aload_n 2, 1) := by decide +kernel
theorem dL_waiting_1 : decode cL_waiting 1 = .ok (.iconst 0, 1) := by decide +kernel
theorem dL_waiting_2 : decode cL_waiting 2 = .ok (.aload_n 0, 1) := by decide +kernel
theorem dL_waiting_3 : decode cL_waiting 3 = .ok (.iload_n 1, 1) := by decide +kernel
theorem dL_waiting_4 : decode cL_waiting 4 = .ok (.invokevirtual 108, 3) := by decide +kernel
theorem dL_waiting_7 : decode cL_waiting 7 = .ok (.i2l, 1) := by decide +kernel
theorem dL_waiting_8 : decode cL_waiting 8 = .ok (.lastore, 1) := by decide +kernel
theorem dL_waiting_9 : decode cL_waiting 9 = .ok (.goto 6, 3) := by decide +kernel
theorem dL_waiting_12 : decode cL_waiting 12 = .ok (.astore_n 3, 1) := by decide +kernel
theorem dL_waiting_13 : decode cL_waiting 13 = .ok (.iconst 1, 1) := by decide +kernel
theorem dL_waiting_14 : decode cL_waiting 14 = .ok (.ireturn, 1) := by decide +kernel
theorem dL_waiting_15 : decode cL_waiting 15 = .ok (.iconst 0, 1) := by decide +kernel
theorem dL_waiting_16 : decode cL_waiting 16 = .ok (.ireturn, 1) := by decide +kernel
theorem dL_wear_0 : decode cL_wear 0 = .ok (.aload_n 2, 1) := by decide +kernel
theorem dL_wear_1 : decode cL_wear 1 = .ok (.iconst 0, 1) := by decide +kernel
theorem dL_wear_2 : decode cL_wear 2 = .ok (.aload_n 0, 1) := by decide +kernel
theorem dL_wear_3 : decode cL_wear 3 = .ok (.iload_n 1, 1) := by decide +kernel
theorem dL_wear_4 : decode cL_wear 4 = .ok (.invokevirtual 105, 3) := by decide +kernel
theorem dL_wear_7 : decode cL_wear 7 = .ok (.i2l, 1) := by decide +kernel
theorem dL_wear_8 : decode cL_wear 8 = .ok (.lastore, 1) := by decide +kernel
theorem dL_wear_9 : decode cL_wear 9 = .ok (.goto 6, 3) := by decide +kernel
theorem dL_wear_12 : decode cL_wear 12 = .ok (.astore_n 3, 1) := by decide +kernel
theorem dL_wear_13 : decode cL_wear 13 = .ok (.iconst 1, 1) := by decide +kernel
theorem dL_wear_14 : decode cL_wear 14 = .ok (.ireturn, 1) := by decide +kernel
theorem dL_wear_15 : decode cL_wear 15 = .ok (.iconst 0, 1) := by decide +kernel
theorem dL_wear_16 : decode cL_wear 16 = .ok (.ireturn, 1) := by decide +kernel
theorem dL_withdraw_0 : decode cL_withdraw 0 = .ok (.aload_n 2, 1) := by decide +kernel
theorem dL_withdraw_1 : decode cL_withdraw 1 = .ok (.iconst 0, 1) := by decide +kernel
theorem dL_withdraw_2 : decode cL_withdraw 2 = .ok (.aload_n 0, 1) := by decide +kernel
theorem dL_withdraw_3 : decode cL_withdraw 3 = .ok (.iload_n 1, 1) := by decide +kernel
theorem dL_withdraw_4 : decode cL_withdraw 4 = .ok (.invokevirtual 75, 3) := by decide +kernel
theorem dL_withdraw_7 : decode cL_withdraw 7 = .ok (.i2l, 1) := by decide +kernel
theorem dL_withdraw_8 : decode cL_withdraw 8 = .ok (.lastore, 1) := by decide +kernel
theorem dL_withdraw_9 : decode cL_withdraw 9 = .ok (.goto 9, 3) := by decide +kernel
theorem dL_withdraw_12 : decode cL_withdraw 12 = .ok (.astore_n 3, 1) := by decide +kernel
theorem dL_withdraw_13 : decode cL_withdraw 13 = .ok (.iconst 1, 1) := by decide +kernel
theorem dL_withdraw_14 : decode cL_withdraw 14 = .ok (.ireturn, 1) := by decide +kernel
theorem dL_withdraw_15 : decode cL_withdraw 15 = .ok (.astore_n 3, 1) := by decide +kernel
theorem dL_withdraw_16 : decode cL_withdraw 16 = .ok (.iconst 2, 1) := by decide +kernel
theorem dL_withdraw_17 : decode cL_withdraw 17 = .ok (.ireturn, 1) := by decide +kernel
theorem dL_withdraw_18 : decode cL_withdraw 18 = .ok (.iconst 0, 1) := by decide +kernel
theorem dL_withdraw_19 : decode cL_withdraw 19 = .ok (.ireturn, 1) := by decide +kernel
theorem dX0_init_0 : decode cX0_init 0 = .ok (.aload_n 0, 1) := by decide +kernel
theorem dX0_init_1 : decode cX0_init 1 = .ok (.invokespecial 1, 3) := by decide +kernel
theorem dX0_init_4 : decode cX0_init 4 = .ok (.aload_n 0, 1) := by decide +kernel
theorem dX0_init_5 : decode cX0_init 5 = .ok (.bipush 100, 2) := by decide +kernel
theorem dX0_init_7 : decode cX0_init 7 = .ok (.putfield 7, 3) := by decide +kernel
theorem dX0_init_10 : decode cX0_init 10 = .ok (.aload_n 0, 1) := by decide +kernel
theorem dX0_init_11 : decode cX0_init 11 = .ok (.bipush 10, 2) := by decide +kernel
theorem dX0_init_13 : decode cX0_init 13 = .ok (.putfield 13, 3) := by decide +kernel
theorem dX0_init_16 : decode cX0_init 16 = .ok (.return_, 1) := by decide +kernel
theorem dX10_addComponent_0 : decode cX10_addComponent 0 = .ok (.aload_n 0, 1) := by decide +kernel
theorem dX10_addComponent_1 : decode cX10_addComponent 1 = .ok (.iload_n 1, 1) := by decide +kernel
theorem dX10_addComponent_2 : decode cX10_addComponent 2 = .ok (.invokevirtual 80, 3) := by decide +kernel
theorem dX10_addComponent_5 : decode cX10_addComponent 5 = .ok (.astore 5, 2) := by decide +kernel
theorem dX10_addComponent_7 : decode cX10_addComponent 7 = .ok (.aload_n 0, 1) := by decide +kernel
theorem dX10_addComponent_8 : decode cX10_addComponent 8 = .ok (.iload_n 2, 1) := by decide +kernel
theorem dX10_addComponent_9 : decode cX10_addComponent 9 = .ok (.invokevirtual 80, 3) := by decide +kernel
theorem dX10_addComponent_12 : decode cX10_addComponent 12 = .ok (.astore 6, 2) := by decide +kernel
theorem dX10_addComponent_14 : decode cX10_addComponent 14 = .ok (.aload 5, 2) := by decide +kernel
theorem dX10_addComponent_16 : decode cX10_addComponent 16 = .ok (.getfield 84, 3) := by decide +kernel
theorem dX10_addComponent_19 : decode cX10_addComponent 19 = .ok (.ifCond .eq 8, 3) := by decide +kernel
theorem dX10_addComponent_22 : decode cX10_addComponent 22 = .ok (.iload_n 2, 1) := by decide +kernel
theorem dX10_addComponent_23 : decode cX10_addComponent 23 = .ok (.iload_n 1, 1) := by decide +kernel
theorem dX10_addComponent_24 : decode cX10_addComponent 24 = .ok (.if_icmp .lt 13, 3) := by decide +kernel
theorem dX10_addComponent_27 : decode cX10_addComponent 27 = .ok (.new 88, 3) := by decide +kernel
theorem dX10_addComponent_30 : decode cX10_addComponent 30 = .ok (.dup, 1) := by decide +kernel
theorem dX10_addComponent_31 : decode cX10_addComponent 31 = .ok (.ldc 90, 2) := by decide +kernel
theorem dX10_addComponent_33 : decode cX10_addComponent 33 = .ok (.invokespecial 92, 3) := by decide +kernel
theorem dX10_addComponent_36 : decode cX10_addComponent 36 = .ok (.athrow, 1) := by decide +kernel
theorem dX10_addComponent_37 : decode cX10_addComponent 37 = .ok (.iload_n 3, 1) := by decide +kernel
theorem dX10_addComponent_38 : decode cX10_addComponent 38 = .ok (.iconst 1, 1) := by decide +kernel
theorem dX10_addComponent_39 : decode cX10_addComponent 39 = .ok (.bipush 9, 2) := by decide +kernel
theorem dX10_addComponent_41 : decode cX10_addComponent 41 = .ok (.invokestatic 47, 3) := by decide +kernel
theorem dX10_addComponent_44 : decode cX10_addComponent 44 = .ok (.ifCond .eq 13, 3) := by decide +kernel
theorem dX10_addComponent_47 : decode cX10_addComponent 47 = .ok (.iload 4, 2) := by decide +kernel
theorem dX10_addComponent_49 : decode cX10_addComponent 49 = .ok (.iconst (-1), 1) := by decide +kernel
theorem dX10_addComponent_50 : decode cX10_addComponent 50 = .ok (.iconst 2, 1) := by decide +kernel
theorem dX10_addComponent_51 : decode cX10_addComponent 51 = .ok (.invokestatic 47, 3) := by decide +kernel
theorem dX10_addComponent_54 : decode cX10_addComponent 54 = .ok (.ifCond .ne 13, 3) := by decide +kernel
theorem dX10_addComponent_57 : decode cX10_addComponent 57 = .ok (.new 51, 3) := by decide +kernel
theorem dX10_addComponent_60 : decode cX10_addComponent 60 = .ok (.dup, 1) := by decide +kernel
theorem dX10_addComponent_61 : decode cX10_addComponent 61 = .ok (.ldc 93, 2) := by decide +kernel
theorem dX10_addComponent_63 : decode cX10_addComponent 63 = .ok (.invokespecial 55, 3) := by decide +kernel
theorem dX10_addComponent_66 : decode cX10_addComponent 66 = .ok (.athrow, 1) := by decide +kernel
theorem dX10_addComponent_67 : decode cX10_addComponent 67 = .ok (.aload 5, 2) := by decide +kernel
theorem dX10_addComponent_69 : decode cX10_addComponent 69 = .ok (.invokevirtual 95, 3) := by decide +kernel
theorem dX10_addComponent_72 : decode cX10_addComponent 72 = .ok (.ifCond .ne 13, 3) := by decide +kernel
theorem dX10_addComponent_75 : decode cX10_addComponent 75 = .ok (.new 62, 3) := by decide +kernel
theorem dX10_addComponent_78 : decode cX10_addComponent 78 = .ok (.dup, 1) := by decide +kernel
theorem dX10_addComponent_79 : decode cX10_addComponent 79 = .ok (.ldc 99, 2) := by decide +kernel
theorem dX10_addComponent_81 : decode cX10_addComponent 81 = .ok (.invokespecial 66, 3) := by decide +kernel
theorem dX10_addComponent_84 : decode cX10_addComponent 84 = .ok (.athrow, 1) := by decide +kernel
theorem dX10_addComponent_85 : decode cX10_addComponent 85 = .ok (.aload 5, 2) := by decide +kernel
theorem dX10_addComponent_87 : decode cX10_addComponent 87 = .ok (.new 101, 3) := by decide +kernel
theorem dX10_addComponent_90 : decode cX10_addComponent 90 = .ok (.dup, 1) := by decide +kernel
theorem dX10_addComponent_91 : decode cX10_addComponent 91 = .ok (.aload 6, 2) := by decide +kernel
theorem dX10_addComponent_93 : decode cX10_addComponent 93 = .ok (.iload_n 3, 1) := by decide +kernel
theorem dX10_addComponent_94 : decode cX10_addComponent 94 = .ok (.iload 4, 2) := by decide +kernel
theorem dX10_addComponent_96 : decode cX10_addComponent 96 = .ok (.invokespecial 103, 3) := by decide +kernel
theorem dX10_addComponent_99 : decode cX10_addComponent 99 = .ok (.invokevirtual 106, 3) := by decide +kernel
theorem dX10_addComponent_102 : decode cX10_addComponent 102 = .ok (.ireturn, 1) := by decide +kernel
theorem dX10_addMachine_0 : decode cX10_addMachine 0 = .ok (.iload_n 1, 1) := by decide +kernel
theorem dX10_addMachine_1 : decode cX10_addMachine 1 = .ok (.iconst 0, 1) := by decide +kernel
theorem dX10_addMachine_2 : decode cX10_addMachine 2 = .ok (.bipush 20, 2) := by decide +kernel
theorem dX10_addMachine_4 : decode cX10_addMachine 4 = .ok (.invokestatic 47, 3) := by decide +kernel
theorem dX10_addMachine_7 : decode cX10_addMachine 7 = .ok (.ifCond .eq 35, 3) := by decide +kernel
theorem dX10_addMachine_10 : decode cX10_addMachine 10 = .ok (.iload_n 2, 1) := by decide +kernel
theorem dX10_addMachine_11 : decode cX10_addMachine 11 = .ok (.iconst 0, 1) := by decide +kernel
theorem dX10_addMachine_12 : decode cX10_addMachine 12 = .ok (.bipush 50, 2) := by decide +kernel
theorem dX10_addMachine_14 : decode cX10_addMachine 14 = .ok (.invokestatic 47, 3) := by decide +kernel
theorem dX10_addMachine_17 : decode cX10_addMachine 17 = .ok (.ifCond .eq 25, 3) := by decide +kernel
theorem dX10_addMachine_20 : decode cX10_addMachine 20 = .ok (.iload_n 3, 1) := by decide +kernel
theorem dX10_addMachine_21 : decode cX10_addMachine 21 = .ok (.iconst 5, 1) := by decide +kernel
theorem dX10_addMachine_22 : decode cX10_addMachine 22 = .ok (.sipush 500, 3) := by decide +kernel
theorem dX10_addMachine_25 : decode cX10_addMachine 25 = .ok (.invokestatic 47, 3) := by decide +kernel
theorem dX10_addMachine_28 : decode cX10_addMachine 28 = .ok (.ifCond .eq 14, 3) := by decide +kernel
theorem dX10_addMachine_31 : decode cX10_addMachine 31 = .ok (.iload 4, 2) := by decide +kernel
theorem dX10_addMachine_33 : decode cX10_addMachine 33 = .ok (.iconst 1, 1) := by decide +kernel
theorem dX10_addMachine_34 : decode cX10_addMachine 34 = .ok (.bipush 99, 2) := by decide +kernel
theorem dX10_addMachine_36 : decode cX10_addMachine 36 = .ok (.invokestatic 47, 3) := by decide +kernel
theorem dX10_addMachine_39 : decode cX10_addMachine 39 = .ok (.ifCond .ne 13, 3) := by decide +kernel
theorem dX10_addMachine_42 : decode cX10_addMachine 42 = .ok (.new 51, 3) := by decide +kernel
theorem dX10_addMachine_45 : decode cX10_addMachine 45 = .ok (.dup, 1) := by decide +kernel
theorem dX10_addMachine_46 : decode cX10_addMachine 46 = .ok (.ldc 53, 2) := by decide +kernel
theorem dX10_addMachine_48 : decode cX10_addMachine 48 = .ok (.invokespecial 55, 3) := by decide +kernel
theorem dX10_addMachine_51 : decode cX10_addMachine 51 = .ok (.athrow, 1) := by decide +kernel
theorem dX10_addMachine_52 : decode cX10_addMachine 52 = .ok (.aload_n 0, 1) := by decide +kernel
theorem dX10_addMachine_53 : decode cX10_addMachine 53 = .ok (.getfield 58, 3) := by decide +kernel
theorem dX10_addMachine_56 : decode cX10_addMachine 56 = .ok (.aload_n 0, 1) := by decide +kernel
theorem dX10_addMachine_57 : decode cX10_addMachine 57 = .ok (.getfield 11, 3) := by decide +kernel
theorem dX10_addMachine_60 : decode cX10_addMachine 60 = .ok (.arraylength, 1) := by decide +kernel
theorem dX10_addMachine_61 : decode cX10_addMachine 61 = .ok (.if_icmp .lt 13, 3) := by decide +kernel
theorem dX10_addMachine_64 : decode cX10_addMachine 64 = .ok (.new 62, 3) := by decide +kernel
theorem dX10_addMachine_67 : decode cX10_addMachine 67 = .ok (.dup, 1) := by decide +kernel
theorem dX10_addMachine_68 : decode cX10_addMachine 68 = .ok (.ldc 64, 2) := by decide +kernel
theorem dX10_addMachine_70 : decode cX10_addMachine 70 = .ok (.invokespecial 66, 3) := by decide +kernel
theorem dX10_addMachine_73 : decode cX10_addMachine 73 = .ok (.athrow, 1) := by decide +kernel
theorem dX10_addMachine_74 : decode cX10_addMachine 74 = .ok (.aload_n 0, 1) := by decide +kernel
theorem dX10_addMachine_75 : decode cX10_addMachine 75 = .ok (.getfield 11, 3) := by decide +kernel
theorem dX10_addMachine_78 : decode cX10_addMachine 78 = .ok (.aload_n 0, 1) := by decide +kernel
theorem dX10_addMachine_79 : decode cX10_addMachine 79 = .ok (.getfield 58, 3) := by decide +kernel
theorem dX10_addMachine_82 : decode cX10_addMachine 82 = .ok (.new 9, 3) := by decide +kernel
theorem dX10_addMachine_85 : decode cX10_addMachine 85 = .ok (.dup, 1) := by decide +kernel
theorem dX10_addMachine_86 : decode cX10_addMachine 86 = .ok (.iload_n 1, 1) := by decide +kernel
theorem dX10_addMachine_87 : decode cX10_addMachine 87 = .ok (.iload_n 2, 1) := by decide +kernel
theorem dX10_addMachine_88 : decode cX10_addMachine 88 = .ok (.iload_n 3, 1) := by decide +kernel
theorem dX10_addMachine_89 : decode cX10_addMachine 89 = .ok (.iload 4, 2) := by decide +kernel
theorem dX10_addMachine_91 : decode cX10_addMachine 91 = .ok (.invokespecial 67, 3) := by decide +kernel
theorem dX10_addMachine_94 : decode cX10_addMachine 94 = .ok (.aastore, 1) := by decide +kernel
theorem dX10_addMachine_95 : decode cX10_addMachine 95 = .ok (.aload_n 0, 1) := by decide +kernel
theorem dX10_addMachine_96 : decode cX10_addMachine 96 = .ok (.dup, 1) := by decide +kernel
theorem dX10_addMachine_97 : decode cX10_addMachine 97 = .ok (.getfield 58, 3) := by decide +kernel
theorem dX10_addMachine_100 : decode cX10_addMachine 100 = .ok (.iconst 1, 1) := by decide +kernel
theorem dX10_addMachine_101 : decode cX10_addMachine 101 = .ok (.iadd, 1) := by decide +kernel
theorem dX10_addMachine_102 : decode cX10_addMachine 102 = .ok (.putfield 58, 3) := by decide +kernel
theorem dX10_addMachine_105 : decode cX10_addMachine 105 = .ok (.aload_n 0, 1) := by decide +kernel
theorem dX10_addMachine_106 : decode cX10_addMachine 106 = .ok (.getfield 58, 3) := by decide +kernel
theorem dX10_addMachine_109 : decode cX10_addMachine 109 = .ok (.iconst 1, 1) := by decide +kernel
theorem dX10_addMachine_110 : decode cX10_addMachine 110 = .ok (.isub, 1) := by decide +kernel
theorem dX10_addMachine_111 : decode cX10_addMachine 111 = .ok (.ireturn, 1) := by decide +kernel
theorem dX10_addOperation_0 : decode cX10_addOperation 0 = .ok (.aload_n 0, 1) := by decide +kernel
theorem dX10_addOperation_1 : decode cX10_addOperation 1 = .ok (.iload_n 1, 1) := by decide +kernel
theorem dX10_addOperation_2 : decode cX10_addOperation 2 = .ok (.invokevirtual 80, 3) := by decide +kernel
theorem dX10_addOperation_5 : decode cX10_addOperation 5 = .ok (.astore 5, 2) := by decide +kernel
theorem dX10_addOperation_7 : decode cX10_addOperation 7 = .ok (.aload_n 0, 1) := by decide +kernel
theorem dX10_addOperation_8 : decode cX10_addOperation 8 = .ok (.iload_n 2, 1) := by decide +kernel
theorem dX10_addOperation_9 : decode cX10_addOperation 9 = .ok (.invokevirtual 110, 3) := by decide +kernel
theorem dX10_addOperation_12 : decode cX10_addOperation 12 = .ok (.astore 6, 2) := by decide +kernel
theorem dX10_addOperation_14 : decode cX10_addOperation 14 = .ok (.iload_n 3, 1) := by decide +kernel
theorem dX10_addOperation_15 : decode cX10_addOperation 15 = .ok (.iconst (-1), 1) := by decide +kernel
theorem dX10_addOperation_16 : decode cX10_addOperation 16 = .ok (.if_icmp .ne 7, 3) := by decide +kernel
theorem dX10_addOperation_19 : decode cX10_addOperation 19 = .ok (.aconst_null, 1) := by decide +kernel
theorem dX10_addOperation_20 : decode cX10_addOperation 20 = .ok (.goto 8, 3) := by decide +kernel
theorem dX10_addOperation_23 : decode cX10_addOperation 23 = .ok (.aload_n 0, 1) := by decide +kernel
theorem dX10_addOperation_24 : decode cX10_addOperation 24 = .ok (.iload_n 3, 1) := by decide +kernel
theorem dX10_addOperation_25 : decode cX10_addOperation 25 = .ok (.invokevirtual 110, 3) := by decide +kernel
theorem dX10_addOperation_28 : decode cX10_addOperation 28 = .ok (.astore 7, 2) := by decide +kernel
theorem dX10_addOperation_30 : decode cX10_addOperation 30 = .ok (.aload 5, 2) := by decide +kernel
theorem dX10_addOperation_32 : decode cX10_addOperation 32 = .ok (.getfield 84, 3) := by decide +kernel
theorem dX10_addOperation_35 : decode cX10_addOperation 35 = .ok (.ifCond .ne 13, 3) := by decide +kernel
theorem dX10_addOperation_38 : decode cX10_addOperation 38 = .ok (.new 88, 3) := by decide +kernel
theorem dX10_addOperation_41 : decode cX10_addOperation 41 = .ok (.dup, 1) := by decide +kernel
theorem dX10_addOperation_42 : decode cX10_addOperation 42 = .ok (.ldc 114, 2) := by decide +kernel
theorem dX10_addOperation_44 : decode cX10_addOperation 44 = .ok (.invokespecial 92, 3) := by decide +kernel
theorem dX10_addOperation_47 : decode cX10_addOperation 47 = .ok (.athrow, 1) := by decide +kernel
theorem dX10_addOperation_48 : decode cX10_addOperation 48 = .ok (.iload 4, 2) := by decide +kernel
theorem dX10_addOperation_50 : decode cX10_addOperation 50 = .ok (.iconst 1, 1) := by decide +kernel
theorem dX10_addOperation_51 : decode cX10_addOperation 51 = .ok (.bipush 20, 2) := by decide +kernel
theorem dX10_addOperation_53 : decode cX10_addOperation 53 = .ok (.invokestatic 47, 3) := by decide +kernel
theorem dX10_addOperation_56 : decode cX10_addOperation 56 = .ok (.ifCond .ne 13, 3) := by decide +kernel
theorem dX10_addOperation_59 : decode cX10_addOperation 59 = .ok (.new 51, 3) := by decide +kernel
theorem dX10_addOperation_62 : decode cX10_addOperation 62 = .ok (.dup, 1) := by decide +kernel
theorem dX10_addOperation_63 : decode cX10_addOperation 63 = .ok (.ldc 116, 2) := by decide +kernel
theorem dX10_addOperation_65 : decode cX10_addOperation 65 = .ok (.invokespecial 55, 3) := by decide +kernel
theorem dX10_addOperation_68 : decode cX10_addOperation 68 = .ok (.athrow, 1) := by decide +kernel
theorem dX10_addOperation_69 : decode cX10_addOperation 69 = .ok (.aload 5, 2) := by decide +kernel
theorem dX10_addOperation_71 : decode cX10_addOperation 71 = .ok (.invokevirtual 118, 3) := by decide +kernel
theorem dX10_addOperation_74 : decode cX10_addOperation 74 = .ok (.ifCond .ne 13, 3) := by decide +kernel
theorem dX10_addOperation_77 : decode cX10_addOperation 77 = .ok (.new 62, 3) := by decide +kernel
theorem dX10_addOperation_80 : decode cX10_addOperation 80 = .ok (.dup, 1) := by decide +kernel
theorem dX10_addOperation_81 : decode cX10_addOperation 81 = .ok (.ldc 121, 2) := by decide +kernel
theorem dX10_addOperation_83 : decode cX10_addOperation 83 = .ok (.invokespecial 66, 3) := by decide +kernel
theorem dX10_addOperation_86 : decode cX10_addOperation 86 = .ok (.athrow, 1) := by decide +kernel
theorem dX10_addOperation_87 : decode cX10_addOperation 87 = .ok (.aload 5, 2) := by decide +kernel
theorem dX10_addOperation_89 : decode cX10_addOperation 89 = .ok (.new 123, 3) := by decide +kernel
theorem dX10_addOperation_92 : decode cX10_addOperation 92 = .ok (.dup, 1) := by decide +kernel
theorem dX10_addOperation_93 : decode cX10_addOperation 93 = .ok (.aload 6, 2) := by decide +kernel
theorem dX10_addOperation_95 : decode cX10_addOperation 95 = .ok (.aload 7, 2) := by decide +kernel
theorem dX10_addOperation_97 : decode cX10_addOperation 97 = .ok (.iload 4, 2) := by decide +kernel
theorem dX10_addOperation_99 : decode cX10_addOperation 99 = .ok (.invokespecial 125, 3) := by decide +kernel
theorem dX10_addOperation_102 : decode cX10_addOperation 102 = .ok (.invokevirtual 128, 3) := by decide +kernel
theorem dX10_addOperation_105 : decode cX10_addOperation 105 = .ok (.ireturn, 1) := by decide +kernel
theorem dX10_addPart_0 : decode cX10_addPart 0 = .ok (.iload_n 2, 1) := by decide +kernel
theorem dX10_addPart_1 : decode cX10_addPart 1 = .ok (.iconst 0, 1) := by decide +kernel
theorem dX10_addPart_2 : decode cX10_addPart 2 = .ok (.iconst 3, 1) := by decide +kernel
theorem dX10_addPart_3 : decode cX10_addPart 3 = .ok (.invokestatic 47, 3) := by decide +kernel
theorem dX10_addPart_6 : decode cX10_addPart 6 = .ok (.ifCond .ne 13, 3) := by decide +kernel
theorem dX10_addPart_9 : decode cX10_addPart 9 = .ok (.new 51, 3) := by decide +kernel
theorem dX10_addPart_12 : decode cX10_addPart 12 = .ok (.dup, 1) := by decide +kernel
theorem dX10_addPart_13 : decode cX10_addPart 13 = .ok (.ldc 70, 2) := by decide +kernel
theorem dX10_addPart_15 : decode cX10_addPart 15 = .ok (.invokespecial 55, 3) := by decide +kernel
theorem dX10_addPart_18 : decode cX10_addPart 18 = .ok (.athrow, 1) := by decide +kernel
theorem dX10_addPart_19 : decode cX10_addPart 19 = .ok (.aload_n 0, 1) := by decide +kernel
theorem dX10_addPart_20 : decode cX10_addPart 20 = .ok (.getfield 72, 3) := by decide +kernel
theorem dX10_addPart_23 : decode cX10_addPart 23 = .ok (.aload_n 0, 1) := by decide +kernel
theorem dX10_addPart_24 : decode cX10_addPart 24 = .ok (.getfield 17, 3) := by decide +kernel
theorem dX10_addPart_27 : decode cX10_addPart 27 = .ok (.arraylength, 1) := by decide +kernel
theorem dX10_addPart_28 : decode cX10_addPart 28 = .ok (.if_icmp .lt 13, 3) := by decide +kernel
theorem dX10_addPart_31 : decode cX10_addPart 31 = .ok (.new 62, 3) := by decide +kernel
theorem dX10_addPart_34 : decode cX10_addPart 34 = .ok (.dup, 1) := by decide +kernel
theorem dX10_addPart_35 : decode cX10_addPart 35 = .ok (.ldc 75, 2) := by decide +kernel
theorem dX10_addPart_37 : decode cX10_addPart 37 = .ok (.invokespecial 66, 3) := by decide +kernel
theorem dX10_addPart_40 : decode cX10_addPart 40 = .ok (.athrow, 1) := by decide +kernel
theorem dX10_addPart_41 : decode cX10_addPart 41 = .ok (.aload_n 0, 1) := by decide +kernel
theorem dX10_addPart_42 : decode cX10_addPart 42 = .ok (.getfield 17, 3) := by decide +kernel
theorem dX10_addPart_45 : decode cX10_addPart 45 = .ok (.aload_n 0, 1) := by decide +kernel
theorem dX10_addPart_46 : decode cX10_addPart 46 = .ok (.getfield 72, 3) := by decide +kernel
theorem dX10_addPart_49 : decode cX10_addPart 49 = .ok (.new 15, 3) := by decide +kernel
theorem dX10_addPart_52 : decode cX10_addPart 52 = .ok (.dup, 1) := by decide +kernel
theorem dX10_addPart_53 : decode cX10_addPart 53 = .ok (.aload_n 0, 1) := by decide +kernel
theorem dX10_addPart_54 : decode cX10_addPart 54 = .ok (.getfield 72, 3) := by decide +kernel
theorem dX10_addPart_57 : decode cX10_addPart 57 = .ok (.iload_n 1, 1) := by decide +kernel
theorem dX10_addPart_58 : decode cX10_addPart 58 = .ok (.iload_n 2, 1) := by decide +kernel
theorem dX10_addPart_59 : decode cX10_addPart 59 = .ok (.invokespecial 77, 3) := by decide +kernel
theorem dX10_addPart_62 : decode cX10_addPart 62 = .ok (.aastore, 1) := by decide +kernel
theorem dX10_addPart_63 : decode cX10_addPart 63 = .ok (.aload_n 0, 1) := by decide +kernel
theorem dX10_addPart_64 : decode cX10_addPart 64 = .ok (.dup, 1) := by decide +kernel
theorem dX10_addPart_65 : decode cX10_addPart 65 = .ok (.getfield 72, 3) := by decide +kernel
theorem dX10_addPart_68 : decode cX10_addPart 68 = .ok (.iconst 1, 1) := by decide +kernel
theorem dX10_addPart_69 : decode cX10_addPart 69 = .ok (.iadd, 1) := by decide +kernel
theorem dX10_addPart_70 : decode cX10_addPart 70 = .ok (.putfield 72, 3) := by decide +kernel
theorem dX10_addPart_73 : decode cX10_addPart 73 = .ok (.aload_n 0, 1) := by decide +kernel
theorem dX10_addPart_74 : decode cX10_addPart 74 = .ok (.getfield 72, 3) := by decide +kernel
theorem dX10_addPart_77 : decode cX10_addPart 77 = .ok (.iconst 1, 1) := by decide +kernel
theorem dX10_addPart_78 : decode cX10_addPart 78 = .ok (.isub, 1) := by decide +kernel
theorem dX10_addPart_79 : decode cX10_addPart 79 = .ok (.ireturn, 1) := by decide +kernel
theorem dX10_advance_0 : decode cX10_advance 0 = .ok (.iload_n 1, 1) := by decide +kernel
theorem dX10_advance_1 : decode cX10_advance 1 = .ok (.iconst 1, 1) := by decide +kernel
theorem dX10_advance_2 : decode cX10_advance 2 = .ok (.sipush 500, 3) := by decide +kernel
theorem dX10_advance_5 : decode cX10_advance 5 = .ok (.invokestatic 47, 3) := by decide +kernel
theorem dX10_advance_8 : decode cX10_advance 8 = .ok (.ifCond .ne 13, 3) := by decide +kernel
theorem dX10_advance_11 : decode cX10_advance 11 = .ok (.new 51, 3) := by decide +kernel
theorem dX10_advance_14 : decode cX10_advance 14 = .ok (.dup, 1) := by decide +kernel
theorem dX10_advance_15 : decode cX10_advance 15 = .ok (.ldc 116, 2) := by decide +kernel
theorem dX10_advance_17 : decode cX10_advance 17 = .ok (.invokespecial 55, 3) := by decide +kernel
theorem dX10_advance_20 : decode cX10_advance 20 = .ok (.athrow, 1) := by decide +kernel
theorem dX10_advance_21 : decode cX10_advance 21 = .ok (.aload_n 0, 1) := by decide +kernel
theorem dX10_advance_22 : decode cX10_advance 22 = .ok (.getfield 294, 3) := by decide +kernel
theorem dX10_advance_25 : decode cX10_advance 25 = .ok (.iload_n 1, 1) := by decide +kernel
theorem dX10_advance_26 : decode cX10_advance 26 = .ok (.iadd, 1) := by decide +kernel
theorem dX10_advance_27 : decode cX10_advance 27 = .ok (.sipush 5000, 3) := by decide +kernel
theorem dX10_advance_30 : decode cX10_advance 30 = .ok (.if_icmp .le 14, 3) := by decide +kernel
theorem dX10_advance_33 : decode cX10_advance 33 = .ok (.new 62, 3) := by decide +kernel
theorem dX10_advance_36 : decode cX10_advance 36 = .ok (.dup, 1) := by decide +kernel
theorem dX10_advance_37 : decode cX10_advance 37 = .ok (.ldc_w 297, 3) := by decide +kernel
theorem dX10_advance_40 : decode cX10_advance 40 = .ok (.invokespecial 66, 3) := by decide +kernel
theorem dX10_advance_43 : decode cX10_advance 43 = .ok (.athrow, 1) := by decide +kernel
theorem dX10_advance_44 : decode cX10_advance 44 = .ok (.iconst 0, 1) := by decide +kernel
theorem dX10_advance_45 : decode cX10_advance 45 = .ok (.istore_n 2, 1) := by decide +kernel
theorem dX10_advance_46 : decode cX10_advance 46 = .ok (.iload_n 2, 1) := by decide +kernel
theorem dX10_advance_47 : decode cX10_advance 47 = .ok (.iload_n 1, 1) := by decide +kernel
theorem dX10_advance_48 : decode cX10_advance 48 = .ok (.if_icmp .ge 13, 3) := by decide +kernel
theorem dX10_advance_51 : decode cX10_advance 51 = .ok (.aload_n 0, 1) := by decide +kernel
theorem dX10_advance_52 : decode cX10_advance 52 = .ok (.invokevirtual 299, 3) := by decide +kernel
theorem dX10_advance_55 : decode cX10_advance 55 = .ok (.iinc 2 1, 3) := by decide +kernel
theorem dX10_advance_58 : decode cX10_advance 58 = .ok (.goto (-12), 3) := by decide +kernel
theorem dX10_advance_61 : decode cX10_advance 61 = .ok (.aload_n 0, 1) := by decide +kernel
theorem dX10_advance_62 : decode cX10_advance 62 = .ok (.getfield 294, 3) := by decide +kernel
theorem dX10_advance_65 : decode cX10_advance 65 = .ok (.ireturn, 1) := by decide +kernel
theorem dX10_areCostsSound_0 : decode cX10_areCostsSound 0 = .ok (.aload_n 0, 1) := by decide +kernel
theorem dX10_areCostsSound_1 : decode cX10_areCostsSound 1 = .ok (.getfield 495, 3) := by decide +kernel
theorem dX10_areCostsSound_4 : decode cX10_areCostsSound 4 = .ok (.lstore_n 1, 1) := by decide +kernel
theorem dX10_areCostsSound_5 : decode cX10_areCostsSound 5 = .ok (.aload_n 0, 1) := by decide +kernel
theorem dX10_areCostsSound_6 : decode cX10_areCostsSound 6 = .ok (.getfield 29, 3) := by decide +kernel
theorem dX10_areCostsSound_9 : decode cX10_areCostsSound 9 = .ok (.astore_n 3, 1) := by decide +kernel
theorem dX10_areCostsSound_10 : decode cX10_areCostsSound 10 = .ok (.aload_n 3, 1) := by decide +kernel
theorem dX10_areCostsSound_11 : decode cX10_areCostsSound 11 = .ok (.arraylength, 1) := by decide +kernel
theorem dX10_areCostsSound_12 : decode cX10_areCostsSound 12 = .ok (.istore 4, 2) := by decide +kernel
theorem dX10_areCostsSound_14 : decode cX10_areCostsSound 14 = .ok (.iconst 0, 1) := by decide +kernel
theorem dX10_areCostsSound_15 : decode cX10_areCostsSound 15 = .ok (.istore 5, 2) := by decide +kernel
theorem dX10_areCostsSound_17 : decode cX10_areCostsSound 17 = .ok (.iload 5, 2) := by decide +kernel
theorem dX10_areCostsSound_19 : decode cX10_areCostsSound 19 = .ok (.iload 4, 2) := by decide +kernel
theorem dX10_areCostsSound_21 : decode cX10_areCostsSound 21 = .ok (.if_icmp .ge 32, 3) := by decide +kernel
theorem dX10_areCostsSound_24 : decode cX10_areCostsSound 24 = .ok (.aload_n 3, 1) := by decide +kernel
theorem dX10_areCostsSound_25 : decode cX10_areCostsSound 25 = .ok (.iload 5, 2) := by decide +kernel
theorem dX10_areCostsSound_27 : decode cX10_areCostsSound 27 = .ok (.aaload, 1) := by decide +kernel
theorem dX10_areCostsSound_28 : decode cX10_areCostsSound 28 = .ok (.astore 6, 2) := by decide +kernel
theorem dX10_areCostsSound_30 : decode cX10_areCostsSound 30 = .ok (.lload_n 1, 1) := by decide +kernel
theorem dX10_areCostsSound_31 : decode cX10_areCostsSound 31 = .ok (.aload 6, 2) := by decide +kernel
theorem dX10_areCostsSound_33 : decode cX10_areCostsSound 33 = .ok (.ifnull 11, 3) := by decide +kernel
theorem dX10_areCostsSound_36 : decode cX10_areCostsSound 36 = .ok (.aload 6, 2) := by decide +kernel
theorem dX10_areCostsSound_38 : decode cX10_areCostsSound 38 = .ok (.getfield 225, 3) := by decide +kernel
theorem dX10_areCostsSound_41 : decode cX10_areCostsSound 41 = .ok (.goto 4, 3) := by decide +kernel
theorem dX10_areCostsSound_44 : decode cX10_areCostsSound 44 = .ok (.lconst 0, 1) := by decide +kernel
theorem dX10_areCostsSound_45 : decode cX10_areCostsSound 45 = .ok (.ladd, 1) := by decide +kernel
theorem dX10_areCostsSound_46 : decode cX10_areCostsSound 46 = .ok (.lstore_n 1, 1) := by decide +kernel
theorem dX10_areCostsSound_47 : decode cX10_areCostsSound 47 = .ok (.iinc 5 1, 3) := by decide +kernel
theorem dX10_areCostsSound_50 : decode cX10_areCostsSound 50 = .ok (.goto (-33), 3) := by decide +kernel
theorem dX10_areCostsSound_53 : decode cX10_areCostsSound 53 = .ok (.aload_n 0, 1) := by decide +kernel
theorem dX10_areCostsSound_54 : decode cX10_areCostsSound 54 = .ok (.getfield 35, 3) := by decide +kernel
theorem dX10_areCostsSound_57 : decode cX10_areCostsSound 57 = .ok (.astore_n 3, 1) := by decide +kernel
theorem dX10_areCostsSound_58 : decode cX10_areCostsSound 58 = .ok (.aload_n 3, 1) := by decide +kernel
theorem dX10_areCostsSound_59 : decode cX10_areCostsSound 59 = .ok (.arraylength, 1) := by decide +kernel
theorem dX10_areCostsSound_60 : decode cX10_areCostsSound 60 = .ok (.istore 4, 2) := by decide +kernel
theorem dX10_areCostsSound_62 : decode cX10_areCostsSound 62 = .ok (.iconst 0, 1) := by decide +kernel
theorem dX10_areCostsSound_63 : decode cX10_areCostsSound 63 = .ok (.istore 5, 2) := by decide +kernel
theorem dX10_areCostsSound_65 : decode cX10_areCostsSound 65 = .ok (.iload 5, 2) := by decide +kernel
theorem dX10_areCostsSound_67 : decode cX10_areCostsSound 67 = .ok (.iload 4, 2) := by decide +kernel
theorem dX10_areCostsSound_69 : decode cX10_areCostsSound 69 = .ok (.if_icmp .ge 41, 3) := by decide +kernel
theorem dX10_areCostsSound_72 : decode cX10_areCostsSound 72 = .ok (.aload_n 3, 1) := by decide +kernel
theorem dX10_areCostsSound_73 : decode cX10_areCostsSound 73 = .ok (.iload 5, 2) := by decide +kernel
theorem dX10_areCostsSound_75 : decode cX10_areCostsSound 75 = .ok (.aaload, 1) := by decide +kernel
theorem dX10_areCostsSound_76 : decode cX10_areCostsSound 76 = .ok (.astore 6, 2) := by decide +kernel
theorem dX10_areCostsSound_78 : decode cX10_areCostsSound 78 = .ok (.lload_n 1, 1) := by decide +kernel
theorem dX10_areCostsSound_79 : decode cX10_areCostsSound 79 = .ok (.aload 6, 2) := by decide +kernel
theorem dX10_areCostsSound_81 : decode cX10_areCostsSound 81 = .ok (.ifnull 20, 3) := by decide +kernel
theorem dX10_areCostsSound_84 : decode cX10_areCostsSound 84 = .ok (.aload 6, 2) := by decide +kernel
theorem dX10_areCostsSound_86 : decode cX10_areCostsSound 86 = .ok (.getfield 280, 3) := by decide +kernel
theorem dX10_areCostsSound_89 : decode cX10_areCostsSound 89 = .ok (.getfield 437, 3) := by decide +kernel
theorem dX10_areCostsSound_92 : decode cX10_areCostsSound 92 = .ok (.aload 6, 2) := by decide +kernel
theorem dX10_areCostsSound_94 : decode cX10_areCostsSound 94 = .ok (.getfield 355, 3) := by decide +kernel
theorem dX10_areCostsSound_97 : decode cX10_areCostsSound 97 = .ok (.ladd, 1) := by decide +kernel
theorem dX10_areCostsSound_98 : decode cX10_areCostsSound 98 = .ok (.goto 4, 3) := by decide +kernel
theorem dX10_areCostsSound_101 : decode cX10_areCostsSound 101 = .ok (.lconst 0, 1) := by decide +kernel
theorem dX10_areCostsSound_102 : decode cX10_areCostsSound 102 = .ok (.ladd, 1) := by decide +kernel
theorem dX10_areCostsSound_103 : decode cX10_areCostsSound 103 = .ok (.lstore_n 1, 1) := by decide +kernel
theorem dX10_areCostsSound_104 : decode cX10_areCostsSound 104 = .ok (.iinc 5 1, 3) := by decide +kernel
theorem dX10_areCostsSound_107 : decode cX10_areCostsSound 107 = .ok (.goto (-42), 3) := by decide +kernel
theorem dX10_areCostsSound_110 : decode cX10_areCostsSound 110 = .ok (.lload_n 1, 1) := by decide +kernel
theorem dX10_areCostsSound_111 : decode cX10_areCostsSound 111 = .ok (.aload_n 0, 1) := by decide +kernel
theorem dX10_areCostsSound_112 : decode cX10_areCostsSound 112 = .ok (.getfield 145, 3) := by decide +kernel
theorem dX10_areCostsSound_115 : decode cX10_areCostsSound 115 = .ok (.lcmp, 1) := by decide +kernel
theorem dX10_areCostsSound_116 : decode cX10_areCostsSound 116 = .ok (.ifCond .ne 7, 3) := by decide +kernel
theorem dX10_areCostsSound_119 : decode cX10_areCostsSound 119 = .ok (.iconst 1, 1) := by decide +kernel
theorem dX10_areCostsSound_120 : decode cX10_areCostsSound 120 = .ok (.goto 4, 3) := by decide +kernel
theorem dX10_areCostsSound_123 : decode cX10_areCostsSound 123 = .ok (.iconst 0, 1) := by decide +kernel
theorem dX10_areCostsSound_124 : decode cX10_areCostsSound 124 = .ok (.ireturn, 1) := by decide +kernel
theorem dX10_areJobsSound_0 : decode cX10_areJobsSound 0 = .ok (.iconst 0, 1) := by decide +kernel
theorem dX10_areJobsSound_1 : decode cX10_areJobsSound 1 = .ok (.istore_n 1, 1) := by decide +kernel
theorem dX10_areJobsSound_2 : decode cX10_areJobsSound 2 = .ok (.aload_n 0, 1) := by decide +kernel
theorem dX10_areJobsSound_3 : decode cX10_areJobsSound 3 = .ok (.getfield 35, 3) := by decide +kernel
theorem dX10_areJobsSound_6 : decode cX10_areJobsSound 6 = .ok (.astore_n 2, 1) := by decide +kernel
theorem dX10_areJobsSound_7 : decode cX10_areJobsSound 7 = .ok (.aload_n 2, 1) := by decide +kernel
theorem dX10_areJobsSound_8 : decode cX10_areJobsSound 8 = .ok (.arraylength, 1) := by decide +kernel
theorem dX10_areJobsSound_9 : decode cX10_areJobsSound 9 = .ok (.istore_n 3, 1) := by decide +kernel
theorem dX10_areJobsSound_10 : decode cX10_areJobsSound 10 = .ok (.iconst 0, 1) := by decide +kernel
theorem dX10_areJobsSound_11 : decode cX10_areJobsSound 11 = .ok (.istore 4, 2) := by decide +kernel
theorem dX10_areJobsSound_13 : decode cX10_areJobsSound 13 = .ok (.iload 4, 2) := by decide +kernel
theorem dX10_areJobsSound_15 : decode cX10_areJobsSound 15 = .ok (.iload_n 3, 1) := by decide +kernel
theorem dX10_areJobsSound_16 : decode cX10_areJobsSound 16 = .ok (.if_icmp .ge 38, 3) := by decide +kernel
theorem dX10_areJobsSound_19 : decode cX10_areJobsSound 19 = .ok (.aload_n 2, 1) := by decide +kernel
theorem dX10_areJobsSound_20 : decode cX10_areJobsSound 20 = .ok (.iload 4, 2) := by decide +kernel
theorem dX10_areJobsSound_22 : decode cX10_areJobsSound 22 = .ok (.aaload, 1) := by decide +kernel
theorem dX10_areJobsSound_23 : decode cX10_areJobsSound 23 = .ok (.astore 5, 2) := by decide +kernel
theorem dX10_areJobsSound_25 : decode cX10_areJobsSound 25 = .ok (.aload 5, 2) := by decide +kernel
theorem dX10_areJobsSound_27 : decode cX10_areJobsSound 27 = .ok (.ifnull 21, 3) := by decide +kernel
theorem dX10_areJobsSound_30 : decode cX10_areJobsSound 30 = .ok (.iload_n 1, 1) := by decide +kernel
theorem dX10_areJobsSound_31 : decode cX10_areJobsSound 31 = .ok (.aload 5, 2) := by decide +kernel
theorem dX10_areJobsSound_33 : decode cX10_areJobsSound 33 = .ok (.getfield 513, 3) := by decide +kernel
theorem dX10_areJobsSound_36 : decode cX10_areJobsSound 36 = .ok (.iadd, 1) := by decide +kernel
theorem dX10_areJobsSound_37 : decode cX10_areJobsSound 37 = .ok (.istore_n 1, 1) := by decide +kernel
theorem dX10_areJobsSound_38 : decode cX10_areJobsSound 38 = .ok (.aload 5, 2) := by decide +kernel
theorem dX10_areJobsSound_40 : decode cX10_areJobsSound 40 = .ok (.invokevirtual 523, 3) := by decide +kernel
theorem dX10_areJobsSound_43 : decode cX10_areJobsSound 43 = .ok (.ifCond .ne 5, 3) := by decide +kernel
theorem dX10_areJobsSound_46 : decode cX10_areJobsSound 46 = .ok (.iconst 0, 1) := by decide +kernel
theorem dX10_areJobsSound_47 : decode cX10_areJobsSound 47 = .ok (.ireturn, 1) := by decide +kernel
theorem dX10_areJobsSound_48 : decode cX10_areJobsSound 48 = .ok (.iinc 4 1, 3) := by decide +kernel
theorem dX10_areJobsSound_51 : decode cX10_areJobsSound 51 = .ok (.goto (-38), 3) := by decide +kernel
theorem dX10_areJobsSound_54 : decode cX10_areJobsSound 54 = .ok (.aload_n 0, 1) := by decide +kernel
theorem dX10_areJobsSound_55 : decode cX10_areJobsSound 55 = .ok (.getfield 29, 3) := by decide +kernel
theorem dX10_areJobsSound_58 : decode cX10_areJobsSound 58 = .ok (.astore_n 2, 1) := by decide +kernel
theorem dX10_areJobsSound_59 : decode cX10_areJobsSound 59 = .ok (.aload_n 2, 1) := by decide +kernel
theorem dX10_areJobsSound_60 : decode cX10_areJobsSound 60 = .ok (.arraylength, 1) := by decide +kernel
theorem dX10_areJobsSound_61 : decode cX10_areJobsSound 61 = .ok (.istore_n 3, 1) := by decide +kernel
theorem dX10_areJobsSound_62 : decode cX10_areJobsSound 62 = .ok (.iconst 0, 1) := by decide +kernel
theorem dX10_areJobsSound_63 : decode cX10_areJobsSound 63 = .ok (.istore 4, 2) := by decide +kernel
theorem dX10_areJobsSound_65 : decode cX10_areJobsSound 65 = .ok (.iload 4, 2) := by decide +kernel
theorem dX10_areJobsSound_67 : decode cX10_areJobsSound 67 = .ok (.iload_n 3, 1) := by decide +kernel
theorem dX10_areJobsSound_68 : decode cX10_areJobsSound 68 = .ok (.if_icmp .ge 32, 3) := by decide +kernel
theorem dX10_areJobsSound_71 : decode cX10_areJobsSound 71 = .ok (.aload_n 2, 1) := by decide +kernel
theorem dX10_areJobsSound_72 : decode cX10_areJobsSound 72 = .ok (.iload 4, 2) := by decide +kernel
theorem dX10_areJobsSound_74 : decode cX10_areJobsSound 74 = .ok (.aaload, 1) := by decide +kernel
theorem dX10_areJobsSound_75 : decode cX10_areJobsSound 75 = .ok (.astore 5, 2) := by decide +kernel
theorem dX10_areJobsSound_77 : decode cX10_areJobsSound 77 = .ok (.iload_n 1, 1) := by decide +kernel
theorem dX10_areJobsSound_78 : decode cX10_areJobsSound 78 = .ok (.aload 5, 2) := by decide +kernel
theorem dX10_areJobsSound_80 : decode cX10_areJobsSound 80 = .ok (.ifnull 11, 3) := by decide +kernel
theorem dX10_areJobsSound_83 : decode cX10_areJobsSound 83 = .ok (.aload 5, 2) := by decide +kernel
theorem dX10_areJobsSound_85 : decode cX10_areJobsSound 85 = .ok (.getfield 516, 3) := by decide +kernel
theorem dX10_areJobsSound_88 : decode cX10_areJobsSound 88 = .ok (.goto 4, 3) := by decide +kernel
theorem dX10_areJobsSound_91 : decode cX10_areJobsSound 91 = .ok (.iconst 0, 1) := by decide +kernel
theorem dX10_areJobsSound_92 : decode cX10_areJobsSound 92 = .ok (.isub, 1) := by decide +kernel
theorem dX10_areJobsSound_93 : decode cX10_areJobsSound 93 = .ok (.istore_n 1, 1) := by decide +kernel
theorem dX10_areJobsSound_94 : decode cX10_areJobsSound 94 = .ok (.iinc 4 1, 3) := by decide +kernel
theorem dX10_areJobsSound_97 : decode cX10_areJobsSound 97 = .ok (.goto (-32), 3) := by decide +kernel
theorem dX10_areJobsSound_100 : decode cX10_areJobsSound 100 = .ok (.iload_n 1, 1) := by decide +kernel
theorem dX10_areJobsSound_101 : decode cX10_areJobsSound 101 = .ok (.ifCond .ne 7, 3) := by decide +kernel
theorem dX10_areJobsSound_104 : decode cX10_areJobsSound 104 = .ok (.iconst 1, 1) := by decide +kernel
theorem dX10_areJobsSound_105 : decode cX10_areJobsSound 105 = .ok (.goto 4, 3) := by decide +kernel
theorem dX10_areJobsSound_108 : decode cX10_areJobsSound 108 = .ok (.iconst 0, 1) := by decide +kernel
theorem dX10_areJobsSound_109 : decode cX10_areJobsSound 109 = .ok (.ireturn, 1) := by decide +kernel
theorem dX10_areLotsSound_0 : decode cX10_areLotsSound 0 = .ok (.aload_n 0, 1) := by decide +kernel
theorem dX10_areLotsSound_1 : decode cX10_areLotsSound 1 = .ok (.getfield 29, 3) := by decide +kernel
theorem dX10_areLotsSound_4 : decode cX10_areLotsSound 4 = .ok (.astore_n 1, 1) := by decide +kernel
theorem dX10_areLotsSound_5 : decode cX10_areLotsSound 5 = .ok (.aload_n 1, 1) := by decide +kernel
theorem dX10_areLotsSound_6 : decode cX10_areLotsSound 6 = .ok (.arraylength, 1) := by decide +kernel
theorem dX10_areLotsSound_7 : decode cX10_areLotsSound 7 = .ok (.istore_n 2, 1) := by decide +kernel
theorem dX10_areLotsSound_8 : decode cX10_areLotsSound 8 = .ok (.iconst 0, 1) := by decide +kernel
theorem dX10_areLotsSound_9 : decode cX10_areLotsSound 9 = .ok (.istore_n 3, 1) := by decide +kernel
theorem dX10_areLotsSound_10 : decode cX10_areLotsSound 10 = .ok (.iload_n 3, 1) := by decide +kernel
theorem dX10_areLotsSound_11 : decode cX10_areLotsSound 11 = .ok (.iload_n 2, 1) := by decide +kernel
theorem dX10_areLotsSound_12 : decode cX10_areLotsSound 12 = .ok (.if_icmp .ge 48, 3) := by decide +kernel
theorem dX10_areLotsSound_15 : decode cX10_areLotsSound 15 = .ok (.aload_n 1, 1) := by decide +kernel
theorem dX10_areLotsSound_16 : decode cX10_areLotsSound 16 = .ok (.iload_n 3, 1) := by decide +kernel
theorem dX10_areLotsSound_17 : decode cX10_areLotsSound 17 = .ok (.aaload, 1) := by decide +kernel
theorem dX10_areLotsSound_18 : decode cX10_areLotsSound 18 = .ok (.astore 4, 2) := by decide +kernel
theorem dX10_areLotsSound_20 : decode cX10_areLotsSound 20 = .ok (.aload 4, 2) := by decide +kernel
theorem dX10_areLotsSound_22 : decode cX10_areLotsSound 22 = .ok (.ifnull 32, 3) := by decide +kernel
theorem dX10_areLotsSound_25 : decode cX10_areLotsSound 25 = .ok (.aload 4, 2) := by decide +kernel
theorem dX10_areLotsSound_27 : decode cX10_areLotsSound 27 = .ok (.getfield 518, 3) := by decide +kernel
theorem dX10_areLotsSound_30 : decode cX10_areLotsSound 30 = .ok (.aload 4, 2) := by decide +kernel
theorem dX10_areLotsSound_32 : decode cX10_areLotsSound 32 = .ok (.getfield 219, 3) := by decide +kernel
theorem dX10_areLotsSound_35 : decode cX10_areLotsSound 35 = .ok (.aload_n 0, 1) := by decide +kernel
theorem dX10_areLotsSound_36 : decode cX10_areLotsSound 36 = .ok (.aload 4, 2) := by decide +kernel
theorem dX10_areLotsSound_38 : decode cX10_areLotsSound 38 = .ok (.iconst 0, 1) := by decide +kernel
theorem dX10_areLotsSound_39 : decode cX10_areLotsSound 39 = .ok (.invokevirtual 519, 3) := by decide +kernel
theorem dX10_areLotsSound_42 : decode cX10_areLotsSound 42 = .ok (.iadd, 1) := by decide +kernel
theorem dX10_areLotsSound_43 : decode cX10_areLotsSound 43 = .ok (.aload 4, 2) := by decide +kernel
theorem dX10_areLotsSound_45 : decode cX10_areLotsSound 45 = .ok (.getfield 516, 3) := by decide +kernel
theorem dX10_areLotsSound_48 : decode cX10_areLotsSound 48 = .ok (.iadd, 1) := by decide +kernel
theorem dX10_areLotsSound_49 : decode cX10_areLotsSound 49 = .ok (.if_icmp .eq 5, 3) := by decide +kernel
theorem dX10_areLotsSound_52 : decode cX10_areLotsSound 52 = .ok (.iconst 0, 1) := by decide +kernel
theorem dX10_areLotsSound_53 : decode cX10_areLotsSound 53 = .ok (.ireturn, 1) := by decide +kernel
theorem dX10_areLotsSound_54 : decode cX10_areLotsSound 54 = .ok (.iinc 3 1, 3) := by decide +kernel
theorem dX10_areLotsSound_57 : decode cX10_areLotsSound 57 = .ok (.goto (-47), 3) := by decide +kernel
theorem dX10_areLotsSound_60 : decode cX10_areLotsSound 60 = .ok (.iconst 1, 1) := by decide +kernel
theorem dX10_areLotsSound_61 : decode cX10_areLotsSound 61 = .ok (.ireturn, 1) := by decide +kernel
theorem dX10_arePromisesSound_0 : decode cX10_arePromisesSound 0 = .ok (.aload_n 0, 1) := by decide +kernel
theorem dX10_arePromisesSound_1 : decode cX10_arePromisesSound 1 = .ok (.getfield 29, 3) := by decide +kernel
theorem dX10_arePromisesSound_4 : decode cX10_arePromisesSound 4 = .ok (.astore_n 1, 1) := by decide +kernel
theorem dX10_arePromisesSound_5 : decode cX10_arePromisesSound 5 = .ok (.aload_n 1, 1) := by decide +kernel
theorem dX10_arePromisesSound_6 : decode cX10_arePromisesSound 6 = .ok (.arraylength, 1) := by decide +kernel
theorem dX10_arePromisesSound_7 : decode cX10_arePromisesSound 7 = .ok (.istore_n 2, 1) := by decide +kernel
theorem dX10_arePromisesSound_8 : decode cX10_arePromisesSound 8 = .ok (.iconst 0, 1) := by decide +kernel
theorem dX10_arePromisesSound_9 : decode cX10_arePromisesSound 9 = .ok (.istore_n 3, 1) := by decide +kernel
theorem dX10_arePromisesSound_10 : decode cX10_arePromisesSound 10 = .ok (.iload_n 3, 1) := by decide +kernel
theorem dX10_arePromisesSound_11 : decode cX10_arePromisesSound 11 = .ok (.iload_n 2, 1) := by decide +kernel
theorem dX10_arePromisesSound_12 : decode cX10_arePromisesSound 12 = .ok (.if_icmp .ge 66, 3) := by decide +kernel
theorem dX10_arePromisesSound_15 : decode cX10_arePromisesSound 15 = .ok (.aload_n 1, 1) := by decide +kernel
theorem dX10_arePromisesSound_16 : decode cX10_arePromisesSound 16 = .ok (.iload_n 3, 1) := by decide +kernel
theorem dX10_arePromisesSound_17 : decode cX10_arePromisesSound 17 = .ok (.aaload, 1) := by decide +kernel
theorem dX10_arePromisesSound_18 : decode cX10_arePromisesSound 18 = .ok (.astore 4, 2) := by decide +kernel
theorem dX10_arePromisesSound_20 : decode cX10_arePromisesSound 20 = .ok (.aload 4, 2) := by decide +kernel
theorem dX10_arePromisesSound_22 : decode cX10_arePromisesSound 22 = .ok (.ifnull 50, 3) := by decide +kernel
theorem dX10_arePromisesSound_25 : decode cX10_arePromisesSound 25 = .ok (.aload 4, 2) := by decide +kernel
theorem dX10_arePromisesSound_27 : decode cX10_arePromisesSound 27 = .ok (.getfield 222, 3) := by decide +kernel
theorem dX10_arePromisesSound_30 : decode cX10_arePromisesSound 30 = .ok (.aload_n 0, 1) := by decide +kernel
theorem dX10_arePromisesSound_31 : decode cX10_arePromisesSound 31 = .ok (.aload 4, 2) := by decide +kernel
theorem dX10_arePromisesSound_33 : decode cX10_arePromisesSound 33 = .ok (.iconst 1, 1) := by decide +kernel
theorem dX10_arePromisesSound_34 : decode cX10_arePromisesSound 34 = .ok (.invokevirtual 519, 3) := by decide +kernel
theorem dX10_arePromisesSound_37 : decode cX10_arePromisesSound 37 = .ok (.if_icmp .ne 33, 3) := by decide +kernel
theorem dX10_arePromisesSound_40 : decode cX10_arePromisesSound 40 = .ok (.aload 4, 2) := by decide +kernel
theorem dX10_arePromisesSound_42 : decode cX10_arePromisesSound 42 = .ok (.getfield 222, 3) := by decide +kernel
theorem dX10_arePromisesSound_45 : decode cX10_arePromisesSound 45 = .ok (.aload 4, 2) := by decide +kernel
theorem dX10_arePromisesSound_47 : decode cX10_arePromisesSound 47 = .ok (.getfield 219, 3) := by decide +kernel
theorem dX10_arePromisesSound_50 : decode cX10_arePromisesSound 50 = .ok (.if_icmp .gt 20, 3) := by decide +kernel
theorem dX10_arePromisesSound_53 : decode cX10_arePromisesSound 53 = .ok (.aload 4, 2) := by decide +kernel
theorem dX10_arePromisesSound_55 : decode cX10_arePromisesSound 55 = .ok (.getfield 222, 3) := by decide +kernel
theorem dX10_arePromisesSound_58 : decode cX10_arePromisesSound 58 = .ok (.ifCond .le 14, 3) := by decide +kernel
theorem dX10_arePromisesSound_61 : decode cX10_arePromisesSound 61 = .ok (.aload_n 0, 1) := by decide +kernel
theorem dX10_arePromisesSound_62 : decode cX10_arePromisesSound 62 = .ok (.aload 4, 2) := by decide +kernel
theorem dX10_arePromisesSound_64 : decode cX10_arePromisesSound 64 = .ok (.invokevirtual 184, 3) := by decide +kernel
theorem dX10_arePromisesSound_67 : decode cX10_arePromisesSound 67 = .ok (.ifCond .eq 5, 3) := by decide +kernel
theorem dX10_arePromisesSound_70 : decode cX10_arePromisesSound 70 = .ok (.iconst 0, 1) := by decide +kernel
theorem dX10_arePromisesSound_71 : decode cX10_arePromisesSound 71 = .ok (.ireturn, 1) := by decide +kernel
theorem dX10_arePromisesSound_72 : decode cX10_arePromisesSound 72 = .ok (.iinc 3 1, 3) := by decide +kernel
theorem dX10_arePromisesSound_75 : decode cX10_arePromisesSound 75 = .ok (.goto (-65), 3) := by decide +kernel
theorem dX10_arePromisesSound_78 : decode cX10_arePromisesSound 78 = .ok (.iconst 1, 1) := by decide +kernel
theorem dX10_arePromisesSound_79 : decode cX10_arePromisesSound 79 = .ok (.ireturn, 1) := by decide +kernel
theorem dX10_areTracesSound_0 : decode cX10_areTracesSound 0 = .ok (.aload_n 0, 1) := by decide +kernel
theorem dX10_areTracesSound_1 : decode cX10_areTracesSound 1 = .ok (.getfield 29, 3) := by decide +kernel
theorem dX10_areTracesSound_4 : decode cX10_areTracesSound 4 = .ok (.astore_n 1, 1) := by decide +kernel
theorem dX10_areTracesSound_5 : decode cX10_areTracesSound 5 = .ok (.aload_n 1, 1) := by decide +kernel
theorem dX10_areTracesSound_6 : decode cX10_areTracesSound 6 = .ok (.arraylength, 1) := by decide +kernel
theorem dX10_areTracesSound_7 : decode cX10_areTracesSound 7 = .ok (.istore_n 2, 1) := by decide +kernel
theorem dX10_areTracesSound_8 : decode cX10_areTracesSound 8 = .ok (.iconst 0, 1) := by decide +kernel
theorem dX10_areTracesSound_9 : decode cX10_areTracesSound 9 = .ok (.istore_n 3, 1) := by decide +kernel
theorem dX10_areTracesSound_10 : decode cX10_areTracesSound 10 = .ok (.iload_n 3, 1) := by decide +kernel
theorem dX10_areTracesSound_11 : decode cX10_areTracesSound 11 = .ok (.iload_n 2, 1) := by decide +kernel
theorem dX10_areTracesSound_12 : decode cX10_areTracesSound 12 = .ok (.if_icmp .ge 30, 3) := by decide +kernel
theorem dX10_areTracesSound_15 : decode cX10_areTracesSound 15 = .ok (.aload_n 1, 1) := by decide +kernel
theorem dX10_areTracesSound_16 : decode cX10_areTracesSound 16 = .ok (.iload_n 3, 1) := by decide +kernel
theorem dX10_areTracesSound_17 : decode cX10_areTracesSound 17 = .ok (.aaload, 1) := by decide +kernel
theorem dX10_areTracesSound_18 : decode cX10_areTracesSound 18 = .ok (.astore 4, 2) := by decide +kernel
theorem dX10_areTracesSound_20 : decode cX10_areTracesSound 20 = .ok (.aload 4, 2) := by decide +kernel
theorem dX10_areTracesSound_22 : decode cX10_areTracesSound 22 = .ok (.ifnull 14, 3) := by decide +kernel
theorem dX10_areTracesSound_25 : decode cX10_areTracesSound 25 = .ok (.aload_n 0, 1) := by decide +kernel
theorem dX10_areTracesSound_26 : decode cX10_areTracesSound 26 = .ok (.aload 4, 2) := by decide +kernel
theorem dX10_areTracesSound_28 : decode cX10_areTracesSound 28 = .ok (.invokevirtual 526, 3) := by decide +kernel
theorem dX10_areTracesSound_31 : decode cX10_areTracesSound 31 = .ok (.ifCond .ne 5, 3) := by decide +kernel
theorem dX10_areTracesSound_34 : decode cX10_areTracesSound 34 = .ok (.iconst 0, 1) := by decide +kernel
theorem dX10_areTracesSound_35 : decode cX10_areTracesSound 35 = .ok (.ireturn, 1) := by decide +kernel
theorem dX10_areTracesSound_36 : decode cX10_areTracesSound 36 = .ok (.iinc 3 1, 3) := by decide +kernel
theorem dX10_areTracesSound_39 : decode cX10_areTracesSound 39 = .ok (.goto (-29), 3) := by decide +kernel
theorem dX10_areTracesSound_42 : decode cX10_areTracesSound 42 = .ok (.iconst 1, 1) := by decide +kernel
theorem dX10_areTracesSound_43 : decode cX10_areTracesSound 43 = .ok (.ireturn, 1) := by decide +kernel
theorem dX10_costOf_0 : decode cX10_costOf 0 = .ok (.aload_n 0, 1) := by decide +kernel
theorem dX10_costOf_1 : decode cX10_costOf 1 = .ok (.iload_n 1, 1) := by decide +kernel
theorem dX10_costOf_2 : decode cX10_costOf 2 = .ok (.invokevirtual 173, 3) := by decide +kernel
theorem dX10_costOf_5 : decode cX10_costOf 5 = .ok (.getfield 225, 3) := by decide +kernel
theorem dX10_costOf_8 : decode cX10_costOf 8 = .ok (.lreturn, 1) := by decide +kernel
theorem dX10_deliver_0 : decode cX10_deliver 0 = .ok (.aload_n 0, 1) := by decide +kernel
theorem dX10_deliver_1 : decode cX10_deliver 1 = .ok (.iload_n 1, 1) := by decide +kernel
theorem dX10_deliver_2 : decode cX10_deliver 2 = .ok (.invokevirtual 238, 3) := by decide +kernel
theorem dX10_deliver_5 : decode cX10_deliver 5 = .ok (.astore_n 2, 1) := by decide +kernel
theorem dX10_deliver_6 : decode cX10_deliver 6 = .ok (.aload_n 2, 1) := by decide +kernel
theorem dX10_deliver_7 : decode cX10_deliver 7 = .ok (.getfield 243, 3) := by decide +kernel
theorem dX10_deliver_10 : decode cX10_deliver 10 = .ok (.bipush 100, 2) := by decide +kernel
theorem dX10_deliver_12 : decode cX10_deliver 12 = .ok (.if_icmp .eq 22, 3) := by decide +kernel
theorem dX10_deliver_15 : decode cX10_deliver 15 = .ok (.aload_n 2, 1) := by decide +kernel
theorem dX10_deliver_16 : decode cX10_deliver 16 = .ok (.getfield 242, 3) := by decide +kernel
theorem dX10_deliver_19 : decode cX10_deliver 19 = .ok (.getfield 84, 3) := by decide +kernel
theorem dX10_deliver_22 : decode cX10_deliver 22 = .ok (.ifCond .eq 23, 3) := by decide +kernel
theorem dX10_deliver_25 : decode cX10_deliver 25 = .ok (.aload_n 2, 1) := by decide +kernel
theorem dX10_deliver_26 : decode cX10_deliver 26 = .ok (.getfield 243, 3) := by decide +kernel
theorem dX10_deliver_29 : decode cX10_deliver 29 = .ok (.bipush 102, 2) := by decide +kernel
theorem dX10_deliver_31 : decode cX10_deliver 31 = .ok (.if_icmp .eq 14, 3) := by decide +kernel
theorem dX10_deliver_34 : decode cX10_deliver 34 = .ok (.new 88, 3) := by decide +kernel
theorem dX10_deliver_37 : decode cX10_deliver 37 = .ok (.dup, 1) := by decide +kernel
theorem dX10_deliver_38 : decode cX10_deliver 38 = .ok (.ldc_w 302, 3) := by decide +kernel
theorem dX10_deliver_41 : decode cX10_deliver 41 = .ok (.invokespecial 92, 3) := by decide +kernel
theorem dX10_deliver_44 : decode cX10_deliver 44 = .ok (.athrow, 1) := by decide +kernel
theorem dX10_deliver_45 : decode cX10_deliver 45 = .ok (.aload_n 0, 1) := by decide +kernel
theorem dX10_deliver_46 : decode cX10_deliver 46 = .ok (.aload_n 2, 1) := by decide +kernel
theorem dX10_deliver_47 : decode cX10_deliver 47 = .ok (.getfield 242, 3) := by decide +kernel
theorem dX10_deliver_50 : decode cX10_deliver 50 = .ok (.invokevirtual 304, 3) := by decide +kernel
theorem dX10_deliver_53 : decode cX10_deliver 53 = .ok (.aload_n 2, 1) := by decide +kernel
theorem dX10_deliver_54 : decode cX10_deliver 54 = .ok (.getfield 308, 3) := by decide +kernel
theorem dX10_deliver_57 : decode cX10_deliver 57 = .ok (.if_icmp .ge 5, 3) := by decide +kernel
theorem dX10_deliver_60 : decode cX10_deliver 60 = .ok (.iconst 0, 1) := by decide +kernel
theorem dX10_deliver_61 : decode cX10_deliver 61 = .ok (.ireturn, 1) := by decide +kernel
theorem dX10_deliver_62 : decode cX10_deliver 62 = .ok (.aload_n 0, 1) := by decide +kernel
theorem dX10_deliver_63 : decode cX10_deliver 63 = .ok (.aload_n 2, 1) := by decide +kernel
theorem dX10_deliver_64 : decode cX10_deliver 64 = .ok (.invokevirtual 311, 3) := by decide +kernel
theorem dX10_deliver_67 : decode cX10_deliver 67 = .ok (.aload_n 0, 1) := by decide +kernel
theorem dX10_deliver_68 : decode cX10_deliver 68 = .ok (.aload_n 2, 1) := by decide +kernel
theorem dX10_deliver_69 : decode cX10_deliver 69 = .ok (.invokevirtual 314, 3) := by decide +kernel
theorem dX10_deliver_72 : decode cX10_deliver 72 = .ok (.aload_n 2, 1) := by decide +kernel
theorem dX10_deliver_73 : decode cX10_deliver 73 = .ok (.bipush 100, 2) := by decide +kernel
theorem dX10_deliver_75 : decode cX10_deliver 75 = .ok (.putfield 243, 3) := by decide +kernel
theorem dX10_deliver_78 : decode cX10_deliver 78 = .ok (.aload_n 2, 1) := by decide +kernel
theorem dX10_deliver_79 : decode cX10_deliver 79 = .ok (.aload_n 0, 1) := by decide +kernel
theorem dX10_deliver_80 : decode cX10_deliver 80 = .ok (.getfield 294, 3) := by decide +kernel
theorem dX10_deliver_83 : decode cX10_deliver 83 = .ok (.putfield 317, 3) := by decide +kernel
theorem dX10_deliver_86 : decode cX10_deliver 86 = .ok (.iconst 1, 1) := by decide +kernel
theorem dX10_deliver_87 : decode cX10_deliver 87 = .ok (.ireturn, 1) := by decide +kernel
theorem dX10_deliveredCost_0 : decode cX10_deliveredCost 0 = .ok (.aload_n 0, 1) := by decide +kernel
theorem dX10_deliveredCost_1 : decode cX10_deliveredCost 1 = .ok (.iload_n 1, 1) := by decide +kernel
theorem dX10_deliveredCost_2 : decode cX10_deliveredCost 2 = .ok (.invokevirtual 238, 3) := by decide +kernel
theorem dX10_deliveredCost_5 : decode cX10_deliveredCost 5 = .ok (.astore_n 2, 1) := by decide +kernel
theorem dX10_deliveredCost_6 : decode cX10_deliveredCost 6 = .ok (.aload_n 2, 1) := by decide +kernel
theorem dX10_deliveredCost_7 : decode cX10_deliveredCost 7 = .ok (.getfield 243, 3) := by decide +kernel
theorem dX10_deliveredCost_10 : decode cX10_deliveredCost 10 = .ok (.bipush 100, 2) := by decide +kernel
theorem dX10_deliveredCost_12 : decode cX10_deliveredCost 12 = .ok (.if_icmp .eq 14, 3) := by decide +kernel
theorem dX10_deliveredCost_15 : decode cX10_deliveredCost 15 = .ok (.new 324, 3) := by decide +kernel
theorem dX10_deliveredCost_18 : decode cX10_deliveredCost 18 = .ok (.dup, 1) := by decide +kernel
theorem dX10_deliveredCost_19 : decode cX10_deliveredCost 19 = .ok (.ldc_w 353, 3) := by decide +kernel
theorem dX10_deliveredCost_22 : decode cX10_deliveredCost 22 = .ok (.invokespecial 328, 3) := by decide +kernel
theorem dX10_deliveredCost_25 : decode cX10_deliveredCost 25 = .ok (.athrow, 1) := by decide +kernel
theorem dX10_deliveredCost_26 : decode cX10_deliveredCost 26 = .ok (.aload_n 2, 1) := by decide +kernel
theorem dX10_deliveredCost_27 : decode cX10_deliveredCost 27 = .ok (.getfield 355, 3) := by decide +kernel
theorem dX10_deliveredCost_30 : decode cX10_deliveredCost 30 = .ok (.lreturn, 1) := by decide +kernel
theorem dX10_findSupplier_0 : decode cX10_findSupplier 0 = .ok (.iload_n 1, 1) := by decide +kernel
theorem dX10_findSupplier_1 : decode cX10_findSupplier 1 = .ok (.ifCond .lt 21, 3) := by decide +kernel
theorem dX10_findSupplier_4 : decode cX10_findSupplier 4 = .ok (.iload_n 1, 1) := by decide +kernel
theorem dX10_findSupplier_5 : decode cX10_findSupplier 5 = .ok (.aload_n 0, 1) := by decide +kernel
theorem dX10_findSupplier_6 : decode cX10_findSupplier 6 = .ok (.getfield 23, 3) := by decide +kernel
theorem dX10_findSupplier_9 : decode cX10_findSupplier 9 = .ok (.arraylength, 1) := by decide +kernel
theorem dX10_findSupplier_10 : decode cX10_findSupplier 10 = .ok (.if_icmp .ge 12, 3) := by decide +kernel
theorem dX10_findSupplier_13 : decode cX10_findSupplier 13 = .ok (.aload_n 0, 1) := by decide +kernel
theorem dX10_findSupplier_14 : decode cX10_findSupplier 14 = .ok (.getfield 23, 3) := by decide +kernel
theorem dX10_findSupplier_17 : decode cX10_findSupplier 17 = .ok (.iload_n 1, 1) := by decide +kernel
theorem dX10_findSupplier_18 : decode cX10_findSupplier 18 = .ok (.aaload, 1) := by decide +kernel
theorem dX10_findSupplier_19 : decode cX10_findSupplier 19 = .ok (.goto 4, 3) := by decide +kernel
theorem dX10_findSupplier_22 : decode cX10_findSupplier 22 = .ok (.aconst_null, 1) := by decide +kernel
theorem dX10_findSupplier_23 : decode cX10_findSupplier 23 = .ok (.areturn, 1) := by decide +kernel
theorem dX10_finishedAt_0 : decode cX10_finishedAt 0 = .ok (.aload_n 0, 1) := by decide +kernel
theorem dX10_finishedAt_1 : decode cX10_finishedAt 1 = .ok (.iload_n 1, 1) := by decide +kernel
theorem dX10_finishedAt_2 : decode cX10_finishedAt 2 = .ok (.invokevirtual 238, 3) := by decide +kernel
theorem dX10_finishedAt_5 : decode cX10_finishedAt 5 = .ok (.astore_n 2, 1) := by decide +kernel
theorem dX10_finishedAt_6 : decode cX10_finishedAt 6 = .ok (.aload_n 2, 1) := by decide +kernel
theorem dX10_finishedAt_7 : decode cX10_finishedAt 7 = .ok (.getfield 280, 3) := by decide +kernel
theorem dX10_finishedAt_10 : decode cX10_finishedAt 10 = .ok (.getfield 329, 3) := by decide +kernel
theorem dX10_finishedAt_13 : decode cX10_finishedAt 13 = .ok (.iconst (-1), 1) := by decide +kernel
theorem dX10_finishedAt_14 : decode cX10_finishedAt 14 = .ok (.if_icmp .ne 14, 3) := by decide +kernel
theorem dX10_finishedAt_17 : decode cX10_finishedAt 17 = .ok (.new 324, 3) := by decide +kernel
theorem dX10_finishedAt_20 : decode cX10_finishedAt 20 = .ok (.dup, 1) := by decide +kernel
theorem dX10_finishedAt_21 : decode cX10_finishedAt 21 = .ok (.ldc_w 332, 3) := by decide +kernel
theorem dX10_finishedAt_24 : decode cX10_finishedAt 24 = .ok (.invokespecial 328, 3) := by decide +kernel
theorem dX10_finishedAt_27 : decode cX10_finishedAt 27 = .ok (.athrow, 1) := by decide +kernel
theorem dX10_finishedAt_28 : decode cX10_finishedAt 28 = .ok (.aload_n 2, 1) := by decide +kernel
theorem dX10_finishedAt_29 : decode cX10_finishedAt 29 = .ok (.getfield 280, 3) := by decide +kernel
theorem dX10_finishedAt_32 : decode cX10_finishedAt 32 = .ok (.getfield 329, 3) := by decide +kernel
theorem dX10_finishedAt_35 : decode cX10_finishedAt 35 = .ok (.ireturn, 1) := by decide +kernel
theorem dX10_hold_0 : decode cX10_hold 0 = .ok (.aload_n 0, 1) := by decide +kernel
theorem dX10_hold_1 : decode cX10_hold 1 = .ok (.iload_n 1, 1) := by decide +kernel
theorem dX10_hold_2 : decode cX10_hold 2 = .ok (.invokevirtual 173, 3) := by decide +kernel
theorem dX10_hold_5 : decode cX10_hold 5 = .ok (.astore_n 3, 1) := by decide +kernel
theorem dX10_hold_6 : decode cX10_hold 6 = .ok (.iload_n 2, 1) := by decide +kernel
theorem dX10_hold_7 : decode cX10_hold 7 = .ok (.ifCond .eq 9, 3) := by decide +kernel
theorem dX10_hold_10 : decode cX10_hold 10 = .ok (.aload_n 0, 1) := by decide +kernel
theorem dX10_hold_11 : decode cX10_hold 11 = .ok (.aload_n 3, 1) := by decide +kernel
theorem dX10_hold_12 : decode cX10_hold 12 = .ok (.invokevirtual 177, 3) := by decide +kernel
theorem dX10_hold_15 : decode cX10_hold 15 = .ok (.ireturn, 1) := by decide +kernel
theorem dX10_hold_16 : decode cX10_hold 16 = .ok (.aload_n 0, 1) := by decide +kernel
theorem dX10_hold_17 : decode cX10_hold 17 = .ok (.getfield 42, 3) := by decide +kernel
theorem dX10_hold_20 : decode cX10_hold 20 = .ok (.iload_n 1, 1) := by decide +kernel
theorem dX10_hold_21 : decode cX10_hold 21 = .ok (.invokevirtual 181, 3) := by decide +kernel
theorem dX10_hold_24 : decode cX10_hold 24 = .ok (.iconst 0, 1) := by decide +kernel
theorem dX10_hold_25 : decode cX10_hold 25 = .ok (.ireturn, 1) := by decide +kernel
theorem dX10_inTimeShare_0 : decode cX10_inTimeShare 0 = .ok (.iconst 0, 1) := by decide +kernel
theorem dX10_inTimeShare_1 : decode cX10_inTimeShare 1 = .ok (.istore_n 1, 1) := by decide +kernel
theorem dX10_inTimeShare_2 : decode cX10_inTimeShare 2 = .ok (.iconst 0, 1) := by decide +kernel
theorem dX10_inTimeShare_3 : decode cX10_inTimeShare 3 = .ok (.istore_n 2, 1) := by decide +kernel
theorem dX10_inTimeShare_4 : decode cX10_inTimeShare 4 = .ok (.aload_n 0, 1) := by decide +kernel
theorem dX10_inTimeShare_5 : decode cX10_inTimeShare 5 = .ok (.getfield 35, 3) := by decide +kernel
theorem dX10_inTimeShare_8 : decode cX10_inTimeShare 8 = .ok (.astore_n 3, 1) := by decide +kernel
theorem dX10_inTimeShare_9 : decode cX10_inTimeShare 9 = .ok (.aload_n 3, 1) := by decide +kernel
theorem dX10_inTimeShare_10 : decode cX10_inTimeShare 10 = .ok (.arraylength, 1) := by decide +kernel
theorem dX10_inTimeShare_11 : decode cX10_inTimeShare 11 = .ok (.istore 4, 2) := by decide +kernel
theorem dX10_inTimeShare_13 : decode cX10_inTimeShare 13 = .ok (.iconst 0, 1) := by decide +kernel
theorem dX10_inTimeShare_14 : decode cX10_inTimeShare 14 = .ok (.istore 5, 2) := by decide +kernel
theorem dX10_inTimeShare_16 : decode cX10_inTimeShare 16 = .ok (.iload 5, 2) := by decide +kernel
theorem dX10_inTimeShare_18 : decode cX10_inTimeShare 18 = .ok (.iload 4, 2) := by decide +kernel
theorem dX10_inTimeShare_20 : decode cX10_inTimeShare 20 = .ok (.if_icmp .ge 54, 3) := by decide +kernel
theorem dX10_inTimeShare_23 : decode cX10_inTimeShare 23 = .ok (.aload_n 3, 1) := by decide +kernel
theorem dX10_inTimeShare_24 : decode cX10_inTimeShare 24 = .ok (.iload 5, 2) := by decide +kernel
theorem dX10_inTimeShare_26 : decode cX10_inTimeShare 26 = .ok (.aaload, 1) := by decide +kernel
theorem dX10_inTimeShare_27 : decode cX10_inTimeShare 27 = .ok (.astore 6, 2) := by decide +kernel
theorem dX10_inTimeShare_29 : decode cX10_inTimeShare 29 = .ok (.aload 6, 2) := by decide +kernel
theorem dX10_inTimeShare_31 : decode cX10_inTimeShare 31 = .ok (.ifnull 37, 3) := by decide +kernel
theorem dX10_inTimeShare_34 : decode cX10_inTimeShare 34 = .ok (.aload 6, 2) := by decide +kernel
theorem dX10_inTimeShare_36 : decode cX10_inTimeShare 36 = .ok (.getfield 243, 3) := by decide +kernel
theorem dX10_inTimeShare_39 : decode cX10_inTimeShare 39 = .ok (.bipush 100, 2) := by decide +kernel
theorem dX10_inTimeShare_41 : decode cX10_inTimeShare 41 = .ok (.if_icmp .ne 27, 3) := by decide +kernel
theorem dX10_inTimeShare_44 : decode cX10_inTimeShare 44 = .ok (.iinc 1 1, 3) := by decide +kernel
theorem dX10_inTimeShare_47 : decode cX10_inTimeShare 47 = .ok (.iload_n 2, 1) := by decide +kernel
theorem dX10_inTimeShare_48 : decode cX10_inTimeShare 48 = .ok (.aload 6, 2) := by decide +kernel
theorem dX10_inTimeShare_50 : decode cX10_inTimeShare 50 = .ok (.getfield 317, 3) := by decide +kernel
theorem dX10_inTimeShare_53 : decode cX10_inTimeShare 53 = .ok (.aload 6, 2) := by decide +kernel
theorem dX10_inTimeShare_55 : decode cX10_inTimeShare 55 = .ok (.getfield 358, 3) := by decide +kernel
theorem dX10_inTimeShare_58 : decode cX10_inTimeShare 58 = .ok (.if_icmp .gt 7, 3) := by decide +kernel
theorem dX10_inTimeShare_61 : decode cX10_inTimeShare 61 = .ok (.iconst 1, 1) := by decide +kernel
theorem dX10_inTimeShare_62 : decode cX10_inTimeShare 62 = .ok (.goto 4, 3) := by decide +kernel
theorem dX10_inTimeShare_65 : decode cX10_inTimeShare 65 = .ok (.iconst 0, 1) := by decide +kernel
theorem dX10_inTimeShare_66 : decode cX10_inTimeShare 66 = .ok (.iadd, 1) := by decide +kernel
theorem dX10_inTimeShare_67 : decode cX10_inTimeShare 67 = .ok (.istore_n 2, 1) := by decide +kernel
theorem dX10_inTimeShare_68 : decode cX10_inTimeShare 68 = .ok (.iinc 5 1, 3) := by decide +kernel
theorem dX10_inTimeShare_71 : decode cX10_inTimeShare 71 = .ok (.goto (-55), 3) := by decide +kernel
theorem dX10_inTimeShare_74 : decode cX10_inTimeShare 74 = .ok (.iload_n 1, 1) := by decide +kernel
theorem dX10_inTimeShare_75 : decode cX10_inTimeShare 75 = .ok (.ifCond .ne 14, 3) := by decide +kernel
theorem dX10_inTimeShare_78 : decode cX10_inTimeShare 78 = .ok (.new 361, 3) := by decide +kernel
theorem dX10_inTimeShare_81 : decode cX10_inTimeShare 81 = .ok (.dup, 1) := by decide +kernel
theorem dX10_inTimeShare_82 : decode cX10_inTimeShare 82 = .ok (.ldc_w 363, 3) := by decide +kernel
theorem dX10_inTimeShare_85 : decode cX10_inTimeShare 85 = .ok (.invokespecial 365, 3) := by decide +kernel
theorem dX10_inTimeShare_88 : decode cX10_inTimeShare 88 = .ok (.athrow, 1) := by decide +kernel
theorem dX10_inTimeShare_89 : decode cX10_inTimeShare 89 = .ok (.iload_n 2, 1) := by decide +kernel
theorem dX10_inTimeShare_90 : decode cX10_inTimeShare 90 = .ok (.i2f, 1) := by decide +kernel
theorem dX10_inTimeShare_91 : decode cX10_inTimeShare 91 = .ok (.iload_n 1, 1) := by decide +kernel
theorem dX10_inTimeShare_92 : decode cX10_inTimeShare 92 = .ok (.i2f, 1) := by decide +kernel
theorem dX10_inTimeShare_93 : decode cX10_inTimeShare 93 = .ok (.fdiv, 1) := by decide +kernel
theorem dX10_inTimeShare_94 : decode cX10_inTimeShare 94 = .ok (.freturn, 1) := by decide +kernel
theorem dX10_init_0 : decode cX10_init 0 = .ok (.aload_n 0, 1) := by decide +kernel
theorem dX10_init_1 : decode cX10_init 1 = .ok (.invokespecial 1, 3) := by decide +kernel
theorem dX10_init_4 : decode cX10_init 4 = .ok (.aload_n 0, 1) := by decide +kernel
theorem dX10_init_5 : decode cX10_init 5 = .ok (.iconst 5, 1) := by decide +kernel
theorem dX10_init_6 : decode cX10_init 6 = .ok (.anewarray 9, 3) := by decide +kernel
theorem dX10_init_9 : decode cX10_init 9 = .ok (.putfield 11, 3) := by decide +kernel
theorem dX10_init_12 : decode cX10_init 12 = .ok (.aload_n 0, 1) := by decide +kernel
theorem dX10_init_13 : decode cX10_init 13 = .ok (.bipush 12, 2) := by decide +kernel
theorem dX10_init_15 : decode cX10_init 15 = .ok (.anewarray 15, 3) := by decide +kernel
theorem dX10_init_18 : decode cX10_init 18 = .ok (.putfield 17, 3) := by decide +kernel
theorem dX10_init_21 : decode cX10_init 21 = .ok (.aload_n 0, 1) := by decide +kernel
theorem dX10_init_22 : decode cX10_init 22 = .ok (.iconst 4, 1) := by decide +kernel
theorem dX10_init_23 : decode cX10_init 23 = .ok (.anewarray 21, 3) := by decide +kernel
theorem dX10_init_26 : decode cX10_init 26 = .ok (.putfield 23, 3) := by decide +kernel
theorem dX10_init_29 : decode cX10_init 29 = .ok (.aload_n 0, 1) := by decide +kernel
theorem dX10_init_30 : decode cX10_init 30 = .ok (.bipush 90, 2) := by decide +kernel
theorem dX10_init_32 : decode cX10_init 32 = .ok (.anewarray 27, 3) := by decide +kernel
theorem dX10_init_35 : decode cX10_init 35 = .ok (.putfield 29, 3) := by decide +kernel
theorem dX10_init_38 : decode cX10_init 38 = .ok (.aload_n 0, 1) := by decide +kernel
theorem dX10_init_39 : decode cX10_init 39 = .ok (.bipush 30, 2) := by decide +kernel
theorem dX10_init_41 : decode cX10_init 41 = .ok (.anewarray 33, 3) := by decide +kernel
theorem dX10_init_44 : decode cX10_init 44 = .ok (.putfield 35, 3) := by decide +kernel
theorem dX10_init_47 : decode cX10_init 47 = .ok (.aload_n 0, 1) := by decide +kernel
theorem dX10_init_48 : decode cX10_init 48 = .ok (.new 39, 3) := by decide +kernel
theorem dX10_init_51 : decode cX10_init 51 = .ok (.dup, 1) := by decide +kernel
theorem dX10_init_52 : decode cX10_init 52 = .ok (.invokespecial 41, 3) := by decide +kernel
theorem dX10_init_55 : decode cX10_init 55 = .ok (.putfield 42, 3) := by decide +kernel
theorem dX10_init_58 : decode cX10_init 58 = .ok (.iconst 0, 1) := by decide +kernel
theorem dX10_init_59 : decode cX10_init 59 = .ok (.istore_n 1, 1) := by decide +kernel
theorem dX10_init_60 : decode cX10_init 60 = .ok (.iload_n 1, 1) := by decide +kernel
theorem dX10_init_61 : decode cX10_init 61 = .ok (.aload_n 0, 1) := by decide +kernel
theorem dX10_init_62 : decode cX10_init 62 = .ok (.getfield 23, 3) := by decide +kernel
theorem dX10_init_65 : decode cX10_init 65 = .ok (.arraylength, 1) := by decide +kernel
theorem dX10_init_66 : decode cX10_init 66 = .ok (.if_icmp .ge 22, 3) := by decide +kernel
theorem dX10_init_69 : decode cX10_init 69 = .ok (.aload_n 0, 1) := by decide +kernel
theorem dX10_init_70 : decode cX10_init 70 = .ok (.getfield 23, 3) := by decide +kernel
theorem dX10_init_73 : decode cX10_init 73 = .ok (.iload_n 1, 1) := by decide +kernel
theorem dX10_init_74 : decode cX10_init 74 = .ok (.new 21, 3) := by decide +kernel
theorem dX10_init_77 : decode cX10_init 77 = .ok (.dup, 1) := by decide +kernel
theorem dX10_init_78 : decode cX10_init 78 = .ok (.invokespecial 46, 3) := by decide +kernel
theorem dX10_init_81 : decode cX10_init 81 = .ok (.aastore, 1) := by decide +kernel
theorem dX10_init_82 : decode cX10_init 82 = .ok (.iinc 1 1, 3) := by decide +kernel
theorem dX10_init_85 : decode cX10_init 85 = .ok (.goto (-25), 3) := by decide +kernel
theorem dX10_init_88 : decode cX10_init 88 = .ok (.return_, 1) := by decide +kernel
theorem dX10_isFrom_0 : decode cX10_isFrom 0 = .ok (.iload_n 0, 1) := by decide +kernel
theorem dX10_isFrom_1 : decode cX10_isFrom 1 = .ok (.iload_n 1, 1) := by decide +kernel
theorem dX10_isFrom_2 : decode cX10_isFrom 2 = .ok (.if_icmp .lt 12, 3) := by decide +kernel
theorem dX10_isFrom_5 : decode cX10_isFrom 5 = .ok (.iload_n 0, 1) := by decide +kernel
theorem dX10_isFrom_6 : decode cX10_isFrom 6 = .ok (.iload_n 2, 1) := by decide +kernel
theorem dX10_isFrom_7 : decode cX10_isFrom 7 = .ok (.if_icmp .gt 7, 3) := by decide +kernel
theorem dX10_isFrom_10 : decode cX10_isFrom 10 = .ok (.iconst 1, 1) := by decide +kernel
theorem dX10_isFrom_11 : decode cX10_isFrom 11 = .ok (.goto 4, 3) := by decide +kernel
theorem dX10_isFrom_14 : decode cX10_isFrom 14 = .ok (.iconst 0, 1) := by decide +kernel
theorem dX10_isFrom_15 : decode cX10_isFrom 15 = .ok (.ireturn, 1) := by decide +kernel
theorem dX10_isHeld_0 : decode cX10_isHeld 0 = .ok (.aload_n 0, 1) := by decide +kernel
theorem dX10_isHeld_1 : decode cX10_isHeld 1 = .ok (.aload_n 0, 1) := by decide +kernel
theorem dX10_isHeld_2 : decode cX10_isHeld 2 = .ok (.iload_n 1, 1) := by decide +kernel
theorem dX10_isHeld_3 : decode cX10_isHeld 3 = .ok (.invokevirtual 173, 3) := by decide +kernel
theorem dX10_isHeld_6 : decode cX10_isHeld 6 = .ok (.invokevirtual 184, 3) := by decide +kernel
theorem dX10_isHeld_9 : decode cX10_isHeld 9 = .ok (.ireturn, 1) := by decide +kernel
theorem dX10_isIn_0 : decode cX10_isIn 0 = .ok (.aload_n 0, 1) := by decide +kernel
theorem dX10_isIn_1 : decode cX10_isIn 1 = .ok (.iload_n 1, 1) := by decide +kernel
theorem dX10_isIn_2 : decode cX10_isIn 2 = .ok (.invokevirtual 173, 3) := by decide +kernel
theorem dX10_isIn_5 : decode cX10_isIn 5 = .ok (.astore_n 3, 1) := by decide +kernel
theorem dX10_isIn_6 : decode cX10_isIn 6 = .ok (.aload_n 0, 1) := by decide +kernel
theorem dX10_isIn_7 : decode cX10_isIn 7 = .ok (.iload_n 2, 1) := by decide +kernel
theorem dX10_isIn_8 : decode cX10_isIn 8 = .ok (.invokevirtual 173, 3) := by decide +kernel
theorem dX10_isIn_11 : decode cX10_isIn 11 = .ok (.astore 4, 2) := by decide +kernel
theorem dX10_isIn_13 : decode cX10_isIn 13 = .ok (.aload 4, 2) := by decide +kernel
theorem dX10_isIn_15 : decode cX10_isIn 15 = .ok (.getfield 342, 3) := by decide +kernel
theorem dX10_isIn_18 : decode cX10_isIn 18 = .ok (.aload_n 3, 1) := by decide +kernel
theorem dX10_isIn_19 : decode cX10_isIn 19 = .ok (.getfield 157, 3) := by decide +kernel
theorem dX10_isIn_22 : decode cX10_isIn 22 = .ok (.invokevirtual 212, 3) := by decide +kernel
theorem dX10_isIn_25 : decode cX10_isIn 25 = .ok (.ireturn, 1) := by decide +kernel
theorem dX10_isSound_0 : decode cX10_isSound 0 = .ok (.aload_n 0, 1) := by decide +kernel
theorem dX10_isSound_1 : decode cX10_isSound 1 = .ok (.invokevirtual 372, 3) := by decide +kernel
theorem dX10_isSound_4 : decode cX10_isSound 4 = .ok (.ifCond .eq 35, 3) := by decide +kernel
theorem dX10_isSound_7 : decode cX10_isSound 7 = .ok (.aload_n 0, 1) := by decide +kernel
theorem dX10_isSound_8 : decode cX10_isSound 8 = .ok (.invokevirtual 375, 3) := by decide +kernel
theorem dX10_isSound_11 : decode cX10_isSound 11 = .ok (.ifCond .eq 28, 3) := by decide +kernel
theorem dX10_isSound_14 : decode cX10_isSound 14 = .ok (.aload_n 0, 1) := by decide +kernel
theorem dX10_isSound_15 : decode cX10_isSound 15 = .ok (.invokevirtual 378, 3) := by decide +kernel
theorem dX10_isSound_18 : decode cX10_isSound 18 = .ok (.ifCond .eq 21, 3) := by decide +kernel
theorem dX10_isSound_21 : decode cX10_isSound 21 = .ok (.aload_n 0, 1) := by decide +kernel
theorem dX10_isSound_22 : decode cX10_isSound 22 = .ok (.invokevirtual 381, 3) := by decide +kernel
theorem dX10_isSound_25 : decode cX10_isSound 25 = .ok (.ifCond .eq 14, 3) := by decide +kernel
theorem dX10_isSound_28 : decode cX10_isSound 28 = .ok (.aload_n 0, 1) := by decide +kernel
theorem dX10_isSound_29 : decode cX10_isSound 29 = .ok (.invokevirtual 384, 3) := by decide +kernel
theorem dX10_isSound_32 : decode cX10_isSound 32 = .ok (.ifCond .eq 7, 3) := by decide +kernel
theorem dX10_isSound_35 : decode cX10_isSound 35 = .ok (.iconst 1, 1) := by decide +kernel
theorem dX10_isSound_36 : decode cX10_isSound 36 = .ok (.goto 4, 3) := by decide +kernel
theorem dX10_isSound_39 : decode cX10_isSound 39 = .ok (.iconst 0, 1) := by decide +kernel
theorem dX10_isSound_40 : decode cX10_isSound 40 = .ok (.ireturn, 1) := by decide +kernel
theorem dX10_knownLot_0 : decode cX10_knownLot 0 = .ok (.iload_n 1, 1) := by decide +kernel
theorem dX10_knownLot_1 : decode cX10_knownLot 1 = .ok (.ifCond .lt 21, 3) := by decide +kernel
theorem dX10_knownLot_4 : decode cX10_knownLot 4 = .ok (.iload_n 1, 1) := by decide +kernel
theorem dX10_knownLot_5 : decode cX10_knownLot 5 = .ok (.aload_n 0, 1) := by decide +kernel
theorem dX10_knownLot_6 : decode cX10_knownLot 6 = .ok (.getfield 29, 3) := by decide +kernel
theorem dX10_knownLot_9 : decode cX10_knownLot 9 = .ok (.arraylength, 1) := by decide +kernel
theorem dX10_knownLot_10 : decode cX10_knownLot 10 = .ok (.if_icmp .ge 12, 3) := by decide +kernel
theorem dX10_knownLot_13 : decode cX10_knownLot 13 = .ok (.aload_n 0, 1) := by decide +kernel
theorem dX10_knownLot_14 : decode cX10_knownLot 14 = .ok (.getfield 29, 3) := by decide +kernel
theorem dX10_knownLot_17 : decode cX10_knownLot 17 = .ok (.iload_n 1, 1) := by decide +kernel
theorem dX10_knownLot_18 : decode cX10_knownLot 18 = .ok (.aaload, 1) := by decide +kernel
theorem dX10_knownLot_19 : decode cX10_knownLot 19 = .ok (.goto 4, 3) := by decide +kernel
theorem dX10_knownLot_22 : decode cX10_knownLot 22 = .ok (.aconst_null, 1) := by decide +kernel
theorem dX10_knownLot_23 : decode cX10_knownLot 23 = .ok (.astore_n 2, 1) := by decide +kernel
theorem dX10_knownLot_24 : decode cX10_knownLot 24 = .ok (.aload_n 2, 1) := by decide +kernel
theorem dX10_knownLot_25 : decode cX10_knownLot 25 = .ok (.ifnonnull 14, 3) := by decide +kernel
theorem dX10_knownLot_28 : decode cX10_knownLot 28 = .ok (.new 164, 3) := by decide +kernel
theorem dX10_knownLot_31 : decode cX10_knownLot 31 = .ok (.dup, 1) := by decide +kernel
theorem dX10_knownLot_32 : decode cX10_knownLot 32 = .ok (.ldc_w 391, 3) := by decide +kernel
theorem dX10_knownLot_35 : decode cX10_knownLot 35 = .ok (.invokespecial 168, 3) := by decide +kernel
theorem dX10_knownLot_38 : decode cX10_knownLot 38 = .ok (.athrow, 1) := by decide +kernel
theorem dX10_knownLot_39 : decode cX10_knownLot 39 = .ok (.aload_n 2, 1) := by decide +kernel
theorem dX10_knownLot_40 : decode cX10_knownLot 40 = .ok (.areturn, 1) := by decide +kernel
theorem dX10_knownMachine_0 : decode cX10_knownMachine 0 = .ok (.iload_n 1, 1) := by decide +kernel
theorem dX10_knownMachine_1 : decode cX10_knownMachine 1 = .ok (.ifCond .lt 21, 3) := by decide +kernel
theorem dX10_knownMachine_4 : decode cX10_knownMachine 4 = .ok (.iload_n 1, 1) := by decide +kernel
theorem dX10_knownMachine_5 : decode cX10_knownMachine 5 = .ok (.aload_n 0, 1) := by decide +kernel
theorem dX10_knownMachine_6 : decode cX10_knownMachine 6 = .ok (.getfield 11, 3) := by decide +kernel
theorem dX10_knownMachine_9 : decode cX10_knownMachine 9 = .ok (.arraylength, 1) := by decide +kernel
theorem dX10_knownMachine_10 : decode cX10_knownMachine 10 = .ok (.if_icmp .ge 12, 3) := by decide +kernel
theorem dX10_knownMachine_13 : decode cX10_knownMachine 13 = .ok (.aload_n 0, 1) := by decide +kernel
theorem dX10_knownMachine_14 : decode cX10_knownMachine 14 = .ok (.getfield 11, 3) := by decide +kernel
theorem dX10_knownMachine_17 : decode cX10_knownMachine 17 = .ok (.iload_n 1, 1) := by decide +kernel
theorem dX10_knownMachine_18 : decode cX10_knownMachine 18 = .ok (.aaload, 1) := by decide +kernel
theorem dX10_knownMachine_19 : decode cX10_knownMachine 19 = .ok (.goto 4, 3) := by decide +kernel
theorem dX10_knownMachine_22 : decode cX10_knownMachine 22 = .ok (.aconst_null, 1) := by decide +kernel
theorem dX10_knownMachine_23 : decode cX10_knownMachine 23 = .ok (.astore_n 2, 1) := by decide +kernel
theorem dX10_knownMachine_24 : decode cX10_knownMachine 24 = .ok (.aload_n 2, 1) := by decide +kernel
theorem dX10_knownMachine_25 : decode cX10_knownMachine 25 = .ok (.ifnonnull 14, 3) := by decide +kernel
theorem dX10_knownMachine_28 : decode cX10_knownMachine 28 = .ok (.new 164, 3) := by decide +kernel
theorem dX10_knownMachine_31 : decode cX10_knownMachine 31 = .ok (.dup, 1) := by decide +kernel
theorem dX10_knownMachine_32 : decode cX10_knownMachine 32 = .ok (.ldc_w 387, 3) := by decide +kernel
theorem dX10_knownMachine_35 : decode cX10_knownMachine 35 = .ok (.invokespecial 168, 3) := by decide +kernel
theorem dX10_knownMachine_38 : decode cX10_knownMachine 38 = .ok (.athrow, 1) := by decide +kernel
theorem dX10_knownMachine_39 : decode cX10_knownMachine 39 = .ok (.aload_n 2, 1) := by decide +kernel
theorem dX10_knownMachine_40 : decode cX10_knownMachine 40 = .ok (.areturn, 1) := by decide +kernel
theorem dX10_knownOrder_0 : decode cX10_knownOrder 0 = .ok (.iload_n 1, 1) := by decide +kernel
theorem dX10_knownOrder_1 : decode cX10_knownOrder 1 = .ok (.ifCond .lt 21, 3) := by decide +kernel
theorem dX10_knownOrder_4 : decode cX10_knownOrder 4 = .ok (.iload_n 1, 1) := by decide +kernel
theorem dX10_knownOrder_5 : decode cX10_knownOrder 5 = .ok (.aload_n 0, 1) := by decide +kernel
theorem dX10_knownOrder_6 : decode cX10_knownOrder 6 = .ok (.getfield 35, 3) := by decide +kernel
theorem dX10_knownOrder_9 : decode cX10_knownOrder 9 = .ok (.arraylength, 1) := by decide +kernel
theorem dX10_knownOrder_10 : decode cX10_knownOrder 10 = .ok (.if_icmp .ge 12, 3) := by decide +kernel
theorem dX10_knownOrder_13 : decode cX10_knownOrder 13 = .ok (.aload_n 0, 1) := by decide +kernel
theorem dX10_knownOrder_14 : decode cX10_knownOrder 14 = .ok (.getfield 35, 3) := by decide +kernel
theorem dX10_knownOrder_17 : decode cX10_knownOrder 17 = .ok (.iload_n 1, 1) := by decide +kernel
theorem dX10_knownOrder_18 : decode cX10_knownOrder 18 = .ok (.aaload, 1) := by decide +kernel
theorem dX10_knownOrder_19 : decode cX10_knownOrder 19 = .ok (.goto 4, 3) := by decide +kernel
theorem dX10_knownOrder_22 : decode cX10_knownOrder 22 = .ok (.aconst_null, 1) := by decide +kernel
theorem dX10_knownOrder_23 : decode cX10_knownOrder 23 = .ok (.astore_n 2, 1) := by decide +kernel
theorem dX10_knownOrder_24 : decode cX10_knownOrder 24 = .ok (.aload_n 2, 1) := by decide +kernel
theorem dX10_knownOrder_25 : decode cX10_knownOrder 25 = .ok (.ifnonnull 14, 3) := by decide +kernel
theorem dX10_knownOrder_28 : decode cX10_knownOrder 28 = .ok (.new 164, 3) := by decide +kernel
theorem dX10_knownOrder_31 : decode cX10_knownOrder 31 = .ok (.dup, 1) := by decide +kernel
theorem dX10_knownOrder_32 : decode cX10_knownOrder 32 = .ok (.ldc_w 393, 3) := by decide +kernel
theorem dX10_knownOrder_35 : decode cX10_knownOrder 35 = .ok (.invokespecial 168, 3) := by decide +kernel
theorem dX10_knownOrder_38 : decode cX10_knownOrder 38 = .ok (.athrow, 1) := by decide +kernel
theorem dX10_knownOrder_39 : decode cX10_knownOrder 39 = .ok (.aload_n 2, 1) := by decide +kernel
theorem dX10_knownOrder_40 : decode cX10_knownOrder 40 = .ok (.areturn, 1) := by decide +kernel
theorem dX10_knownPart_0 : decode cX10_knownPart 0 = .ok (.iload_n 1, 1) := by decide +kernel
theorem dX10_knownPart_1 : decode cX10_knownPart 1 = .ok (.ifCond .lt 21, 3) := by decide +kernel
theorem dX10_knownPart_4 : decode cX10_knownPart 4 = .ok (.iload_n 1, 1) := by decide +kernel
theorem dX10_knownPart_5 : decode cX10_knownPart 5 = .ok (.aload_n 0, 1) := by decide +kernel
theorem dX10_knownPart_6 : decode cX10_knownPart 6 = .ok (.getfield 17, 3) := by decide +kernel
theorem dX10_knownPart_9 : decode cX10_knownPart 9 = .ok (.arraylength, 1) := by decide +kernel
theorem dX10_knownPart_10 : decode cX10_knownPart 10 = .ok (.if_icmp .ge 12, 3) := by decide +kernel
theorem dX10_knownPart_13 : decode cX10_knownPart 13 = .ok (.aload_n 0, 1) := by decide +kernel
theorem dX10_knownPart_14 : decode cX10_knownPart 14 = .ok (.getfield 17, 3) := by decide +kernel
theorem dX10_knownPart_17 : decode cX10_knownPart 17 = .ok (.iload_n 1, 1) := by decide +kernel
theorem dX10_knownPart_18 : decode cX10_knownPart 18 = .ok (.aaload, 1) := by decide +kernel
theorem dX10_knownPart_19 : decode cX10_knownPart 19 = .ok (.goto 4, 3) := by decide +kernel
theorem dX10_knownPart_22 : decode cX10_knownPart 22 = .ok (.aconst_null, 1) := by decide +kernel
theorem dX10_knownPart_23 : decode cX10_knownPart 23 = .ok (.astore_n 2, 1) := by decide +kernel
theorem dX10_knownPart_24 : decode cX10_knownPart 24 = .ok (.aload_n 2, 1) := by decide +kernel
theorem dX10_knownPart_25 : decode cX10_knownPart 25 = .ok (.ifnonnull 14, 3) := by decide +kernel
theorem dX10_knownPart_28 : decode cX10_knownPart 28 = .ok (.new 164, 3) := by decide +kernel
theorem dX10_knownPart_31 : decode cX10_knownPart 31 = .ok (.dup, 1) := by decide +kernel
theorem dX10_knownPart_32 : decode cX10_knownPart 32 = .ok (.ldc_w 389, 3) := by decide +kernel
theorem dX10_knownPart_35 : decode cX10_knownPart 35 = .ok (.invokespecial 168, 3) := by decide +kernel
theorem dX10_knownPart_38 : decode cX10_knownPart 38 = .ok (.athrow, 1) := by decide +kernel
theorem dX10_knownPart_39 : decode cX10_knownPart 39 = .ok (.aload_n 2, 1) := by decide +kernel
theorem dX10_knownPart_40 : decode cX10_knownPart 40 = .ok (.areturn, 1) := by decide +kernel
theorem dX10_lotOf_0 : decode cX10_lotOf 0 = .ok (.aload_n 0, 1) := by decide +kernel
theorem dX10_lotOf_1 : decode cX10_lotOf 1 = .ok (.iload_n 1, 1) := by decide +kernel
theorem dX10_lotOf_2 : decode cX10_lotOf 2 = .ok (.invokevirtual 238, 3) := by decide +kernel
theorem dX10_lotOf_5 : decode cX10_lotOf 5 = .ok (.astore_n 2, 1) := by decide +kernel
theorem dX10_lotOf_6 : decode cX10_lotOf 6 = .ok (.aload_n 2, 1) := by decide +kernel
theorem dX10_lotOf_7 : decode cX10_lotOf 7 = .ok (.getfield 280, 3) := by decide +kernel
theorem dX10_lotOf_10 : decode cX10_lotOf 10 = .ok (.getfield 320, 3) := by decide +kernel
theorem dX10_lotOf_13 : decode cX10_lotOf 13 = .ok (.astore_n 3, 1) := by decide +kernel
theorem dX10_lotOf_14 : decode cX10_lotOf 14 = .ok (.aload_n 3, 1) := by decide +kernel
theorem dX10_lotOf_15 : decode cX10_lotOf 15 = .ok (.ifnonnull 14, 3) := by decide +kernel
theorem dX10_lotOf_18 : decode cX10_lotOf 18 = .ok (.new 324, 3) := by decide +kernel
theorem dX10_lotOf_21 : decode cX10_lotOf 21 = .ok (.dup, 1) := by decide +kernel
theorem dX10_lotOf_22 : decode cX10_lotOf 22 = .ok (.ldc_w 326, 3) := by decide +kernel
theorem dX10_lotOf_25 : decode cX10_lotOf 25 = .ok (.invokespecial 328, 3) := by decide +kernel
theorem dX10_lotOf_28 : decode cX10_lotOf 28 = .ok (.athrow, 1) := by decide +kernel
theorem dX10_lotOf_29 : decode cX10_lotOf 29 = .ok (.aload_n 3, 1) := by decide +kernel
theorem dX10_lotOf_30 : decode cX10_lotOf 30 = .ok (.getfield 157, 3) := by decide +kernel
theorem dX10_lotOf_33 : decode cX10_lotOf 33 = .ok (.ireturn, 1) := by decide +kernel
theorem dX10_lots_0 : decode cX10_lots 0 = .ok (.aload_n 0, 1) := by decide +kernel
theorem dX10_lots_1 : decode cX10_lots 1 = .ok (.getfield 215, 3) := by decide +kernel
theorem dX10_lots_4 : decode cX10_lots 4 = .ok (.ireturn, 1) := by decide +kernel
theorem dX10_lotsIn_0 : decode cX10_lotsIn 0 = .ok (.aload_n 0, 1) := by decide +kernel
theorem dX10_lotsIn_1 : decode cX10_lotsIn 1 = .ok (.iload_n 1, 1) := by decide +kernel
theorem dX10_lotsIn_2 : decode cX10_lotsIn 2 = .ok (.invokevirtual 238, 3) := by decide +kernel
theorem dX10_lotsIn_5 : decode cX10_lotsIn 5 = .ok (.getfield 352, 3) := by decide +kernel
theorem dX10_lotsIn_8 : decode cX10_lotsIn 8 = .ok (.invokevirtual 348, 3) := by decide +kernel
theorem dX10_lotsIn_11 : decode cX10_lotsIn 11 = .ok (.ireturn, 1) := by decide +kernel
theorem dX10_machineIs_0 : decode cX10_machineIs 0 = .ok (.aload_n 0, 1) := by decide +kernel
theorem dX10_machineIs_1 : decode cX10_machineIs 1 = .ok (.iload_n 1, 1) := by decide +kernel
theorem dX10_machineIs_2 : decode cX10_machineIs 2 = .ok (.invokevirtual 110, 3) := by decide +kernel
theorem dX10_machineIs_5 : decode cX10_machineIs 5 = .ok (.getfield 334, 3) := by decide +kernel
theorem dX10_machineIs_8 : decode cX10_machineIs 8 = .ok (.ireturn, 1) := by decide +kernel
theorem dX10_meanBusy_0 : decode cX10_meanBusy 0 = .ok (.aload_n 0, 1) := by decide +kernel
theorem dX10_meanBusy_1 : decode cX10_meanBusy 1 = .ok (.getfield 58, 3) := by decide +kernel
theorem dX10_meanBusy_4 : decode cX10_meanBusy 4 = .ok (.ifCond .ne 14, 3) := by decide +kernel
theorem dX10_meanBusy_7 : decode cX10_meanBusy 7 = .ok (.new 361, 3) := by decide +kernel
theorem dX10_meanBusy_10 : decode cX10_meanBusy 10 = .ok (.dup, 1) := by decide +kernel
theorem dX10_meanBusy_11 : decode cX10_meanBusy 11 = .ok (.ldc_w 366, 3) := by decide +kernel
theorem dX10_meanBusy_14 : decode cX10_meanBusy 14 = .ok (.invokespecial 365, 3) := by decide +kernel
theorem dX10_meanBusy_17 : decode cX10_meanBusy 17 = .ok (.athrow, 1) := by decide +kernel
theorem dX10_meanBusy_18 : decode cX10_meanBusy 18 = .ok (.lconst 0, 1) := by decide +kernel
theorem dX10_meanBusy_19 : decode cX10_meanBusy 19 = .ok (.lstore_n 1, 1) := by decide +kernel
theorem dX10_meanBusy_20 : decode cX10_meanBusy 20 = .ok (.aload_n 0, 1) := by decide +kernel
theorem dX10_meanBusy_21 : decode cX10_meanBusy 21 = .ok (.getfield 11, 3) := by decide +kernel
theorem dX10_meanBusy_24 : decode cX10_meanBusy 24 = .ok (.astore_n 3, 1) := by decide +kernel
theorem dX10_meanBusy_25 : decode cX10_meanBusy 25 = .ok (.aload_n 3, 1) := by decide +kernel
theorem dX10_meanBusy_26 : decode cX10_meanBusy 26 = .ok (.arraylength, 1) := by decide +kernel
theorem dX10_meanBusy_27 : decode cX10_meanBusy 27 = .ok (.istore 4, 2) := by decide +kernel
theorem dX10_meanBusy_29 : decode cX10_meanBusy 29 = .ok (.iconst 0, 1) := by decide +kernel
theorem dX10_meanBusy_30 : decode cX10_meanBusy 30 = .ok (.istore 5, 2) := by decide +kernel
theorem dX10_meanBusy_32 : decode cX10_meanBusy 32 = .ok (.iload 5, 2) := by decide +kernel
theorem dX10_meanBusy_34 : decode cX10_meanBusy 34 = .ok (.iload 4, 2) := by decide +kernel
theorem dX10_meanBusy_36 : decode cX10_meanBusy 36 = .ok (.if_icmp .ge 33, 3) := by decide +kernel
theorem dX10_meanBusy_39 : decode cX10_meanBusy 39 = .ok (.aload_n 3, 1) := by decide +kernel
theorem dX10_meanBusy_40 : decode cX10_meanBusy 40 = .ok (.iload 5, 2) := by decide +kernel
theorem dX10_meanBusy_42 : decode cX10_meanBusy 42 = .ok (.aaload, 1) := by decide +kernel
theorem dX10_meanBusy_43 : decode cX10_meanBusy 43 = .ok (.astore 6, 2) := by decide +kernel
theorem dX10_meanBusy_45 : decode cX10_meanBusy 45 = .ok (.aload 6, 2) := by decide +kernel
theorem dX10_meanBusy_47 : decode cX10_meanBusy 47 = .ok (.ifnull 16, 3) := by decide +kernel
theorem dX10_meanBusy_50 : decode cX10_meanBusy 50 = .ok (.lload_n 1, 1) := by decide +kernel
theorem dX10_meanBusy_51 : decode cX10_meanBusy 51 = .ok (.aload 6, 2) := by decide +kernel
theorem dX10_meanBusy_53 : decode cX10_meanBusy 53 = .ok (.aload_n 0, 1) := by decide +kernel
theorem dX10_meanBusy_54 : decode cX10_meanBusy 54 = .ok (.getfield 294, 3) := by decide +kernel
theorem dX10_meanBusy_57 : decode cX10_meanBusy 57 = .ok (.invokevirtual 368, 3) := by decide +kernel
theorem dX10_meanBusy_60 : decode cX10_meanBusy 60 = .ok (.i2l, 1) := by decide +kernel
theorem dX10_meanBusy_61 : decode cX10_meanBusy 61 = .ok (.ladd, 1) := by decide +kernel
theorem dX10_meanBusy_62 : decode cX10_meanBusy 62 = .ok (.lstore_n 1, 1) := by decide +kernel
theorem dX10_meanBusy_63 : decode cX10_meanBusy 63 = .ok (.iinc 5 1, 3) := by decide +kernel
theorem dX10_meanBusy_66 : decode cX10_meanBusy 66 = .ok (.goto (-34), 3) := by decide +kernel
theorem dX10_meanBusy_69 : decode cX10_meanBusy 69 = .ok (.lload_n 1, 1) := by decide +kernel
theorem dX10_meanBusy_70 : decode cX10_meanBusy 70 = .ok (.l2d, 1) := by decide +kernel
theorem dX10_meanBusy_71 : decode cX10_meanBusy 71 = .ok (.aload_n 0, 1) := by decide +kernel
theorem dX10_meanBusy_72 : decode cX10_meanBusy 72 = .ok (.getfield 58, 3) := by decide +kernel
theorem dX10_meanBusy_75 : decode cX10_meanBusy 75 = .ok (.i2d, 1) := by decide +kernel
theorem dX10_meanBusy_76 : decode cX10_meanBusy 76 = .ok (.ddiv, 1) := by decide +kernel
theorem dX10_meanBusy_77 : decode cX10_meanBusy 77 = .ok (.dreturn, 1) := by decide +kernel
theorem dX10_measure_0 : decode cX10_measure 0 = .ok (.aload_n 0, 1) := by decide +kernel
theorem dX10_measure_1 : decode cX10_measure 1 = .ok (.iload_n 1, 1) := by decide +kernel
theorem dX10_measure_2 : decode cX10_measure 2 = .ok (.invokevirtual 173, 3) := by decide +kernel
theorem dX10_measure_5 : decode cX10_measure 5 = .ok (.astore_n 3, 1) := by decide +kernel
theorem dX10_measure_6 : decode cX10_measure 6 = .ok (.iload_n 2, 1) := by decide +kernel
theorem dX10_measure_7 : decode cX10_measure 7 = .ok (.iconst 0, 1) := by decide +kernel
theorem dX10_measure_8 : decode cX10_measure 8 = .ok (.sipush 2000, 3) := by decide +kernel
theorem dX10_measure_11 : decode cX10_measure 11 = .ok (.invokestatic 47, 3) := by decide +kernel
theorem dX10_measure_14 : decode cX10_measure 14 = .ok (.ifCond .ne 13, 3) := by decide +kernel
theorem dX10_measure_17 : decode cX10_measure 17 = .ok (.new 51, 3) := by decide +kernel
theorem dX10_measure_20 : decode cX10_measure 20 = .ok (.dup, 1) := by decide +kernel
theorem dX10_measure_21 : decode cX10_measure 21 = .ok (.ldc 203, 2) := by decide +kernel
theorem dX10_measure_23 : decode cX10_measure 23 = .ok (.invokespecial 55, 3) := by decide +kernel
theorem dX10_measure_26 : decode cX10_measure 26 = .ok (.athrow, 1) := by decide +kernel
theorem dX10_measure_27 : decode cX10_measure 27 = .ok (.aload_n 3, 1) := by decide +kernel
theorem dX10_measure_28 : decode cX10_measure 28 = .ok (.getfield 205, 3) := by decide +kernel
theorem dX10_measure_31 : decode cX10_measure 31 = .ok (.getfield 190, 3) := by decide +kernel
theorem dX10_measure_34 : decode cX10_measure 34 = .ok (.iload_n 2, 1) := by decide +kernel
theorem dX10_measure_35 : decode cX10_measure 35 = .ok (.invokevirtual 209, 3) := by decide +kernel
theorem dX10_measure_38 : decode cX10_measure 38 = .ok (.istore 4, 2) := by decide +kernel
theorem dX10_measure_40 : decode cX10_measure 40 = .ok (.iload 4, 2) := by decide +kernel
theorem dX10_measure_42 : decode cX10_measure 42 = .ok (.ifCond .eq 14, 3) := by decide +kernel
theorem dX10_measure_45 : decode cX10_measure 45 = .ok (.aload_n 0, 1) := by decide +kernel
theorem dX10_measure_46 : decode cX10_measure 46 = .ok (.getfield 42, 3) := by decide +kernel
theorem dX10_measure_49 : decode cX10_measure 49 = .ok (.iload_n 1, 1) := by decide +kernel
theorem dX10_measure_50 : decode cX10_measure 50 = .ok (.invokevirtual 212, 3) := by decide +kernel
theorem dX10_measure_53 : decode cX10_measure 53 = .ok (.ifCond .eq 5, 3) := by decide +kernel
theorem dX10_measure_56 : decode cX10_measure 56 = .ok (.iconst 0, 1) := by decide +kernel
theorem dX10_measure_57 : decode cX10_measure 57 = .ok (.ireturn, 1) := by decide +kernel
theorem dX10_measure_58 : decode cX10_measure 58 = .ok (.aload_n 0, 1) := by decide +kernel
theorem dX10_measure_59 : decode cX10_measure 59 = .ok (.aload_n 3, 1) := by decide +kernel
theorem dX10_measure_60 : decode cX10_measure 60 = .ok (.invokevirtual 177, 3) := by decide +kernel
theorem dX10_measure_63 : decode cX10_measure 63 = .ok (.pop, 1) := by decide +kernel
theorem dX10_measure_64 : decode cX10_measure 64 = .ok (.iconst 1, 1) := by decide +kernel
theorem dX10_measure_65 : decode cX10_measure 65 = .ok (.ireturn, 1) := by decide +kernel
theorem dX10_order_0 : decode cX10_order 0 = .ok (.aload_n 0, 1) := by decide +kernel
theorem dX10_order_1 : decode cX10_order 1 = .ok (.iload_n 1, 1) := by decide +kernel
theorem dX10_order_2 : decode cX10_order 2 = .ok (.invokevirtual 80, 3) := by decide +kernel
theorem dX10_order_5 : decode cX10_order 5 = .ok (.astore 5, 2) := by decide +kernel
theorem dX10_order_7 : decode cX10_order 7 = .ok (.iload_n 2, 1) := by decide +kernel
theorem dX10_order_8 : decode cX10_order 8 = .ok (.iconst 1, 1) := by decide +kernel
theorem dX10_order_9 : decode cX10_order 9 = .ok (.bipush 100, 2) := by decide +kernel
theorem dX10_order_11 : decode cX10_order 11 = .ok (.invokestatic 47, 3) := by decide +kernel
theorem dX10_order_14 : decode cX10_order 14 = .ok (.ifCond .eq 24, 3) := by decide +kernel
theorem dX10_order_17 : decode cX10_order 17 = .ok (.iload_n 3, 1) := by decide +kernel
theorem dX10_order_18 : decode cX10_order 18 = .ok (.iconst 0, 1) := by decide +kernel
theorem dX10_order_19 : decode cX10_order 19 = .ok (.iconst 2, 1) := by decide +kernel
theorem dX10_order_20 : decode cX10_order 20 = .ok (.invokestatic 47, 3) := by decide +kernel
theorem dX10_order_23 : decode cX10_order 23 = .ok (.ifCond .eq 15, 3) := by decide +kernel
theorem dX10_order_26 : decode cX10_order 26 = .ok (.iload 4, 2) := by decide +kernel
theorem dX10_order_28 : decode cX10_order 28 = .ok (.iconst 0, 1) := by decide +kernel
theorem dX10_order_29 : decode cX10_order 29 = .ok (.sipush 9999, 3) := by decide +kernel
theorem dX10_order_32 : decode cX10_order 32 = .ok (.invokestatic 47, 3) := by decide +kernel
theorem dX10_order_35 : decode cX10_order 35 = .ok (.ifCond .ne 13, 3) := by decide +kernel
theorem dX10_order_38 : decode cX10_order 38 = .ok (.new 51, 3) := by decide +kernel
theorem dX10_order_41 : decode cX10_order 41 = .ok (.dup, 1) := by decide +kernel
theorem dX10_order_42 : decode cX10_order 42 = .ok (.ldc 228, 2) := by decide +kernel
theorem dX10_order_44 : decode cX10_order 44 = .ok (.invokespecial 55, 3) := by decide +kernel
theorem dX10_order_47 : decode cX10_order 47 = .ok (.athrow, 1) := by decide +kernel
theorem dX10_order_48 : decode cX10_order 48 = .ok (.aload_n 0, 1) := by decide +kernel
theorem dX10_order_49 : decode cX10_order 49 = .ok (.getfield 230, 3) := by decide +kernel
theorem dX10_order_52 : decode cX10_order 52 = .ok (.aload_n 0, 1) := by decide +kernel
theorem dX10_order_53 : decode cX10_order 53 = .ok (.getfield 35, 3) := by decide +kernel
theorem dX10_order_56 : decode cX10_order 56 = .ok (.arraylength, 1) := by decide +kernel
theorem dX10_order_57 : decode cX10_order 57 = .ok (.if_icmp .lt 13, 3) := by decide +kernel
theorem dX10_order_60 : decode cX10_order 60 = .ok (.new 62, 3) := by decide +kernel
theorem dX10_order_63 : decode cX10_order 63 = .ok (.dup, 1) := by decide +kernel
theorem dX10_order_64 : decode cX10_order 64 = .ok (.ldc 233, 2) := by decide +kernel
theorem dX10_order_66 : decode cX10_order 66 = .ok (.invokespecial 66, 3) := by decide +kernel
theorem dX10_order_69 : decode cX10_order 69 = .ok (.athrow, 1) := by decide +kernel
theorem dX10_order_70 : decode cX10_order 70 = .ok (.aload_n 0, 1) := by decide +kernel
theorem dX10_order_71 : decode cX10_order 71 = .ok (.getfield 35, 3) := by decide +kernel
theorem dX10_order_74 : decode cX10_order 74 = .ok (.aload_n 0, 1) := by decide +kernel
theorem dX10_order_75 : decode cX10_order 75 = .ok (.getfield 230, 3) := by decide +kernel
theorem dX10_order_78 : decode cX10_order 78 = .ok (.new 33, 3) := by decide +kernel
theorem dX10_order_81 : decode cX10_order 81 = .ok (.dup, 1) := by decide +kernel
theorem dX10_order_82 : decode cX10_order 82 = .ok (.aload_n 0, 1) := by decide +kernel
theorem dX10_order_83 : decode cX10_order 83 = .ok (.getfield 230, 3) := by decide +kernel
theorem dX10_order_86 : decode cX10_order 86 = .ok (.aload 5, 2) := by decide +kernel
theorem dX10_order_88 : decode cX10_order 88 = .ok (.iload_n 2, 1) := by decide +kernel
theorem dX10_order_89 : decode cX10_order 89 = .ok (.iload_n 3, 1) := by decide +kernel
theorem dX10_order_90 : decode cX10_order 90 = .ok (.iload 4, 2) := by decide +kernel
theorem dX10_order_92 : decode cX10_order 92 = .ok (.invokespecial 235, 3) := by decide +kernel
theorem dX10_order_95 : decode cX10_order 95 = .ok (.aastore, 1) := by decide +kernel
theorem dX10_order_96 : decode cX10_order 96 = .ok (.aload_n 0, 1) := by decide +kernel
theorem dX10_order_97 : decode cX10_order 97 = .ok (.dup, 1) := by decide +kernel
theorem dX10_order_98 : decode cX10_order 98 = .ok (.getfield 230, 3) := by decide +kernel
theorem dX10_order_101 : decode cX10_order 101 = .ok (.iconst 1, 1) := by decide +kernel
theorem dX10_order_102 : decode cX10_order 102 = .ok (.iadd, 1) := by decide +kernel
theorem dX10_order_103 : decode cX10_order 103 = .ok (.putfield 230, 3) := by decide +kernel
theorem dX10_order_106 : decode cX10_order 106 = .ok (.aload_n 0, 1) := by decide +kernel
theorem dX10_order_107 : decode cX10_order 107 = .ok (.getfield 230, 3) := by decide +kernel
theorem dX10_order_110 : decode cX10_order 110 = .ok (.iconst 1, 1) := by decide +kernel
theorem dX10_order_111 : decode cX10_order 111 = .ok (.isub, 1) := by decide +kernel
theorem dX10_order_112 : decode cX10_order 112 = .ok (.ireturn, 1) := by decide +kernel
theorem dX10_partOf_0 : decode cX10_partOf 0 = .ok (.aload_n 0, 1) := by decide +kernel
theorem dX10_partOf_1 : decode cX10_partOf 1 = .ok (.iload_n 1, 1) := by decide +kernel
theorem dX10_partOf_2 : decode cX10_partOf 2 = .ok (.invokevirtual 173, 3) := by decide +kernel
theorem dX10_partOf_5 : decode cX10_partOf 5 = .ok (.getfield 205, 3) := by decide +kernel
theorem dX10_partOf_8 : decode cX10_partOf 8 = .ok (.getfield 218, 3) := by decide +kernel
theorem dX10_partOf_11 : decode cX10_partOf 11 = .ok (.ireturn, 1) := by decide +kernel
theorem dX10_passTime_0 : decode cX10_passTime 0 = .ok (.aload_n 0, 1) := by decide +kernel
theorem dX10_passTime_1 : decode cX10_passTime 1 = .ok (.dup, 1) := by decide +kernel
theorem dX10_passTime_2 : decode cX10_passTime 2 = .ok (.getfield 294, 3) := by decide +kernel
theorem dX10_passTime_5 : decode cX10_passTime 5 = .ok (.iconst 1, 1) := by decide +kernel
theorem dX10_passTime_6 : decode cX10_passTime 6 = .ok (.iadd, 1) := by decide +kernel
theorem dX10_passTime_7 : decode cX10_passTime 7 = .ok (.putfield 294, 3) := by decide +kernel
theorem dX10_passTime_10 : decode cX10_passTime 10 = .ok (.aload_n 0, 1) := by decide +kernel
theorem dX10_passTime_11 : decode cX10_passTime 11 = .ok (.getfield 11, 3) := by decide +kernel
theorem dX10_passTime_14 : decode cX10_passTime 14 = .ok (.astore_n 1, 1) := by decide +kernel
theorem dX10_passTime_15 : decode cX10_passTime 15 = .ok (.aload_n 1, 1) := by decide +kernel
theorem dX10_passTime_16 : decode cX10_passTime 16 = .ok (.arraylength, 1) := by decide +kernel
theorem dX10_passTime_17 : decode cX10_passTime 17 = .ok (.istore_n 2, 1) := by decide +kernel
theorem dX10_passTime_18 : decode cX10_passTime 18 = .ok (.iconst 0, 1) := by decide +kernel
theorem dX10_passTime_19 : decode cX10_passTime 19 = .ok (.istore_n 3, 1) := by decide +kernel
theorem dX10_passTime_20 : decode cX10_passTime 20 = .ok (.iload_n 3, 1) := by decide +kernel
theorem dX10_passTime_21 : decode cX10_passTime 21 = .ok (.iload_n 2, 1) := by decide +kernel
theorem dX10_passTime_22 : decode cX10_passTime 22 = .ok (.if_icmp .ge 37, 3) := by decide +kernel
theorem dX10_passTime_25 : decode cX10_passTime 25 = .ok (.aload_n 1, 1) := by decide +kernel
theorem dX10_passTime_26 : decode cX10_passTime 26 = .ok (.iload_n 3, 1) := by decide +kernel
theorem dX10_passTime_27 : decode cX10_passTime 27 = .ok (.aaload, 1) := by decide +kernel
theorem dX10_passTime_28 : decode cX10_passTime 28 = .ok (.astore 4, 2) := by decide +kernel
theorem dX10_passTime_30 : decode cX10_passTime 30 = .ok (.aload 4, 2) := by decide +kernel
theorem dX10_passTime_32 : decode cX10_passTime 32 = .ok (.ifnull 21, 3) := by decide +kernel
theorem dX10_passTime_35 : decode cX10_passTime 35 = .ok (.aload 4, 2) := by decide +kernel
theorem dX10_passTime_37 : decode cX10_passTime 37 = .ok (.getfield 470, 3) := by decide +kernel
theorem dX10_passTime_40 : decode cX10_passTime 40 = .ok (.aload_n 0, 1) := by decide +kernel
theorem dX10_passTime_41 : decode cX10_passTime 41 = .ok (.getfield 294, 3) := by decide +kernel
theorem dX10_passTime_44 : decode cX10_passTime 44 = .ok (.if_icmp .ne 9, 3) := by decide +kernel
theorem dX10_passTime_47 : decode cX10_passTime 47 = .ok (.aload_n 0, 1) := by decide +kernel
theorem dX10_passTime_48 : decode cX10_passTime 48 = .ok (.aload 4, 2) := by decide +kernel
theorem dX10_passTime_50 : decode cX10_passTime 50 = .ok (.invokevirtual 473, 3) := by decide +kernel
theorem dX10_passTime_53 : decode cX10_passTime 53 = .ok (.iinc 3 1, 3) := by decide +kernel
theorem dX10_passTime_56 : decode cX10_passTime 56 = .ok (.goto (-36), 3) := by decide +kernel
theorem dX10_passTime_59 : decode cX10_passTime 59 = .ok (.aload_n 0, 1) := by decide +kernel
theorem dX10_passTime_60 : decode cX10_passTime 60 = .ok (.getfield 11, 3) := by decide +kernel
theorem dX10_passTime_63 : decode cX10_passTime 63 = .ok (.astore_n 1, 1) := by decide +kernel
theorem dX10_passTime_64 : decode cX10_passTime 64 = .ok (.aload_n 1, 1) := by decide +kernel
theorem dX10_passTime_65 : decode cX10_passTime 65 = .ok (.arraylength, 1) := by decide +kernel
theorem dX10_passTime_66 : decode cX10_passTime 66 = .ok (.istore_n 2, 1) := by decide +kernel
theorem dX10_passTime_67 : decode cX10_passTime 67 = .ok (.iconst 0, 1) := by decide +kernel
theorem dX10_passTime_68 : decode cX10_passTime 68 = .ok (.istore_n 3, 1) := by decide +kernel
theorem dX10_passTime_69 : decode cX10_passTime 69 = .ok (.iload_n 3, 1) := by decide +kernel
theorem dX10_passTime_70 : decode cX10_passTime 70 = .ok (.iload_n 2, 1) := by decide +kernel
theorem dX10_passTime_71 : decode cX10_passTime 71 = .ok (.if_icmp .ge 25, 3) := by decide +kernel
theorem dX10_passTime_74 : decode cX10_passTime 74 = .ok (.aload_n 1, 1) := by decide +kernel
theorem dX10_passTime_75 : decode cX10_passTime 75 = .ok (.iload_n 3, 1) := by decide +kernel
theorem dX10_passTime_76 : decode cX10_passTime 76 = .ok (.aaload, 1) := by decide +kernel
theorem dX10_passTime_77 : decode cX10_passTime 77 = .ok (.astore 4, 2) := by decide +kernel
theorem dX10_passTime_79 : decode cX10_passTime 79 = .ok (.aload 4, 2) := by decide +kernel
theorem dX10_passTime_81 : decode cX10_passTime 81 = .ok (.ifnull 9, 3) := by decide +kernel
theorem dX10_passTime_84 : decode cX10_passTime 84 = .ok (.aload_n 0, 1) := by decide +kernel
theorem dX10_passTime_85 : decode cX10_passTime 85 = .ok (.aload 4, 2) := by decide +kernel
theorem dX10_passTime_87 : decode cX10_passTime 87 = .ok (.invokevirtual 271, 3) := by decide +kernel
theorem dX10_passTime_90 : decode cX10_passTime 90 = .ok (.iinc 3 1, 3) := by decide +kernel
theorem dX10_passTime_93 : decode cX10_passTime 93 = .ok (.goto (-24), 3) := by decide +kernel
theorem dX10_passTime_96 : decode cX10_passTime 96 = .ok (.return_, 1) := by decide +kernel
theorem dX10_promise_0 : decode cX10_promise 0 = .ok (.aload_n 0, 1) := by decide +kernel
theorem dX10_promise_1 : decode cX10_promise 1 = .ok (.iload_n 1, 1) := by decide +kernel
theorem dX10_promise_2 : decode cX10_promise 2 = .ok (.invokevirtual 238, 3) := by decide +kernel
theorem dX10_promise_5 : decode cX10_promise 5 = .ok (.astore_n 2, 1) := by decide +kernel
theorem dX10_promise_6 : decode cX10_promise 6 = .ok (.aload_n 2, 1) := by decide +kernel
theorem dX10_promise_7 : decode cX10_promise 7 = .ok (.getfield 242, 3) := by decide +kernel
theorem dX10_promise_10 : decode cX10_promise 10 = .ok (.getfield 84, 3) := by decide +kernel
theorem dX10_promise_13 : decode cX10_promise 13 = .ok (.ifCond .eq 12, 3) := by decide +kernel
theorem dX10_promise_16 : decode cX10_promise 16 = .ok (.aload_n 2, 1) := by decide +kernel
theorem dX10_promise_17 : decode cX10_promise 17 = .ok (.getfield 243, 3) := by decide +kernel
theorem dX10_promise_20 : decode cX10_promise 20 = .ok (.bipush 45, 2) := by decide +kernel
theorem dX10_promise_22 : decode cX10_promise 22 = .ok (.if_icmp .eq 13, 3) := by decide +kernel
theorem dX10_promise_25 : decode cX10_promise 25 = .ok (.new 88, 3) := by decide +kernel
theorem dX10_promise_28 : decode cX10_promise 28 = .ok (.dup, 1) := by decide +kernel
theorem dX10_promise_29 : decode cX10_promise 29 = .ok (.ldc 246, 2) := by decide +kernel
theorem dX10_promise_31 : decode cX10_promise 31 = .ok (.invokespecial 92, 3) := by decide +kernel
theorem dX10_promise_34 : decode cX10_promise 34 = .ok (.athrow, 1) := by decide +kernel
theorem dX10_promise_35 : decode cX10_promise 35 = .ok (.aload_n 0, 1) := by decide +kernel
theorem dX10_promise_36 : decode cX10_promise 36 = .ok (.aload_n 2, 1) := by decide +kernel
theorem dX10_promise_37 : decode cX10_promise 37 = .ok (.invokevirtual 248, 3) := by decide +kernel
theorem dX10_promise_40 : decode cX10_promise 40 = .ok (.ireturn, 1) := by decide +kernel
theorem dX10_receive_0 : decode cX10_receive 0 = .ok (.aload_n 0, 1) := by decide +kernel
theorem dX10_receive_1 : decode cX10_receive 1 = .ok (.iload_n 1, 1) := by decide +kernel
theorem dX10_receive_2 : decode cX10_receive 2 = .ok (.invokevirtual 80, 3) := by decide +kernel
theorem dX10_receive_5 : decode cX10_receive 5 = .ok (.astore 6, 2) := by decide +kernel
theorem dX10_receive_7 : decode cX10_receive 7 = .ok (.aload_n 0, 1) := by decide +kernel
theorem dX10_receive_8 : decode cX10_receive 8 = .ok (.iload 4, 2) := by decide +kernel
theorem dX10_receive_10 : decode cX10_receive 10 = .ok (.invokevirtual 132, 3) := by decide +kernel
theorem dX10_receive_13 : decode cX10_receive 13 = .ok (.astore 7, 2) := by decide +kernel
theorem dX10_receive_15 : decode cX10_receive 15 = .ok (.aload 6, 2) := by decide +kernel
theorem dX10_receive_17 : decode cX10_receive 17 = .ok (.getfield 84, 3) := by decide +kernel
theorem dX10_receive_20 : decode cX10_receive 20 = .ok (.ifCond .eq 13, 3) := by decide +kernel
theorem dX10_receive_23 : decode cX10_receive 23 = .ok (.new 88, 3) := by decide +kernel
theorem dX10_receive_26 : decode cX10_receive 26 = .ok (.dup, 1) := by decide +kernel
theorem dX10_receive_27 : decode cX10_receive 27 = .ok (.ldc 136, 2) := by decide +kernel
theorem dX10_receive_29 : decode cX10_receive 29 = .ok (.invokespecial 92, 3) := by decide +kernel
theorem dX10_receive_32 : decode cX10_receive 32 = .ok (.athrow, 1) := by decide +kernel
theorem dX10_receive_33 : decode cX10_receive 33 = .ok (.aload 7, 2) := by decide +kernel
theorem dX10_receive_35 : decode cX10_receive 35 = .ok (.ifnull 36, 3) := by decide +kernel
theorem dX10_receive_38 : decode cX10_receive 38 = .ok (.iload_n 2, 1) := by decide +kernel
theorem dX10_receive_39 : decode cX10_receive 39 = .ok (.iconst 1, 1) := by decide +kernel
theorem dX10_receive_40 : decode cX10_receive 40 = .ok (.sipush 500, 3) := by decide +kernel
theorem dX10_receive_43 : decode cX10_receive 43 = .ok (.invokestatic 47, 3) := by decide +kernel
theorem dX10_receive_46 : decode cX10_receive 46 = .ok (.ifCond .eq 25, 3) := by decide +kernel
theorem dX10_receive_49 : decode cX10_receive 49 = .ok (.iload_n 3, 1) := by decide +kernel
theorem dX10_receive_50 : decode cX10_receive 50 = .ok (.iconst 0, 1) := by decide +kernel
theorem dX10_receive_51 : decode cX10_receive 51 = .ok (.sipush 999, 3) := by decide +kernel
theorem dX10_receive_54 : decode cX10_receive 54 = .ok (.invokestatic 47, 3) := by decide +kernel
theorem dX10_receive_57 : decode cX10_receive 57 = .ok (.ifCond .eq 14, 3) := by decide +kernel
theorem dX10_receive_60 : decode cX10_receive 60 = .ok (.iload 5, 2) := by decide +kernel
theorem dX10_receive_62 : decode cX10_receive 62 = .ok (.iconst 0, 1) := by decide +kernel
theorem dX10_receive_63 : decode cX10_receive 63 = .ok (.bipush 20, 2) := by decide +kernel
theorem dX10_receive_65 : decode cX10_receive 65 = .ok (.invokestatic 47, 3) := by decide +kernel
theorem dX10_receive_68 : decode cX10_receive 68 = .ok (.ifCond .ne 13, 3) := by decide +kernel
theorem dX10_receive_71 : decode cX10_receive 71 = .ok (.new 51, 3) := by decide +kernel
theorem dX10_receive_74 : decode cX10_receive 74 = .ok (.dup, 1) := by decide +kernel
theorem dX10_receive_75 : decode cX10_receive 75 = .ok (.ldc 138, 2) := by decide +kernel
theorem dX10_receive_77 : decode cX10_receive 77 = .ok (.invokespecial 55, 3) := by decide +kernel
theorem dX10_receive_80 : decode cX10_receive 80 = .ok (.athrow, 1) := by decide +kernel
theorem dX10_receive_81 : decode cX10_receive 81 = .ok (.aload_n 0, 1) := by decide +kernel
theorem dX10_receive_82 : decode cX10_receive 82 = .ok (.getfield 140, 3) := by decide +kernel
theorem dX10_receive_85 : decode cX10_receive 85 = .ok (.bipush 60, 2) := by decide +kernel
theorem dX10_receive_87 : decode cX10_receive 87 = .ok (.if_icmp .lt 13, 3) := by decide +kernel
theorem dX10_receive_90 : decode cX10_receive 90 = .ok (.new 62, 3) := by decide +kernel
theorem dX10_receive_93 : decode cX10_receive 93 = .ok (.dup, 1) := by decide +kernel
theorem dX10_receive_94 : decode cX10_receive 94 = .ok (.ldc 143, 2) := by decide +kernel
theorem dX10_receive_96 : decode cX10_receive 96 = .ok (.invokespecial 66, 3) := by decide +kernel
theorem dX10_receive_99 : decode cX10_receive 99 = .ok (.athrow, 1) := by decide +kernel
theorem dX10_receive_100 : decode cX10_receive 100 = .ok (.aload_n 0, 1) := by decide +kernel
theorem dX10_receive_101 : decode cX10_receive 101 = .ok (.dup, 1) := by decide +kernel
theorem dX10_receive_102 : decode cX10_receive 102 = .ok (.getfield 140, 3) := by decide +kernel
theorem dX10_receive_105 : decode cX10_receive 105 = .ok (.iconst 1, 1) := by decide +kernel
theorem dX10_receive_106 : decode cX10_receive 106 = .ok (.iadd, 1) := by decide +kernel
theorem dX10_receive_107 : decode cX10_receive 107 = .ok (.putfield 140, 3) := by decide +kernel
theorem dX10_receive_110 : decode cX10_receive 110 = .ok (.iload_n 2, 1) := by decide +kernel
theorem dX10_receive_111 : decode cX10_receive 111 = .ok (.i2l, 1) := by decide +kernel
theorem dX10_receive_112 : decode cX10_receive 112 = .ok (.iload_n 3, 1) := by decide +kernel
theorem dX10_receive_113 : decode cX10_receive 113 = .ok (.i2l, 1) := by decide +kernel
theorem dX10_receive_114 : decode cX10_receive 114 = .ok (.lmul, 1) := by decide +kernel
theorem dX10_receive_115 : decode cX10_receive 115 = .ok (.lstore 8, 2) := by decide +kernel
theorem dX10_receive_117 : decode cX10_receive 117 = .ok (.aload_n 0, 1) := by decide +kernel
theorem dX10_receive_118 : decode cX10_receive 118 = .ok (.dup, 1) := by decide +kernel
theorem dX10_receive_119 : decode cX10_receive 119 = .ok (.getfield 145, 3) := by decide +kernel
theorem dX10_receive_122 : decode cX10_receive 122 = .ok (.lload 8, 2) := by decide +kernel
theorem dX10_receive_124 : decode cX10_receive 124 = .ok (.ladd, 1) := by decide +kernel
theorem dX10_receive_125 : decode cX10_receive 125 = .ok (.putfield 145, 3) := by decide +kernel
theorem dX10_receive_128 : decode cX10_receive 128 = .ok (.aload_n 0, 1) := by decide +kernel
theorem dX10_receive_129 : decode cX10_receive 129 = .ok (.aload 6, 2) := by decide +kernel
theorem dX10_receive_131 : decode cX10_receive 131 = .ok (.iload_n 2, 1) := by decide +kernel
theorem dX10_receive_132 : decode cX10_receive 132 = .ok (.lload 8, 2) := by decide +kernel
theorem dX10_receive_134 : decode cX10_receive 134 = .ok (.invokevirtual 149, 3) := by decide +kernel
theorem dX10_receive_137 : decode cX10_receive 137 = .ok (.astore 10, 2) := by decide +kernel
theorem dX10_receive_139 : decode cX10_receive 139 = .ok (.aload 7, 2) := by decide +kernel
theorem dX10_receive_141 : decode cX10_receive 141 = .ok (.iload 5, 2) := by decide +kernel
theorem dX10_receive_143 : decode cX10_receive 143 = .ok (.invokevirtual 153, 3) := by decide +kernel
theorem dX10_receive_146 : decode cX10_receive 146 = .ok (.ifCond .eq 15, 3) := by decide +kernel
theorem dX10_receive_149 : decode cX10_receive 149 = .ok (.aload_n 0, 1) := by decide +kernel
theorem dX10_receive_150 : decode cX10_receive 150 = .ok (.getfield 42, 3) := by decide +kernel
theorem dX10_receive_153 : decode cX10_receive 153 = .ok (.aload 10, 2) := by decide +kernel
theorem dX10_receive_155 : decode cX10_receive 155 = .ok (.getfield 157, 3) := by decide +kernel
theorem dX10_receive_158 : decode cX10_receive 158 = .ok (.invokevirtual 160, 3) := by decide +kernel
theorem dX10_receive_161 : decode cX10_receive 161 = .ok (.aload 10, 2) := by decide +kernel
theorem dX10_receive_163 : decode cX10_receive 163 = .ok (.getfield 157, 3) := by decide +kernel
theorem dX10_receive_166 : decode cX10_receive 166 = .ok (.ireturn, 1) := by decide +kernel
theorem dX10_release_0 : decode cX10_release 0 = .ok (.aload_n 0, 1) := by decide +kernel
theorem dX10_release_1 : decode cX10_release 1 = .ok (.iload_n 1, 1) := by decide +kernel
theorem dX10_release_2 : decode cX10_release 2 = .ok (.invokevirtual 238, 3) := by decide +kernel
theorem dX10_release_5 : decode cX10_release 5 = .ok (.astore_n 2, 1) := by decide +kernel
theorem dX10_release_6 : decode cX10_release 6 = .ok (.aload_n 2, 1) := by decide +kernel
theorem dX10_release_7 : decode cX10_release 7 = .ok (.getfield 242, 3) := by decide +kernel
theorem dX10_release_10 : decode cX10_release 10 = .ok (.getfield 84, 3) := by decide +kernel
theorem dX10_release_13 : decode cX10_release 13 = .ok (.ifCond .eq 21, 3) := by decide +kernel
theorem dX10_release_16 : decode cX10_release 16 = .ok (.aload_n 2, 1) := by decide +kernel
theorem dX10_release_17 : decode cX10_release 17 = .ok (.getfield 243, 3) := by decide +kernel
theorem dX10_release_20 : decode cX10_release 20 = .ok (.bipush 45, 2) := by decide +kernel
theorem dX10_release_22 : decode cX10_release 22 = .ok (.if_icmp .eq 23, 3) := by decide +kernel
theorem dX10_release_25 : decode cX10_release 25 = .ok (.aload_n 2, 1) := by decide +kernel
theorem dX10_release_26 : decode cX10_release 26 = .ok (.getfield 243, 3) := by decide +kernel
theorem dX10_release_29 : decode cX10_release 29 = .ok (.bipush 112, 2) := by decide +kernel
theorem dX10_release_31 : decode cX10_release 31 = .ok (.if_icmp .eq 14, 3) := by decide +kernel
theorem dX10_release_34 : decode cX10_release 34 = .ok (.new 88, 3) := by decide +kernel
theorem dX10_release_37 : decode cX10_release 37 = .ok (.dup, 1) := by decide +kernel
theorem dX10_release_38 : decode cX10_release 38 = .ok (.ldc_w 258, 3) := by decide +kernel
theorem dX10_release_41 : decode cX10_release 41 = .ok (.invokespecial 92, 3) := by decide +kernel
theorem dX10_release_44 : decode cX10_release 44 = .ok (.athrow, 1) := by decide +kernel
theorem dX10_release_45 : decode cX10_release 45 = .ok (.aload_n 2, 1) := by decide +kernel
theorem dX10_release_46 : decode cX10_release 46 = .ok (.getfield 243, 3) := by decide +kernel
theorem dX10_release_49 : decode cX10_release 49 = .ok (.bipush 112, 2) := by decide +kernel
theorem dX10_release_51 : decode cX10_release 51 = .ok (.if_icmp .eq 13, 3) := by decide +kernel
theorem dX10_release_54 : decode cX10_release 54 = .ok (.aload_n 0, 1) := by decide +kernel
theorem dX10_release_55 : decode cX10_release 55 = .ok (.aload_n 2, 1) := by decide +kernel
theorem dX10_release_56 : decode cX10_release 56 = .ok (.invokevirtual 248, 3) := by decide +kernel
theorem dX10_release_59 : decode cX10_release 59 = .ok (.ifCond .ne 5, 3) := by decide +kernel
theorem dX10_release_62 : decode cX10_release 62 = .ok (.iconst 0, 1) := by decide +kernel
theorem dX10_release_63 : decode cX10_release 63 = .ok (.ireturn, 1) := by decide +kernel
theorem dX10_release_64 : decode cX10_release 64 = .ok (.aload_n 0, 1) := by decide +kernel
theorem dX10_release_65 : decode cX10_release 65 = .ok (.aload_n 2, 1) := by decide +kernel
theorem dX10_release_66 : decode cX10_release 66 = .ok (.invokevirtual 260, 3) := by decide +kernel
theorem dX10_release_69 : decode cX10_release 69 = .ok (.aload_n 0, 1) := by decide +kernel
theorem dX10_release_70 : decode cX10_release 70 = .ok (.aload_n 2, 1) := by decide +kernel
theorem dX10_release_71 : decode cX10_release 71 = .ok (.invokevirtual 264, 3) := by decide +kernel
theorem dX10_release_74 : decode cX10_release 74 = .ok (.astore_n 3, 1) := by decide +kernel
theorem dX10_release_75 : decode cX10_release 75 = .ok (.aload_n 3, 1) := by decide +kernel
theorem dX10_release_76 : decode cX10_release 76 = .ok (.ifnonnull 11, 3) := by decide +kernel
theorem dX10_release_79 : decode cX10_release 79 = .ok (.aload_n 0, 1) := by decide +kernel
theorem dX10_release_80 : decode cX10_release 80 = .ok (.aload_n 2, 1) := by decide +kernel
theorem dX10_release_81 : decode cX10_release 81 = .ok (.invokevirtual 268, 3) := by decide +kernel
theorem dX10_release_84 : decode cX10_release 84 = .ok (.goto 8, 3) := by decide +kernel
theorem dX10_release_87 : decode cX10_release 87 = .ok (.aload_n 0, 1) := by decide +kernel
theorem dX10_release_88 : decode cX10_release 88 = .ok (.aload_n 3, 1) := by decide +kernel
theorem dX10_release_89 : decode cX10_release 89 = .ok (.invokevirtual 271, 3) := by decide +kernel
theorem dX10_release_92 : decode cX10_release 92 = .ok (.iconst 1, 1) := by decide +kernel
theorem dX10_release_93 : decode cX10_release 93 = .ok (.ireturn, 1) := by decide +kernel
theorem dX10_reserved_0 : decode cX10_reserved 0 = .ok (.aload_n 0, 1) := by decide +kernel
theorem dX10_reserved_1 : decode cX10_reserved 1 = .ok (.iload_n 1, 1) := by decide +kernel
theorem dX10_reserved_2 : decode cX10_reserved 2 = .ok (.invokevirtual 173, 3) := by decide +kernel
theorem dX10_reserved_5 : decode cX10_reserved 5 = .ok (.getfield 222, 3) := by decide +kernel
theorem dX10_reserved_8 : decode cX10_reserved 8 = .ok (.ireturn, 1) := by decide +kernel
theorem dX10_rest_0 : decode cX10_rest 0 = .ok (.aload_n 0, 1) := by decide +kernel
theorem dX10_rest_1 : decode cX10_rest 1 = .ok (.iload_n 1, 1) := by decide +kernel
theorem dX10_rest_2 : decode cX10_rest 2 = .ok (.invokevirtual 173, 3) := by decide +kernel
theorem dX10_rest_5 : decode cX10_rest 5 = .ok (.getfield 219, 3) := by decide +kernel
theorem dX10_rest_8 : decode cX10_rest 8 = .ok (.ireturn, 1) := by decide +kernel
theorem dX10_rule_0 : decode cX10_rule 0 = .ok (.aload_n 0, 1) := by decide +kernel
theorem dX10_rule_1 : decode cX10_rule 1 = .ok (.iload_n 1, 1) := by decide +kernel
theorem dX10_rule_2 : decode cX10_rule 2 = .ok (.invokevirtual 132, 3) := by decide +kernel
theorem dX10_rule_5 : decode cX10_rule 5 = .ok (.astore_n 2, 1) := by decide +kernel
theorem dX10_rule_6 : decode cX10_rule 6 = .ok (.aload_n 2, 1) := by decide +kernel
theorem dX10_rule_7 : decode cX10_rule 7 = .ok (.ifnonnull 13, 3) := by decide +kernel
theorem dX10_rule_10 : decode cX10_rule 10 = .ok (.new 164, 3) := by decide +kernel
theorem dX10_rule_13 : decode cX10_rule 13 = .ok (.dup, 1) := by decide +kernel
theorem dX10_rule_14 : decode cX10_rule 14 = .ok (.ldc 166, 2) := by decide +kernel
theorem dX10_rule_16 : decode cX10_rule 16 = .ok (.invokespecial 168, 3) := by decide +kernel
theorem dX10_rule_19 : decode cX10_rule 19 = .ok (.athrow, 1) := by decide +kernel
theorem dX10_rule_20 : decode cX10_rule 20 = .ok (.aload_n 2, 1) := by decide +kernel
theorem dX10_rule_21 : decode cX10_rule 21 = .ok (.getfield 169, 3) := by decide +kernel
theorem dX10_rule_24 : decode cX10_rule 24 = .ok (.ireturn, 1) := by decide +kernel
theorem dX10_scrap_0 : decode cX10_scrap 0 = .ok (.aload_n 0, 1) := by decide +kernel
theorem dX10_scrap_1 : decode cX10_scrap 1 = .ok (.iload_n 1, 1) := by decide +kernel
theorem dX10_scrap_2 : decode cX10_scrap 2 = .ok (.invokevirtual 238, 3) := by decide +kernel
theorem dX10_scrap_5 : decode cX10_scrap 5 = .ok (.astore_n 3, 1) := by decide +kernel
theorem dX10_scrap_6 : decode cX10_scrap 6 = .ok (.aload_n 3, 1) := by decide +kernel
theorem dX10_scrap_7 : decode cX10_scrap 7 = .ok (.invokevirtual 275, 3) := by decide +kernel
theorem dX10_scrap_10 : decode cX10_scrap 10 = .ok (.ifCond .ne 14, 3) := by decide +kernel
theorem dX10_scrap_13 : decode cX10_scrap 13 = .ok (.new 88, 3) := by decide +kernel
theorem dX10_scrap_16 : decode cX10_scrap 16 = .ok (.dup, 1) := by decide +kernel
theorem dX10_scrap_17 : decode cX10_scrap 17 = .ok (.ldc_w 278, 3) := by decide +kernel
theorem dX10_scrap_20 : decode cX10_scrap 20 = .ok (.invokespecial 92, 3) := by decide +kernel
theorem dX10_scrap_23 : decode cX10_scrap 23 = .ok (.athrow, 1) := by decide +kernel
theorem dX10_scrap_24 : decode cX10_scrap 24 = .ok (.aload_n 3, 1) := by decide +kernel
theorem dX10_scrap_25 : decode cX10_scrap 25 = .ok (.getfield 280, 3) := by decide +kernel
theorem dX10_scrap_28 : decode cX10_scrap 28 = .ok (.astore 4, 2) := by decide +kernel
theorem dX10_scrap_30 : decode cX10_scrap 30 = .ok (.iload_n 2, 1) := by decide +kernel
theorem dX10_scrap_31 : decode cX10_scrap 31 = .ok (.iconst 1, 1) := by decide +kernel
theorem dX10_scrap_32 : decode cX10_scrap 32 = .ok (.aload 4, 2) := by decide +kernel
theorem dX10_scrap_34 : decode cX10_scrap 34 = .ok (.getfield 284, 3) := by decide +kernel
theorem dX10_scrap_37 : decode cX10_scrap 37 = .ok (.invokestatic 47, 3) := by decide +kernel
theorem dX10_scrap_40 : decode cX10_scrap 40 = .ok (.ifCond .ne 14, 3) := by decide +kernel
theorem dX10_scrap_43 : decode cX10_scrap 43 = .ok (.new 51, 3) := by decide +kernel
theorem dX10_scrap_46 : decode cX10_scrap 46 = .ok (.dup, 1) := by decide +kernel
theorem dX10_scrap_47 : decode cX10_scrap 47 = .ok (.ldc_w 289, 3) := by decide +kernel
theorem dX10_scrap_50 : decode cX10_scrap 50 = .ok (.invokespecial 55, 3) := by decide +kernel
theorem dX10_scrap_53 : decode cX10_scrap 53 = .ok (.athrow, 1) := by decide +kernel
theorem dX10_scrap_54 : decode cX10_scrap 54 = .ok (.aload 4, 2) := by decide +kernel
theorem dX10_scrap_56 : decode cX10_scrap 56 = .ok (.dup, 1) := by decide +kernel
theorem dX10_scrap_57 : decode cX10_scrap 57 = .ok (.getfield 284, 3) := by decide +kernel
theorem dX10_scrap_60 : decode cX10_scrap 60 = .ok (.iload_n 2, 1) := by decide +kernel
theorem dX10_scrap_61 : decode cX10_scrap 61 = .ok (.isub, 1) := by decide +kernel
theorem dX10_scrap_62 : decode cX10_scrap 62 = .ok (.putfield 284, 3) := by decide +kernel
theorem dX10_scrap_65 : decode cX10_scrap 65 = .ok (.aload 4, 2) := by decide +kernel
theorem dX10_scrap_67 : decode cX10_scrap 67 = .ok (.dup, 1) := by decide +kernel
theorem dX10_scrap_68 : decode cX10_scrap 68 = .ok (.getfield 291, 3) := by decide +kernel
theorem dX10_scrap_71 : decode cX10_scrap 71 = .ok (.iload_n 2, 1) := by decide +kernel
theorem dX10_scrap_72 : decode cX10_scrap 72 = .ok (.iadd, 1) := by decide +kernel
theorem dX10_scrap_73 : decode cX10_scrap 73 = .ok (.putfield 291, 3) := by decide +kernel
theorem dX10_scrap_76 : decode cX10_scrap 76 = .ok (.aload 4, 2) := by decide +kernel
theorem dX10_scrap_78 : decode cX10_scrap 78 = .ok (.getfield 284, 3) := by decide +kernel
theorem dX10_scrap_81 : decode cX10_scrap 81 = .ok (.ireturn, 1) := by decide +kernel
theorem dX10_setChart_0 : decode cX10_setChart 0 = .ok (.aload_n 0, 1) := by decide +kernel
theorem dX10_setChart_1 : decode cX10_setChart 1 = .ok (.iload_n 1, 1) := by decide +kernel
theorem dX10_setChart_2 : decode cX10_setChart 2 = .ok (.invokevirtual 80, 3) := by decide +kernel
theorem dX10_setChart_5 : decode cX10_setChart 5 = .ok (.astore 4, 2) := by decide +kernel
theorem dX10_setChart_7 : decode cX10_setChart 7 = .ok (.iload_n 2, 1) := by decide +kernel
theorem dX10_setChart_8 : decode cX10_setChart 8 = .ok (.iconst 0, 1) := by decide +kernel
theorem dX10_setChart_9 : decode cX10_setChart 9 = .ok (.sipush 1000, 3) := by decide +kernel
theorem dX10_setChart_12 : decode cX10_setChart 12 = .ok (.invokestatic 47, 3) := by decide +kernel
theorem dX10_setChart_15 : decode cX10_setChart 15 = .ok (.ifCond .eq 14, 3) := by decide +kernel
theorem dX10_setChart_18 : decode cX10_setChart 18 = .ok (.iload_n 3, 1) := by decide +kernel
theorem dX10_setChart_19 : decode cX10_setChart 19 = .ok (.iconst 0, 1) := by decide +kernel
theorem dX10_setChart_20 : decode cX10_setChart 20 = .ok (.sipush 500, 3) := by decide +kernel
theorem dX10_setChart_23 : decode cX10_setChart 23 = .ok (.invokestatic 47, 3) := by decide +kernel
theorem dX10_setChart_26 : decode cX10_setChart 26 = .ok (.ifCond .ne 13, 3) := by decide +kernel
theorem dX10_setChart_29 : decode cX10_setChart 29 = .ok (.new 51, 3) := by decide +kernel
theorem dX10_setChart_32 : decode cX10_setChart 32 = .ok (.dup, 1) := by decide +kernel
theorem dX10_setChart_33 : decode cX10_setChart 33 = .ok (.ldc 188, 2) := by decide +kernel
theorem dX10_setChart_35 : decode cX10_setChart 35 = .ok (.invokespecial 55, 3) := by decide +kernel
theorem dX10_setChart_38 : decode cX10_setChart 38 = .ok (.athrow, 1) := by decide +kernel
theorem dX10_setChart_39 : decode cX10_setChart 39 = .ok (.aload 4, 2) := by decide +kernel
theorem dX10_setChart_41 : decode cX10_setChart 41 = .ok (.getfield 190, 3) := by decide +kernel
theorem dX10_setChart_44 : decode cX10_setChart 44 = .ok (.iload_n 2, 1) := by decide +kernel
theorem dX10_setChart_45 : decode cX10_setChart 45 = .ok (.iload_n 3, 1) := by decide +kernel
theorem dX10_setChart_46 : decode cX10_setChart 46 = .ok (.invokevirtual 194, 3) := by decide +kernel
theorem dX10_setChart_49 : decode cX10_setChart 49 = .ok (.aload 4, 2) := by decide +kernel
theorem dX10_setChart_51 : decode cX10_setChart 51 = .ok (.getfield 190, 3) := by decide +kernel
theorem dX10_setChart_54 : decode cX10_setChart 54 = .ok (.getfield 200, 3) := by decide +kernel
theorem dX10_setChart_57 : decode cX10_setChart 57 = .ok (.ireturn, 1) := by decide +kernel
theorem dX10_stateOf_0 : decode cX10_stateOf 0 = .ok (.aload_n 0, 1) := by decide +kernel
theorem dX10_stateOf_1 : decode cX10_stateOf 1 = .ok (.iload_n 1, 1) := by decide +kernel
theorem dX10_stateOf_2 : decode cX10_stateOf 2 = .ok (.invokevirtual 238, 3) := by decide +kernel
theorem dX10_stateOf_5 : decode cX10_stateOf 5 = .ok (.getfield 243, 3) := by decide +kernel
theorem dX10_stateOf_8 : decode cX10_stateOf 8 = .ok (.ireturn, 1) := by decide +kernel
theorem dX10_touched_0 : decode cX10_touched 0 = .ok (.aload_n 0, 1) := by decide +kernel
theorem dX10_touched_1 : decode cX10_touched 1 = .ok (.iload_n 1, 1) := by decide +kernel
theorem dX10_touched_2 : decode cX10_touched 2 = .ok (.invokevirtual 173, 3) := by decide +kernel
theorem dX10_touched_5 : decode cX10_touched 5 = .ok (.getfield 345, 3) := by decide +kernel
theorem dX10_touched_8 : decode cX10_touched 8 = .ok (.invokevirtual 348, 3) := by decide +kernel
theorem dX10_touched_11 : decode cX10_touched 11 = .ok (.ireturn, 1) := by decide +kernel
theorem dX10_waiting_0 : decode cX10_waiting 0 = .ok (.aload_n 0, 1) := by decide +kernel
theorem dX10_waiting_1 : decode cX10_waiting 1 = .ok (.aload_n 0, 1) := by decide +kernel
theorem dX10_waiting_2 : decode cX10_waiting 2 = .ok (.iload_n 1, 1) := by decide +kernel
theorem dX10_waiting_3 : decode cX10_waiting 3 = .ok (.invokevirtual 110, 3) := by decide +kernel
theorem dX10_waiting_6 : decode cX10_waiting 6 = .ok (.invokevirtual 338, 3) := by decide +kernel
theorem dX10_waiting_9 : decode cX10_waiting 9 = .ok (.ireturn, 1) := by decide +kernel
theorem dX10_wear_0 : decode cX10_wear 0 = .ok (.aload_n 0, 1) := by decide +kernel
theorem dX10_wear_1 : decode cX10_wear 1 = .ok (.iload_n 1, 1) := by decide +kernel
theorem dX10_wear_2 : decode cX10_wear 2 = .ok (.invokevirtual 110, 3) := by decide +kernel
theorem dX10_wear_5 : decode cX10_wear 5 = .ok (.getfield 335, 3) := by decide +kernel
theorem dX10_wear_8 : decode cX10_wear 8 = .ok (.ireturn, 1) := by decide +kernel
theorem dX10_withdraw_0 : decode cX10_withdraw 0 = .ok (.aload_n 0, 1) := by decide +kernel
theorem dX10_withdraw_1 : decode cX10_withdraw 1 = .ok (.iload_n 1, 1) := by decide +kernel
theorem dX10_withdraw_2 : decode cX10_withdraw 2 = .ok (.invokevirtual 238, 3) := by decide +kernel
theorem dX10_withdraw_5 : decode cX10_withdraw 5 = .ok (.astore_n 2, 1) := by decide +kernel
theorem dX10_withdraw_6 : decode cX10_withdraw 6 = .ok (.aload_n 2, 1) := by decide +kernel
theorem dX10_withdraw_7 : decode cX10_withdraw 7 = .ok (.getfield 243, 3) := by decide +kernel
theorem dX10_withdraw_10 : decode cX10_withdraw 10 = .ok (.bipush 112, 2) := by decide +kernel
theorem dX10_withdraw_12 : decode cX10_withdraw 12 = .ok (.if_icmp .eq 13, 3) := by decide +kernel
theorem dX10_withdraw_15 : decode cX10_withdraw 15 = .ok (.new 88, 3) := by decide +kernel
theorem dX10_withdraw_18 : decode cX10_withdraw 18 = .ok (.dup, 1) := by decide +kernel
theorem dX10_withdraw_19 : decode cX10_withdraw 19 = .ok (.ldc 252, 2) := by decide +kernel
theorem dX10_withdraw_21 : decode cX10_withdraw 21 = .ok (.invokespecial 92, 3) := by decide +kernel
theorem dX10_withdraw_24 : decode cX10_withdraw 24 = .ok (.athrow, 1) := by decide +kernel
theorem dX10_withdraw_25 : decode cX10_withdraw 25 = .ok (.aload_n 0, 1) := by decide +kernel
theorem dX10_withdraw_26 : decode cX10_withdraw 26 = .ok (.aload_n 2, 1) := by decide +kernel
theorem dX10_withdraw_27 : decode cX10_withdraw 27 = .ok (.invokevirtual 254, 3) := by decide +kernel
theorem dX10_withdraw_30 : decode cX10_withdraw 30 = .ok (.ireturn, 1) := by decide +kernel
theorem dX12_init_0 : decode cX12_init 0 = .ok (.aload_n 0, 1) := by decide +kernel
theorem dX12_init_1 : decode cX12_init 1 = .ok (.invokespecial 1, 3) := by decide +kernel
theorem dX12_init_4 : decode cX12_init 4 = .ok (.aload_n 0, 1) := by decide +kernel
theorem dX12_init_5 : decode cX12_init 5 = .ok (.iconst (-1), 1) := by decide +kernel
theorem dX12_init_6 : decode cX12_init 6 = .ok (.putfield 7, 3) := by decide +kernel
theorem dX12_init_9 : decode cX12_init 9 = .ok (.aload_n 0, 1) := by decide +kernel
theorem dX12_init_10 : decode cX12_init 10 = .ok (.bipush 45, 2) := by decide +kernel
theorem dX12_init_12 : decode cX12_init 12 = .ok (.putfield 13, 3) := by decide +kernel
theorem dX12_init_15 : decode cX12_init 15 = .ok (.aload_n 0, 1) := by decide +kernel
theorem dX12_init_16 : decode cX12_init 16 = .ok (.iload_n 1, 1) := by decide +kernel
theorem dX12_init_17 : decode cX12_init 17 = .ok (.putfield 17, 3) := by decide +kernel
theorem dX12_init_20 : decode cX12_init 20 = .ok (.aload_n 0, 1) := by decide +kernel
theorem dX12_init_21 : decode cX12_init 21 = .ok (.iload_n 2, 1) := by decide +kernel
theorem dX12_init_22 : decode cX12_init 22 = .ok (.putfield 20, 3) := by decide +kernel
theorem dX12_init_25 : decode cX12_init 25 = .ok (.aload_n 0, 1) := by decide +kernel
theorem dX12_init_26 : decode cX12_init 26 = .ok (.iload_n 3, 1) := by decide +kernel
theorem dX12_init_27 : decode cX12_init 27 = .ok (.putfield 23, 3) := by decide +kernel
theorem dX12_init_30 : decode cX12_init 30 = .ok (.aload_n 0, 1) := by decide +kernel
theorem dX12_init_31 : decode cX12_init 31 = .ok (.iload 4, 2) := by decide +kernel
theorem dX12_init_33 : decode cX12_init 33 = .ok (.putfield 26, 3) := by decide +kernel
theorem dX12_init_36 : decode cX12_init 36 = .ok (.return_, 1) := by decide +kernel
theorem dX14_init_0 : decode cX14_init 0 = .ok (.aload_n 0, 1) := by decide +kernel
theorem dX14_init_1 : decode cX14_init 1 = .ok (.invokespecial 1, 3) := by decide +kernel
theorem dX14_init_4 : decode cX14_init 4 = .ok (.aload_n 0, 1) := by decide +kernel
theorem dX14_init_5 : decode cX14_init 5 = .ok (.new 7, 3) := by decide +kernel
theorem dX14_init_8 : decode cX14_init 8 = .ok (.dup, 1) := by decide +kernel
theorem dX14_init_9 : decode cX14_init 9 = .ok (.invokespecial 9, 3) := by decide +kernel
theorem dX14_init_12 : decode cX14_init 12 = .ok (.putfield 10, 3) := by decide +kernel
theorem dX14_init_15 : decode cX14_init 15 = .ok (.aload_n 0, 1) := by decide +kernel
theorem dX14_init_16 : decode cX14_init 16 = .ok (.new 7, 3) := by decide +kernel
theorem dX14_init_19 : decode cX14_init 19 = .ok (.dup, 1) := by decide +kernel
theorem dX14_init_20 : decode cX14_init 20 = .ok (.invokespecial 9, 3) := by decide +kernel
theorem dX14_init_23 : decode cX14_init 23 = .ok (.putfield 16, 3) := by decide +kernel
theorem dX14_init_26 : decode cX14_init 26 = .ok (.aload_n 0, 1) := by decide +kernel
theorem dX14_init_27 : decode cX14_init 27 = .ok (.bipush 100, 2) := by decide +kernel
theorem dX14_init_29 : decode cX14_init 29 = .ok (.putfield 19, 3) := by decide +kernel
theorem dX14_init_32 : decode cX14_init 32 = .ok (.aload_n 0, 1) := by decide +kernel
theorem dX14_init_33 : decode cX14_init 33 = .ok (.bipush 10, 2) := by decide +kernel
theorem dX14_init_35 : decode cX14_init 35 = .ok (.putfield 23, 3) := by decide +kernel
theorem dX14_init_38 : decode cX14_init 38 = .ok (.aload_n 0, 1) := by decide +kernel
theorem dX14_init_39 : decode cX14_init 39 = .ok (.iload_n 1, 1) := by decide +kernel
theorem dX14_init_40 : decode cX14_init 40 = .ok (.putfield 26, 3) := by decide +kernel
theorem dX14_init_43 : decode cX14_init 43 = .ok (.aload_n 0, 1) := by decide +kernel
theorem dX14_init_44 : decode cX14_init 44 = .ok (.iload_n 2, 1) := by decide +kernel
theorem dX14_init_45 : decode cX14_init 45 = .ok (.putfield 30, 3) := by decide +kernel
theorem dX14_init_48 : decode cX14_init 48 = .ok (.return_, 1) := by decide +kernel
theorem dX15_addComponent_0 : decode cX15_addComponent 0 = .ok (.aload_n 0, 1) := by decide +kernel
theorem dX15_addComponent_1 : decode cX15_addComponent 1 = .ok (.aload_n 0, 1) := by decide +kernel
theorem dX15_addComponent_2 : decode cX15_addComponent 2 = .ok (.iload_n 1, 1) := by decide +kernel
theorem dX15_addComponent_3 : decode cX15_addComponent 3 = .ok (.invokevirtual 62, 3) := by decide +kernel
theorem dX15_addComponent_6 : decode cX15_addComponent 6 = .ok (.ifCond .eq 15, 3) := by decide +kernel
theorem dX15_addComponent_9 : decode cX15_addComponent 9 = .ok (.aload_n 0, 1) := by decide +kernel
theorem dX15_addComponent_10 : decode cX15_addComponent 10 = .ok (.iload_n 2, 1) := by decide +kernel
theorem dX15_addComponent_11 : decode cX15_addComponent 11 = .ok (.invokevirtual 62, 3) := by decide +kernel
theorem dX15_addComponent_14 : decode cX15_addComponent 14 = .ok (.ifCond .eq 7, 3) := by decide +kernel
theorem dX15_addComponent_17 : decode cX15_addComponent 17 = .ok (.iconst 0, 1) := by decide +kernel
theorem dX15_addComponent_18 : decode cX15_addComponent 18 = .ok (.goto 4, 3) := by decide +kernel
theorem dX15_addComponent_21 : decode cX15_addComponent 21 = .ok (.iconst 1, 1) := by decide +kernel
theorem dX15_addComponent_22 : decode cX15_addComponent 22 = .ok (.invokevirtual 48, 3) := by decide +kernel
theorem dX15_addComponent_25 : decode cX15_addComponent 25 = .ok (.ifCond .eq 5, 3) := by decide +kernel
theorem dX15_addComponent_28 : decode cX15_addComponent 28 = .ok (.iconst 0, 1) := by decide +kernel
theorem dX15_addComponent_29 : decode cX15_addComponent 29 = .ok (.ireturn, 1) := by decide +kernel
theorem dX15_addComponent_30 : decode cX15_addComponent 30 = .ok (.aload_n 0, 1) := by decide +kernel
theorem dX15_addComponent_31 : decode cX15_addComponent 31 = .ok (.getfield 16, 3) := by decide +kernel
theorem dX15_addComponent_34 : decode cX15_addComponent 34 = .ok (.iload_n 1, 1) := by decide +kernel
theorem dX15_addComponent_35 : decode cX15_addComponent 35 = .ok (.invokevirtual 65, 3) := by decide +kernel
theorem dX15_addComponent_38 : decode cX15_addComponent 38 = .ok (.checkcast 57, 3) := by decide +kernel
theorem dX15_addComponent_41 : decode cX15_addComponent 41 = .ok (.astore 5, 2) := by decide +kernel
theorem dX15_addComponent_43 : decode cX15_addComponent 43 = .ok (.aload_n 0, 1) := by decide +kernel
theorem dX15_addComponent_44 : decode cX15_addComponent 44 = .ok (.aload 5, 2) := by decide +kernel
theorem dX15_addComponent_46 : decode cX15_addComponent 46 = .ok (.getfield 69, 3) := by decide +kernel
theorem dX15_addComponent_49 : decode cX15_addComponent 49 = .ok (.ifCond .eq 8, 3) := by decide +kernel
theorem dX15_addComponent_52 : decode cX15_addComponent 52 = .ok (.iload_n 2, 1) := by decide +kernel
theorem dX15_addComponent_53 : decode cX15_addComponent 53 = .ok (.iload_n 1, 1) := by decide +kernel
theorem dX15_addComponent_54 : decode cX15_addComponent 54 = .ok (.if_icmp .lt 7, 3) := by decide +kernel
theorem dX15_addComponent_57 : decode cX15_addComponent 57 = .ok (.iconst 2, 1) := by decide +kernel
theorem dX15_addComponent_58 : decode cX15_addComponent 58 = .ok (.goto 44, 3) := by decide +kernel
theorem dX15_addComponent_61 : decode cX15_addComponent 61 = .ok (.iload_n 3, 1) := by decide +kernel
theorem dX15_addComponent_62 : decode cX15_addComponent 62 = .ok (.iconst 1, 1) := by decide +kernel
theorem dX15_addComponent_63 : decode cX15_addComponent 63 = .ok (.bipush 9, 2) := by decide +kernel
theorem dX15_addComponent_65 : decode cX15_addComponent 65 = .ok (.invokestatic 40, 3) := by decide +kernel
theorem dX15_addComponent_68 : decode cX15_addComponent 68 = .ok (.ifCond .eq 13, 3) := by decide +kernel
theorem dX15_addComponent_71 : decode cX15_addComponent 71 = .ok (.iload 4, 2) := by decide +kernel
theorem dX15_addComponent_73 : decode cX15_addComponent 73 = .ok (.iconst (-1), 1) := by decide +kernel
theorem dX15_addComponent_74 : decode cX15_addComponent 74 = .ok (.iconst 2, 1) := by decide +kernel
theorem dX15_addComponent_75 : decode cX15_addComponent 75 = .ok (.invokestatic 40, 3) := by decide +kernel
theorem dX15_addComponent_78 : decode cX15_addComponent 78 = .ok (.ifCond .ne 7, 3) := by decide +kernel
theorem dX15_addComponent_81 : decode cX15_addComponent 81 = .ok (.iconst 3, 1) := by decide +kernel
theorem dX15_addComponent_82 : decode cX15_addComponent 82 = .ok (.goto 20, 3) := by decide +kernel
theorem dX15_addComponent_85 : decode cX15_addComponent 85 = .ok (.aload 5, 2) := by decide +kernel
theorem dX15_addComponent_87 : decode cX15_addComponent 87 = .ok (.getfield 73, 3) := by decide +kernel
theorem dX15_addComponent_90 : decode cX15_addComponent 90 = .ok (.invokevirtual 44, 3) := by decide +kernel
theorem dX15_addComponent_93 : decode cX15_addComponent 93 = .ok (.iconst 4, 1) := by decide +kernel
theorem dX15_addComponent_94 : decode cX15_addComponent 94 = .ok (.if_icmp .ne 7, 3) := by decide +kernel
theorem dX15_addComponent_97 : decode cX15_addComponent 97 = .ok (.iconst 4, 1) := by decide +kernel
theorem dX15_addComponent_98 : decode cX15_addComponent 98 = .ok (.goto 4, 3) := by decide +kernel
theorem dX15_addComponent_101 : decode cX15_addComponent 101 = .ok (.iconst 0, 1) := by decide +kernel
theorem dX15_addComponent_102 : decode cX15_addComponent 102 = .ok (.invokevirtual 48, 3) := by decide +kernel
theorem dX15_addComponent_105 : decode cX15_addComponent 105 = .ok (.ifCond .eq 5, 3) := by decide +kernel
theorem dX15_addComponent_108 : decode cX15_addComponent 108 = .ok (.iconst 0, 1) := by decide +kernel
theorem dX15_addComponent_109 : decode cX15_addComponent 109 = .ok (.ireturn, 1) := by decide +kernel
theorem dX15_addComponent_110 : decode cX15_addComponent 110 = .ok (.aload 5, 2) := by decide +kernel
theorem dX15_addComponent_112 : decode cX15_addComponent 112 = .ok (.getfield 73, 3) := by decide +kernel
theorem dX15_addComponent_115 : decode cX15_addComponent 115 = .ok (.iconst 3, 1) := by decide +kernel
theorem dX15_addComponent_116 : decode cX15_addComponent 116 = .ok (.newarray .int, 2) := by decide +kernel
theorem dX15_addComponent_118 : decode cX15_addComponent 118 = .ok (.dup, 1) := by decide +kernel
theorem dX15_addComponent_119 : decode cX15_addComponent 119 = .ok (.iconst 0, 1) := by decide +kernel
theorem dX15_addComponent_120 : decode cX15_addComponent 120 = .ok (.iload_n 2, 1) := by decide +kernel
theorem dX15_addComponent_121 : decode cX15_addComponent 121 = .ok (.iastore, 1) := by decide +kernel
theorem dX15_addComponent_122 : decode cX15_addComponent 122 = .ok (.dup, 1) := by decide +kernel
theorem dX15_addComponent_123 : decode cX15_addComponent 123 = .ok (.iconst 1, 1) := by decide +kernel
theorem dX15_addComponent_124 : decode cX15_addComponent 124 = .ok (.iload_n 3, 1) := by decide +kernel
theorem dX15_addComponent_125 : decode cX15_addComponent 125 = .ok (.iastore, 1) := by decide +kernel
theorem dX15_addComponent_126 : decode cX15_addComponent 126 = .ok (.dup, 1) := by decide +kernel
theorem dX15_addComponent_127 : decode cX15_addComponent 127 = .ok (.iconst 2, 1) := by decide +kernel
theorem dX15_addComponent_128 : decode cX15_addComponent 128 = .ok (.iload 4, 2) := by decide +kernel
theorem dX15_addComponent_130 : decode cX15_addComponent 130 = .ok (.iastore, 1) := by decide +kernel
theorem dX15_addComponent_131 : decode cX15_addComponent 131 = .ok (.invokevirtual 32, 3) := by decide +kernel
theorem dX15_addComponent_134 : decode cX15_addComponent 134 = .ok (.istore 6, 2) := by decide +kernel
theorem dX15_addComponent_136 : decode cX15_addComponent 136 = .ok (.aload 5, 2) := by decide +kernel
theorem dX15_addComponent_138 : decode cX15_addComponent 138 = .ok (.getfield 73, 3) := by decide +kernel
theorem dX15_addComponent_141 : decode cX15_addComponent 141 = .ok (.invokevirtual 44, 3) := by decide +kernel
theorem dX15_addComponent_144 : decode cX15_addComponent 144 = .ok (.ireturn, 1) := by decide +kernel
theorem dX15_addMachine_0 : decode cX15_addMachine 0 = .ok (.iload_n 1, 1) := by decide +kernel
theorem dX15_addMachine_1 : decode cX15_addMachine 1 = .ok (.iconst 0, 1) := by decide +kernel
theorem dX15_addMachine_2 : decode cX15_addMachine 2 = .ok (.bipush 20, 2) := by decide +kernel
theorem dX15_addMachine_4 : decode cX15_addMachine 4 = .ok (.invokestatic 40, 3) := by decide +kernel
theorem dX15_addMachine_7 : decode cX15_addMachine 7 = .ok (.ifCond .eq 39, 3) := by decide +kernel
theorem dX15_addMachine_10 : decode cX15_addMachine 10 = .ok (.iload_n 2, 1) := by decide +kernel
theorem dX15_addMachine_11 : decode cX15_addMachine 11 = .ok (.iconst 0, 1) := by decide +kernel
theorem dX15_addMachine_12 : decode cX15_addMachine 12 = .ok (.bipush 50, 2) := by decide +kernel
theorem dX15_addMachine_14 : decode cX15_addMachine 14 = .ok (.invokestatic 40, 3) := by decide +kernel
theorem dX15_addMachine_17 : decode cX15_addMachine 17 = .ok (.ifCond .eq 29, 3) := by decide +kernel
theorem dX15_addMachine_20 : decode cX15_addMachine 20 = .ok (.iload_n 3, 1) := by decide +kernel
theorem dX15_addMachine_21 : decode cX15_addMachine 21 = .ok (.iconst 5, 1) := by decide +kernel
theorem dX15_addMachine_22 : decode cX15_addMachine 22 = .ok (.sipush 500, 3) := by decide +kernel
theorem dX15_addMachine_25 : decode cX15_addMachine 25 = .ok (.invokestatic 40, 3) := by decide +kernel
theorem dX15_addMachine_28 : decode cX15_addMachine 28 = .ok (.ifCond .eq 18, 3) := by decide +kernel
theorem dX15_addMachine_31 : decode cX15_addMachine 31 = .ok (.iload 4, 2) := by decide +kernel
theorem dX15_addMachine_33 : decode cX15_addMachine 33 = .ok (.iconst 1, 1) := by decide +kernel
theorem dX15_addMachine_34 : decode cX15_addMachine 34 = .ok (.bipush 99, 2) := by decide +kernel
theorem dX15_addMachine_36 : decode cX15_addMachine 36 = .ok (.invokestatic 40, 3) := by decide +kernel
theorem dX15_addMachine_39 : decode cX15_addMachine 39 = .ok (.ifCond .eq 7, 3) := by decide +kernel
theorem dX15_addMachine_42 : decode cX15_addMachine 42 = .ok (.iconst 1, 1) := by decide +kernel
theorem dX15_addMachine_43 : decode cX15_addMachine 43 = .ok (.goto 4, 3) := by decide +kernel
theorem dX15_addMachine_46 : decode cX15_addMachine 46 = .ok (.iconst 0, 1) := by decide +kernel
theorem dX15_addMachine_47 : decode cX15_addMachine 47 = .ok (.istore 5, 2) := by decide +kernel
theorem dX15_addMachine_49 : decode cX15_addMachine 49 = .ok (.aload_n 0, 1) := by decide +kernel
theorem dX15_addMachine_50 : decode cX15_addMachine 50 = .ok (.iload 5, 2) := by decide +kernel
theorem dX15_addMachine_52 : decode cX15_addMachine 52 = .ok (.ifCond .ne 7, 3) := by decide +kernel
theorem dX15_addMachine_55 : decode cX15_addMachine 55 = .ok (.iconst 1, 1) := by decide +kernel
theorem dX15_addMachine_56 : decode cX15_addMachine 56 = .ok (.goto 19, 3) := by decide +kernel
theorem dX15_addMachine_59 : decode cX15_addMachine 59 = .ok (.aload_n 0, 1) := by decide +kernel
theorem dX15_addMachine_60 : decode cX15_addMachine 60 = .ok (.getfield 10, 3) := by decide +kernel
theorem dX15_addMachine_63 : decode cX15_addMachine 63 = .ok (.invokevirtual 44, 3) := by decide +kernel
theorem dX15_addMachine_66 : decode cX15_addMachine 66 = .ok (.iconst 5, 1) := by decide +kernel
theorem dX15_addMachine_67 : decode cX15_addMachine 67 = .ok (.if_icmp .ne 7, 3) := by decide +kernel
theorem dX15_addMachine_70 : decode cX15_addMachine 70 = .ok (.iconst 2, 1) := by decide +kernel
theorem dX15_addMachine_71 : decode cX15_addMachine 71 = .ok (.goto 4, 3) := by decide +kernel
theorem dX15_addMachine_74 : decode cX15_addMachine 74 = .ok (.iconst 0, 1) := by decide +kernel
theorem dX15_addMachine_75 : decode cX15_addMachine 75 = .ok (.invokevirtual 48, 3) := by decide +kernel
theorem dX15_addMachine_78 : decode cX15_addMachine 78 = .ok (.ifCond .eq 5, 3) := by decide +kernel
theorem dX15_addMachine_81 : decode cX15_addMachine 81 = .ok (.iconst 0, 1) := by decide +kernel
theorem dX15_addMachine_82 : decode cX15_addMachine 82 = .ok (.ireturn, 1) := by decide +kernel
theorem dX15_addMachine_83 : decode cX15_addMachine 83 = .ok (.aload_n 0, 1) := by decide +kernel
theorem dX15_addMachine_84 : decode cX15_addMachine 84 = .ok (.getfield 10, 3) := by decide +kernel
theorem dX15_addMachine_87 : decode cX15_addMachine 87 = .ok (.new 52, 3) := by decide +kernel
theorem dX15_addMachine_90 : decode cX15_addMachine 90 = .ok (.dup, 1) := by decide +kernel
theorem dX15_addMachine_91 : decode cX15_addMachine 91 = .ok (.iload_n 1, 1) := by decide +kernel
theorem dX15_addMachine_92 : decode cX15_addMachine 92 = .ok (.iload_n 2, 1) := by decide +kernel
theorem dX15_addMachine_93 : decode cX15_addMachine 93 = .ok (.iload_n 3, 1) := by decide +kernel
theorem dX15_addMachine_94 : decode cX15_addMachine 94 = .ok (.iload 4, 2) := by decide +kernel
theorem dX15_addMachine_96 : decode cX15_addMachine 96 = .ok (.invokespecial 54, 3) := by decide +kernel
theorem dX15_addMachine_99 : decode cX15_addMachine 99 = .ok (.invokevirtual 32, 3) := by decide +kernel
theorem dX15_addMachine_102 : decode cX15_addMachine 102 = .ok (.istore 6, 2) := by decide +kernel
theorem dX15_addMachine_104 : decode cX15_addMachine 104 = .ok (.aload_n 0, 1) := by decide +kernel
theorem dX15_addMachine_105 : decode cX15_addMachine 105 = .ok (.getfield 10, 3) := by decide +kernel
theorem dX15_addMachine_108 : decode cX15_addMachine 108 = .ok (.invokevirtual 44, 3) := by decide +kernel
theorem dX15_addMachine_111 : decode cX15_addMachine 111 = .ok (.iconst 1, 1) := by decide +kernel
theorem dX15_addMachine_112 : decode cX15_addMachine 112 = .ok (.isub, 1) := by decide +kernel
theorem dX15_addMachine_113 : decode cX15_addMachine 113 = .ok (.ireturn, 1) := by decide +kernel
theorem dX15_addOperation_0 : decode cX15_addOperation 0 = .ok (.aload_n 0, 1) := by decide +kernel
theorem dX15_addOperation_1 : decode cX15_addOperation 1 = .ok (.aload_n 0, 1) := by decide +kernel
theorem dX15_addOperation_2 : decode cX15_addOperation 2 = .ok (.iload_n 1, 1) := by decide +kernel
theorem dX15_addOperation_3 : decode cX15_addOperation 3 = .ok (.invokevirtual 62, 3) := by decide +kernel
theorem dX15_addOperation_6 : decode cX15_addOperation 6 = .ok (.ifCond .eq 28, 3) := by decide +kernel
theorem dX15_addOperation_9 : decode cX15_addOperation 9 = .ok (.aload_n 0, 1) := by decide +kernel
theorem dX15_addOperation_10 : decode cX15_addOperation 10 = .ok (.iload_n 2, 1) := by decide +kernel
theorem dX15_addOperation_11 : decode cX15_addOperation 11 = .ok (.invokevirtual 76, 3) := by decide +kernel
theorem dX15_addOperation_14 : decode cX15_addOperation 14 = .ok (.ifCond .eq 20, 3) := by decide +kernel
theorem dX15_addOperation_17 : decode cX15_addOperation 17 = .ok (.iload_n 3, 1) := by decide +kernel
theorem dX15_addOperation_18 : decode cX15_addOperation 18 = .ok (.iconst (-1), 1) := by decide +kernel
theorem dX15_addOperation_19 : decode cX15_addOperation 19 = .ok (.if_icmp .eq 11, 3) := by decide +kernel
theorem dX15_addOperation_22 : decode cX15_addOperation 22 = .ok (.aload_n 0, 1) := by decide +kernel
theorem dX15_addOperation_23 : decode cX15_addOperation 23 = .ok (.iload_n 3, 1) := by decide +kernel
theorem dX15_addOperation_24 : decode cX15_addOperation 24 = .ok (.invokevirtual 76, 3) := by decide +kernel
theorem dX15_addOperation_27 : decode cX15_addOperation 27 = .ok (.ifCond .eq 7, 3) := by decide +kernel
theorem dX15_addOperation_30 : decode cX15_addOperation 30 = .ok (.iconst 0, 1) := by decide +kernel
theorem dX15_addOperation_31 : decode cX15_addOperation 31 = .ok (.goto 4, 3) := by decide +kernel
theorem dX15_addOperation_34 : decode cX15_addOperation 34 = .ok (.iconst 1, 1) := by decide +kernel
theorem dX15_addOperation_35 : decode cX15_addOperation 35 = .ok (.invokevirtual 48, 3) := by decide +kernel
theorem dX15_addOperation_38 : decode cX15_addOperation 38 = .ok (.ifCond .eq 5, 3) := by decide +kernel
theorem dX15_addOperation_41 : decode cX15_addOperation 41 = .ok (.iconst 0, 1) := by decide +kernel
theorem dX15_addOperation_42 : decode cX15_addOperation 42 = .ok (.ireturn, 1) := by decide +kernel
theorem dX15_addOperation_43 : decode cX15_addOperation 43 = .ok (.aload_n 0, 1) := by decide +kernel
theorem dX15_addOperation_44 : decode cX15_addOperation 44 = .ok (.getfield 16, 3) := by decide +kernel
theorem dX15_addOperation_47 : decode cX15_addOperation 47 = .ok (.iload_n 1, 1) := by decide +kernel
theorem dX15_addOperation_48 : decode cX15_addOperation 48 = .ok (.invokevirtual 65, 3) := by decide +kernel
theorem dX15_addOperation_51 : decode cX15_addOperation 51 = .ok (.checkcast 57, 3) := by decide +kernel
theorem dX15_addOperation_54 : decode cX15_addOperation 54 = .ok (.astore 5, 2) := by decide +kernel
theorem dX15_addOperation_56 : decode cX15_addOperation 56 = .ok (.aload_n 0, 1) := by decide +kernel
theorem dX15_addOperation_57 : decode cX15_addOperation 57 = .ok (.aload 5, 2) := by decide +kernel
theorem dX15_addOperation_59 : decode cX15_addOperation 59 = .ok (.getfield 69, 3) := by decide +kernel
theorem dX15_addOperation_62 : decode cX15_addOperation 62 = .ok (.ifCond .ne 7, 3) := by decide +kernel
theorem dX15_addOperation_65 : decode cX15_addOperation 65 = .ok (.iconst 2, 1) := by decide +kernel
theorem dX15_addOperation_66 : decode cX15_addOperation 66 = .ok (.goto 35, 3) := by decide +kernel
theorem dX15_addOperation_69 : decode cX15_addOperation 69 = .ok (.iload 4, 2) := by decide +kernel
theorem dX15_addOperation_71 : decode cX15_addOperation 71 = .ok (.iconst 1, 1) := by decide +kernel
theorem dX15_addOperation_72 : decode cX15_addOperation 72 = .ok (.bipush 20, 2) := by decide +kernel
theorem dX15_addOperation_74 : decode cX15_addOperation 74 = .ok (.invokestatic 40, 3) := by decide +kernel
theorem dX15_addOperation_77 : decode cX15_addOperation 77 = .ok (.ifCond .ne 7, 3) := by decide +kernel
theorem dX15_addOperation_80 : decode cX15_addOperation 80 = .ok (.iconst 3, 1) := by decide +kernel
theorem dX15_addOperation_81 : decode cX15_addOperation 81 = .ok (.goto 20, 3) := by decide +kernel
theorem dX15_addOperation_84 : decode cX15_addOperation 84 = .ok (.aload 5, 2) := by decide +kernel
theorem dX15_addOperation_86 : decode cX15_addOperation 86 = .ok (.getfield 79, 3) := by decide +kernel
theorem dX15_addOperation_89 : decode cX15_addOperation 89 = .ok (.invokevirtual 44, 3) := by decide +kernel
theorem dX15_addOperation_92 : decode cX15_addOperation 92 = .ok (.iconst 3, 1) := by decide +kernel
theorem dX15_addOperation_93 : decode cX15_addOperation 93 = .ok (.if_icmp .ne 7, 3) := by decide +kernel
theorem dX15_addOperation_96 : decode cX15_addOperation 96 = .ok (.iconst 4, 1) := by decide +kernel
theorem dX15_addOperation_97 : decode cX15_addOperation 97 = .ok (.goto 4, 3) := by decide +kernel
theorem dX15_addOperation_100 : decode cX15_addOperation 100 = .ok (.iconst 0, 1) := by decide +kernel
theorem dX15_addOperation_101 : decode cX15_addOperation 101 = .ok (.invokevirtual 48, 3) := by decide +kernel
theorem dX15_addOperation_104 : decode cX15_addOperation 104 = .ok (.ifCond .eq 5, 3) := by decide +kernel
theorem dX15_addOperation_107 : decode cX15_addOperation 107 = .ok (.iconst 0, 1) := by decide +kernel
theorem dX15_addOperation_108 : decode cX15_addOperation 108 = .ok (.ireturn, 1) := by decide +kernel
theorem dX15_addOperation_109 : decode cX15_addOperation 109 = .ok (.aload 5, 2) := by decide +kernel
theorem dX15_addOperation_111 : decode cX15_addOperation 111 = .ok (.getfield 79, 3) := by decide +kernel
theorem dX15_addOperation_114 : decode cX15_addOperation 114 = .ok (.iconst 3, 1) := by decide +kernel
theorem dX15_addOperation_115 : decode cX15_addOperation 115 = .ok (.newarray .int, 2) := by decide +kernel
theorem dX15_addOperation_117 : decode cX15_addOperation 117 = .ok (.dup, 1) := by decide +kernel
theorem dX15_addOperation_118 : decode cX15_addOperation 118 = .ok (.iconst 0, 1) := by decide +kernel
theorem dX15_addOperation_119 : decode cX15_addOperation 119 = .ok (.iload_n 2, 1) := by decide +kernel
theorem dX15_addOperation_120 : decode cX15_addOperation 120 = .ok (.iastore, 1) := by decide +kernel
theorem dX15_addOperation_121 : decode cX15_addOperation 121 = .ok (.dup, 1) := by decide +kernel
theorem dX15_addOperation_122 : decode cX15_addOperation 122 = .ok (.iconst 1, 1) := by decide +kernel
theorem dX15_addOperation_123 : decode cX15_addOperation 123 = .ok (.iload_n 3, 1) := by decide +kernel
theorem dX15_addOperation_124 : decode cX15_addOperation 124 = .ok (.iastore, 1) := by decide +kernel
theorem dX15_addOperation_125 : decode cX15_addOperation 125 = .ok (.dup, 1) := by decide +kernel
theorem dX15_addOperation_126 : decode cX15_addOperation 126 = .ok (.iconst 2, 1) := by decide +kernel
theorem dX15_addOperation_127 : decode cX15_addOperation 127 = .ok (.iload 4, 2) := by decide +kernel
theorem dX15_addOperation_129 : decode cX15_addOperation 129 = .ok (.iastore, 1) := by decide +kernel
theorem dX15_addOperation_130 : decode cX15_addOperation 130 = .ok (.invokevirtual 32, 3) := by decide +kernel
theorem dX15_addOperation_133 : decode cX15_addOperation 133 = .ok (.istore 6, 2) := by decide +kernel
theorem dX15_addOperation_135 : decode cX15_addOperation 135 = .ok (.aload 5, 2) := by decide +kernel
theorem dX15_addOperation_137 : decode cX15_addOperation 137 = .ok (.getfield 79, 3) := by decide +kernel
theorem dX15_addOperation_140 : decode cX15_addOperation 140 = .ok (.invokevirtual 44, 3) := by decide +kernel
theorem dX15_addOperation_143 : decode cX15_addOperation 143 = .ok (.ireturn, 1) := by decide +kernel
theorem dX15_addPart_0 : decode cX15_addPart 0 = .ok (.aload_n 0, 1) := by decide +kernel
theorem dX15_addPart_1 : decode cX15_addPart 1 = .ok (.iload_n 2, 1) := by decide +kernel
theorem dX15_addPart_2 : decode cX15_addPart 2 = .ok (.iconst 0, 1) := by decide +kernel
theorem dX15_addPart_3 : decode cX15_addPart 3 = .ok (.iconst 3, 1) := by decide +kernel
theorem dX15_addPart_4 : decode cX15_addPart 4 = .ok (.invokestatic 40, 3) := by decide +kernel
theorem dX15_addPart_7 : decode cX15_addPart 7 = .ok (.ifCond .ne 7, 3) := by decide +kernel
theorem dX15_addPart_10 : decode cX15_addPart 10 = .ok (.iconst 1, 1) := by decide +kernel
theorem dX15_addPart_11 : decode cX15_addPart 11 = .ok (.goto 20, 3) := by decide +kernel
theorem dX15_addPart_14 : decode cX15_addPart 14 = .ok (.aload_n 0, 1) := by decide +kernel
theorem dX15_addPart_15 : decode cX15_addPart 15 = .ok (.getfield 16, 3) := by decide +kernel
theorem dX15_addPart_18 : decode cX15_addPart 18 = .ok (.invokevirtual 44, 3) := by decide +kernel
theorem dX15_addPart_21 : decode cX15_addPart 21 = .ok (.bipush 12, 2) := by decide +kernel
theorem dX15_addPart_23 : decode cX15_addPart 23 = .ok (.if_icmp .ne 7, 3) := by decide +kernel
theorem dX15_addPart_26 : decode cX15_addPart 26 = .ok (.iconst 2, 1) := by decide +kernel
theorem dX15_addPart_27 : decode cX15_addPart 27 = .ok (.goto 4, 3) := by decide +kernel
theorem dX15_addPart_30 : decode cX15_addPart 30 = .ok (.iconst 0, 1) := by decide +kernel
theorem dX15_addPart_31 : decode cX15_addPart 31 = .ok (.invokevirtual 48, 3) := by decide +kernel
theorem dX15_addPart_34 : decode cX15_addPart 34 = .ok (.ifCond .eq 5, 3) := by decide +kernel
theorem dX15_addPart_37 : decode cX15_addPart 37 = .ok (.iconst 0, 1) := by decide +kernel
theorem dX15_addPart_38 : decode cX15_addPart 38 = .ok (.ireturn, 1) := by decide +kernel
theorem dX15_addPart_39 : decode cX15_addPart 39 = .ok (.aload_n 0, 1) := by decide +kernel
theorem dX15_addPart_40 : decode cX15_addPart 40 = .ok (.getfield 16, 3) := by decide +kernel
theorem dX15_addPart_43 : decode cX15_addPart 43 = .ok (.new 57, 3) := by decide +kernel
theorem dX15_addPart_46 : decode cX15_addPart 46 = .ok (.dup, 1) := by decide +kernel
theorem dX15_addPart_47 : decode cX15_addPart 47 = .ok (.iload_n 1, 1) := by decide +kernel
theorem dX15_addPart_48 : decode cX15_addPart 48 = .ok (.iload_n 2, 1) := by decide +kernel
theorem dX15_addPart_49 : decode cX15_addPart 49 = .ok (.invokespecial 59, 3) := by decide +kernel
theorem dX15_addPart_52 : decode cX15_addPart 52 = .ok (.invokevirtual 32, 3) := by decide +kernel
theorem dX15_addPart_55 : decode cX15_addPart 55 = .ok (.istore_n 3, 1) := by decide +kernel
theorem dX15_addPart_56 : decode cX15_addPart 56 = .ok (.aload_n 0, 1) := by decide +kernel
theorem dX15_addPart_57 : decode cX15_addPart 57 = .ok (.getfield 16, 3) := by decide +kernel
theorem dX15_addPart_60 : decode cX15_addPart 60 = .ok (.invokevirtual 44, 3) := by decide +kernel
theorem dX15_addPart_63 : decode cX15_addPart 63 = .ok (.iconst 1, 1) := by decide +kernel
theorem dX15_addPart_64 : decode cX15_addPart 64 = .ok (.isub, 1) := by decide +kernel
theorem dX15_addPart_65 : decode cX15_addPart 65 = .ok (.ireturn, 1) := by decide +kernel
theorem dX15_advance_0 : decode cX15_advance 0 = .ok (.aload_n 0, 1) := by decide +kernel
theorem dX15_advance_1 : decode cX15_advance 1 = .ok (.iload_n 1, 1) := by decide +kernel
theorem dX15_advance_2 : decode cX15_advance 2 = .ok (.iconst 1, 1) := by decide +kernel
theorem dX15_advance_3 : decode cX15_advance 3 = .ok (.sipush 500, 3) := by decide +kernel
theorem dX15_advance_6 : decode cX15_advance 6 = .ok (.invokestatic 40, 3) := by decide +kernel
theorem dX15_advance_9 : decode cX15_advance 9 = .ok (.ifCond .ne 7, 3) := by decide +kernel
theorem dX15_advance_12 : decode cX15_advance 12 = .ok (.iconst 1, 1) := by decide +kernel
theorem dX15_advance_13 : decode cX15_advance 13 = .ok (.goto 20, 3) := by decide +kernel
theorem dX15_advance_16 : decode cX15_advance 16 = .ok (.aload_n 0, 1) := by decide +kernel
theorem dX15_advance_17 : decode cX15_advance 17 = .ok (.getfield 252, 3) := by decide +kernel
theorem dX15_advance_20 : decode cX15_advance 20 = .ok (.iload_n 1, 1) := by decide +kernel
theorem dX15_advance_21 : decode cX15_advance 21 = .ok (.iadd, 1) := by decide +kernel
theorem dX15_advance_22 : decode cX15_advance 22 = .ok (.sipush 5000, 3) := by decide +kernel
theorem dX15_advance_25 : decode cX15_advance 25 = .ok (.if_icmp .le 7, 3) := by decide +kernel
theorem dX15_advance_28 : decode cX15_advance 28 = .ok (.iconst 2, 1) := by decide +kernel
theorem dX15_advance_29 : decode cX15_advance 29 = .ok (.goto 4, 3) := by decide +kernel
theorem dX15_advance_32 : decode cX15_advance 32 = .ok (.iconst 0, 1) := by decide +kernel
theorem dX15_advance_33 : decode cX15_advance 33 = .ok (.invokevirtual 48, 3) := by decide +kernel
theorem dX15_advance_36 : decode cX15_advance 36 = .ok (.ifCond .eq 5, 3) := by decide +kernel
theorem dX15_advance_39 : decode cX15_advance 39 = .ok (.iconst 0, 1) := by decide +kernel
theorem dX15_advance_40 : decode cX15_advance 40 = .ok (.ireturn, 1) := by decide +kernel
theorem dX15_advance_41 : decode cX15_advance 41 = .ok (.iconst 0, 1) := by decide +kernel
theorem dX15_advance_42 : decode cX15_advance 42 = .ok (.istore_n 2, 1) := by decide +kernel
theorem dX15_advance_43 : decode cX15_advance 43 = .ok (.iload_n 2, 1) := by decide +kernel
theorem dX15_advance_44 : decode cX15_advance 44 = .ok (.iload_n 1, 1) := by decide +kernel
theorem dX15_advance_45 : decode cX15_advance 45 = .ok (.if_icmp .ge 27, 3) := by decide +kernel
theorem dX15_advance_48 : decode cX15_advance 48 = .ok (.aload_n 0, 1) := by decide +kernel
theorem dX15_advance_49 : decode cX15_advance 49 = .ok (.dup, 1) := by decide +kernel
theorem dX15_advance_50 : decode cX15_advance 50 = .ok (.getfield 252, 3) := by decide +kernel
theorem dX15_advance_53 : decode cX15_advance 53 = .ok (.iconst 1, 1) := by decide +kernel
theorem dX15_advance_54 : decode cX15_advance 54 = .ok (.iadd, 1) := by decide +kernel
theorem dX15_advance_55 : decode cX15_advance 55 = .ok (.putfield 252, 3) := by decide +kernel
theorem dX15_advance_58 : decode cX15_advance 58 = .ok (.aload_n 0, 1) := by decide +kernel
theorem dX15_advance_59 : decode cX15_advance 59 = .ok (.invokevirtual 304, 3) := by decide +kernel
theorem dX15_advance_62 : decode cX15_advance 62 = .ok (.aload_n 0, 1) := by decide +kernel
theorem dX15_advance_63 : decode cX15_advance 63 = .ok (.invokevirtual 236, 3) := by decide +kernel
theorem dX15_advance_66 : decode cX15_advance 66 = .ok (.iinc 2 1, 3) := by decide +kernel
theorem dX15_advance_69 : decode cX15_advance 69 = .ok (.goto (-26), 3) := by decide +kernel
theorem dX15_advance_72 : decode cX15_advance 72 = .ok (.aload_n 0, 1) := by decide +kernel
theorem dX15_advance_73 : decode cX15_advance 73 = .ok (.getfield 252, 3) := by decide +kernel
theorem dX15_advance_76 : decode cX15_advance 76 = .ok (.ireturn, 1) := by decide +kernel
theorem dX15_begin_0 : decode cX15_begin 0 = .ok (.iconst 0, 1) := by decide +kernel
theorem dX15_begin_1 : decode cX15_begin 1 = .ok (.istore_n 1, 1) := by decide +kernel
theorem dX15_begin_2 : decode cX15_begin 2 = .ok (.iload_n 1, 1) := by decide +kernel
theorem dX15_begin_3 : decode cX15_begin 3 = .ok (.aload_n 0, 1) := by decide +kernel
theorem dX15_begin_4 : decode cX15_begin 4 = .ok (.getfield 10, 3) := by decide +kernel
theorem dX15_begin_7 : decode cX15_begin 7 = .ok (.invokevirtual 44, 3) := by decide +kernel
theorem dX15_begin_10 : decode cX15_begin 10 = .ok (.if_icmp .ge 256, 3) := by decide +kernel
theorem dX15_begin_13 : decode cX15_begin 13 = .ok (.aload_n 0, 1) := by decide +kernel
theorem dX15_begin_14 : decode cX15_begin 14 = .ok (.getfield 10, 3) := by decide +kernel
theorem dX15_begin_17 : decode cX15_begin 17 = .ok (.iload_n 1, 1) := by decide +kernel
theorem dX15_begin_18 : decode cX15_begin 18 = .ok (.invokevirtual 65, 3) := by decide +kernel
theorem dX15_begin_21 : decode cX15_begin 21 = .ok (.checkcast 52, 3) := by decide +kernel
theorem dX15_begin_24 : decode cX15_begin 24 = .ok (.astore_n 2, 1) := by decide +kernel
theorem dX15_begin_25 : decode cX15_begin 25 = .ok (.aconst_null, 1) := by decide +kernel
theorem dX15_begin_26 : decode cX15_begin 26 = .ok (.astore_n 3, 1) := by decide +kernel
theorem dX15_begin_27 : decode cX15_begin 27 = .ok (.aload_n 0, 1) := by decide +kernel
theorem dX15_begin_28 : decode cX15_begin 28 = .ok (.getfield 22, 3) := by decide +kernel
theorem dX15_begin_31 : decode cX15_begin 31 = .ok (.invokevirtual 123, 3) := by decide +kernel
theorem dX15_begin_34 : decode cX15_begin 34 = .ok (.astore 4, 2) := by decide +kernel
theorem dX15_begin_36 : decode cX15_begin 36 = .ok (.aload 4, 2) := by decide +kernel
theorem dX15_begin_38 : decode cX15_begin 38 = .ok (.invokeinterface 127 1, 5) := by decide +kernel
theorem dX15_begin_43 : decode cX15_begin 43 = .ok (.ifCond .eq 81, 3) := by decide +kernel
theorem dX15_begin_46 : decode cX15_begin 46 = .ok (.aload 4, 2) := by decide +kernel
theorem dX15_begin_48 : decode cX15_begin 48 = .ok (.invokeinterface 132 1, 5) := by decide +kernel
theorem dX15_begin_53 : decode cX15_begin 53 = .ok (.checkcast 136, 3) := by decide +kernel
theorem dX15_begin_56 : decode cX15_begin 56 = .ok (.astore 5, 2) := by decide +kernel
theorem dX15_begin_58 : decode cX15_begin 58 = .ok (.aload_n 2, 1) := by decide +kernel
theorem dX15_begin_59 : decode cX15_begin 59 = .ok (.getfield 242, 3) := by decide +kernel
theorem dX15_begin_62 : decode cX15_begin 62 = .ok (.bipush 45, 2) := by decide +kernel
theorem dX15_begin_64 : decode cX15_begin 64 = .ok (.if_icmp .ne 26, 3) := by decide +kernel
theorem dX15_begin_67 : decode cX15_begin 67 = .ok (.aload 5, 2) := by decide +kernel
theorem dX15_begin_69 : decode cX15_begin 69 = .ok (.getfield 139, 3) := by decide +kernel
theorem dX15_begin_72 : decode cX15_begin 72 = .ok (.bipush 119, 2) := by decide +kernel
theorem dX15_begin_74 : decode cX15_begin 74 = .ok (.if_icmp .ne 16, 3) := by decide +kernel
theorem dX15_begin_77 : decode cX15_begin 77 = .ok (.aload 5, 2) := by decide +kernel
theorem dX15_begin_79 : decode cX15_begin 79 = .ok (.getfield 243, 3) := by decide +kernel
theorem dX15_begin_82 : decode cX15_begin 82 = .ok (.iload_n 1, 1) := by decide +kernel
theorem dX15_begin_83 : decode cX15_begin 83 = .ok (.if_icmp .ne 7, 3) := by decide +kernel
theorem dX15_begin_86 : decode cX15_begin 86 = .ok (.iconst 1, 1) := by decide +kernel
theorem dX15_begin_87 : decode cX15_begin 87 = .ok (.goto 4, 3) := by decide +kernel
theorem dX15_begin_90 : decode cX15_begin 90 = .ok (.iconst 0, 1) := by decide +kernel
theorem dX15_begin_91 : decode cX15_begin 91 = .ok (.istore 6, 2) := by decide +kernel
theorem dX15_begin_93 : decode cX15_begin 93 = .ok (.iload 6, 2) := by decide +kernel
theorem dX15_begin_95 : decode cX15_begin 95 = .ok (.ifCond .eq 24, 3) := by decide +kernel
theorem dX15_begin_98 : decode cX15_begin 98 = .ok (.aload_n 3, 1) := by decide +kernel
theorem dX15_begin_99 : decode cX15_begin 99 = .ok (.ifnull 15, 3) := by decide +kernel
theorem dX15_begin_102 : decode cX15_begin 102 = .ok (.aload 5, 2) := by decide +kernel
theorem dX15_begin_104 : decode cX15_begin 104 = .ok (.getfield 269, 3) := by decide +kernel
theorem dX15_begin_107 : decode cX15_begin 107 = .ok (.aload_n 3, 1) := by decide +kernel
theorem dX15_begin_108 : decode cX15_begin 108 = .ok (.getfield 269, 3) := by decide +kernel
theorem dX15_begin_111 : decode cX15_begin 111 = .ok (.if_icmp .ge 8, 3) := by decide +kernel
theorem dX15_begin_114 : decode cX15_begin 114 = .ok (.aload 5, 2) := by decide +kernel
theorem dX15_begin_116 : decode cX15_begin 116 = .ok (.goto 4, 3) := by decide +kernel
theorem dX15_begin_119 : decode cX15_begin 119 = .ok (.aload_n 3, 1) := by decide +kernel
theorem dX15_begin_120 : decode cX15_begin 120 = .ok (.astore_n 3, 1) := by decide +kernel
theorem dX15_begin_121 : decode cX15_begin 121 = .ok (.goto (-85), 3) := by decide +kernel
theorem dX15_begin_124 : decode cX15_begin 124 = .ok (.aload_n 3, 1) := by decide +kernel
theorem dX15_begin_125 : decode cX15_begin 125 = .ok (.ifnull 135, 3) := by decide +kernel
theorem dX15_begin_128 : decode cX15_begin 128 = .ok (.aload_n 0, 1) := by decide +kernel
theorem dX15_begin_129 : decode cX15_begin 129 = .ok (.getfield 16, 3) := by decide +kernel
theorem dX15_begin_132 : decode cX15_begin 132 = .ok (.aload_n 3, 1) := by decide +kernel
theorem dX15_begin_133 : decode cX15_begin 133 = .ok (.getfield 199, 3) := by decide +kernel
theorem dX15_begin_136 : decode cX15_begin 136 = .ok (.invokevirtual 65, 3) := by decide +kernel
theorem dX15_begin_139 : decode cX15_begin 139 = .ok (.checkcast 57, 3) := by decide +kernel
theorem dX15_begin_142 : decode cX15_begin 142 = .ok (.astore 4, 2) := by decide +kernel
theorem dX15_begin_144 : decode cX15_begin 144 = .ok (.aload_n 2, 1) := by decide +kernel
theorem dX15_begin_145 : decode cX15_begin 145 = .ok (.getfield 272, 3) := by decide +kernel
theorem dX15_begin_148 : decode cX15_begin 148 = .ok (.aload 4, 2) := by decide +kernel
theorem dX15_begin_150 : decode cX15_begin 150 = .ok (.getfield 275, 3) := by decide +kernel
theorem dX15_begin_153 : decode cX15_begin 153 = .ok (.if_icmp .ne 7, 3) := by decide +kernel
theorem dX15_begin_156 : decode cX15_begin 156 = .ok (.iconst 0, 1) := by decide +kernel
theorem dX15_begin_157 : decode cX15_begin 157 = .ok (.goto 7, 3) := by decide +kernel
theorem dX15_begin_160 : decode cX15_begin 160 = .ok (.aload_n 2, 1) := by decide +kernel
theorem dX15_begin_161 : decode cX15_begin 161 = .ok (.getfield 276, 3) := by decide +kernel
theorem dX15_begin_164 : decode cX15_begin 164 = .ok (.istore 5, 2) := by decide +kernel
theorem dX15_begin_166 : decode cX15_begin 166 = .ok (.iconst 1, 1) := by decide +kernel
theorem dX15_begin_167 : decode cX15_begin 167 = .ok (.iload 5, 2) := by decide +kernel
theorem dX15_begin_169 : decode cX15_begin 169 = .ok (.aload 4, 2) := by decide +kernel
theorem dX15_begin_171 : decode cX15_begin 171 = .ok (.getfield 79, 3) := by decide +kernel
theorem dX15_begin_174 : decode cX15_begin 174 = .ok (.aload_n 3, 1) := by decide +kernel
theorem dX15_begin_175 : decode cX15_begin 175 = .ok (.getfield 246, 3) := by decide +kernel
theorem dX15_begin_178 : decode cX15_begin 178 = .ok (.invokevirtual 65, 3) := by decide +kernel
theorem dX15_begin_181 : decode cX15_begin 181 = .ok (.checkcast 200, 3) := by decide +kernel
theorem dX15_begin_184 : decode cX15_begin 184 = .ok (.iconst 2, 1) := by decide +kernel
theorem dX15_begin_185 : decode cX15_begin 185 = .ok (.iaload, 1) := by decide +kernel
theorem dX15_begin_186 : decode cX15_begin 186 = .ok (.aload_n 3, 1) := by decide +kernel
theorem dX15_begin_187 : decode cX15_begin 187 = .ok (.getfield 229, 3) := by decide +kernel
theorem dX15_begin_190 : decode cX15_begin 190 = .ok (.imul, 1) := by decide +kernel
theorem dX15_begin_191 : decode cX15_begin 191 = .ok (.iadd, 1) := by decide +kernel
theorem dX15_begin_192 : decode cX15_begin 192 = .ok (.invokestatic 113, 3) := by decide +kernel
theorem dX15_begin_195 : decode cX15_begin 195 = .ok (.istore 6, 2) := by decide +kernel
theorem dX15_begin_197 : decode cX15_begin 197 = .ok (.aload_n 2, 1) := by decide +kernel
theorem dX15_begin_198 : decode cX15_begin 198 = .ok (.aload 4, 2) := by decide +kernel
theorem dX15_begin_200 : decode cX15_begin 200 = .ok (.getfield 275, 3) := by decide +kernel
theorem dX15_begin_203 : decode cX15_begin 203 = .ok (.putfield 272, 3) := by decide +kernel
theorem dX15_begin_206 : decode cX15_begin 206 = .ok (.aload_n 2, 1) := by decide +kernel
theorem dX15_begin_207 : decode cX15_begin 207 = .ok (.bipush 111, 2) := by decide +kernel
theorem dX15_begin_209 : decode cX15_begin 209 = .ok (.putfield 242, 3) := by decide +kernel
theorem dX15_begin_212 : decode cX15_begin 212 = .ok (.aload_n 2, 1) := by decide +kernel
theorem dX15_begin_213 : decode cX15_begin 213 = .ok (.aload_n 3, 1) := by decide +kernel
theorem dX15_begin_214 : decode cX15_begin 214 = .ok (.putfield 279, 3) := by decide +kernel
theorem dX15_begin_217 : decode cX15_begin 217 = .ok (.aload_n 2, 1) := by decide +kernel
theorem dX15_begin_218 : decode cX15_begin 218 = .ok (.aload_n 0, 1) := by decide +kernel
theorem dX15_begin_219 : decode cX15_begin 219 = .ok (.getfield 252, 3) := by decide +kernel
theorem dX15_begin_222 : decode cX15_begin 222 = .ok (.putfield 283, 3) := by decide +kernel
theorem dX15_begin_225 : decode cX15_begin 225 = .ok (.aload_n 2, 1) := by decide +kernel
theorem dX15_begin_226 : decode cX15_begin 226 = .ok (.aload_n 0, 1) := by decide +kernel
theorem dX15_begin_227 : decode cX15_begin 227 = .ok (.getfield 252, 3) := by decide +kernel
theorem dX15_begin_230 : decode cX15_begin 230 = .ok (.iload 6, 2) := by decide +kernel
theorem dX15_begin_232 : decode cX15_begin 232 = .ok (.iadd, 1) := by decide +kernel
theorem dX15_begin_233 : decode cX15_begin 233 = .ok (.putfield 286, 3) := by decide +kernel
theorem dX15_begin_236 : decode cX15_begin 236 = .ok (.aload_n 3, 1) := by decide +kernel
theorem dX15_begin_237 : decode cX15_begin 237 = .ok (.dup, 1) := by decide +kernel
theorem dX15_begin_238 : decode cX15_begin 238 = .ok (.getfield 224, 3) := by decide +kernel
theorem dX15_begin_241 : decode cX15_begin 241 = .ok (.iload 6, 2) := by decide +kernel
theorem dX15_begin_243 : decode cX15_begin 243 = .ok (.i2l, 1) := by decide +kernel
theorem dX15_begin_244 : decode cX15_begin 244 = .ok (.aload_n 2, 1) := by decide +kernel
theorem dX15_begin_245 : decode cX15_begin 245 = .ok (.getfield 289, 3) := by decide +kernel
theorem dX15_begin_248 : decode cX15_begin 248 = .ok (.i2l, 1) := by decide +kernel
theorem dX15_begin_249 : decode cX15_begin 249 = .ok (.lmul, 1) := by decide +kernel
theorem dX15_begin_250 : decode cX15_begin 250 = .ok (.ladd, 1) := by decide +kernel
theorem dX15_begin_251 : decode cX15_begin 251 = .ok (.putfield 224, 3) := by decide +kernel
theorem dX15_begin_254 : decode cX15_begin 254 = .ok (.aload_n 3, 1) := by decide +kernel
theorem dX15_begin_255 : decode cX15_begin 255 = .ok (.bipush 111, 2) := by decide +kernel
theorem dX15_begin_257 : decode cX15_begin 257 = .ok (.putfield 139, 3) := by decide +kernel
theorem dX15_begin_260 : decode cX15_begin 260 = .ok (.iinc 1 1, 3) := by decide +kernel
theorem dX15_begin_263 : decode cX15_begin 263 = .ok (.goto (-261), 3) := by decide +kernel
theorem dX15_begin_266 : decode cX15_begin 266 = .ok (.return_, 1) := by decide +kernel
theorem dX15_costOf_0 : decode cX15_costOf 0 = .ok (.aload_n 0, 1) := by decide +kernel
theorem dX15_costOf_1 : decode cX15_costOf 1 = .ok (.iload_n 1, 1) := by decide +kernel
theorem dX15_costOf_2 : decode cX15_costOf 2 = .ok (.invokevirtual 161, 3) := by decide +kernel
theorem dX15_costOf_5 : decode cX15_costOf 5 = .ok (.ifCond .eq 7, 3) := by decide +kernel
theorem dX15_costOf_8 : decode cX15_costOf 8 = .ok (.lconst 0, 1) := by decide +kernel
theorem dX15_costOf_9 : decode cX15_costOf 9 = .ok (.goto 17, 3) := by decide +kernel
theorem dX15_costOf_12 : decode cX15_costOf 12 = .ok (.aload_n 0, 1) := by decide +kernel
theorem dX15_costOf_13 : decode cX15_costOf 13 = .ok (.getfield 19, 3) := by decide +kernel
theorem dX15_costOf_16 : decode cX15_costOf 16 = .ok (.iload_n 1, 1) := by decide +kernel
theorem dX15_costOf_17 : decode cX15_costOf 17 = .ok (.invokevirtual 65, 3) := by decide +kernel
theorem dX15_costOf_20 : decode cX15_costOf 20 = .ok (.checkcast 82, 3) := by decide +kernel
theorem dX15_costOf_23 : decode cX15_costOf 23 = .ok (.getfield 192, 3) := by decide +kernel
theorem dX15_costOf_26 : decode cX15_costOf 26 = .ok (.lreturn, 1) := by decide +kernel
theorem dX15_deliver_0 : decode cX15_deliver 0 = .ok (.aload_n 0, 1) := by decide +kernel
theorem dX15_deliver_1 : decode cX15_deliver 1 = .ok (.iload_n 1, 1) := by decide +kernel
theorem dX15_deliver_2 : decode cX15_deliver 2 = .ok (.invokevirtual 214, 3) := by decide +kernel
theorem dX15_deliver_5 : decode cX15_deliver 5 = .ok (.ifCond .eq 5, 3) := by decide +kernel
theorem dX15_deliver_8 : decode cX15_deliver 8 = .ok (.iconst 0, 1) := by decide +kernel
theorem dX15_deliver_9 : decode cX15_deliver 9 = .ok (.ireturn, 1) := by decide +kernel
theorem dX15_deliver_10 : decode cX15_deliver 10 = .ok (.aload_n 0, 1) := by decide +kernel
theorem dX15_deliver_11 : decode cX15_deliver 11 = .ok (.getfield 22, 3) := by decide +kernel
theorem dX15_deliver_14 : decode cX15_deliver 14 = .ok (.iload_n 1, 1) := by decide +kernel
theorem dX15_deliver_15 : decode cX15_deliver 15 = .ok (.invokevirtual 65, 3) := by decide +kernel
theorem dX15_deliver_18 : decode cX15_deliver 18 = .ok (.checkcast 136, 3) := by decide +kernel
theorem dX15_deliver_21 : decode cX15_deliver 21 = .ok (.astore_n 2, 1) := by decide +kernel
theorem dX15_deliver_22 : decode cX15_deliver 22 = .ok (.aload_n 0, 1) := by decide +kernel
theorem dX15_deliver_23 : decode cX15_deliver 23 = .ok (.aload_n 2, 1) := by decide +kernel
theorem dX15_deliver_24 : decode cX15_deliver 24 = .ok (.getfield 139, 3) := by decide +kernel
theorem dX15_deliver_27 : decode cX15_deliver 27 = .ok (.aload_n 0, 1) := by decide +kernel
theorem dX15_deliver_28 : decode cX15_deliver 28 = .ok (.getfield 16, 3) := by decide +kernel
theorem dX15_deliver_31 : decode cX15_deliver 31 = .ok (.aload_n 2, 1) := by decide +kernel
theorem dX15_deliver_32 : decode cX15_deliver 32 = .ok (.getfield 199, 3) := by decide +kernel
theorem dX15_deliver_35 : decode cX15_deliver 35 = .ok (.invokevirtual 65, 3) := by decide +kernel
theorem dX15_deliver_38 : decode cX15_deliver 38 = .ok (.checkcast 57, 3) := by decide +kernel
theorem dX15_deliver_41 : decode cX15_deliver 41 = .ok (.getfield 69, 3) := by decide +kernel
theorem dX15_deliver_44 : decode cX15_deliver 44 = .ok (.ifCond .eq 8, 3) := by decide +kernel
theorem dX15_deliver_47 : decode cX15_deliver 47 = .ok (.bipush 102, 2) := by decide +kernel
theorem dX15_deliver_49 : decode cX15_deliver 49 = .ok (.goto 5, 3) := by decide +kernel
theorem dX15_deliver_52 : decode cX15_deliver 52 = .ok (.bipush 45, 2) := by decide +kernel
theorem dX15_deliver_54 : decode cX15_deliver 54 = .ok (.if_icmp .eq 7, 3) := by decide +kernel
theorem dX15_deliver_57 : decode cX15_deliver 57 = .ok (.iconst 2, 1) := by decide +kernel
theorem dX15_deliver_58 : decode cX15_deliver 58 = .ok (.goto 4, 3) := by decide +kernel
theorem dX15_deliver_61 : decode cX15_deliver 61 = .ok (.iconst 0, 1) := by decide +kernel
theorem dX15_deliver_62 : decode cX15_deliver 62 = .ok (.invokevirtual 48, 3) := by decide +kernel
theorem dX15_deliver_65 : decode cX15_deliver 65 = .ok (.ifCond .eq 5, 3) := by decide +kernel
theorem dX15_deliver_68 : decode cX15_deliver 68 = .ok (.iconst 0, 1) := by decide +kernel
theorem dX15_deliver_69 : decode cX15_deliver 69 = .ok (.ireturn, 1) := by decide +kernel
theorem dX15_deliver_70 : decode cX15_deliver 70 = .ok (.aload_n 0, 1) := by decide +kernel
theorem dX15_deliver_71 : decode cX15_deliver 71 = .ok (.aload_n 2, 1) := by decide +kernel
theorem dX15_deliver_72 : decode cX15_deliver 72 = .ok (.invokevirtual 307, 3) := by decide +kernel
theorem dX15_deliver_75 : decode cX15_deliver 75 = .ok (.astore_n 3, 1) := by decide +kernel
theorem dX15_deliver_76 : decode cX15_deliver 76 = .ok (.iconst 0, 1) := by decide +kernel
theorem dX15_deliver_77 : decode cX15_deliver 77 = .ok (.istore 4, 2) := by decide +kernel
theorem dX15_deliver_79 : decode cX15_deliver 79 = .ok (.aload_n 3, 1) := by decide +kernel
theorem dX15_deliver_80 : decode cX15_deliver 80 = .ok (.invokevirtual 123, 3) := by decide +kernel
theorem dX15_deliver_83 : decode cX15_deliver 83 = .ok (.astore 5, 2) := by decide +kernel
theorem dX15_deliver_85 : decode cX15_deliver 85 = .ok (.aload 5, 2) := by decide +kernel
theorem dX15_deliver_87 : decode cX15_deliver 87 = .ok (.invokeinterface 127 1, 5) := by decide +kernel
theorem dX15_deliver_92 : decode cX15_deliver 92 = .ok (.ifCond .eq 34, 3) := by decide +kernel
theorem dX15_deliver_95 : decode cX15_deliver 95 = .ok (.aload 5, 2) := by decide +kernel
theorem dX15_deliver_97 : decode cX15_deliver 97 = .ok (.invokeinterface 132 1, 5) := by decide +kernel
theorem dX15_deliver_102 : decode cX15_deliver 102 = .ok (.checkcast 82, 3) := by decide +kernel
theorem dX15_deliver_105 : decode cX15_deliver 105 = .ok (.astore 6, 2) := by decide +kernel
theorem dX15_deliver_107 : decode cX15_deliver 107 = .ok (.iload 4, 2) := by decide +kernel
theorem dX15_deliver_109 : decode cX15_deliver 109 = .ok (.aload 6, 2) := by decide +kernel
theorem dX15_deliver_111 : decode cX15_deliver 111 = .ok (.getfield 189, 3) := by decide +kernel
theorem dX15_deliver_114 : decode cX15_deliver 114 = .ok (.aload 6, 2) := by decide +kernel
theorem dX15_deliver_116 : decode cX15_deliver 116 = .ok (.getfield 150, 3) := by decide +kernel
theorem dX15_deliver_119 : decode cX15_deliver 119 = .ok (.isub, 1) := by decide +kernel
theorem dX15_deliver_120 : decode cX15_deliver 120 = .ok (.iadd, 1) := by decide +kernel
theorem dX15_deliver_121 : decode cX15_deliver 121 = .ok (.istore 4, 2) := by decide +kernel
theorem dX15_deliver_123 : decode cX15_deliver 123 = .ok (.goto (-38), 3) := by decide +kernel
theorem dX15_deliver_126 : decode cX15_deliver 126 = .ok (.aload_n 2, 1) := by decide +kernel
theorem dX15_deliver_127 : decode cX15_deliver 127 = .ok (.getfield 205, 3) := by decide +kernel
theorem dX15_deliver_130 : decode cX15_deliver 130 = .ok (.istore 5, 2) := by decide +kernel
theorem dX15_deliver_132 : decode cX15_deliver 132 = .ok (.iload 4, 2) := by decide +kernel
theorem dX15_deliver_134 : decode cX15_deliver 134 = .ok (.iload 5, 2) := by decide +kernel
theorem dX15_deliver_136 : decode cX15_deliver 136 = .ok (.if_icmp .ge 5, 3) := by decide +kernel
theorem dX15_deliver_139 : decode cX15_deliver 139 = .ok (.iconst 0, 1) := by decide +kernel
theorem dX15_deliver_140 : decode cX15_deliver 140 = .ok (.ireturn, 1) := by decide +kernel
theorem dX15_deliver_141 : decode cX15_deliver 141 = .ok (.aload_n 3, 1) := by decide +kernel
theorem dX15_deliver_142 : decode cX15_deliver 142 = .ok (.invokevirtual 123, 3) := by decide +kernel
theorem dX15_deliver_145 : decode cX15_deliver 145 = .ok (.astore 6, 2) := by decide +kernel
theorem dX15_deliver_147 : decode cX15_deliver 147 = .ok (.aload 6, 2) := by decide +kernel
theorem dX15_deliver_149 : decode cX15_deliver 149 = .ok (.invokeinterface 127 1, 5) := by decide +kernel
theorem dX15_deliver_154 : decode cX15_deliver 154 = .ok (.ifCond .eq 75, 3) := by decide +kernel
theorem dX15_deliver_157 : decode cX15_deliver 157 = .ok (.aload 6, 2) := by decide +kernel
theorem dX15_deliver_159 : decode cX15_deliver 159 = .ok (.invokeinterface 132 1, 5) := by decide +kernel
theorem dX15_deliver_164 : decode cX15_deliver 164 = .ok (.checkcast 82, 3) := by decide +kernel
theorem dX15_deliver_167 : decode cX15_deliver 167 = .ok (.astore 7, 2) := by decide +kernel
theorem dX15_deliver_169 : decode cX15_deliver 169 = .ok (.iload 5, 2) := by decide +kernel
theorem dX15_deliver_171 : decode cX15_deliver 171 = .ok (.aload 7, 2) := by decide +kernel
theorem dX15_deliver_173 : decode cX15_deliver 173 = .ok (.getfield 189, 3) := by decide +kernel
theorem dX15_deliver_176 : decode cX15_deliver 176 = .ok (.aload 7, 2) := by decide +kernel
theorem dX15_deliver_178 : decode cX15_deliver 178 = .ok (.getfield 150, 3) := by decide +kernel
theorem dX15_deliver_181 : decode cX15_deliver 181 = .ok (.isub, 1) := by decide +kernel
theorem dX15_deliver_182 : decode cX15_deliver 182 = .ok (.invokestatic 208, 3) := by decide +kernel
theorem dX15_deliver_185 : decode cX15_deliver 185 = .ok (.istore 8, 2) := by decide +kernel
theorem dX15_deliver_187 : decode cX15_deliver 187 = .ok (.iload 8, 2) := by decide +kernel
theorem dX15_deliver_189 : decode cX15_deliver 189 = .ok (.ifCond .le 37, 3) := by decide +kernel
theorem dX15_deliver_192 : decode cX15_deliver 192 = .ok (.aload_n 2, 1) := by decide +kernel
theorem dX15_deliver_193 : decode cX15_deliver 193 = .ok (.dup, 1) := by decide +kernel
theorem dX15_deliver_194 : decode cX15_deliver 194 = .ok (.getfield 311, 3) := by decide +kernel
theorem dX15_deliver_197 : decode cX15_deliver 197 = .ok (.aload 7, 2) := by decide +kernel
theorem dX15_deliver_199 : decode cX15_deliver 199 = .ok (.iload 8, 2) := by decide +kernel
theorem dX15_deliver_201 : decode cX15_deliver 201 = .ok (.invokestatic 225, 3) := by decide +kernel
theorem dX15_deliver_204 : decode cX15_deliver 204 = .ok (.ladd, 1) := by decide +kernel
theorem dX15_deliver_205 : decode cX15_deliver 205 = .ok (.putfield 311, 3) := by decide +kernel
theorem dX15_deliver_208 : decode cX15_deliver 208 = .ok (.aload_n 2, 1) := by decide +kernel
theorem dX15_deliver_209 : decode cX15_deliver 209 = .ok (.getfield 314, 3) := by decide +kernel
theorem dX15_deliver_212 : decode cX15_deliver 212 = .ok (.aload 7, 2) := by decide +kernel
theorem dX15_deliver_214 : decode cX15_deliver 214 = .ok (.invokevirtual 32, 3) := by decide +kernel
theorem dX15_deliver_217 : decode cX15_deliver 217 = .ok (.istore 9, 2) := by decide +kernel
theorem dX15_deliver_219 : decode cX15_deliver 219 = .ok (.iload 5, 2) := by decide +kernel
theorem dX15_deliver_221 : decode cX15_deliver 221 = .ok (.iload 8, 2) := by decide +kernel
theorem dX15_deliver_223 : decode cX15_deliver 223 = .ok (.isub, 1) := by decide +kernel
theorem dX15_deliver_224 : decode cX15_deliver 224 = .ok (.istore 5, 2) := by decide +kernel
theorem dX15_deliver_226 : decode cX15_deliver 226 = .ok (.goto (-79), 3) := by decide +kernel
theorem dX15_deliver_229 : decode cX15_deliver 229 = .ok (.aload_n 2, 1) := by decide +kernel
theorem dX15_deliver_230 : decode cX15_deliver 230 = .ok (.bipush 100, 2) := by decide +kernel
theorem dX15_deliver_232 : decode cX15_deliver 232 = .ok (.putfield 139, 3) := by decide +kernel
theorem dX15_deliver_235 : decode cX15_deliver 235 = .ok (.aload_n 2, 1) := by decide +kernel
theorem dX15_deliver_236 : decode cX15_deliver 236 = .ok (.aload_n 0, 1) := by decide +kernel
theorem dX15_deliver_237 : decode cX15_deliver 237 = .ok (.getfield 252, 3) := by decide +kernel
theorem dX15_deliver_240 : decode cX15_deliver 240 = .ok (.putfield 317, 3) := by decide +kernel
theorem dX15_deliver_243 : decode cX15_deliver 243 = .ok (.iconst 1, 1) := by decide +kernel
theorem dX15_deliver_244 : decode cX15_deliver 244 = .ok (.ireturn, 1) := by decide +kernel
theorem dX15_deliveredCost_0 : decode cX15_deliveredCost 0 = .ok (.aload_n 0, 1) := by decide +kernel
theorem dX15_deliveredCost_1 : decode cX15_deliveredCost 1 = .ok (.iload_n 1, 1) := by decide +kernel
theorem dX15_deliveredCost_2 : decode cX15_deliveredCost 2 = .ok (.invokevirtual 214, 3) := by decide +kernel
theorem dX15_deliveredCost_5 : decode cX15_deliveredCost 5 = .ok (.ifCond .ne 34, 3) := by decide +kernel
theorem dX15_deliveredCost_8 : decode cX15_deliveredCost 8 = .ok (.aload_n 0, 1) := by decide +kernel
theorem dX15_deliveredCost_9 : decode cX15_deliveredCost 9 = .ok (.aload_n 0, 1) := by decide +kernel
theorem dX15_deliveredCost_10 : decode cX15_deliveredCost 10 = .ok (.getfield 22, 3) := by decide +kernel
theorem dX15_deliveredCost_13 : decode cX15_deliveredCost 13 = .ok (.iload_n 1, 1) := by decide +kernel
theorem dX15_deliveredCost_14 : decode cX15_deliveredCost 14 = .ok (.invokevirtual 65, 3) := by decide +kernel
theorem dX15_deliveredCost_17 : decode cX15_deliveredCost 17 = .ok (.checkcast 136, 3) := by decide +kernel
theorem dX15_deliveredCost_20 : decode cX15_deliveredCost 20 = .ok (.getfield 139, 3) := by decide +kernel
theorem dX15_deliveredCost_23 : decode cX15_deliveredCost 23 = .ok (.bipush 100, 2) := by decide +kernel
theorem dX15_deliveredCost_25 : decode cX15_deliveredCost 25 = .ok (.if_icmp .ne 7, 3) := by decide +kernel
theorem dX15_deliveredCost_28 : decode cX15_deliveredCost 28 = .ok (.iconst 0, 1) := by decide +kernel
theorem dX15_deliveredCost_29 : decode cX15_deliveredCost 29 = .ok (.goto 4, 3) := by decide +kernel
theorem dX15_deliveredCost_32 : decode cX15_deliveredCost 32 = .ok (.iconst 2, 1) := by decide +kernel
theorem dX15_deliveredCost_33 : decode cX15_deliveredCost 33 = .ok (.invokevirtual 48, 3) := by decide +kernel
theorem dX15_deliveredCost_36 : decode cX15_deliveredCost 36 = .ok (.ifCond .eq 7, 3) := by decide +kernel
theorem dX15_deliveredCost_39 : decode cX15_deliveredCost 39 = .ok (.lconst 0, 1) := by decide +kernel
theorem dX15_deliveredCost_40 : decode cX15_deliveredCost 40 = .ok (.goto 17, 3) := by decide +kernel
theorem dX15_deliveredCost_43 : decode cX15_deliveredCost 43 = .ok (.aload_n 0, 1) := by decide +kernel
theorem dX15_deliveredCost_44 : decode cX15_deliveredCost 44 = .ok (.getfield 22, 3) := by decide +kernel
theorem dX15_deliveredCost_47 : decode cX15_deliveredCost 47 = .ok (.iload_n 1, 1) := by decide +kernel
theorem dX15_deliveredCost_48 : decode cX15_deliveredCost 48 = .ok (.invokevirtual 65, 3) := by decide +kernel
theorem dX15_deliveredCost_51 : decode cX15_deliveredCost 51 = .ok (.checkcast 136, 3) := by decide +kernel
theorem dX15_deliveredCost_54 : decode cX15_deliveredCost 54 = .ok (.getfield 311, 3) := by decide +kernel
theorem dX15_deliveredCost_57 : decode cX15_deliveredCost 57 = .ok (.lreturn, 1) := by decide +kernel
theorem dX15_end_0 : decode cX15_end 0 = .ok (.aload_n 0, 1) := by decide +kernel
theorem dX15_end_1 : decode cX15_end 1 = .ok (.getfield 10, 3) := by decide +kernel
theorem dX15_end_4 : decode cX15_end 4 = .ok (.invokevirtual 123, 3) := by decide +kernel
theorem dX15_end_7 : decode cX15_end 7 = .ok (.astore_n 1, 1) := by decide +kernel
theorem dX15_end_8 : decode cX15_end 8 = .ok (.aload_n 1, 1) := by decide +kernel
theorem dX15_end_9 : decode cX15_end 9 = .ok (.invokeinterface 127 1, 5) := by decide +kernel
theorem dX15_end_14 : decode cX15_end 14 = .ok (.ifCond .eq 145, 3) := by decide +kernel
theorem dX15_end_17 : decode cX15_end 17 = .ok (.aload_n 1, 1) := by decide +kernel
theorem dX15_end_18 : decode cX15_end 18 = .ok (.invokeinterface 132 1, 5) := by decide +kernel
theorem dX15_end_23 : decode cX15_end 23 = .ok (.checkcast 52, 3) := by decide +kernel
theorem dX15_end_26 : decode cX15_end 26 = .ok (.astore_n 2, 1) := by decide +kernel
theorem dX15_end_27 : decode cX15_end 27 = .ok (.aload_n 2, 1) := by decide +kernel
theorem dX15_end_28 : decode cX15_end 28 = .ok (.getfield 242, 3) := by decide +kernel
theorem dX15_end_31 : decode cX15_end 31 = .ok (.bipush 45, 2) := by decide +kernel
theorem dX15_end_33 : decode cX15_end 33 = .ok (.if_icmp .eq 123, 3) := by decide +kernel
theorem dX15_end_36 : decode cX15_end 36 = .ok (.aload_n 2, 1) := by decide +kernel
theorem dX15_end_37 : decode cX15_end 37 = .ok (.getfield 286, 3) := by decide +kernel
theorem dX15_end_40 : decode cX15_end 40 = .ok (.aload_n 0, 1) := by decide +kernel
theorem dX15_end_41 : decode cX15_end 41 = .ok (.getfield 252, 3) := by decide +kernel
theorem dX15_end_44 : decode cX15_end 44 = .ok (.if_icmp .ne 112, 3) := by decide +kernel
theorem dX15_end_47 : decode cX15_end 47 = .ok (.aload_n 2, 1) := by decide +kernel
theorem dX15_end_48 : decode cX15_end 48 = .ok (.getfield 242, 3) := by decide +kernel
theorem dX15_end_51 : decode cX15_end 51 = .ok (.bipush 111, 2) := by decide +kernel
theorem dX15_end_53 : decode cX15_end 53 = .ok (.if_icmp .ne 10, 3) := by decide +kernel
theorem dX15_end_56 : decode cX15_end 56 = .ok (.aload_n 2, 1) := by decide +kernel
theorem dX15_end_57 : decode cX15_end 57 = .ok (.getfield 279, 3) := by decide +kernel
theorem dX15_end_60 : decode cX15_end 60 = .ok (.goto 4, 3) := by decide +kernel
theorem dX15_end_63 : decode cX15_end 63 = .ok (.aconst_null, 1) := by decide +kernel
theorem dX15_end_64 : decode cX15_end 64 = .ok (.astore_n 3, 1) := by decide +kernel
theorem dX15_end_65 : decode cX15_end 65 = .ok (.aload_n 2, 1) := by decide +kernel
theorem dX15_end_66 : decode cX15_end 66 = .ok (.bipush 45, 2) := by decide +kernel
theorem dX15_end_68 : decode cX15_end 68 = .ok (.putfield 242, 3) := by decide +kernel
theorem dX15_end_71 : decode cX15_end 71 = .ok (.aload_n 3, 1) := by decide +kernel
theorem dX15_end_72 : decode cX15_end 72 = .ok (.ifnull 84, 3) := by decide +kernel
theorem dX15_end_75 : decode cX15_end 75 = .ok (.aload_n 2, 1) := by decide +kernel
theorem dX15_end_76 : decode cX15_end 76 = .ok (.dup, 1) := by decide +kernel
theorem dX15_end_77 : decode cX15_end 77 = .ok (.getfield 292, 3) := by decide +kernel
theorem dX15_end_80 : decode cX15_end 80 = .ok (.aload_n 0, 1) := by decide +kernel
theorem dX15_end_81 : decode cX15_end 81 = .ok (.getfield 252, 3) := by decide +kernel
theorem dX15_end_84 : decode cX15_end 84 = .ok (.aload_n 2, 1) := by decide +kernel
theorem dX15_end_85 : decode cX15_end 85 = .ok (.getfield 283, 3) := by decide +kernel
theorem dX15_end_88 : decode cX15_end 88 = .ok (.isub, 1) := by decide +kernel
theorem dX15_end_89 : decode cX15_end 89 = .ok (.iadd, 1) := by decide +kernel
theorem dX15_end_90 : decode cX15_end 90 = .ok (.putfield 292, 3) := by decide +kernel
theorem dX15_end_93 : decode cX15_end 93 = .ok (.aload_n 2, 1) := by decide +kernel
theorem dX15_end_94 : decode cX15_end 94 = .ok (.dup, 1) := by decide +kernel
theorem dX15_end_95 : decode cX15_end 95 = .ok (.getfield 295, 3) := by decide +kernel
theorem dX15_end_98 : decode cX15_end 98 = .ok (.aload_n 3, 1) := by decide +kernel
theorem dX15_end_99 : decode cX15_end 99 = .ok (.getfield 229, 3) := by decide +kernel
theorem dX15_end_102 : decode cX15_end 102 = .ok (.iadd, 1) := by decide +kernel
theorem dX15_end_103 : decode cX15_end 103 = .ok (.putfield 295, 3) := by decide +kernel
theorem dX15_end_106 : decode cX15_end 106 = .ok (.aload_n 2, 1) := by decide +kernel
theorem dX15_end_107 : decode cX15_end 107 = .ok (.getfield 295, 3) := by decide +kernel
theorem dX15_end_110 : decode cX15_end 110 = .ok (.aload_n 2, 1) := by decide +kernel
theorem dX15_end_111 : decode cX15_end 111 = .ok (.getfield 298, 3) := by decide +kernel
theorem dX15_end_114 : decode cX15_end 114 = .ok (.if_icmp .lt 27, 3) := by decide +kernel
theorem dX15_end_117 : decode cX15_end 117 = .ok (.aload_n 2, 1) := by decide +kernel
theorem dX15_end_118 : decode cX15_end 118 = .ok (.iconst 0, 1) := by decide +kernel
theorem dX15_end_119 : decode cX15_end 119 = .ok (.putfield 295, 3) := by decide +kernel
theorem dX15_end_122 : decode cX15_end 122 = .ok (.aload_n 2, 1) := by decide +kernel
theorem dX15_end_123 : decode cX15_end 123 = .ok (.bipush 98, 2) := by decide +kernel
theorem dX15_end_125 : decode cX15_end 125 = .ok (.putfield 242, 3) := by decide +kernel
theorem dX15_end_128 : decode cX15_end 128 = .ok (.aload_n 2, 1) := by decide +kernel
theorem dX15_end_129 : decode cX15_end 129 = .ok (.aload_n 0, 1) := by decide +kernel
theorem dX15_end_130 : decode cX15_end 130 = .ok (.getfield 252, 3) := by decide +kernel
theorem dX15_end_133 : decode cX15_end 133 = .ok (.aload_n 2, 1) := by decide +kernel
theorem dX15_end_134 : decode cX15_end 134 = .ok (.getfield 301, 3) := by decide +kernel
theorem dX15_end_137 : decode cX15_end 137 = .ok (.iadd, 1) := by decide +kernel
theorem dX15_end_138 : decode cX15_end 138 = .ok (.putfield 286, 3) := by decide +kernel
theorem dX15_end_141 : decode cX15_end 141 = .ok (.aload_n 3, 1) := by decide +kernel
theorem dX15_end_142 : decode cX15_end 142 = .ok (.dup, 1) := by decide +kernel
theorem dX15_end_143 : decode cX15_end 143 = .ok (.getfield 246, 3) := by decide +kernel
theorem dX15_end_146 : decode cX15_end 146 = .ok (.iconst 1, 1) := by decide +kernel
theorem dX15_end_147 : decode cX15_end 147 = .ok (.iadd, 1) := by decide +kernel
theorem dX15_end_148 : decode cX15_end 148 = .ok (.putfield 246, 3) := by decide +kernel
theorem dX15_end_151 : decode cX15_end 151 = .ok (.aload_n 0, 1) := by decide +kernel
theorem dX15_end_152 : decode cX15_end 152 = .ok (.aload_n 3, 1) := by decide +kernel
theorem dX15_end_153 : decode cX15_end 153 = .ok (.invokevirtual 232, 3) := by decide +kernel
theorem dX15_end_156 : decode cX15_end 156 = .ok (.goto (-148), 3) := by decide +kernel
theorem dX15_end_159 : decode cX15_end 159 = .ok (.return_, 1) := by decide +kernel
theorem dX15_fails_0 : decode cX15_fails 0 = .ok (.aload_n 0, 1) := by decide +kernel
theorem dX15_fails_1 : decode cX15_fails 1 = .ok (.iload_n 1, 1) := by decide +kernel
theorem dX15_fails_2 : decode cX15_fails 2 = .ok (.putfield 36, 3) := by decide +kernel
theorem dX15_fails_5 : decode cX15_fails 5 = .ok (.iload_n 1, 1) := by decide +kernel
theorem dX15_fails_6 : decode cX15_fails 6 = .ok (.ifCond .le 7, 3) := by decide +kernel
theorem dX15_fails_9 : decode cX15_fails 9 = .ok (.iconst 1, 1) := by decide +kernel
theorem dX15_fails_10 : decode cX15_fails 10 = .ok (.goto 4, 3) := by decide +kernel
theorem dX15_fails_13 : decode cX15_fails 13 = .ok (.iconst 0, 1) := by decide +kernel
theorem dX15_fails_14 : decode cX15_fails 14 = .ok (.ireturn, 1) := by decide +kernel
theorem dX15_failsLot_0 : decode cX15_failsLot 0 = .ok (.aload_n 0, 1) := by decide +kernel
theorem dX15_failsLot_1 : decode cX15_failsLot 1 = .ok (.iload_n 1, 1) := by decide +kernel
theorem dX15_failsLot_2 : decode cX15_failsLot 2 = .ok (.iconst 0, 1) := by decide +kernel
theorem dX15_failsLot_3 : decode cX15_failsLot 3 = .ok (.aload_n 0, 1) := by decide +kernel
theorem dX15_failsLot_4 : decode cX15_failsLot 4 = .ok (.getfield 19, 3) := by decide +kernel
theorem dX15_failsLot_7 : decode cX15_failsLot 7 = .ok (.invokevirtual 44, 3) := by decide +kernel
theorem dX15_failsLot_10 : decode cX15_failsLot 10 = .ok (.iconst 1, 1) := by decide +kernel
theorem dX15_failsLot_11 : decode cX15_failsLot 11 = .ok (.isub, 1) := by decide +kernel
theorem dX15_failsLot_12 : decode cX15_failsLot 12 = .ok (.invokestatic 40, 3) := by decide +kernel
theorem dX15_failsLot_15 : decode cX15_failsLot 15 = .ok (.ifCond .eq 7, 3) := by decide +kernel
theorem dX15_failsLot_18 : decode cX15_failsLot 18 = .ok (.iconst 0, 1) := by decide +kernel
theorem dX15_failsLot_19 : decode cX15_failsLot 19 = .ok (.goto 4, 3) := by decide +kernel
theorem dX15_failsLot_22 : decode cX15_failsLot 22 = .ok (.iconst 1, 1) := by decide +kernel
theorem dX15_failsLot_23 : decode cX15_failsLot 23 = .ok (.invokevirtual 48, 3) := by decide +kernel
theorem dX15_failsLot_26 : decode cX15_failsLot 26 = .ok (.ireturn, 1) := by decide +kernel
theorem dX15_failsMachine_0 : decode cX15_failsMachine 0 = .ok (.aload_n 0, 1) := by decide +kernel
theorem dX15_failsMachine_1 : decode cX15_failsMachine 1 = .ok (.aload_n 0, 1) := by decide +kernel
theorem dX15_failsMachine_2 : decode cX15_failsMachine 2 = .ok (.iload_n 1, 1) := by decide +kernel
theorem dX15_failsMachine_3 : decode cX15_failsMachine 3 = .ok (.invokevirtual 76, 3) := by decide +kernel
theorem dX15_failsMachine_6 : decode cX15_failsMachine 6 = .ok (.ifCond .eq 7, 3) := by decide +kernel
theorem dX15_failsMachine_9 : decode cX15_failsMachine 9 = .ok (.iconst 0, 1) := by decide +kernel
theorem dX15_failsMachine_10 : decode cX15_failsMachine 10 = .ok (.goto 4, 3) := by decide +kernel
theorem dX15_failsMachine_13 : decode cX15_failsMachine 13 = .ok (.iconst 1, 1) := by decide +kernel
theorem dX15_failsMachine_14 : decode cX15_failsMachine 14 = .ok (.invokevirtual 48, 3) := by decide +kernel
theorem dX15_failsMachine_17 : decode cX15_failsMachine 17 = .ok (.ireturn, 1) := by decide +kernel
theorem dX15_failsOrder_0 : decode cX15_failsOrder 0 = .ok (.aload_n 0, 1) := by decide +kernel
theorem dX15_failsOrder_1 : decode cX15_failsOrder 1 = .ok (.iload_n 1, 1) := by decide +kernel
theorem dX15_failsOrder_2 : decode cX15_failsOrder 2 = .ok (.iconst 0, 1) := by decide +kernel
theorem dX15_failsOrder_3 : decode cX15_failsOrder 3 = .ok (.aload_n 0, 1) := by decide +kernel
theorem dX15_failsOrder_4 : decode cX15_failsOrder 4 = .ok (.getfield 22, 3) := by decide +kernel
theorem dX15_failsOrder_7 : decode cX15_failsOrder 7 = .ok (.invokevirtual 44, 3) := by decide +kernel
theorem dX15_failsOrder_10 : decode cX15_failsOrder 10 = .ok (.iconst 1, 1) := by decide +kernel
theorem dX15_failsOrder_11 : decode cX15_failsOrder 11 = .ok (.isub, 1) := by decide +kernel
theorem dX15_failsOrder_12 : decode cX15_failsOrder 12 = .ok (.invokestatic 40, 3) := by decide +kernel
theorem dX15_failsOrder_15 : decode cX15_failsOrder 15 = .ok (.ifCond .eq 7, 3) := by decide +kernel
theorem dX15_failsOrder_18 : decode cX15_failsOrder 18 = .ok (.iconst 0, 1) := by decide +kernel
theorem dX15_failsOrder_19 : decode cX15_failsOrder 19 = .ok (.goto 4, 3) := by decide +kernel
theorem dX15_failsOrder_22 : decode cX15_failsOrder 22 = .ok (.iconst 1, 1) := by decide +kernel
theorem dX15_failsOrder_23 : decode cX15_failsOrder 23 = .ok (.invokevirtual 48, 3) := by decide +kernel
theorem dX15_failsOrder_26 : decode cX15_failsOrder 26 = .ok (.ireturn, 1) := by decide +kernel
theorem dX15_finishedAt_0 : decode cX15_finishedAt 0 = .ok (.aload_n 0, 1) := by decide +kernel
theorem dX15_finishedAt_1 : decode cX15_finishedAt 1 = .ok (.iload_n 1, 1) := by decide +kernel
theorem dX15_finishedAt_2 : decode cX15_finishedAt 2 = .ok (.invokevirtual 214, 3) := by decide +kernel
theorem dX15_finishedAt_5 : decode cX15_finishedAt 5 = .ok (.ifCond .ne 32, 3) := by decide +kernel
theorem dX15_finishedAt_8 : decode cX15_finishedAt 8 = .ok (.aload_n 0, 1) := by decide +kernel
theorem dX15_finishedAt_9 : decode cX15_finishedAt 9 = .ok (.aload_n 0, 1) := by decide +kernel
theorem dX15_finishedAt_10 : decode cX15_finishedAt 10 = .ok (.getfield 22, 3) := by decide +kernel
theorem dX15_finishedAt_13 : decode cX15_finishedAt 13 = .ok (.iload_n 1, 1) := by decide +kernel
theorem dX15_finishedAt_14 : decode cX15_finishedAt 14 = .ok (.invokevirtual 65, 3) := by decide +kernel
theorem dX15_finishedAt_17 : decode cX15_finishedAt 17 = .ok (.checkcast 136, 3) := by decide +kernel
theorem dX15_finishedAt_20 : decode cX15_finishedAt 20 = .ok (.getfield 255, 3) := by decide +kernel
theorem dX15_finishedAt_23 : decode cX15_finishedAt 23 = .ok (.ifCond .ge 7, 3) := by decide +kernel
theorem dX15_finishedAt_26 : decode cX15_finishedAt 26 = .ok (.iconst 2, 1) := by decide +kernel
theorem dX15_finishedAt_27 : decode cX15_finishedAt 27 = .ok (.goto 4, 3) := by decide +kernel
theorem dX15_finishedAt_30 : decode cX15_finishedAt 30 = .ok (.iconst 0, 1) := by decide +kernel
theorem dX15_finishedAt_31 : decode cX15_finishedAt 31 = .ok (.invokevirtual 48, 3) := by decide +kernel
theorem dX15_finishedAt_34 : decode cX15_finishedAt 34 = .ok (.ifCond .eq 7, 3) := by decide +kernel
theorem dX15_finishedAt_37 : decode cX15_finishedAt 37 = .ok (.iconst 0, 1) := by decide +kernel
theorem dX15_finishedAt_38 : decode cX15_finishedAt 38 = .ok (.goto 17, 3) := by decide +kernel
theorem dX15_finishedAt_41 : decode cX15_finishedAt 41 = .ok (.aload_n 0, 1) := by decide +kernel
theorem dX15_finishedAt_42 : decode cX15_finishedAt 42 = .ok (.getfield 22, 3) := by decide +kernel
theorem dX15_finishedAt_45 : decode cX15_finishedAt 45 = .ok (.iload_n 1, 1) := by decide +kernel
theorem dX15_finishedAt_46 : decode cX15_finishedAt 46 = .ok (.invokevirtual 65, 3) := by decide +kernel
theorem dX15_finishedAt_49 : decode cX15_finishedAt 49 = .ok (.checkcast 136, 3) := by decide +kernel
theorem dX15_finishedAt_52 : decode cX15_finishedAt 52 = .ok (.getfield 255, 3) := by decide +kernel
theorem dX15_finishedAt_55 : decode cX15_finishedAt 55 = .ok (.ireturn, 1) := by decide +kernel
theorem dX15_hold_0 : decode cX15_hold 0 = .ok (.aload_n 0, 1) := by decide +kernel
theorem dX15_hold_1 : decode cX15_hold 1 = .ok (.iload_n 1, 1) := by decide +kernel
theorem dX15_hold_2 : decode cX15_hold 2 = .ok (.invokevirtual 161, 3) := by decide +kernel
theorem dX15_hold_5 : decode cX15_hold 5 = .ok (.ifCond .eq 5, 3) := by decide +kernel
theorem dX15_hold_8 : decode cX15_hold 8 = .ok (.iconst 0, 1) := by decide +kernel
theorem dX15_hold_9 : decode cX15_hold 9 = .ok (.ireturn, 1) := by decide +kernel
theorem dX15_hold_10 : decode cX15_hold 10 = .ok (.aload_n 0, 1) := by decide +kernel
theorem dX15_hold_11 : decode cX15_hold 11 = .ok (.getfield 19, 3) := by decide +kernel
theorem dX15_hold_14 : decode cX15_hold 14 = .ok (.iload_n 1, 1) := by decide +kernel
theorem dX15_hold_15 : decode cX15_hold 15 = .ok (.invokevirtual 65, 3) := by decide +kernel
theorem dX15_hold_18 : decode cX15_hold 18 = .ok (.checkcast 82, 3) := by decide +kernel
theorem dX15_hold_21 : decode cX15_hold 21 = .ok (.iload_n 2, 1) := by decide +kernel
theorem dX15_hold_22 : decode cX15_hold 22 = .ok (.putfield 94, 3) := by decide +kernel
theorem dX15_hold_25 : decode cX15_hold 25 = .ok (.iload_n 2, 1) := by decide +kernel
theorem dX15_hold_26 : decode cX15_hold 26 = .ok (.ifCond .eq 10, 3) := by decide +kernel
theorem dX15_hold_29 : decode cX15_hold 29 = .ok (.aload_n 0, 1) := by decide +kernel
theorem dX15_hold_30 : decode cX15_hold 30 = .ok (.invokevirtual 164, 3) := by decide +kernel
theorem dX15_hold_33 : decode cX15_hold 33 = .ok (.goto 4, 3) := by decide +kernel
theorem dX15_hold_36 : decode cX15_hold 36 = .ok (.iconst 0, 1) := by decide +kernel
theorem dX15_hold_37 : decode cX15_hold 37 = .ok (.ireturn, 1) := by decide +kernel
theorem dX15_in_0 : decode cX15_in 0 = .ok (.iload_n 0, 1) := by decide +kernel
theorem dX15_in_1 : decode cX15_in 1 = .ok (.iload_n 1, 1) := by decide +kernel
theorem dX15_in_2 : decode cX15_in 2 = .ok (.if_icmp .lt 12, 3) := by decide +kernel
theorem dX15_in_5 : decode cX15_in 5 = .ok (.iload_n 0, 1) := by decide +kernel
theorem dX15_in_6 : decode cX15_in 6 = .ok (.iload_n 2, 1) := by decide +kernel
theorem dX15_in_7 : decode cX15_in 7 = .ok (.if_icmp .gt 7, 3) := by decide +kernel
theorem dX15_in_10 : decode cX15_in 10 = .ok (.iconst 1, 1) := by decide +kernel
theorem dX15_in_11 : decode cX15_in 11 = .ok (.goto 4, 3) := by decide +kernel
theorem dX15_in_14 : decode cX15_in 14 = .ok (.iconst 0, 1) := by decide +kernel
theorem dX15_in_15 : decode cX15_in 15 = .ok (.ireturn, 1) := by decide +kernel
theorem dX15_inTimeShare_0 : decode cX15_inTimeShare 0 = .ok (.iconst 0, 1) := by decide +kernel
theorem dX15_inTimeShare_1 : decode cX15_inTimeShare 1 = .ok (.istore_n 1, 1) := by decide +kernel
theorem dX15_inTimeShare_2 : decode cX15_inTimeShare 2 = .ok (.iconst 0, 1) := by decide +kernel
theorem dX15_inTimeShare_3 : decode cX15_inTimeShare 3 = .ok (.istore_n 2, 1) := by decide +kernel
theorem dX15_inTimeShare_4 : decode cX15_inTimeShare 4 = .ok (.aload_n 0, 1) := by decide +kernel
theorem dX15_inTimeShare_5 : decode cX15_inTimeShare 5 = .ok (.getfield 22, 3) := by decide +kernel
theorem dX15_inTimeShare_8 : decode cX15_inTimeShare 8 = .ok (.invokevirtual 123, 3) := by decide +kernel
theorem dX15_inTimeShare_11 : decode cX15_inTimeShare 11 = .ok (.astore_n 3, 1) := by decide +kernel
theorem dX15_inTimeShare_12 : decode cX15_inTimeShare 12 = .ok (.aload_n 3, 1) := by decide +kernel
theorem dX15_inTimeShare_13 : decode cX15_inTimeShare 13 = .ok (.invokeinterface 127 1, 5) := by decide +kernel
theorem dX15_inTimeShare_18 : decode cX15_inTimeShare 18 = .ok (.ifCond .eq 62, 3) := by decide +kernel
theorem dX15_inTimeShare_21 : decode cX15_inTimeShare 21 = .ok (.aload_n 3, 1) := by decide +kernel
theorem dX15_inTimeShare_22 : decode cX15_inTimeShare 22 = .ok (.invokeinterface 132 1, 5) := by decide +kernel
theorem dX15_inTimeShare_27 : decode cX15_inTimeShare 27 = .ok (.checkcast 136, 3) := by decide +kernel
theorem dX15_inTimeShare_30 : decode cX15_inTimeShare 30 = .ok (.astore 4, 2) := by decide +kernel
theorem dX15_inTimeShare_32 : decode cX15_inTimeShare 32 = .ok (.iload_n 1, 1) := by decide +kernel
theorem dX15_inTimeShare_33 : decode cX15_inTimeShare 33 = .ok (.aload 4, 2) := by decide +kernel
theorem dX15_inTimeShare_35 : decode cX15_inTimeShare 35 = .ok (.getfield 317, 3) := by decide +kernel
theorem dX15_inTimeShare_38 : decode cX15_inTimeShare 38 = .ok (.ifCond .lt 7, 3) := by decide +kernel
theorem dX15_inTimeShare_41 : decode cX15_inTimeShare 41 = .ok (.iconst 1, 1) := by decide +kernel
theorem dX15_inTimeShare_42 : decode cX15_inTimeShare 42 = .ok (.goto 4, 3) := by decide +kernel
theorem dX15_inTimeShare_45 : decode cX15_inTimeShare 45 = .ok (.iconst 0, 1) := by decide +kernel
theorem dX15_inTimeShare_46 : decode cX15_inTimeShare 46 = .ok (.iadd, 1) := by decide +kernel
theorem dX15_inTimeShare_47 : decode cX15_inTimeShare 47 = .ok (.istore_n 1, 1) := by decide +kernel
theorem dX15_inTimeShare_48 : decode cX15_inTimeShare 48 = .ok (.iload_n 2, 1) := by decide +kernel
theorem dX15_inTimeShare_49 : decode cX15_inTimeShare 49 = .ok (.aload 4, 2) := by decide +kernel
theorem dX15_inTimeShare_51 : decode cX15_inTimeShare 51 = .ok (.getfield 317, 3) := by decide +kernel
theorem dX15_inTimeShare_54 : decode cX15_inTimeShare 54 = .ok (.ifCond .lt 20, 3) := by decide +kernel
theorem dX15_inTimeShare_57 : decode cX15_inTimeShare 57 = .ok (.aload 4, 2) := by decide +kernel
theorem dX15_inTimeShare_59 : decode cX15_inTimeShare 59 = .ok (.getfield 317, 3) := by decide +kernel
theorem dX15_inTimeShare_62 : decode cX15_inTimeShare 62 = .ok (.aload 4, 2) := by decide +kernel
theorem dX15_inTimeShare_64 : decode cX15_inTimeShare 64 = .ok (.getfield 269, 3) := by decide +kernel
theorem dX15_inTimeShare_67 : decode cX15_inTimeShare 67 = .ok (.if_icmp .gt 7, 3) := by decide +kernel
theorem dX15_inTimeShare_70 : decode cX15_inTimeShare 70 = .ok (.iconst 1, 1) := by decide +kernel
theorem dX15_inTimeShare_71 : decode cX15_inTimeShare 71 = .ok (.goto 4, 3) := by decide +kernel
theorem dX15_inTimeShare_74 : decode cX15_inTimeShare 74 = .ok (.iconst 0, 1) := by decide +kernel
theorem dX15_inTimeShare_75 : decode cX15_inTimeShare 75 = .ok (.iadd, 1) := by decide +kernel
theorem dX15_inTimeShare_76 : decode cX15_inTimeShare 76 = .ok (.istore_n 2, 1) := by decide +kernel
theorem dX15_inTimeShare_77 : decode cX15_inTimeShare 77 = .ok (.goto (-65), 3) := by decide +kernel
theorem dX15_inTimeShare_80 : decode cX15_inTimeShare 80 = .ok (.aload_n 0, 1) := by decide +kernel
theorem dX15_inTimeShare_81 : decode cX15_inTimeShare 81 = .ok (.iload_n 1, 1) := by decide +kernel
theorem dX15_inTimeShare_82 : decode cX15_inTimeShare 82 = .ok (.ifCond .ne 7, 3) := by decide +kernel
theorem dX15_inTimeShare_85 : decode cX15_inTimeShare 85 = .ok (.iconst 1, 1) := by decide +kernel
theorem dX15_inTimeShare_86 : decode cX15_inTimeShare 86 = .ok (.goto 4, 3) := by decide +kernel
theorem dX15_inTimeShare_89 : decode cX15_inTimeShare 89 = .ok (.iconst 0, 1) := by decide +kernel
theorem dX15_inTimeShare_90 : decode cX15_inTimeShare 90 = .ok (.invokevirtual 48, 3) := by decide +kernel
theorem dX15_inTimeShare_93 : decode cX15_inTimeShare 93 = .ok (.ifCond .eq 7, 3) := by decide +kernel
theorem dX15_inTimeShare_96 : decode cX15_inTimeShare 96 = .ok (.fconst 0, 1) := by decide +kernel
theorem dX15_inTimeShare_97 : decode cX15_inTimeShare 97 = .ok (.goto 8, 3) := by decide +kernel
theorem dX15_inTimeShare_100 : decode cX15_inTimeShare 100 = .ok (.iload_n 2, 1) := by decide +kernel
theorem dX15_inTimeShare_101 : decode cX15_inTimeShare 101 = .ok (.i2f, 1) := by decide +kernel
theorem dX15_inTimeShare_102 : decode cX15_inTimeShare 102 = .ok (.iload_n 1, 1) := by decide +kernel
theorem dX15_inTimeShare_103 : decode cX15_inTimeShare 103 = .ok (.i2f, 1) := by decide +kernel
theorem dX15_inTimeShare_104 : decode cX15_inTimeShare 104 = .ok (.fdiv, 1) := by decide +kernel
theorem dX15_inTimeShare_105 : decode cX15_inTimeShare 105 = .ok (.freturn, 1) := by decide +kernel
theorem dX15_init_0 : decode cX15_init 0 = .ok (.aload_n 0, 1) := by decide +kernel
theorem dX15_init_1 : decode cX15_init 1 = .ok (.invokespecial 1, 3) := by decide +kernel
theorem dX15_init_4 : decode cX15_init 4 = .ok (.aload_n 0, 1) := by decide +kernel
theorem dX15_init_5 : decode cX15_init 5 = .ok (.new 7, 3) := by decide +kernel
theorem dX15_init_8 : decode cX15_init 8 = .ok (.dup, 1) := by decide +kernel
theorem dX15_init_9 : decode cX15_init 9 = .ok (.invokespecial 9, 3) := by decide +kernel
theorem dX15_init_12 : decode cX15_init 12 = .ok (.putfield 10, 3) := by decide +kernel
theorem dX15_init_15 : decode cX15_init 15 = .ok (.aload_n 0, 1) := by decide +kernel
theorem dX15_init_16 : decode cX15_init 16 = .ok (.new 7, 3) := by decide +kernel
theorem dX15_init_19 : decode cX15_init 19 = .ok (.dup, 1) := by decide +kernel
theorem dX15_init_20 : decode cX15_init 20 = .ok (.invokespecial 9, 3) := by decide +kernel
theorem dX15_init_23 : decode cX15_init 23 = .ok (.putfield 16, 3) := by decide +kernel
theorem dX15_init_26 : decode cX15_init 26 = .ok (.aload_n 0, 1) := by decide +kernel
theorem dX15_init_27 : decode cX15_init 27 = .ok (.new 7, 3) := by decide +kernel
theorem dX15_init_30 : decode cX15_init 30 = .ok (.dup, 1) := by decide +kernel
theorem dX15_init_31 : decode cX15_init 31 = .ok (.invokespecial 9, 3) := by decide +kernel
theorem dX15_init_34 : decode cX15_init 34 = .ok (.putfield 19, 3) := by decide +kernel
theorem dX15_init_37 : decode cX15_init 37 = .ok (.aload_n 0, 1) := by decide +kernel
theorem dX15_init_38 : decode cX15_init 38 = .ok (.new 7, 3) := by decide +kernel
theorem dX15_init_41 : decode cX15_init 41 = .ok (.dup, 1) := by decide +kernel
theorem dX15_init_42 : decode cX15_init 42 = .ok (.invokespecial 9, 3) := by decide +kernel
theorem dX15_init_45 : decode cX15_init 45 = .ok (.putfield 22, 3) := by decide +kernel
theorem dX15_init_48 : decode cX15_init 48 = .ok (.aload_n 0, 1) := by decide +kernel
theorem dX15_init_49 : decode cX15_init 49 = .ok (.iconst 4, 1) := by decide +kernel
theorem dX15_init_50 : decode cX15_init 50 = .ok (.newarray .char, 2) := by decide +kernel
theorem dX15_init_52 : decode cX15_init 52 = .ok (.dup, 1) := by decide +kernel
theorem dX15_init_53 : decode cX15_init 53 = .ok (.iconst 0, 1) := by decide +kernel
theorem dX15_init_54 : decode cX15_init 54 = .ok (.bipush 110, 2) := by decide +kernel
theorem dX15_init_56 : decode cX15_init 56 = .ok (.castore, 1) := by decide +kernel
theorem dX15_init_57 : decode cX15_init 57 = .ok (.dup, 1) := by decide +kernel
theorem dX15_init_58 : decode cX15_init 58 = .ok (.iconst 1, 1) := by decide +kernel
theorem dX15_init_59 : decode cX15_init 59 = .ok (.bipush 110, 2) := by decide +kernel
theorem dX15_init_61 : decode cX15_init 61 = .ok (.castore, 1) := by decide +kernel
theorem dX15_init_62 : decode cX15_init 62 = .ok (.dup, 1) := by decide +kernel
theorem dX15_init_63 : decode cX15_init 63 = .ok (.iconst 2, 1) := by decide +kernel
theorem dX15_init_64 : decode cX15_init 64 = .ok (.bipush 110, 2) := by decide +kernel
theorem dX15_init_66 : decode cX15_init 66 = .ok (.castore, 1) := by decide +kernel
theorem dX15_init_67 : decode cX15_init 67 = .ok (.dup, 1) := by decide +kernel
theorem dX15_init_68 : decode cX15_init 68 = .ok (.iconst 3, 1) := by decide +kernel
theorem dX15_init_69 : decode cX15_init 69 = .ok (.bipush 110, 2) := by decide +kernel
theorem dX15_init_71 : decode cX15_init 71 = .ok (.castore, 1) := by decide +kernel
theorem dX15_init_72 : decode cX15_init 72 = .ok (.putfield 25, 3) := by decide +kernel
theorem dX15_init_75 : decode cX15_init 75 = .ok (.aload_n 0, 1) := by decide +kernel
theorem dX15_init_76 : decode cX15_init 76 = .ok (.new 7, 3) := by decide +kernel
theorem dX15_init_79 : decode cX15_init 79 = .ok (.dup, 1) := by decide +kernel
theorem dX15_init_80 : decode cX15_init 80 = .ok (.invokespecial 9, 3) := by decide +kernel
theorem dX15_init_83 : decode cX15_init 83 = .ok (.putfield 29, 3) := by decide +kernel
theorem dX15_init_86 : decode cX15_init 86 = .ok (.iconst 0, 1) := by decide +kernel
theorem dX15_init_87 : decode cX15_init 87 = .ok (.istore_n 1, 1) := by decide +kernel
theorem dX15_init_88 : decode cX15_init 88 = .ok (.iload_n 1, 1) := by decide +kernel
theorem dX15_init_89 : decode cX15_init 89 = .ok (.iconst 4, 1) := by decide +kernel
theorem dX15_init_90 : decode cX15_init 90 = .ok (.if_icmp .ge 24, 3) := by decide +kernel
theorem dX15_init_93 : decode cX15_init 93 = .ok (.aload_n 0, 1) := by decide +kernel
theorem dX15_init_94 : decode cX15_init 94 = .ok (.getfield 29, 3) := by decide +kernel
theorem dX15_init_97 : decode cX15_init 97 = .ok (.new 7, 3) := by decide +kernel
theorem dX15_init_100 : decode cX15_init 100 = .ok (.dup, 1) := by decide +kernel
theorem dX15_init_101 : decode cX15_init 101 = .ok (.invokespecial 9, 3) := by decide +kernel
theorem dX15_init_104 : decode cX15_init 104 = .ok (.invokevirtual 32, 3) := by decide +kernel
theorem dX15_init_107 : decode cX15_init 107 = .ok (.istore_n 2, 1) := by decide +kernel
theorem dX15_init_108 : decode cX15_init 108 = .ok (.iinc 1 1, 3) := by decide +kernel
theorem dX15_init_111 : decode cX15_init 111 = .ok (.goto (-23), 3) := by decide +kernel
theorem dX15_init_114 : decode cX15_init 114 = .ok (.return_, 1) := by decide +kernel
theorem dX15_isHeld_0 : decode cX15_isHeld 0 = .ok (.aload_n 0, 1) := by decide +kernel
theorem dX15_isHeld_1 : decode cX15_isHeld 1 = .ok (.iload_n 1, 1) := by decide +kernel
theorem dX15_isHeld_2 : decode cX15_isHeld 2 = .ok (.invokevirtual 161, 3) := by decide +kernel
theorem dX15_isHeld_5 : decode cX15_isHeld 5 = .ok (.ifCond .ne 24, 3) := by decide +kernel
theorem dX15_isHeld_8 : decode cX15_isHeld 8 = .ok (.aload_n 0, 1) := by decide +kernel
theorem dX15_isHeld_9 : decode cX15_isHeld 9 = .ok (.getfield 19, 3) := by decide +kernel
theorem dX15_isHeld_12 : decode cX15_isHeld 12 = .ok (.iload_n 1, 1) := by decide +kernel
theorem dX15_isHeld_13 : decode cX15_isHeld 13 = .ok (.invokevirtual 65, 3) := by decide +kernel
theorem dX15_isHeld_16 : decode cX15_isHeld 16 = .ok (.checkcast 82, 3) := by decide +kernel
theorem dX15_isHeld_19 : decode cX15_isHeld 19 = .ok (.invokevirtual 143, 3) := by decide +kernel
theorem dX15_isHeld_22 : decode cX15_isHeld 22 = .ok (.ifCond .eq 7, 3) := by decide +kernel
theorem dX15_isHeld_25 : decode cX15_isHeld 25 = .ok (.iconst 1, 1) := by decide +kernel
theorem dX15_isHeld_26 : decode cX15_isHeld 26 = .ok (.goto 4, 3) := by decide +kernel
theorem dX15_isHeld_29 : decode cX15_isHeld 29 = .ok (.iconst 0, 1) := by decide +kernel
theorem dX15_isHeld_30 : decode cX15_isHeld 30 = .ok (.ireturn, 1) := by decide +kernel
theorem dX15_isIn_0 : decode cX15_isIn 0 = .ok (.iload_n 1, 1) := by decide +kernel
theorem dX15_isIn_1 : decode cX15_isIn 1 = .ok (.iconst 0, 1) := by decide +kernel
theorem dX15_isIn_2 : decode cX15_isIn 2 = .ok (.aload_n 0, 1) := by decide +kernel
theorem dX15_isIn_3 : decode cX15_isIn 3 = .ok (.getfield 19, 3) := by decide +kernel
theorem dX15_isIn_6 : decode cX15_isIn 6 = .ok (.invokevirtual 44, 3) := by decide +kernel
theorem dX15_isIn_9 : decode cX15_isIn 9 = .ok (.iconst 1, 1) := by decide +kernel
theorem dX15_isIn_10 : decode cX15_isIn 10 = .ok (.isub, 1) := by decide +kernel
theorem dX15_isIn_11 : decode cX15_isIn 11 = .ok (.invokestatic 40, 3) := by decide +kernel
theorem dX15_isIn_14 : decode cX15_isIn 14 = .ok (.ifCond .eq 24, 3) := by decide +kernel
theorem dX15_isIn_17 : decode cX15_isIn 17 = .ok (.iload_n 2, 1) := by decide +kernel
theorem dX15_isIn_18 : decode cX15_isIn 18 = .ok (.iconst 0, 1) := by decide +kernel
theorem dX15_isIn_19 : decode cX15_isIn 19 = .ok (.aload_n 0, 1) := by decide +kernel
theorem dX15_isIn_20 : decode cX15_isIn 20 = .ok (.getfield 19, 3) := by decide +kernel
theorem dX15_isIn_23 : decode cX15_isIn 23 = .ok (.invokevirtual 44, 3) := by decide +kernel
theorem dX15_isIn_26 : decode cX15_isIn 26 = .ok (.iconst 1, 1) := by decide +kernel
theorem dX15_isIn_27 : decode cX15_isIn 27 = .ok (.isub, 1) := by decide +kernel
theorem dX15_isIn_28 : decode cX15_isIn 28 = .ok (.invokestatic 40, 3) := by decide +kernel
theorem dX15_isIn_31 : decode cX15_isIn 31 = .ok (.ifCond .eq 7, 3) := by decide +kernel
theorem dX15_isIn_34 : decode cX15_isIn 34 = .ok (.iconst 1, 1) := by decide +kernel
theorem dX15_isIn_35 : decode cX15_isIn 35 = .ok (.goto 4, 3) := by decide +kernel
theorem dX15_isIn_38 : decode cX15_isIn 38 = .ok (.iconst 0, 1) := by decide +kernel
theorem dX15_isIn_39 : decode cX15_isIn 39 = .ok (.istore_n 3, 1) := by decide +kernel
theorem dX15_isIn_40 : decode cX15_isIn 40 = .ok (.aload_n 0, 1) := by decide +kernel
theorem dX15_isIn_41 : decode cX15_isIn 41 = .ok (.iload_n 3, 1) := by decide +kernel
theorem dX15_isIn_42 : decode cX15_isIn 42 = .ok (.ifCond .eq 7, 3) := by decide +kernel
theorem dX15_isIn_45 : decode cX15_isIn 45 = .ok (.iconst 0, 1) := by decide +kernel
theorem dX15_isIn_46 : decode cX15_isIn 46 = .ok (.goto 4, 3) := by decide +kernel
theorem dX15_isIn_49 : decode cX15_isIn 49 = .ok (.iconst 1, 1) := by decide +kernel
theorem dX15_isIn_50 : decode cX15_isIn 50 = .ok (.invokevirtual 48, 3) := by decide +kernel
theorem dX15_isIn_53 : decode cX15_isIn 53 = .ok (.ifCond .ne 35, 3) := by decide +kernel
theorem dX15_isIn_56 : decode cX15_isIn 56 = .ok (.aload_n 0, 1) := by decide +kernel
theorem dX15_isIn_57 : decode cX15_isIn 57 = .ok (.getfield 19, 3) := by decide +kernel
theorem dX15_isIn_60 : decode cX15_isIn 60 = .ok (.iload_n 2, 1) := by decide +kernel
theorem dX15_isIn_61 : decode cX15_isIn 61 = .ok (.invokevirtual 65, 3) := by decide +kernel
theorem dX15_isIn_64 : decode cX15_isIn 64 = .ok (.checkcast 82, 3) := by decide +kernel
theorem dX15_isIn_67 : decode cX15_isIn 67 = .ok (.aload_n 0, 1) := by decide +kernel
theorem dX15_isIn_68 : decode cX15_isIn 68 = .ok (.getfield 19, 3) := by decide +kernel
theorem dX15_isIn_71 : decode cX15_isIn 71 = .ok (.iload_n 1, 1) := by decide +kernel
theorem dX15_isIn_72 : decode cX15_isIn 72 = .ok (.invokevirtual 65, 3) := by decide +kernel
theorem dX15_isIn_75 : decode cX15_isIn 75 = .ok (.checkcast 82, 3) := by decide +kernel
theorem dX15_isIn_78 : decode cX15_isIn 78 = .ok (.invokevirtual 323, 3) := by decide +kernel
theorem dX15_isIn_81 : decode cX15_isIn 81 = .ok (.ifCond .eq 7, 3) := by decide +kernel
theorem dX15_isIn_84 : decode cX15_isIn 84 = .ok (.iconst 1, 1) := by decide +kernel
theorem dX15_isIn_85 : decode cX15_isIn 85 = .ok (.goto 4, 3) := by decide +kernel
theorem dX15_isIn_88 : decode cX15_isIn 88 = .ok (.iconst 0, 1) := by decide +kernel
theorem dX15_isIn_89 : decode cX15_isIn 89 = .ok (.ireturn, 1) := by decide +kernel
theorem dX15_isMachine_0 : decode cX15_isMachine 0 = .ok (.iload_n 1, 1) := by decide +kernel
theorem dX15_isMachine_1 : decode cX15_isMachine 1 = .ok (.iconst 0, 1) := by decide +kernel
theorem dX15_isMachine_2 : decode cX15_isMachine 2 = .ok (.aload_n 0, 1) := by decide +kernel
theorem dX15_isMachine_3 : decode cX15_isMachine 3 = .ok (.getfield 10, 3) := by decide +kernel
theorem dX15_isMachine_6 : decode cX15_isMachine 6 = .ok (.invokevirtual 44, 3) := by decide +kernel
theorem dX15_isMachine_9 : decode cX15_isMachine 9 = .ok (.iconst 1, 1) := by decide +kernel
theorem dX15_isMachine_10 : decode cX15_isMachine 10 = .ok (.isub, 1) := by decide +kernel
theorem dX15_isMachine_11 : decode cX15_isMachine 11 = .ok (.invokestatic 40, 3) := by decide +kernel
theorem dX15_isMachine_14 : decode cX15_isMachine 14 = .ok (.ireturn, 1) := by decide +kernel
theorem dX15_isPart_0 : decode cX15_isPart 0 = .ok (.iload_n 1, 1) := by decide +kernel
theorem dX15_isPart_1 : decode cX15_isPart 1 = .ok (.iconst 0, 1) := by decide +kernel
theorem dX15_isPart_2 : decode cX15_isPart 2 = .ok (.aload_n 0, 1) := by decide +kernel
theorem dX15_isPart_3 : decode cX15_isPart 3 = .ok (.getfield 16, 3) := by decide +kernel
theorem dX15_isPart_6 : decode cX15_isPart 6 = .ok (.invokevirtual 44, 3) := by decide +kernel
theorem dX15_isPart_9 : decode cX15_isPart 9 = .ok (.iconst 1, 1) := by decide +kernel
theorem dX15_isPart_10 : decode cX15_isPart 10 = .ok (.isub, 1) := by decide +kernel
theorem dX15_isPart_11 : decode cX15_isPart 11 = .ok (.invokestatic 40, 3) := by decide +kernel
theorem dX15_isPart_14 : decode cX15_isPart 14 = .ok (.ireturn, 1) := by decide +kernel
theorem dX15_isSound_0 : decode cX15_isSound 0 = .ok (.aload_n 0, 1) := by decide +kernel
theorem dX15_isSound_1 : decode cX15_isSound 1 = .ok (.iconst 0, 1) := by decide +kernel
theorem dX15_isSound_2 : decode cX15_isSound 2 = .ok (.putfield 36, 3) := by decide +kernel
theorem dX15_isSound_5 : decode cX15_isSound 5 = .ok (.iconst 1, 1) := by decide +kernel
theorem dX15_isSound_6 : decode cX15_isSound 6 = .ok (.ireturn, 1) := by decide +kernel
theorem dX15_lotOf_0 : decode cX15_lotOf 0 = .ok (.aload_n 0, 1) := by decide +kernel
theorem dX15_lotOf_1 : decode cX15_lotOf 1 = .ok (.iload_n 1, 1) := by decide +kernel
theorem dX15_lotOf_2 : decode cX15_lotOf 2 = .ok (.invokevirtual 214, 3) := by decide +kernel
theorem dX15_lotOf_5 : decode cX15_lotOf 5 = .ok (.ifCond .ne 32, 3) := by decide +kernel
theorem dX15_lotOf_8 : decode cX15_lotOf 8 = .ok (.aload_n 0, 1) := by decide +kernel
theorem dX15_lotOf_9 : decode cX15_lotOf 9 = .ok (.aload_n 0, 1) := by decide +kernel
theorem dX15_lotOf_10 : decode cX15_lotOf 10 = .ok (.getfield 22, 3) := by decide +kernel
theorem dX15_lotOf_13 : decode cX15_lotOf 13 = .ok (.iload_n 1, 1) := by decide +kernel
theorem dX15_lotOf_14 : decode cX15_lotOf 14 = .ok (.invokevirtual 65, 3) := by decide +kernel
theorem dX15_lotOf_17 : decode cX15_lotOf 17 = .ok (.checkcast 136, 3) := by decide +kernel
theorem dX15_lotOf_20 : decode cX15_lotOf 20 = .ok (.getfield 258, 3) := by decide +kernel
theorem dX15_lotOf_23 : decode cX15_lotOf 23 = .ok (.ifnonnull 7, 3) := by decide +kernel
theorem dX15_lotOf_26 : decode cX15_lotOf 26 = .ok (.iconst 2, 1) := by decide +kernel
theorem dX15_lotOf_27 : decode cX15_lotOf 27 = .ok (.goto 4, 3) := by decide +kernel
theorem dX15_lotOf_30 : decode cX15_lotOf 30 = .ok (.iconst 0, 1) := by decide +kernel
theorem dX15_lotOf_31 : decode cX15_lotOf 31 = .ok (.invokevirtual 48, 3) := by decide +kernel
theorem dX15_lotOf_34 : decode cX15_lotOf 34 = .ok (.ifCond .eq 7, 3) := by decide +kernel
theorem dX15_lotOf_37 : decode cX15_lotOf 37 = .ok (.iconst 0, 1) := by decide +kernel
theorem dX15_lotOf_38 : decode cX15_lotOf 38 = .ok (.goto 20, 3) := by decide +kernel
theorem dX15_lotOf_41 : decode cX15_lotOf 41 = .ok (.aload_n 0, 1) := by decide +kernel
theorem dX15_lotOf_42 : decode cX15_lotOf 42 = .ok (.getfield 22, 3) := by decide +kernel
theorem dX15_lotOf_45 : decode cX15_lotOf 45 = .ok (.iload_n 1, 1) := by decide +kernel
theorem dX15_lotOf_46 : decode cX15_lotOf 46 = .ok (.invokevirtual 65, 3) := by decide +kernel
theorem dX15_lotOf_49 : decode cX15_lotOf 49 = .ok (.checkcast 136, 3) := by decide +kernel
theorem dX15_lotOf_52 : decode cX15_lotOf 52 = .ok (.getfield 258, 3) := by decide +kernel
theorem dX15_lotOf_55 : decode cX15_lotOf 55 = .ok (.getfield 110, 3) := by decide +kernel
theorem dX15_lotOf_58 : decode cX15_lotOf 58 = .ok (.ireturn, 1) := by decide +kernel
theorem dX15_lots_0 : decode cX15_lots 0 = .ok (.aload_n 0, 1) := by decide +kernel
theorem dX15_lots_1 : decode cX15_lots 1 = .ok (.iconst 0, 1) := by decide +kernel
theorem dX15_lots_2 : decode cX15_lots 2 = .ok (.putfield 36, 3) := by decide +kernel
theorem dX15_lots_5 : decode cX15_lots 5 = .ok (.aload_n 0, 1) := by decide +kernel
theorem dX15_lots_6 : decode cX15_lots 6 = .ok (.getfield 19, 3) := by decide +kernel
theorem dX15_lots_9 : decode cX15_lots 9 = .ok (.invokevirtual 44, 3) := by decide +kernel
theorem dX15_lots_12 : decode cX15_lots 12 = .ok (.ireturn, 1) := by decide +kernel
theorem dX15_lotsIn_0 : decode cX15_lotsIn 0 = .ok (.aload_n 0, 1) := by decide +kernel
theorem dX15_lotsIn_1 : decode cX15_lotsIn 1 = .ok (.iload_n 1, 1) := by decide +kernel
theorem dX15_lotsIn_2 : decode cX15_lotsIn 2 = .ok (.invokevirtual 214, 3) := by decide +kernel
theorem dX15_lotsIn_5 : decode cX15_lotsIn 5 = .ok (.ifCond .eq 5, 3) := by decide +kernel
theorem dX15_lotsIn_8 : decode cX15_lotsIn 8 = .ok (.iconst 0, 1) := by decide +kernel
theorem dX15_lotsIn_9 : decode cX15_lotsIn 9 = .ok (.ireturn, 1) := by decide +kernel
theorem dX15_lotsIn_10 : decode cX15_lotsIn 10 = .ok (.iconst 0, 1) := by decide +kernel
theorem dX15_lotsIn_11 : decode cX15_lotsIn 11 = .ok (.istore_n 2, 1) := by decide +kernel
theorem dX15_lotsIn_12 : decode cX15_lotsIn 12 = .ok (.aload_n 0, 1) := by decide +kernel
theorem dX15_lotsIn_13 : decode cX15_lotsIn 13 = .ok (.getfield 19, 3) := by decide +kernel
theorem dX15_lotsIn_16 : decode cX15_lotsIn 16 = .ok (.invokevirtual 123, 3) := by decide +kernel
theorem dX15_lotsIn_19 : decode cX15_lotsIn 19 = .ok (.astore_n 3, 1) := by decide +kernel
theorem dX15_lotsIn_20 : decode cX15_lotsIn 20 = .ok (.aload_n 3, 1) := by decide +kernel
theorem dX15_lotsIn_21 : decode cX15_lotsIn 21 = .ok (.invokeinterface 127 1, 5) := by decide +kernel
theorem dX15_lotsIn_26 : decode cX15_lotsIn 26 = .ok (.ifCond .eq 44, 3) := by decide +kernel
theorem dX15_lotsIn_29 : decode cX15_lotsIn 29 = .ok (.aload_n 3, 1) := by decide +kernel
theorem dX15_lotsIn_30 : decode cX15_lotsIn 30 = .ok (.invokeinterface 132 1, 5) := by decide +kernel
theorem dX15_lotsIn_35 : decode cX15_lotsIn 35 = .ok (.checkcast 82, 3) := by decide +kernel
theorem dX15_lotsIn_38 : decode cX15_lotsIn 38 = .ok (.astore 4, 2) := by decide +kernel
theorem dX15_lotsIn_40 : decode cX15_lotsIn 40 = .ok (.iload_n 2, 1) := by decide +kernel
theorem dX15_lotsIn_41 : decode cX15_lotsIn 41 = .ok (.aload 4, 2) := by decide +kernel
theorem dX15_lotsIn_43 : decode cX15_lotsIn 43 = .ok (.aload_n 0, 1) := by decide +kernel
theorem dX15_lotsIn_44 : decode cX15_lotsIn 44 = .ok (.getfield 22, 3) := by decide +kernel
theorem dX15_lotsIn_47 : decode cX15_lotsIn 47 = .ok (.iload_n 1, 1) := by decide +kernel
theorem dX15_lotsIn_48 : decode cX15_lotsIn 48 = .ok (.invokevirtual 65, 3) := by decide +kernel
theorem dX15_lotsIn_51 : decode cX15_lotsIn 51 = .ok (.checkcast 136, 3) := by decide +kernel
theorem dX15_lotsIn_54 : decode cX15_lotsIn 54 = .ok (.invokestatic 327, 3) := by decide +kernel
theorem dX15_lotsIn_57 : decode cX15_lotsIn 57 = .ok (.ifCond .eq 7, 3) := by decide +kernel
theorem dX15_lotsIn_60 : decode cX15_lotsIn 60 = .ok (.iconst 1, 1) := by decide +kernel
theorem dX15_lotsIn_61 : decode cX15_lotsIn 61 = .ok (.goto 4, 3) := by decide +kernel
theorem dX15_lotsIn_64 : decode cX15_lotsIn 64 = .ok (.iconst 0, 1) := by decide +kernel
theorem dX15_lotsIn_65 : decode cX15_lotsIn 65 = .ok (.iadd, 1) := by decide +kernel
theorem dX15_lotsIn_66 : decode cX15_lotsIn 66 = .ok (.istore_n 2, 1) := by decide +kernel
theorem dX15_lotsIn_67 : decode cX15_lotsIn 67 = .ok (.goto (-47), 3) := by decide +kernel
theorem dX15_lotsIn_70 : decode cX15_lotsIn 70 = .ok (.iload_n 2, 1) := by decide +kernel
theorem dX15_lotsIn_71 : decode cX15_lotsIn 71 = .ok (.ireturn, 1) := by decide +kernel
theorem dX15_machineIs_0 : decode cX15_machineIs 0 = .ok (.aload_n 0, 1) := by decide +kernel
theorem dX15_machineIs_1 : decode cX15_machineIs 1 = .ok (.iload_n 1, 1) := by decide +kernel
theorem dX15_machineIs_2 : decode cX15_machineIs 2 = .ok (.invokevirtual 320, 3) := by decide +kernel
theorem dX15_machineIs_5 : decode cX15_machineIs 5 = .ok (.ifCond .eq 7, 3) := by decide +kernel
theorem dX15_machineIs_8 : decode cX15_machineIs 8 = .ok (.iconst 0, 1) := by decide +kernel
theorem dX15_machineIs_9 : decode cX15_machineIs 9 = .ok (.goto 17, 3) := by decide +kernel
theorem dX15_machineIs_12 : decode cX15_machineIs 12 = .ok (.aload_n 0, 1) := by decide +kernel
theorem dX15_machineIs_13 : decode cX15_machineIs 13 = .ok (.getfield 10, 3) := by decide +kernel
theorem dX15_machineIs_16 : decode cX15_machineIs 16 = .ok (.iload_n 1, 1) := by decide +kernel
theorem dX15_machineIs_17 : decode cX15_machineIs 17 = .ok (.invokevirtual 65, 3) := by decide +kernel
theorem dX15_machineIs_20 : decode cX15_machineIs 20 = .ok (.checkcast 52, 3) := by decide +kernel
theorem dX15_machineIs_23 : decode cX15_machineIs 23 = .ok (.getfield 242, 3) := by decide +kernel
theorem dX15_machineIs_26 : decode cX15_machineIs 26 = .ok (.ireturn, 1) := by decide +kernel
theorem dX15_meanBusy_0 : decode cX15_meanBusy 0 = .ok (.iconst 0, 1) := by decide +kernel
theorem dX15_meanBusy_1 : decode cX15_meanBusy 1 = .ok (.istore_n 1, 1) := by decide +kernel
theorem dX15_meanBusy_2 : decode cX15_meanBusy 2 = .ok (.aload_n 0, 1) := by decide +kernel
theorem dX15_meanBusy_3 : decode cX15_meanBusy 3 = .ok (.getfield 10, 3) := by decide +kernel
theorem dX15_meanBusy_6 : decode cX15_meanBusy 6 = .ok (.invokevirtual 123, 3) := by decide +kernel
theorem dX15_meanBusy_9 : decode cX15_meanBusy 9 = .ok (.astore_n 2, 1) := by decide +kernel
theorem dX15_meanBusy_10 : decode cX15_meanBusy 10 = .ok (.aload_n 2, 1) := by decide +kernel
theorem dX15_meanBusy_11 : decode cX15_meanBusy 11 = .ok (.invokeinterface 127 1, 5) := by decide +kernel
theorem dX15_meanBusy_16 : decode cX15_meanBusy 16 = .ok (.ifCond .eq 46, 3) := by decide +kernel
theorem dX15_meanBusy_19 : decode cX15_meanBusy 19 = .ok (.aload_n 2, 1) := by decide +kernel
theorem dX15_meanBusy_20 : decode cX15_meanBusy 20 = .ok (.invokeinterface 132 1, 5) := by decide +kernel
theorem dX15_meanBusy_25 : decode cX15_meanBusy 25 = .ok (.checkcast 52, 3) := by decide +kernel
theorem dX15_meanBusy_28 : decode cX15_meanBusy 28 = .ok (.astore_n 3, 1) := by decide +kernel
theorem dX15_meanBusy_29 : decode cX15_meanBusy 29 = .ok (.iload_n 1, 1) := by decide +kernel
theorem dX15_meanBusy_30 : decode cX15_meanBusy 30 = .ok (.aload_n 3, 1) := by decide +kernel
theorem dX15_meanBusy_31 : decode cX15_meanBusy 31 = .ok (.getfield 292, 3) := by decide +kernel
theorem dX15_meanBusy_34 : decode cX15_meanBusy 34 = .ok (.aload_n 3, 1) := by decide +kernel
theorem dX15_meanBusy_35 : decode cX15_meanBusy 35 = .ok (.getfield 242, 3) := by decide +kernel
theorem dX15_meanBusy_38 : decode cX15_meanBusy 38 = .ok (.bipush 111, 2) := by decide +kernel
theorem dX15_meanBusy_40 : decode cX15_meanBusy 40 = .ok (.if_icmp .ne 15, 3) := by decide +kernel
theorem dX15_meanBusy_43 : decode cX15_meanBusy 43 = .ok (.aload_n 0, 1) := by decide +kernel
theorem dX15_meanBusy_44 : decode cX15_meanBusy 44 = .ok (.getfield 252, 3) := by decide +kernel
theorem dX15_meanBusy_47 : decode cX15_meanBusy 47 = .ok (.aload_n 3, 1) := by decide +kernel
theorem dX15_meanBusy_48 : decode cX15_meanBusy 48 = .ok (.getfield 283, 3) := by decide +kernel
theorem dX15_meanBusy_51 : decode cX15_meanBusy 51 = .ok (.isub, 1) := by decide +kernel
theorem dX15_meanBusy_52 : decode cX15_meanBusy 52 = .ok (.goto 4, 3) := by decide +kernel
theorem dX15_meanBusy_55 : decode cX15_meanBusy 55 = .ok (.iconst 0, 1) := by decide +kernel
theorem dX15_meanBusy_56 : decode cX15_meanBusy 56 = .ok (.iadd, 1) := by decide +kernel
theorem dX15_meanBusy_57 : decode cX15_meanBusy 57 = .ok (.iadd, 1) := by decide +kernel
theorem dX15_meanBusy_58 : decode cX15_meanBusy 58 = .ok (.istore_n 1, 1) := by decide +kernel
theorem dX15_meanBusy_59 : decode cX15_meanBusy 59 = .ok (.goto (-49), 3) := by decide +kernel
theorem dX15_meanBusy_62 : decode cX15_meanBusy 62 = .ok (.aload_n 0, 1) := by decide +kernel
theorem dX15_meanBusy_63 : decode cX15_meanBusy 63 = .ok (.aload_n 0, 1) := by decide +kernel
theorem dX15_meanBusy_64 : decode cX15_meanBusy 64 = .ok (.getfield 10, 3) := by decide +kernel
theorem dX15_meanBusy_67 : decode cX15_meanBusy 67 = .ok (.invokevirtual 331, 3) := by decide +kernel
theorem dX15_meanBusy_70 : decode cX15_meanBusy 70 = .ok (.ifCond .eq 7, 3) := by decide +kernel
theorem dX15_meanBusy_73 : decode cX15_meanBusy 73 = .ok (.iconst 1, 1) := by decide +kernel
theorem dX15_meanBusy_74 : decode cX15_meanBusy 74 = .ok (.goto 4, 3) := by decide +kernel
theorem dX15_meanBusy_77 : decode cX15_meanBusy 77 = .ok (.iconst 0, 1) := by decide +kernel
theorem dX15_meanBusy_78 : decode cX15_meanBusy 78 = .ok (.invokevirtual 48, 3) := by decide +kernel
theorem dX15_meanBusy_81 : decode cX15_meanBusy 81 = .ok (.ifCond .eq 7, 3) := by decide +kernel
theorem dX15_meanBusy_84 : decode cX15_meanBusy 84 = .ok (.dconst 0, 1) := by decide +kernel
theorem dX15_meanBusy_85 : decode cX15_meanBusy 85 = .ok (.goto 14, 3) := by decide +kernel
theorem dX15_meanBusy_88 : decode cX15_meanBusy 88 = .ok (.iload_n 1, 1) := by decide +kernel
theorem dX15_meanBusy_89 : decode cX15_meanBusy 89 = .ok (.i2d, 1) := by decide +kernel
theorem dX15_meanBusy_90 : decode cX15_meanBusy 90 = .ok (.aload_n 0, 1) := by decide +kernel
theorem dX15_meanBusy_91 : decode cX15_meanBusy 91 = .ok (.getfield 10, 3) := by decide +kernel
theorem dX15_meanBusy_94 : decode cX15_meanBusy 94 = .ok (.invokevirtual 44, 3) := by decide +kernel
theorem dX15_meanBusy_97 : decode cX15_meanBusy 97 = .ok (.i2d, 1) := by decide +kernel
theorem dX15_meanBusy_98 : decode cX15_meanBusy 98 = .ok (.ddiv, 1) := by decide +kernel
theorem dX15_meanBusy_99 : decode cX15_meanBusy 99 = .ok (.dreturn, 1) := by decide +kernel
theorem dX15_measure_0 : decode cX15_measure 0 = .ok (.aload_n 0, 1) := by decide +kernel
theorem dX15_measure_1 : decode cX15_measure 1 = .ok (.iload_n 1, 1) := by decide +kernel
theorem dX15_measure_2 : decode cX15_measure 2 = .ok (.invokevirtual 161, 3) := by decide +kernel
theorem dX15_measure_5 : decode cX15_measure 5 = .ok (.ifCond .ne 26, 3) := by decide +kernel
theorem dX15_measure_8 : decode cX15_measure 8 = .ok (.aload_n 0, 1) := by decide +kernel
theorem dX15_measure_9 : decode cX15_measure 9 = .ok (.iload_n 2, 1) := by decide +kernel
theorem dX15_measure_10 : decode cX15_measure 10 = .ok (.iconst 0, 1) := by decide +kernel
theorem dX15_measure_11 : decode cX15_measure 11 = .ok (.sipush 2000, 3) := by decide +kernel
theorem dX15_measure_14 : decode cX15_measure 14 = .ok (.invokestatic 40, 3) := by decide +kernel
theorem dX15_measure_17 : decode cX15_measure 17 = .ok (.ifCond .eq 7, 3) := by decide +kernel
theorem dX15_measure_20 : decode cX15_measure 20 = .ok (.iconst 0, 1) := by decide +kernel
theorem dX15_measure_21 : decode cX15_measure 21 = .ok (.goto 4, 3) := by decide +kernel
theorem dX15_measure_24 : decode cX15_measure 24 = .ok (.iconst 2, 1) := by decide +kernel
theorem dX15_measure_25 : decode cX15_measure 25 = .ok (.invokevirtual 48, 3) := by decide +kernel
theorem dX15_measure_28 : decode cX15_measure 28 = .ok (.ifCond .eq 5, 3) := by decide +kernel
theorem dX15_measure_31 : decode cX15_measure 31 = .ok (.iconst 0, 1) := by decide +kernel
theorem dX15_measure_32 : decode cX15_measure 32 = .ok (.ireturn, 1) := by decide +kernel
theorem dX15_measure_33 : decode cX15_measure 33 = .ok (.aload_n 0, 1) := by decide +kernel
theorem dX15_measure_34 : decode cX15_measure 34 = .ok (.getfield 19, 3) := by decide +kernel
theorem dX15_measure_37 : decode cX15_measure 37 = .ok (.iload_n 1, 1) := by decide +kernel
theorem dX15_measure_38 : decode cX15_measure 38 = .ok (.invokevirtual 65, 3) := by decide +kernel
theorem dX15_measure_41 : decode cX15_measure 41 = .ok (.checkcast 82, 3) := by decide +kernel
theorem dX15_measure_44 : decode cX15_measure 44 = .ok (.astore_n 3, 1) := by decide +kernel
theorem dX15_measure_45 : decode cX15_measure 45 = .ok (.aload_n 0, 1) := by decide +kernel
theorem dX15_measure_46 : decode cX15_measure 46 = .ok (.getfield 16, 3) := by decide +kernel
theorem dX15_measure_49 : decode cX15_measure 49 = .ok (.aload_n 3, 1) := by decide +kernel
theorem dX15_measure_50 : decode cX15_measure 50 = .ok (.getfield 182, 3) := by decide +kernel
theorem dX15_measure_53 : decode cX15_measure 53 = .ok (.invokevirtual 65, 3) := by decide +kernel
theorem dX15_measure_56 : decode cX15_measure 56 = .ok (.checkcast 57, 3) := by decide +kernel
theorem dX15_measure_59 : decode cX15_measure 59 = .ok (.astore 4, 2) := by decide +kernel
theorem dX15_measure_61 : decode cX15_measure 61 = .ok (.aload 4, 2) := by decide +kernel
theorem dX15_measure_63 : decode cX15_measure 63 = .ok (.dup, 1) := by decide +kernel
theorem dX15_measure_64 : decode cX15_measure 64 = .ok (.getfield 179, 3) := by decide +kernel
theorem dX15_measure_67 : decode cX15_measure 67 = .ok (.iconst 1, 1) := by decide +kernel
theorem dX15_measure_68 : decode cX15_measure 68 = .ok (.iadd, 1) := by decide +kernel
theorem dX15_measure_69 : decode cX15_measure 69 = .ok (.putfield 179, 3) := by decide +kernel
theorem dX15_measure_72 : decode cX15_measure 72 = .ok (.aload 4, 2) := by decide +kernel
theorem dX15_measure_74 : decode cX15_measure 74 = .ok (.iload_n 2, 1) := by decide +kernel
theorem dX15_measure_75 : decode cX15_measure 75 = .ok (.aload 4, 2) := by decide +kernel
theorem dX15_measure_77 : decode cX15_measure 77 = .ok (.getfield 167, 3) := by decide +kernel
theorem dX15_measure_80 : decode cX15_measure 80 = .ok (.if_icmp .le 13, 3) := by decide +kernel
theorem dX15_measure_83 : decode cX15_measure 83 = .ok (.aload 4, 2) := by decide +kernel
theorem dX15_measure_85 : decode cX15_measure 85 = .ok (.getfield 173, 3) := by decide +kernel
theorem dX15_measure_88 : decode cX15_measure 88 = .ok (.iconst 1, 1) := by decide +kernel
theorem dX15_measure_89 : decode cX15_measure 89 = .ok (.iadd, 1) := by decide +kernel
theorem dX15_measure_90 : decode cX15_measure 90 = .ok (.goto 4, 3) := by decide +kernel
theorem dX15_measure_93 : decode cX15_measure 93 = .ok (.iconst 0, 1) := by decide +kernel
theorem dX15_measure_94 : decode cX15_measure 94 = .ok (.putfield 173, 3) := by decide +kernel
theorem dX15_measure_97 : decode cX15_measure 97 = .ok (.aload 4, 2) := by decide +kernel
theorem dX15_measure_99 : decode cX15_measure 99 = .ok (.iload_n 2, 1) := by decide +kernel
theorem dX15_measure_100 : decode cX15_measure 100 = .ok (.aload 4, 2) := by decide +kernel
theorem dX15_measure_102 : decode cX15_measure 102 = .ok (.getfield 167, 3) := by decide +kernel
theorem dX15_measure_105 : decode cX15_measure 105 = .ok (.if_icmp .ge 13, 3) := by decide +kernel
theorem dX15_measure_108 : decode cX15_measure 108 = .ok (.aload 4, 2) := by decide +kernel
theorem dX15_measure_110 : decode cX15_measure 110 = .ok (.getfield 176, 3) := by decide +kernel
theorem dX15_measure_113 : decode cX15_measure 113 = .ok (.iconst 1, 1) := by decide +kernel
theorem dX15_measure_114 : decode cX15_measure 114 = .ok (.iadd, 1) := by decide +kernel
theorem dX15_measure_115 : decode cX15_measure 115 = .ok (.goto 4, 3) := by decide +kernel
theorem dX15_measure_118 : decode cX15_measure 118 = .ok (.iconst 0, 1) := by decide +kernel
theorem dX15_measure_119 : decode cX15_measure 119 = .ok (.putfield 176, 3) := by decide +kernel
theorem dX15_measure_122 : decode cX15_measure 122 = .ok (.iload_n 2, 1) := by decide +kernel
theorem dX15_measure_123 : decode cX15_measure 123 = .ok (.aload 4, 2) := by decide +kernel
theorem dX15_measure_125 : decode cX15_measure 125 = .ok (.getfield 167, 3) := by decide +kernel
theorem dX15_measure_128 : decode cX15_measure 128 = .ok (.isub, 1) := by decide +kernel
theorem dX15_measure_129 : decode cX15_measure 129 = .ok (.invokestatic 185, 3) := by decide +kernel
theorem dX15_measure_132 : decode cX15_measure 132 = .ok (.aload 4, 2) := by decide +kernel
theorem dX15_measure_134 : decode cX15_measure 134 = .ok (.getfield 170, 3) := by decide +kernel
theorem dX15_measure_137 : decode cX15_measure 137 = .ok (.if_icmp .gt 21, 3) := by decide +kernel
theorem dX15_measure_140 : decode cX15_measure 140 = .ok (.aload 4, 2) := by decide +kernel
theorem dX15_measure_142 : decode cX15_measure 142 = .ok (.getfield 173, 3) := by decide +kernel
theorem dX15_measure_145 : decode cX15_measure 145 = .ok (.iconst 4, 1) := by decide +kernel
theorem dX15_measure_146 : decode cX15_measure 146 = .ok (.if_icmp .ge 12, 3) := by decide +kernel
theorem dX15_measure_149 : decode cX15_measure 149 = .ok (.aload 4, 2) := by decide +kernel
theorem dX15_measure_151 : decode cX15_measure 151 = .ok (.getfield 176, 3) := by decide +kernel
theorem dX15_measure_154 : decode cX15_measure 154 = .ok (.iconst 4, 1) := by decide +kernel
theorem dX15_measure_155 : decode cX15_measure 155 = .ok (.if_icmp .lt 7, 3) := by decide +kernel
theorem dX15_measure_158 : decode cX15_measure 158 = .ok (.iconst 1, 1) := by decide +kernel
theorem dX15_measure_159 : decode cX15_measure 159 = .ok (.goto 4, 3) := by decide +kernel
theorem dX15_measure_162 : decode cX15_measure 162 = .ok (.iconst 0, 1) := by decide +kernel
theorem dX15_measure_163 : decode cX15_measure 163 = .ok (.istore 5, 2) := by decide +kernel
theorem dX15_measure_165 : decode cX15_measure 165 = .ok (.iload 5, 2) := by decide +kernel
theorem dX15_measure_167 : decode cX15_measure 167 = .ok (.ifCond .eq 14, 3) := by decide +kernel
theorem dX15_measure_170 : decode cX15_measure 170 = .ok (.aload_n 3, 1) := by decide +kernel
theorem dX15_measure_171 : decode cX15_measure 171 = .ok (.getfield 94, 3) := by decide +kernel
theorem dX15_measure_174 : decode cX15_measure 174 = .ok (.ifCond .ne 7, 3) := by decide +kernel
theorem dX15_measure_177 : decode cX15_measure 177 = .ok (.iconst 1, 1) := by decide +kernel
theorem dX15_measure_178 : decode cX15_measure 178 = .ok (.goto 4, 3) := by decide +kernel
theorem dX15_measure_181 : decode cX15_measure 181 = .ok (.iconst 0, 1) := by decide +kernel
theorem dX15_measure_182 : decode cX15_measure 182 = .ok (.istore 6, 2) := by decide +kernel
theorem dX15_measure_184 : decode cX15_measure 184 = .ok (.iload 6, 2) := by decide +kernel
theorem dX15_measure_186 : decode cX15_measure 186 = .ok (.ifCond .eq 14, 3) := by decide +kernel
theorem dX15_measure_189 : decode cX15_measure 189 = .ok (.aload_n 3, 1) := by decide +kernel
theorem dX15_measure_190 : decode cX15_measure 190 = .ok (.iconst 1, 1) := by decide +kernel
theorem dX15_measure_191 : decode cX15_measure 191 = .ok (.putfield 94, 3) := by decide +kernel
theorem dX15_measure_194 : decode cX15_measure 194 = .ok (.aload_n 0, 1) := by decide +kernel
theorem dX15_measure_195 : decode cX15_measure 195 = .ok (.invokevirtual 164, 3) := by decide +kernel
theorem dX15_measure_198 : decode cX15_measure 198 = .ok (.istore 7, 2) := by decide +kernel
theorem dX15_measure_200 : decode cX15_measure 200 = .ok (.iload 6, 2) := by decide +kernel
theorem dX15_measure_202 : decode cX15_measure 202 = .ok (.ireturn, 1) := by decide +kernel
theorem dX15_order_0 : decode cX15_order 0 = .ok (.iload_n 2, 1) := by decide +kernel
theorem dX15_order_1 : decode cX15_order 1 = .ok (.iconst 1, 1) := by decide +kernel
theorem dX15_order_2 : decode cX15_order 2 = .ok (.bipush 100, 2) := by decide +kernel
theorem dX15_order_4 : decode cX15_order 4 = .ok (.invokestatic 40, 3) := by decide +kernel
theorem dX15_order_7 : decode cX15_order 7 = .ok (.ifCond .eq 28, 3) := by decide +kernel
theorem dX15_order_10 : decode cX15_order 10 = .ok (.iload_n 3, 1) := by decide +kernel
theorem dX15_order_11 : decode cX15_order 11 = .ok (.iconst 0, 1) := by decide +kernel
theorem dX15_order_12 : decode cX15_order 12 = .ok (.iconst 2, 1) := by decide +kernel
theorem dX15_order_13 : decode cX15_order 13 = .ok (.invokestatic 40, 3) := by decide +kernel
theorem dX15_order_16 : decode cX15_order 16 = .ok (.ifCond .eq 19, 3) := by decide +kernel
theorem dX15_order_19 : decode cX15_order 19 = .ok (.iload 4, 2) := by decide +kernel
theorem dX15_order_21 : decode cX15_order 21 = .ok (.iconst 0, 1) := by decide +kernel
theorem dX15_order_22 : decode cX15_order 22 = .ok (.sipush 9999, 3) := by decide +kernel
theorem dX15_order_25 : decode cX15_order 25 = .ok (.invokestatic 40, 3) := by decide +kernel
theorem dX15_order_28 : decode cX15_order 28 = .ok (.ifCond .eq 7, 3) := by decide +kernel
theorem dX15_order_31 : decode cX15_order 31 = .ok (.iconst 1, 1) := by decide +kernel
theorem dX15_order_32 : decode cX15_order 32 = .ok (.goto 4, 3) := by decide +kernel
theorem dX15_order_35 : decode cX15_order 35 = .ok (.iconst 0, 1) := by decide +kernel
theorem dX15_order_36 : decode cX15_order 36 = .ok (.istore 5, 2) := by decide +kernel
theorem dX15_order_38 : decode cX15_order 38 = .ok (.aload_n 0, 1) := by decide +kernel
theorem dX15_order_39 : decode cX15_order 39 = .ok (.aload_n 0, 1) := by decide +kernel
theorem dX15_order_40 : decode cX15_order 40 = .ok (.iload_n 1, 1) := by decide +kernel
theorem dX15_order_41 : decode cX15_order 41 = .ok (.invokevirtual 62, 3) := by decide +kernel
theorem dX15_order_44 : decode cX15_order 44 = .ok (.ifCond .ne 7, 3) := by decide +kernel
theorem dX15_order_47 : decode cX15_order 47 = .ok (.iconst 1, 1) := by decide +kernel
theorem dX15_order_48 : decode cX15_order 48 = .ok (.goto 29, 3) := by decide +kernel
theorem dX15_order_51 : decode cX15_order 51 = .ok (.iload 5, 2) := by decide +kernel
theorem dX15_order_53 : decode cX15_order 53 = .ok (.ifCond .ne 7, 3) := by decide +kernel
theorem dX15_order_56 : decode cX15_order 56 = .ok (.iconst 2, 1) := by decide +kernel
theorem dX15_order_57 : decode cX15_order 57 = .ok (.goto 20, 3) := by decide +kernel
theorem dX15_order_60 : decode cX15_order 60 = .ok (.aload_n 0, 1) := by decide +kernel
theorem dX15_order_61 : decode cX15_order 61 = .ok (.getfield 22, 3) := by decide +kernel
theorem dX15_order_64 : decode cX15_order 64 = .ok (.invokevirtual 44, 3) := by decide +kernel
theorem dX15_order_67 : decode cX15_order 67 = .ok (.bipush 30, 2) := by decide +kernel
theorem dX15_order_69 : decode cX15_order 69 = .ok (.if_icmp .ne 7, 3) := by decide +kernel
theorem dX15_order_72 : decode cX15_order 72 = .ok (.iconst 3, 1) := by decide +kernel
theorem dX15_order_73 : decode cX15_order 73 = .ok (.goto 4, 3) := by decide +kernel
theorem dX15_order_76 : decode cX15_order 76 = .ok (.iconst 0, 1) := by decide +kernel
theorem dX15_order_77 : decode cX15_order 77 = .ok (.invokevirtual 48, 3) := by decide +kernel
theorem dX15_order_80 : decode cX15_order 80 = .ok (.ifCond .eq 5, 3) := by decide +kernel
theorem dX15_order_83 : decode cX15_order 83 = .ok (.iconst 0, 1) := by decide +kernel
theorem dX15_order_84 : decode cX15_order 84 = .ok (.ireturn, 1) := by decide +kernel
theorem dX15_order_85 : decode cX15_order 85 = .ok (.aload_n 0, 1) := by decide +kernel
theorem dX15_order_86 : decode cX15_order 86 = .ok (.getfield 22, 3) := by decide +kernel
theorem dX15_order_89 : decode cX15_order 89 = .ok (.new 136, 3) := by decide +kernel
theorem dX15_order_92 : decode cX15_order 92 = .ok (.dup, 1) := by decide +kernel
theorem dX15_order_93 : decode cX15_order 93 = .ok (.aload_n 0, 1) := by decide +kernel
theorem dX15_order_94 : decode cX15_order 94 = .ok (.getfield 22, 3) := by decide +kernel
theorem dX15_order_97 : decode cX15_order 97 = .ok (.invokevirtual 44, 3) := by decide +kernel
theorem dX15_order_100 : decode cX15_order 100 = .ok (.iload_n 1, 1) := by decide +kernel
theorem dX15_order_101 : decode cX15_order 101 = .ok (.iload_n 2, 1) := by decide +kernel
theorem dX15_order_102 : decode cX15_order 102 = .ok (.iload_n 3, 1) := by decide +kernel
theorem dX15_order_103 : decode cX15_order 103 = .ok (.iload 4, 2) := by decide +kernel
theorem dX15_order_105 : decode cX15_order 105 = .ok (.invokespecial 196, 3) := by decide +kernel
theorem dX15_order_108 : decode cX15_order 108 = .ok (.invokevirtual 32, 3) := by decide +kernel
theorem dX15_order_111 : decode cX15_order 111 = .ok (.istore 6, 2) := by decide +kernel
theorem dX15_order_113 : decode cX15_order 113 = .ok (.aload_n 0, 1) := by decide +kernel
theorem dX15_order_114 : decode cX15_order 114 = .ok (.getfield 22, 3) := by decide +kernel
theorem dX15_order_117 : decode cX15_order 117 = .ok (.invokevirtual 44, 3) := by decide +kernel
theorem dX15_order_120 : decode cX15_order 120 = .ok (.iconst 1, 1) := by decide +kernel
theorem dX15_order_121 : decode cX15_order 121 = .ok (.isub, 1) := by decide +kernel
theorem dX15_order_122 : decode cX15_order 122 = .ok (.ireturn, 1) := by decide +kernel
theorem dX15_partOf_0 : decode cX15_partOf 0 = .ok (.aload_n 0, 1) := by decide +kernel
theorem dX15_partOf_1 : decode cX15_partOf 1 = .ok (.iload_n 1, 1) := by decide +kernel
theorem dX15_partOf_2 : decode cX15_partOf 2 = .ok (.invokevirtual 161, 3) := by decide +kernel
theorem dX15_partOf_5 : decode cX15_partOf 5 = .ok (.ifCond .eq 7, 3) := by decide +kernel
theorem dX15_partOf_8 : decode cX15_partOf 8 = .ok (.iconst 0, 1) := by decide +kernel
theorem dX15_partOf_9 : decode cX15_partOf 9 = .ok (.goto 17, 3) := by decide +kernel
theorem dX15_partOf_12 : decode cX15_partOf 12 = .ok (.aload_n 0, 1) := by decide +kernel
theorem dX15_partOf_13 : decode cX15_partOf 13 = .ok (.getfield 19, 3) := by decide +kernel
theorem dX15_partOf_16 : decode cX15_partOf 16 = .ok (.iload_n 1, 1) := by decide +kernel
theorem dX15_partOf_17 : decode cX15_partOf 17 = .ok (.invokevirtual 65, 3) := by decide +kernel
theorem dX15_partOf_20 : decode cX15_partOf 20 = .ok (.checkcast 82, 3) := by decide +kernel
theorem dX15_partOf_23 : decode cX15_partOf 23 = .ok (.getfield 182, 3) := by decide +kernel
theorem dX15_partOf_26 : decode cX15_partOf 26 = .ok (.ireturn, 1) := by decide +kernel
theorem dX15_promise_0 : decode cX15_promise 0 = .ok (.aload_n 0, 1) := by decide +kernel
theorem dX15_promise_1 : decode cX15_promise 1 = .ok (.iload_n 1, 1) := by decide +kernel
theorem dX15_promise_2 : decode cX15_promise 2 = .ok (.invokevirtual 214, 3) := by decide +kernel
theorem dX15_promise_5 : decode cX15_promise 5 = .ok (.ifCond .eq 5, 3) := by decide +kernel
theorem dX15_promise_8 : decode cX15_promise 8 = .ok (.iconst 0, 1) := by decide +kernel
theorem dX15_promise_9 : decode cX15_promise 9 = .ok (.ireturn, 1) := by decide +kernel
theorem dX15_promise_10 : decode cX15_promise 10 = .ok (.aload_n 0, 1) := by decide +kernel
theorem dX15_promise_11 : decode cX15_promise 11 = .ok (.getfield 22, 3) := by decide +kernel
theorem dX15_promise_14 : decode cX15_promise 14 = .ok (.iload_n 1, 1) := by decide +kernel
theorem dX15_promise_15 : decode cX15_promise 15 = .ok (.invokevirtual 65, 3) := by decide +kernel
theorem dX15_promise_18 : decode cX15_promise 18 = .ok (.checkcast 136, 3) := by decide +kernel
theorem dX15_promise_21 : decode cX15_promise 21 = .ok (.astore_n 2, 1) := by decide +kernel
theorem dX15_promise_22 : decode cX15_promise 22 = .ok (.aload_n 0, 1) := by decide +kernel
theorem dX15_promise_23 : decode cX15_promise 23 = .ok (.aload_n 0, 1) := by decide +kernel
theorem dX15_promise_24 : decode cX15_promise 24 = .ok (.getfield 16, 3) := by decide +kernel
theorem dX15_promise_27 : decode cX15_promise 27 = .ok (.aload_n 2, 1) := by decide +kernel
theorem dX15_promise_28 : decode cX15_promise 28 = .ok (.getfield 199, 3) := by decide +kernel
theorem dX15_promise_31 : decode cX15_promise 31 = .ok (.invokevirtual 65, 3) := by decide +kernel
theorem dX15_promise_34 : decode cX15_promise 34 = .ok (.checkcast 57, 3) := by decide +kernel
theorem dX15_promise_37 : decode cX15_promise 37 = .ok (.getfield 69, 3) := by decide +kernel
theorem dX15_promise_40 : decode cX15_promise 40 = .ok (.ifCond .eq 12, 3) := by decide +kernel
theorem dX15_promise_43 : decode cX15_promise 43 = .ok (.aload_n 2, 1) := by decide +kernel
theorem dX15_promise_44 : decode cX15_promise 44 = .ok (.getfield 139, 3) := by decide +kernel
theorem dX15_promise_47 : decode cX15_promise 47 = .ok (.bipush 45, 2) := by decide +kernel
theorem dX15_promise_49 : decode cX15_promise 49 = .ok (.if_icmp .eq 7, 3) := by decide +kernel
theorem dX15_promise_52 : decode cX15_promise 52 = .ok (.iconst 2, 1) := by decide +kernel
theorem dX15_promise_53 : decode cX15_promise 53 = .ok (.goto 4, 3) := by decide +kernel
theorem dX15_promise_56 : decode cX15_promise 56 = .ok (.iconst 0, 1) := by decide +kernel
theorem dX15_promise_57 : decode cX15_promise 57 = .ok (.invokevirtual 48, 3) := by decide +kernel
theorem dX15_promise_60 : decode cX15_promise 60 = .ok (.ifCond .ne 15, 3) := by decide +kernel
theorem dX15_promise_63 : decode cX15_promise 63 = .ok (.aload_n 0, 1) := by decide +kernel
theorem dX15_promise_64 : decode cX15_promise 64 = .ok (.aload_n 2, 1) := by decide +kernel
theorem dX15_promise_65 : decode cX15_promise 65 = .ok (.invokevirtual 217, 3) := by decide +kernel
theorem dX15_promise_68 : decode cX15_promise 68 = .ok (.ifCond .eq 7, 3) := by decide +kernel
theorem dX15_promise_71 : decode cX15_promise 71 = .ok (.iconst 1, 1) := by decide +kernel
theorem dX15_promise_72 : decode cX15_promise 72 = .ok (.goto 4, 3) := by decide +kernel
theorem dX15_promise_75 : decode cX15_promise 75 = .ok (.iconst 0, 1) := by decide +kernel
theorem dX15_promise_76 : decode cX15_promise 76 = .ok (.ireturn, 1) := by decide +kernel
theorem dX15_receive_0 : decode cX15_receive 0 = .ok (.aload_n 0, 1) := by decide +kernel
theorem dX15_receive_1 : decode cX15_receive 1 = .ok (.aload_n 0, 1) := by decide +kernel
theorem dX15_receive_2 : decode cX15_receive 2 = .ok (.iload_n 1, 1) := by decide +kernel
theorem dX15_receive_3 : decode cX15_receive 3 = .ok (.invokevirtual 62, 3) := by decide +kernel
theorem dX15_receive_6 : decode cX15_receive 6 = .ok (.ifCond .eq 7, 3) := by decide +kernel
theorem dX15_receive_9 : decode cX15_receive 9 = .ok (.iconst 0, 1) := by decide +kernel
theorem dX15_receive_10 : decode cX15_receive 10 = .ok (.goto 4, 3) := by decide +kernel
theorem dX15_receive_13 : decode cX15_receive 13 = .ok (.iconst 1, 1) := by decide +kernel
theorem dX15_receive_14 : decode cX15_receive 14 = .ok (.invokevirtual 48, 3) := by decide +kernel
theorem dX15_receive_17 : decode cX15_receive 17 = .ok (.ifCond .ne 32, 3) := by decide +kernel
theorem dX15_receive_20 : decode cX15_receive 20 = .ok (.aload_n 0, 1) := by decide +kernel
theorem dX15_receive_21 : decode cX15_receive 21 = .ok (.aload_n 0, 1) := by decide +kernel
theorem dX15_receive_22 : decode cX15_receive 22 = .ok (.getfield 16, 3) := by decide +kernel
theorem dX15_receive_25 : decode cX15_receive 25 = .ok (.iload_n 1, 1) := by decide +kernel
theorem dX15_receive_26 : decode cX15_receive 26 = .ok (.invokevirtual 65, 3) := by decide +kernel
theorem dX15_receive_29 : decode cX15_receive 29 = .ok (.checkcast 57, 3) := by decide +kernel
theorem dX15_receive_32 : decode cX15_receive 32 = .ok (.getfield 69, 3) := by decide +kernel
theorem dX15_receive_35 : decode cX15_receive 35 = .ok (.ifCond .eq 7, 3) := by decide +kernel
theorem dX15_receive_38 : decode cX15_receive 38 = .ok (.iconst 2, 1) := by decide +kernel
theorem dX15_receive_39 : decode cX15_receive 39 = .ok (.goto 4, 3) := by decide +kernel
theorem dX15_receive_42 : decode cX15_receive 42 = .ok (.iconst 0, 1) := by decide +kernel
theorem dX15_receive_43 : decode cX15_receive 43 = .ok (.invokevirtual 48, 3) := by decide +kernel
theorem dX15_receive_46 : decode cX15_receive 46 = .ok (.ifCond .eq 5, 3) := by decide +kernel
theorem dX15_receive_49 : decode cX15_receive 49 = .ok (.iconst 0, 1) := by decide +kernel
theorem dX15_receive_50 : decode cX15_receive 50 = .ok (.ireturn, 1) := by decide +kernel
theorem dX15_receive_51 : decode cX15_receive 51 = .ok (.iload_n 2, 1) := by decide +kernel
theorem dX15_receive_52 : decode cX15_receive 52 = .ok (.iconst 1, 1) := by decide +kernel
theorem dX15_receive_53 : decode cX15_receive 53 = .ok (.sipush 500, 3) := by decide +kernel
theorem dX15_receive_56 : decode cX15_receive 56 = .ok (.invokestatic 40, 3) := by decide +kernel
theorem dX15_receive_59 : decode cX15_receive 59 = .ok (.ifCond .eq 39, 3) := by decide +kernel
theorem dX15_receive_62 : decode cX15_receive 62 = .ok (.iload_n 3, 1) := by decide +kernel
theorem dX15_receive_63 : decode cX15_receive 63 = .ok (.iconst 0, 1) := by decide +kernel
theorem dX15_receive_64 : decode cX15_receive 64 = .ok (.sipush 999, 3) := by decide +kernel
theorem dX15_receive_67 : decode cX15_receive 67 = .ok (.invokestatic 40, 3) := by decide +kernel
theorem dX15_receive_70 : decode cX15_receive 70 = .ok (.ifCond .eq 28, 3) := by decide +kernel
theorem dX15_receive_73 : decode cX15_receive 73 = .ok (.iload 4, 2) := by decide +kernel
theorem dX15_receive_75 : decode cX15_receive 75 = .ok (.iconst 0, 1) := by decide +kernel
theorem dX15_receive_76 : decode cX15_receive 76 = .ok (.iconst 3, 1) := by decide +kernel
theorem dX15_receive_77 : decode cX15_receive 77 = .ok (.invokestatic 40, 3) := by decide +kernel
theorem dX15_receive_80 : decode cX15_receive 80 = .ok (.ifCond .eq 18, 3) := by decide +kernel
theorem dX15_receive_83 : decode cX15_receive 83 = .ok (.iload 5, 2) := by decide +kernel
theorem dX15_receive_85 : decode cX15_receive 85 = .ok (.iconst 0, 1) := by decide +kernel
theorem dX15_receive_86 : decode cX15_receive 86 = .ok (.bipush 20, 2) := by decide +kernel
theorem dX15_receive_88 : decode cX15_receive 88 = .ok (.invokestatic 40, 3) := by decide +kernel
theorem dX15_receive_91 : decode cX15_receive 91 = .ok (.ifCond .eq 7, 3) := by decide +kernel
theorem dX15_receive_94 : decode cX15_receive 94 = .ok (.iconst 1, 1) := by decide +kernel
theorem dX15_receive_95 : decode cX15_receive 95 = .ok (.goto 4, 3) := by decide +kernel
theorem dX15_receive_98 : decode cX15_receive 98 = .ok (.iconst 0, 1) := by decide +kernel
theorem dX15_receive_99 : decode cX15_receive 99 = .ok (.istore 6, 2) := by decide +kernel
theorem dX15_receive_101 : decode cX15_receive 101 = .ok (.aload_n 0, 1) := by decide +kernel
theorem dX15_receive_102 : decode cX15_receive 102 = .ok (.iload 6, 2) := by decide +kernel
theorem dX15_receive_104 : decode cX15_receive 104 = .ok (.ifCond .ne 7, 3) := by decide +kernel
theorem dX15_receive_107 : decode cX15_receive 107 = .ok (.iconst 3, 1) := by decide +kernel
theorem dX15_receive_108 : decode cX15_receive 108 = .ok (.goto 17, 3) := by decide +kernel
theorem dX15_receive_111 : decode cX15_receive 111 = .ok (.aload_n 0, 1) := by decide +kernel
theorem dX15_receive_112 : decode cX15_receive 112 = .ok (.getfield 87, 3) := by decide +kernel
theorem dX15_receive_115 : decode cX15_receive 115 = .ok (.bipush 60, 2) := by decide +kernel
theorem dX15_receive_117 : decode cX15_receive 117 = .ok (.if_icmp .ne 7, 3) := by decide +kernel
theorem dX15_receive_120 : decode cX15_receive 120 = .ok (.iconst 4, 1) := by decide +kernel
theorem dX15_receive_121 : decode cX15_receive 121 = .ok (.goto 4, 3) := by decide +kernel
theorem dX15_receive_124 : decode cX15_receive 124 = .ok (.iconst 0, 1) := by decide +kernel
theorem dX15_receive_125 : decode cX15_receive 125 = .ok (.invokevirtual 48, 3) := by decide +kernel
theorem dX15_receive_128 : decode cX15_receive 128 = .ok (.ifCond .eq 5, 3) := by decide +kernel
theorem dX15_receive_131 : decode cX15_receive 131 = .ok (.iconst 0, 1) := by decide +kernel
theorem dX15_receive_132 : decode cX15_receive 132 = .ok (.ireturn, 1) := by decide +kernel
theorem dX15_receive_133 : decode cX15_receive 133 = .ok (.aload_n 0, 1) := by decide +kernel
theorem dX15_receive_134 : decode cX15_receive 134 = .ok (.dup, 1) := by decide +kernel
theorem dX15_receive_135 : decode cX15_receive 135 = .ok (.getfield 87, 3) := by decide +kernel
theorem dX15_receive_138 : decode cX15_receive 138 = .ok (.iconst 1, 1) := by decide +kernel
theorem dX15_receive_139 : decode cX15_receive 139 = .ok (.iadd, 1) := by decide +kernel
theorem dX15_receive_140 : decode cX15_receive 140 = .ok (.putfield 87, 3) := by decide +kernel
theorem dX15_receive_143 : decode cX15_receive 143 = .ok (.aload_n 0, 1) := by decide +kernel
theorem dX15_receive_144 : decode cX15_receive 144 = .ok (.iload_n 1, 1) := by decide +kernel
theorem dX15_receive_145 : decode cX15_receive 145 = .ok (.iload_n 2, 1) := by decide +kernel
theorem dX15_receive_146 : decode cX15_receive 146 = .ok (.iload_n 2, 1) := by decide +kernel
theorem dX15_receive_147 : decode cX15_receive 147 = .ok (.i2l, 1) := by decide +kernel
theorem dX15_receive_148 : decode cX15_receive 148 = .ok (.iload_n 3, 1) := by decide +kernel
theorem dX15_receive_149 : decode cX15_receive 149 = .ok (.i2l, 1) := by decide +kernel
theorem dX15_receive_150 : decode cX15_receive 150 = .ok (.lmul, 1) := by decide +kernel
theorem dX15_receive_151 : decode cX15_receive 151 = .ok (.invokevirtual 90, 3) := by decide +kernel
theorem dX15_receive_154 : decode cX15_receive 154 = .ok (.astore 7, 2) := by decide +kernel
theorem dX15_receive_156 : decode cX15_receive 156 = .ok (.aload_n 0, 1) := by decide +kernel
theorem dX15_receive_157 : decode cX15_receive 157 = .ok (.getfield 25, 3) := by decide +kernel
theorem dX15_receive_160 : decode cX15_receive 160 = .ok (.iload 4, 2) := by decide +kernel
theorem dX15_receive_162 : decode cX15_receive 162 = .ok (.caload, 1) := by decide +kernel
theorem dX15_receive_163 : decode cX15_receive 163 = .ok (.istore 8, 2) := by decide +kernel
theorem dX15_receive_165 : decode cX15_receive 165 = .ok (.aload 7, 2) := by decide +kernel
theorem dX15_receive_167 : decode cX15_receive 167 = .ok (.iload 5, 2) := by decide +kernel
theorem dX15_receive_169 : decode cX15_receive 169 = .ok (.iload 8, 2) := by decide +kernel
theorem dX15_receive_171 : decode cX15_receive 171 = .ok (.bipush 110, 2) := by decide +kernel
theorem dX15_receive_173 : decode cX15_receive 173 = .ok (.if_icmp .ne 7, 3) := by decide +kernel
theorem dX15_receive_176 : decode cX15_receive 176 = .ok (.iconst 2, 1) := by decide +kernel
theorem dX15_receive_177 : decode cX15_receive 177 = .ok (.goto 15, 3) := by decide +kernel
theorem dX15_receive_180 : decode cX15_receive 180 = .ok (.iload 8, 2) := by decide +kernel
theorem dX15_receive_182 : decode cX15_receive 182 = .ok (.bipush 116, 2) := by decide +kernel
theorem dX15_receive_184 : decode cX15_receive 184 = .ok (.if_icmp .ne 7, 3) := by decide +kernel
theorem dX15_receive_187 : decode cX15_receive 187 = .ok (.iconst 1, 1) := by decide +kernel
theorem dX15_receive_188 : decode cX15_receive 188 = .ok (.goto 4, 3) := by decide +kernel
theorem dX15_receive_191 : decode cX15_receive 191 = .ok (.iconst 4, 1) := by decide +kernel
theorem dX15_receive_192 : decode cX15_receive 192 = .ok (.if_icmp .le 7, 3) := by decide +kernel
theorem dX15_receive_195 : decode cX15_receive 195 = .ok (.iconst 1, 1) := by decide +kernel
theorem dX15_receive_196 : decode cX15_receive 196 = .ok (.goto 4, 3) := by decide +kernel
theorem dX15_receive_199 : decode cX15_receive 199 = .ok (.iconst 0, 1) := by decide +kernel
theorem dX15_receive_200 : decode cX15_receive 200 = .ok (.putfield 94, 3) := by decide +kernel
theorem dX15_receive_203 : decode cX15_receive 203 = .ok (.aload_n 0, 1) := by decide +kernel
theorem dX15_receive_204 : decode cX15_receive 204 = .ok (.getfield 29, 3) := by decide +kernel
theorem dX15_receive_207 : decode cX15_receive 207 = .ok (.iload 4, 2) := by decide +kernel
theorem dX15_receive_209 : decode cX15_receive 209 = .ok (.invokevirtual 65, 3) := by decide +kernel
theorem dX15_receive_212 : decode cX15_receive 212 = .ok (.checkcast 7, 3) := by decide +kernel
theorem dX15_receive_215 : decode cX15_receive 215 = .ok (.astore 9, 2) := by decide +kernel
theorem dX15_receive_217 : decode cX15_receive 217 = .ok (.aload 9, 2) := by decide +kernel
theorem dX15_receive_219 : decode cX15_receive 219 = .ok (.aload 7, 2) := by decide +kernel
theorem dX15_receive_221 : decode cX15_receive 221 = .ok (.getfield 94, 3) := by decide +kernel
theorem dX15_receive_224 : decode cX15_receive 224 = .ok (.invokestatic 97, 3) := by decide +kernel
theorem dX15_receive_227 : decode cX15_receive 227 = .ok (.invokevirtual 32, 3) := by decide +kernel
theorem dX15_receive_230 : decode cX15_receive 230 = .ok (.istore 10, 2) := by decide +kernel
theorem dX15_receive_232 : decode cX15_receive 232 = .ok (.iload 8, 2) := by decide +kernel
theorem dX15_receive_234 : decode cX15_receive 234 = .ok (.istore 11, 2) := by decide +kernel
theorem dX15_receive_236 : decode cX15_receive 236 = .ok (.iload 8, 2) := by decide +kernel
theorem dX15_receive_238 : decode cX15_receive 238 = .ok (.bipush 110, 2) := by decide +kernel
theorem dX15_receive_240 : decode cX15_receive 240 = .ok (.if_icmp .ne 51, 3) := by decide +kernel
theorem dX15_receive_243 : decode cX15_receive 243 = .ok (.aload 9, 2) := by decide +kernel
theorem dX15_receive_245 : decode cX15_receive 245 = .ok (.iconst 5, 1) := by decide +kernel
theorem dX15_receive_246 : decode cX15_receive 246 = .ok (.iconst 1, 1) := by decide +kernel
theorem dX15_receive_247 : decode cX15_receive 247 = .ok (.invokestatic 103, 3) := by decide +kernel
theorem dX15_receive_250 : decode cX15_receive 250 = .ok (.iconst 2, 1) := by decide +kernel
theorem dX15_receive_251 : decode cX15_receive 251 = .ok (.if_icmp .lt 8, 3) := by decide +kernel
theorem dX15_receive_254 : decode cX15_receive 254 = .ok (.bipush 116, 2) := by decide +kernel
theorem dX15_receive_256 : decode cX15_receive 256 = .ok (.goto 30, 3) := by decide +kernel
theorem dX15_receive_259 : decode cX15_receive 259 = .ok (.aload 9, 2) := by decide +kernel
theorem dX15_receive_261 : decode cX15_receive 261 = .ok (.invokevirtual 44, 3) := by decide +kernel
theorem dX15_receive_264 : decode cX15_receive 264 = .ok (.iconst 4, 1) := by decide +kernel
theorem dX15_receive_265 : decode cX15_receive 265 = .ok (.if_icmp .lt 19, 3) := by decide +kernel
theorem dX15_receive_268 : decode cX15_receive 268 = .ok (.aload 9, 2) := by decide +kernel
theorem dX15_receive_270 : decode cX15_receive 270 = .ok (.iconst 4, 1) := by decide +kernel
theorem dX15_receive_271 : decode cX15_receive 271 = .ok (.iconst 0, 1) := by decide +kernel
theorem dX15_receive_272 : decode cX15_receive 272 = .ok (.invokestatic 103, 3) := by decide +kernel
theorem dX15_receive_275 : decode cX15_receive 275 = .ok (.iconst 4, 1) := by decide +kernel
theorem dX15_receive_276 : decode cX15_receive 276 = .ok (.if_icmp .ne 8, 3) := by decide +kernel
theorem dX15_receive_279 : decode cX15_receive 279 = .ok (.bipush 114, 2) := by decide +kernel
theorem dX15_receive_281 : decode cX15_receive 281 = .ok (.goto 5, 3) := by decide +kernel
theorem dX15_receive_284 : decode cX15_receive 284 = .ok (.bipush 110, 2) := by decide +kernel
theorem dX15_receive_286 : decode cX15_receive 286 = .ok (.istore 11, 2) := by decide +kernel
theorem dX15_receive_288 : decode cX15_receive 288 = .ok (.goto 54, 3) := by decide +kernel
theorem dX15_receive_291 : decode cX15_receive 291 = .ok (.iload 8, 2) := by decide +kernel
theorem dX15_receive_293 : decode cX15_receive 293 = .ok (.bipush 116, 2) := by decide +kernel
theorem dX15_receive_295 : decode cX15_receive 295 = .ok (.if_icmp .ne 35, 3) := by decide +kernel
theorem dX15_receive_298 : decode cX15_receive 298 = .ok (.aload 9, 2) := by decide +kernel
theorem dX15_receive_300 : decode cX15_receive 300 = .ok (.invokevirtual 44, 3) := by decide +kernel
theorem dX15_receive_303 : decode cX15_receive 303 = .ok (.iconst 3, 1) := by decide +kernel
theorem dX15_receive_304 : decode cX15_receive 304 = .ok (.if_icmp .lt 19, 3) := by decide +kernel
theorem dX15_receive_307 : decode cX15_receive 307 = .ok (.aload 9, 2) := by decide +kernel
theorem dX15_receive_309 : decode cX15_receive 309 = .ok (.iconst 3, 1) := by decide +kernel
theorem dX15_receive_310 : decode cX15_receive 310 = .ok (.iconst 0, 1) := by decide +kernel
theorem dX15_receive_311 : decode cX15_receive 311 = .ok (.invokestatic 103, 3) := by decide +kernel
theorem dX15_receive_314 : decode cX15_receive 314 = .ok (.iconst 3, 1) := by decide +kernel
theorem dX15_receive_315 : decode cX15_receive 315 = .ok (.if_icmp .ne 8, 3) := by decide +kernel
theorem dX15_receive_318 : decode cX15_receive 318 = .ok (.bipush 110, 2) := by decide +kernel
theorem dX15_receive_320 : decode cX15_receive 320 = .ok (.goto 5, 3) := by decide +kernel
theorem dX15_receive_323 : decode cX15_receive 323 = .ok (.bipush 116, 2) := by decide +kernel
theorem dX15_receive_325 : decode cX15_receive 325 = .ok (.istore 11, 2) := by decide +kernel
theorem dX15_receive_327 : decode cX15_receive 327 = .ok (.goto 15, 3) := by decide +kernel
theorem dX15_receive_330 : decode cX15_receive 330 = .ok (.aload 7, 2) := by decide +kernel
theorem dX15_receive_332 : decode cX15_receive 332 = .ok (.getfield 94, 3) := by decide +kernel
theorem dX15_receive_335 : decode cX15_receive 335 = .ok (.ifCond .eq 7, 3) := by decide +kernel
theorem dX15_receive_338 : decode cX15_receive 338 = .ok (.bipush 110, 2) := by decide +kernel
theorem dX15_receive_340 : decode cX15_receive 340 = .ok (.istore 11, 2) := by decide +kernel
theorem dX15_receive_342 : decode cX15_receive 342 = .ok (.iload 11, 2) := by decide +kernel
theorem dX15_receive_344 : decode cX15_receive 344 = .ok (.iload 8, 2) := by decide +kernel
theorem dX15_receive_346 : decode cX15_receive 346 = .ok (.if_icmp .eq 17, 3) := by decide +kernel
theorem dX15_receive_349 : decode cX15_receive 349 = .ok (.aload_n 0, 1) := by decide +kernel
theorem dX15_receive_350 : decode cX15_receive 350 = .ok (.getfield 25, 3) := by decide +kernel
theorem dX15_receive_353 : decode cX15_receive 353 = .ok (.iload 4, 2) := by decide +kernel
theorem dX15_receive_355 : decode cX15_receive 355 = .ok (.iload 11, 2) := by decide +kernel
theorem dX15_receive_357 : decode cX15_receive 357 = .ok (.castore, 1) := by decide +kernel
theorem dX15_receive_358 : decode cX15_receive 358 = .ok (.aload 9, 2) := by decide +kernel
theorem dX15_receive_360 : decode cX15_receive 360 = .ok (.invokevirtual 107, 3) := by decide +kernel
theorem dX15_receive_363 : decode cX15_receive 363 = .ok (.aload 7, 2) := by decide +kernel
theorem dX15_receive_365 : decode cX15_receive 365 = .ok (.getfield 110, 3) := by decide +kernel
theorem dX15_receive_368 : decode cX15_receive 368 = .ok (.ireturn, 1) := by decide +kernel
theorem dX15_release_0 : decode cX15_release 0 = .ok (.aload_n 0, 1) := by decide +kernel
theorem dX15_release_1 : decode cX15_release 1 = .ok (.iload_n 1, 1) := by decide +kernel
theorem dX15_release_2 : decode cX15_release 2 = .ok (.invokevirtual 214, 3) := by decide +kernel
theorem dX15_release_5 : decode cX15_release 5 = .ok (.ifCond .eq 5, 3) := by decide +kernel
theorem dX15_release_8 : decode cX15_release 8 = .ok (.iconst 0, 1) := by decide +kernel
theorem dX15_release_9 : decode cX15_release 9 = .ok (.ireturn, 1) := by decide +kernel
theorem dX15_release_10 : decode cX15_release 10 = .ok (.aload_n 0, 1) := by decide +kernel
theorem dX15_release_11 : decode cX15_release 11 = .ok (.getfield 22, 3) := by decide +kernel
theorem dX15_release_14 : decode cX15_release 14 = .ok (.iload_n 1, 1) := by decide +kernel
theorem dX15_release_15 : decode cX15_release 15 = .ok (.invokevirtual 65, 3) := by decide +kernel
theorem dX15_release_18 : decode cX15_release 18 = .ok (.checkcast 136, 3) := by decide +kernel
theorem dX15_release_21 : decode cX15_release 21 = .ok (.astore_n 2, 1) := by decide +kernel
theorem dX15_release_22 : decode cX15_release 22 = .ok (.aload_n 0, 1) := by decide +kernel
theorem dX15_release_23 : decode cX15_release 23 = .ok (.aload_n 0, 1) := by decide +kernel
theorem dX15_release_24 : decode cX15_release 24 = .ok (.getfield 16, 3) := by decide +kernel
theorem dX15_release_27 : decode cX15_release 27 = .ok (.aload_n 2, 1) := by decide +kernel
theorem dX15_release_28 : decode cX15_release 28 = .ok (.getfield 199, 3) := by decide +kernel
theorem dX15_release_31 : decode cX15_release 31 = .ok (.invokevirtual 65, 3) := by decide +kernel
theorem dX15_release_34 : decode cX15_release 34 = .ok (.checkcast 57, 3) := by decide +kernel
theorem dX15_release_37 : decode cX15_release 37 = .ok (.getfield 69, 3) := by decide +kernel
theorem dX15_release_40 : decode cX15_release 40 = .ok (.ifCond .eq 10, 3) := by decide +kernel
theorem dX15_release_43 : decode cX15_release 43 = .ok (.aload_n 2, 1) := by decide +kernel
theorem dX15_release_44 : decode cX15_release 44 = .ok (.invokevirtual 221, 3) := by decide +kernel
theorem dX15_release_47 : decode cX15_release 47 = .ok (.ifCond .eq 7, 3) := by decide +kernel
theorem dX15_release_50 : decode cX15_release 50 = .ok (.iconst 2, 1) := by decide +kernel
theorem dX15_release_51 : decode cX15_release 51 = .ok (.goto 4, 3) := by decide +kernel
theorem dX15_release_54 : decode cX15_release 54 = .ok (.iconst 0, 1) := by decide +kernel
theorem dX15_release_55 : decode cX15_release 55 = .ok (.invokevirtual 48, 3) := by decide +kernel
theorem dX15_release_58 : decode cX15_release 58 = .ok (.ifCond .ne 20, 3) := by decide +kernel
theorem dX15_release_61 : decode cX15_release 61 = .ok (.aload_n 2, 1) := by decide +kernel
theorem dX15_release_62 : decode cX15_release 62 = .ok (.getfield 139, 3) := by decide +kernel
theorem dX15_release_65 : decode cX15_release 65 = .ok (.bipush 45, 2) := by decide +kernel
theorem dX15_release_67 : decode cX15_release 67 = .ok (.if_icmp .ne 13, 3) := by decide +kernel
theorem dX15_release_70 : decode cX15_release 70 = .ok (.aload_n 0, 1) := by decide +kernel
theorem dX15_release_71 : decode cX15_release 71 = .ok (.aload_n 2, 1) := by decide +kernel
theorem dX15_release_72 : decode cX15_release 72 = .ok (.invokevirtual 217, 3) := by decide +kernel
theorem dX15_release_75 : decode cX15_release 75 = .ok (.ifCond .ne 5, 3) := by decide +kernel
theorem dX15_release_78 : decode cX15_release 78 = .ok (.iconst 0, 1) := by decide +kernel
theorem dX15_release_79 : decode cX15_release 79 = .ok (.ireturn, 1) := by decide +kernel
theorem dX15_release_80 : decode cX15_release 80 = .ok (.iconst 0, 1) := by decide +kernel
theorem dX15_release_81 : decode cX15_release 81 = .ok (.istore_n 3, 1) := by decide +kernel
theorem dX15_release_82 : decode cX15_release 82 = .ok (.iload_n 3, 1) := by decide +kernel
theorem dX15_release_83 : decode cX15_release 83 = .ok (.aload_n 2, 1) := by decide +kernel
theorem dX15_release_84 : decode cX15_release 84 = .ok (.getfield 138, 3) := by decide +kernel
theorem dX15_release_87 : decode cX15_release 87 = .ok (.invokevirtual 44, 3) := by decide +kernel
theorem dX15_release_90 : decode cX15_release 90 = .ok (.if_icmp .ge 79, 3) := by decide +kernel
theorem dX15_release_93 : decode cX15_release 93 = .ok (.aload_n 2, 1) := by decide +kernel
theorem dX15_release_94 : decode cX15_release 94 = .ok (.getfield 138, 3) := by decide +kernel
theorem dX15_release_97 : decode cX15_release 97 = .ok (.iload_n 3, 1) := by decide +kernel
theorem dX15_release_98 : decode cX15_release 98 = .ok (.invokevirtual 65, 3) := by decide +kernel
theorem dX15_release_101 : decode cX15_release 101 = .ok (.checkcast 82, 3) := by decide +kernel
theorem dX15_release_104 : decode cX15_release 104 = .ok (.dup, 1) := by decide +kernel
theorem dX15_release_105 : decode cX15_release 105 = .ok (.getfield 150, 3) := by decide +kernel
theorem dX15_release_108 : decode cX15_release 108 = .ok (.aload_n 2, 1) := by decide +kernel
theorem dX15_release_109 : decode cX15_release 109 = .ok (.getfield 153, 3) := by decide +kernel
theorem dX15_release_112 : decode cX15_release 112 = .ok (.iload_n 3, 1) := by decide +kernel
theorem dX15_release_113 : decode cX15_release 113 = .ok (.invokevirtual 65, 3) := by decide +kernel
theorem dX15_release_116 : decode cX15_release 116 = .ok (.checkcast 156, 3) := by decide +kernel
theorem dX15_release_119 : decode cX15_release 119 = .ok (.invokevirtual 158, 3) := by decide +kernel
theorem dX15_release_122 : decode cX15_release 122 = .ok (.isub, 1) := by decide +kernel
theorem dX15_release_123 : decode cX15_release 123 = .ok (.putfield 150, 3) := by decide +kernel
theorem dX15_release_126 : decode cX15_release 126 = .ok (.aload_n 2, 1) := by decide +kernel
theorem dX15_release_127 : decode cX15_release 127 = .ok (.dup, 1) := by decide +kernel
theorem dX15_release_128 : decode cX15_release 128 = .ok (.getfield 224, 3) := by decide +kernel
theorem dX15_release_131 : decode cX15_release 131 = .ok (.aload_n 2, 1) := by decide +kernel
theorem dX15_release_132 : decode cX15_release 132 = .ok (.getfield 138, 3) := by decide +kernel
theorem dX15_release_135 : decode cX15_release 135 = .ok (.iload_n 3, 1) := by decide +kernel
theorem dX15_release_136 : decode cX15_release 136 = .ok (.invokevirtual 65, 3) := by decide +kernel
theorem dX15_release_139 : decode cX15_release 139 = .ok (.checkcast 82, 3) := by decide +kernel
theorem dX15_release_142 : decode cX15_release 142 = .ok (.aload_n 2, 1) := by decide +kernel
theorem dX15_release_143 : decode cX15_release 143 = .ok (.getfield 153, 3) := by decide +kernel
theorem dX15_release_146 : decode cX15_release 146 = .ok (.iload_n 3, 1) := by decide +kernel
theorem dX15_release_147 : decode cX15_release 147 = .ok (.invokevirtual 65, 3) := by decide +kernel
theorem dX15_release_150 : decode cX15_release 150 = .ok (.checkcast 156, 3) := by decide +kernel
theorem dX15_release_153 : decode cX15_release 153 = .ok (.invokevirtual 158, 3) := by decide +kernel
theorem dX15_release_156 : decode cX15_release 156 = .ok (.invokestatic 225, 3) := by decide +kernel
theorem dX15_release_159 : decode cX15_release 159 = .ok (.ladd, 1) := by decide +kernel
theorem dX15_release_160 : decode cX15_release 160 = .ok (.putfield 224, 3) := by decide +kernel
theorem dX15_release_163 : decode cX15_release 163 = .ok (.iinc 3 1, 3) := by decide +kernel
theorem dX15_release_166 : decode cX15_release 166 = .ok (.goto (-84), 3) := by decide +kernel
theorem dX15_release_169 : decode cX15_release 169 = .ok (.aload_n 2, 1) := by decide +kernel
theorem dX15_release_170 : decode cX15_release 170 = .ok (.aload_n 2, 1) := by decide +kernel
theorem dX15_release_171 : decode cX15_release 171 = .ok (.getfield 205, 3) := by decide +kernel
theorem dX15_release_174 : decode cX15_release 174 = .ok (.putfield 229, 3) := by decide +kernel
theorem dX15_release_177 : decode cX15_release 177 = .ok (.aload_n 0, 1) := by decide +kernel
theorem dX15_release_178 : decode cX15_release 178 = .ok (.aload_n 2, 1) := by decide +kernel
theorem dX15_release_179 : decode cX15_release 179 = .ok (.invokevirtual 232, 3) := by decide +kernel
theorem dX15_release_182 : decode cX15_release 182 = .ok (.aload_n 0, 1) := by decide +kernel
theorem dX15_release_183 : decode cX15_release 183 = .ok (.invokevirtual 236, 3) := by decide +kernel
theorem dX15_release_186 : decode cX15_release 186 = .ok (.iconst 1, 1) := by decide +kernel
theorem dX15_release_187 : decode cX15_release 187 = .ok (.ireturn, 1) := by decide +kernel
theorem dX15_reserved_0 : decode cX15_reserved 0 = .ok (.aload_n 0, 1) := by decide +kernel
theorem dX15_reserved_1 : decode cX15_reserved 1 = .ok (.iload_n 1, 1) := by decide +kernel
theorem dX15_reserved_2 : decode cX15_reserved 2 = .ok (.invokevirtual 161, 3) := by decide +kernel
theorem dX15_reserved_5 : decode cX15_reserved 5 = .ok (.ifCond .eq 7, 3) := by decide +kernel
theorem dX15_reserved_8 : decode cX15_reserved 8 = .ok (.iconst 0, 1) := by decide +kernel
theorem dX15_reserved_9 : decode cX15_reserved 9 = .ok (.goto 17, 3) := by decide +kernel
theorem dX15_reserved_12 : decode cX15_reserved 12 = .ok (.aload_n 0, 1) := by decide +kernel
theorem dX15_reserved_13 : decode cX15_reserved 13 = .ok (.getfield 19, 3) := by decide +kernel
theorem dX15_reserved_16 : decode cX15_reserved 16 = .ok (.iload_n 1, 1) := by decide +kernel
theorem dX15_reserved_17 : decode cX15_reserved 17 = .ok (.invokevirtual 65, 3) := by decide +kernel
theorem dX15_reserved_20 : decode cX15_reserved 20 = .ok (.checkcast 82, 3) := by decide +kernel
theorem dX15_reserved_23 : decode cX15_reserved 23 = .ok (.getfield 150, 3) := by decide +kernel
theorem dX15_reserved_26 : decode cX15_reserved 26 = .ok (.ireturn, 1) := by decide +kernel
theorem dX15_rest_0 : decode cX15_rest 0 = .ok (.aload_n 0, 1) := by decide +kernel
theorem dX15_rest_1 : decode cX15_rest 1 = .ok (.iload_n 1, 1) := by decide +kernel
theorem dX15_rest_2 : decode cX15_rest 2 = .ok (.invokevirtual 161, 3) := by decide +kernel
theorem dX15_rest_5 : decode cX15_rest 5 = .ok (.ifCond .eq 7, 3) := by decide +kernel
theorem dX15_rest_8 : decode cX15_rest 8 = .ok (.iconst 0, 1) := by decide +kernel
theorem dX15_rest_9 : decode cX15_rest 9 = .ok (.goto 17, 3) := by decide +kernel
theorem dX15_rest_12 : decode cX15_rest 12 = .ok (.aload_n 0, 1) := by decide +kernel
theorem dX15_rest_13 : decode cX15_rest 13 = .ok (.getfield 19, 3) := by decide +kernel
theorem dX15_rest_16 : decode cX15_rest 16 = .ok (.iload_n 1, 1) := by decide +kernel
theorem dX15_rest_17 : decode cX15_rest 17 = .ok (.invokevirtual 65, 3) := by decide +kernel
theorem dX15_rest_20 : decode cX15_rest 20 = .ok (.checkcast 82, 3) := by decide +kernel
theorem dX15_rest_23 : decode cX15_rest 23 = .ok (.getfield 189, 3) := by decide +kernel
theorem dX15_rest_26 : decode cX15_rest 26 = .ok (.ireturn, 1) := by decide +kernel
theorem dX15_rule_0 : decode cX15_rule 0 = .ok (.aload_n 0, 1) := by decide +kernel
theorem dX15_rule_1 : decode cX15_rule 1 = .ok (.iload_n 1, 1) := by decide +kernel
theorem dX15_rule_2 : decode cX15_rule 2 = .ok (.iconst 0, 1) := by decide +kernel
theorem dX15_rule_3 : decode cX15_rule 3 = .ok (.iconst 3, 1) := by decide +kernel
theorem dX15_rule_4 : decode cX15_rule 4 = .ok (.invokestatic 40, 3) := by decide +kernel
theorem dX15_rule_7 : decode cX15_rule 7 = .ok (.ifCond .eq 7, 3) := by decide +kernel
theorem dX15_rule_10 : decode cX15_rule 10 = .ok (.iconst 0, 1) := by decide +kernel
theorem dX15_rule_11 : decode cX15_rule 11 = .ok (.goto 4, 3) := by decide +kernel
theorem dX15_rule_14 : decode cX15_rule 14 = .ok (.iconst 1, 1) := by decide +kernel
theorem dX15_rule_15 : decode cX15_rule 15 = .ok (.invokevirtual 48, 3) := by decide +kernel
theorem dX15_rule_18 : decode cX15_rule 18 = .ok (.ifCond .eq 7, 3) := by decide +kernel
theorem dX15_rule_21 : decode cX15_rule 21 = .ok (.iconst 0, 1) := by decide +kernel
theorem dX15_rule_22 : decode cX15_rule 22 = .ok (.goto 9, 3) := by decide +kernel
theorem dX15_rule_25 : decode cX15_rule 25 = .ok (.aload_n 0, 1) := by decide +kernel
theorem dX15_rule_26 : decode cX15_rule 26 = .ok (.getfield 25, 3) := by decide +kernel
theorem dX15_rule_29 : decode cX15_rule 29 = .ok (.iload_n 1, 1) := by decide +kernel
theorem dX15_rule_30 : decode cX15_rule 30 = .ok (.caload, 1) := by decide +kernel
theorem dX15_rule_31 : decode cX15_rule 31 = .ok (.ireturn, 1) := by decide +kernel
theorem dX15_scrap_0 : decode cX15_scrap 0 = .ok (.aload_n 0, 1) := by decide +kernel
theorem dX15_scrap_1 : decode cX15_scrap 1 = .ok (.iload_n 1, 1) := by decide +kernel
theorem dX15_scrap_2 : decode cX15_scrap 2 = .ok (.invokevirtual 214, 3) := by decide +kernel
theorem dX15_scrap_5 : decode cX15_scrap 5 = .ok (.ifCond .eq 5, 3) := by decide +kernel
theorem dX15_scrap_8 : decode cX15_scrap 8 = .ok (.iconst 0, 1) := by decide +kernel
theorem dX15_scrap_9 : decode cX15_scrap 9 = .ok (.ireturn, 1) := by decide +kernel
theorem dX15_scrap_10 : decode cX15_scrap 10 = .ok (.aload_n 0, 1) := by decide +kernel
theorem dX15_scrap_11 : decode cX15_scrap 11 = .ok (.getfield 22, 3) := by decide +kernel
theorem dX15_scrap_14 : decode cX15_scrap 14 = .ok (.iload_n 1, 1) := by decide +kernel
theorem dX15_scrap_15 : decode cX15_scrap 15 = .ok (.invokevirtual 65, 3) := by decide +kernel
theorem dX15_scrap_18 : decode cX15_scrap 18 = .ok (.checkcast 136, 3) := by decide +kernel
theorem dX15_scrap_21 : decode cX15_scrap 21 = .ok (.astore_n 3, 1) := by decide +kernel
theorem dX15_scrap_22 : decode cX15_scrap 22 = .ok (.aload_n 0, 1) := by decide +kernel
theorem dX15_scrap_23 : decode cX15_scrap 23 = .ok (.aload_n 3, 1) := by decide +kernel
theorem dX15_scrap_24 : decode cX15_scrap 24 = .ok (.getfield 139, 3) := by decide +kernel
theorem dX15_scrap_27 : decode cX15_scrap 27 = .ok (.bipush 119, 2) := by decide +kernel
theorem dX15_scrap_29 : decode cX15_scrap 29 = .ok (.if_icmp .eq 16, 3) := by decide +kernel
theorem dX15_scrap_32 : decode cX15_scrap 32 = .ok (.aload_n 3, 1) := by decide +kernel
theorem dX15_scrap_33 : decode cX15_scrap 33 = .ok (.getfield 139, 3) := by decide +kernel
theorem dX15_scrap_36 : decode cX15_scrap 36 = .ok (.bipush 111, 2) := by decide +kernel
theorem dX15_scrap_38 : decode cX15_scrap 38 = .ok (.if_icmp .eq 7, 3) := by decide +kernel
theorem dX15_scrap_41 : decode cX15_scrap 41 = .ok (.iconst 2, 1) := by decide +kernel
theorem dX15_scrap_42 : decode cX15_scrap 42 = .ok (.goto 20, 3) := by decide +kernel
theorem dX15_scrap_45 : decode cX15_scrap 45 = .ok (.iload_n 2, 1) := by decide +kernel
theorem dX15_scrap_46 : decode cX15_scrap 46 = .ok (.iconst 1, 1) := by decide +kernel
theorem dX15_scrap_47 : decode cX15_scrap 47 = .ok (.aload_n 3, 1) := by decide +kernel
theorem dX15_scrap_48 : decode cX15_scrap 48 = .ok (.getfield 229, 3) := by decide +kernel
theorem dX15_scrap_51 : decode cX15_scrap 51 = .ok (.invokestatic 40, 3) := by decide +kernel
theorem dX15_scrap_54 : decode cX15_scrap 54 = .ok (.ifCond .ne 7, 3) := by decide +kernel
theorem dX15_scrap_57 : decode cX15_scrap 57 = .ok (.iconst 3, 1) := by decide +kernel
theorem dX15_scrap_58 : decode cX15_scrap 58 = .ok (.goto 4, 3) := by decide +kernel
theorem dX15_scrap_61 : decode cX15_scrap 61 = .ok (.iconst 0, 1) := by decide +kernel
theorem dX15_scrap_62 : decode cX15_scrap 62 = .ok (.invokevirtual 48, 3) := by decide +kernel
theorem dX15_scrap_65 : decode cX15_scrap 65 = .ok (.ifCond .eq 5, 3) := by decide +kernel
theorem dX15_scrap_68 : decode cX15_scrap 68 = .ok (.iconst 0, 1) := by decide +kernel
theorem dX15_scrap_69 : decode cX15_scrap 69 = .ok (.ireturn, 1) := by decide +kernel
theorem dX15_scrap_70 : decode cX15_scrap 70 = .ok (.aload_n 3, 1) := by decide +kernel
theorem dX15_scrap_71 : decode cX15_scrap 71 = .ok (.dup, 1) := by decide +kernel
theorem dX15_scrap_72 : decode cX15_scrap 72 = .ok (.getfield 229, 3) := by decide +kernel
theorem dX15_scrap_75 : decode cX15_scrap 75 = .ok (.iload_n 2, 1) := by decide +kernel
theorem dX15_scrap_76 : decode cX15_scrap 76 = .ok (.isub, 1) := by decide +kernel
theorem dX15_scrap_77 : decode cX15_scrap 77 = .ok (.putfield 229, 3) := by decide +kernel
theorem dX15_scrap_80 : decode cX15_scrap 80 = .ok (.aload_n 3, 1) := by decide +kernel
theorem dX15_scrap_81 : decode cX15_scrap 81 = .ok (.getfield 229, 3) := by decide +kernel
theorem dX15_scrap_84 : decode cX15_scrap 84 = .ok (.ireturn, 1) := by decide +kernel
theorem dX15_setChart_0 : decode cX15_setChart 0 = .ok (.aload_n 0, 1) := by decide +kernel
theorem dX15_setChart_1 : decode cX15_setChart 1 = .ok (.aload_n 0, 1) := by decide +kernel
theorem dX15_setChart_2 : decode cX15_setChart 2 = .ok (.iload_n 1, 1) := by decide +kernel
theorem dX15_setChart_3 : decode cX15_setChart 3 = .ok (.invokevirtual 62, 3) := by decide +kernel
theorem dX15_setChart_6 : decode cX15_setChart 6 = .ok (.ifCond .ne 7, 3) := by decide +kernel
theorem dX15_setChart_9 : decode cX15_setChart 9 = .ok (.iconst 1, 1) := by decide +kernel
theorem dX15_setChart_10 : decode cX15_setChart 10 = .ok (.goto 30, 3) := by decide +kernel
theorem dX15_setChart_13 : decode cX15_setChart 13 = .ok (.iload_n 2, 1) := by decide +kernel
theorem dX15_setChart_14 : decode cX15_setChart 14 = .ok (.iconst 0, 1) := by decide +kernel
theorem dX15_setChart_15 : decode cX15_setChart 15 = .ok (.sipush 1000, 3) := by decide +kernel
theorem dX15_setChart_18 : decode cX15_setChart 18 = .ok (.invokestatic 40, 3) := by decide +kernel
theorem dX15_setChart_21 : decode cX15_setChart 21 = .ok (.ifCond .eq 14, 3) := by decide +kernel
theorem dX15_setChart_24 : decode cX15_setChart 24 = .ok (.iload_n 3, 1) := by decide +kernel
theorem dX15_setChart_25 : decode cX15_setChart 25 = .ok (.iconst 0, 1) := by decide +kernel
theorem dX15_setChart_26 : decode cX15_setChart 26 = .ok (.sipush 500, 3) := by decide +kernel
theorem dX15_setChart_29 : decode cX15_setChart 29 = .ok (.invokestatic 40, 3) := by decide +kernel
theorem dX15_setChart_32 : decode cX15_setChart 32 = .ok (.ifCond .ne 7, 3) := by decide +kernel
theorem dX15_setChart_35 : decode cX15_setChart 35 = .ok (.iconst 2, 1) := by decide +kernel
theorem dX15_setChart_36 : decode cX15_setChart 36 = .ok (.goto 4, 3) := by decide +kernel
theorem dX15_setChart_39 : decode cX15_setChart 39 = .ok (.iconst 0, 1) := by decide +kernel
theorem dX15_setChart_40 : decode cX15_setChart 40 = .ok (.invokevirtual 48, 3) := by decide +kernel
theorem dX15_setChart_43 : decode cX15_setChart 43 = .ok (.ifCond .eq 5, 3) := by decide +kernel
theorem dX15_setChart_46 : decode cX15_setChart 46 = .ok (.iconst 0, 1) := by decide +kernel
theorem dX15_setChart_47 : decode cX15_setChart 47 = .ok (.ireturn, 1) := by decide +kernel
theorem dX15_setChart_48 : decode cX15_setChart 48 = .ok (.aload_n 0, 1) := by decide +kernel
theorem dX15_setChart_49 : decode cX15_setChart 49 = .ok (.getfield 16, 3) := by decide +kernel
theorem dX15_setChart_52 : decode cX15_setChart 52 = .ok (.iload_n 1, 1) := by decide +kernel
theorem dX15_setChart_53 : decode cX15_setChart 53 = .ok (.invokevirtual 65, 3) := by decide +kernel
theorem dX15_setChart_56 : decode cX15_setChart 56 = .ok (.checkcast 57, 3) := by decide +kernel
theorem dX15_setChart_59 : decode cX15_setChart 59 = .ok (.astore 4, 2) := by decide +kernel
theorem dX15_setChart_61 : decode cX15_setChart 61 = .ok (.aload 4, 2) := by decide +kernel
theorem dX15_setChart_63 : decode cX15_setChart 63 = .ok (.iload_n 2, 1) := by decide +kernel
theorem dX15_setChart_64 : decode cX15_setChart 64 = .ok (.putfield 167, 3) := by decide +kernel
theorem dX15_setChart_67 : decode cX15_setChart 67 = .ok (.aload 4, 2) := by decide +kernel
theorem dX15_setChart_69 : decode cX15_setChart 69 = .ok (.iload_n 3, 1) := by decide +kernel
theorem dX15_setChart_70 : decode cX15_setChart 70 = .ok (.putfield 170, 3) := by decide +kernel
theorem dX15_setChart_73 : decode cX15_setChart 73 = .ok (.aload 4, 2) := by decide +kernel
theorem dX15_setChart_75 : decode cX15_setChart 75 = .ok (.iconst 0, 1) := by decide +kernel
theorem dX15_setChart_76 : decode cX15_setChart 76 = .ok (.putfield 173, 3) := by decide +kernel
theorem dX15_setChart_79 : decode cX15_setChart 79 = .ok (.aload 4, 2) := by decide +kernel
theorem dX15_setChart_81 : decode cX15_setChart 81 = .ok (.iconst 0, 1) := by decide +kernel
theorem dX15_setChart_82 : decode cX15_setChart 82 = .ok (.putfield 176, 3) := by decide +kernel
theorem dX15_setChart_85 : decode cX15_setChart 85 = .ok (.aload 4, 2) := by decide +kernel
theorem dX15_setChart_87 : decode cX15_setChart 87 = .ok (.getfield 179, 3) := by decide +kernel
theorem dX15_setChart_90 : decode cX15_setChart 90 = .ok (.ireturn, 1) := by decide +kernel
theorem dX15_stateOf_0 : decode cX15_stateOf 0 = .ok (.aload_n 0, 1) := by decide +kernel
theorem dX15_stateOf_1 : decode cX15_stateOf 1 = .ok (.iload_n 1, 1) := by decide +kernel
theorem dX15_stateOf_2 : decode cX15_stateOf 2 = .ok (.invokevirtual 214, 3) := by decide +kernel
theorem dX15_stateOf_5 : decode cX15_stateOf 5 = .ok (.ifCond .eq 7, 3) := by decide +kernel
theorem dX15_stateOf_8 : decode cX15_stateOf 8 = .ok (.iconst 0, 1) := by decide +kernel
theorem dX15_stateOf_9 : decode cX15_stateOf 9 = .ok (.goto 17, 3) := by decide +kernel
theorem dX15_stateOf_12 : decode cX15_stateOf 12 = .ok (.aload_n 0, 1) := by decide +kernel
theorem dX15_stateOf_13 : decode cX15_stateOf 13 = .ok (.getfield 22, 3) := by decide +kernel
theorem dX15_stateOf_16 : decode cX15_stateOf 16 = .ok (.iload_n 1, 1) := by decide +kernel
theorem dX15_stateOf_17 : decode cX15_stateOf 17 = .ok (.invokevirtual 65, 3) := by decide +kernel
theorem dX15_stateOf_20 : decode cX15_stateOf 20 = .ok (.checkcast 136, 3) := by decide +kernel
theorem dX15_stateOf_23 : decode cX15_stateOf 23 = .ok (.getfield 139, 3) := by decide +kernel
theorem dX15_stateOf_26 : decode cX15_stateOf 26 = .ok (.ireturn, 1) := by decide +kernel
theorem dX15_thrown_0 : decode cX15_thrown 0 = .ok (.aload_n 0, 1) := by decide +kernel
theorem dX15_thrown_1 : decode cX15_thrown 1 = .ok (.getfield 36, 3) := by decide +kernel
theorem dX15_thrown_4 : decode cX15_thrown 4 = .ok (.ireturn, 1) := by decide +kernel
theorem dX15_touched_0 : decode cX15_touched 0 = .ok (.aload_n 0, 1) := by decide +kernel
theorem dX15_touched_1 : decode cX15_touched 1 = .ok (.iload_n 1, 1) := by decide +kernel
theorem dX15_touched_2 : decode cX15_touched 2 = .ok (.invokevirtual 161, 3) := by decide +kernel
theorem dX15_touched_5 : decode cX15_touched 5 = .ok (.ifCond .eq 5, 3) := by decide +kernel
theorem dX15_touched_8 : decode cX15_touched 8 = .ok (.iconst 0, 1) := by decide +kernel
theorem dX15_touched_9 : decode cX15_touched 9 = .ok (.ireturn, 1) := by decide +kernel
theorem dX15_touched_10 : decode cX15_touched 10 = .ok (.iconst 0, 1) := by decide +kernel
theorem dX15_touched_11 : decode cX15_touched 11 = .ok (.istore_n 2, 1) := by decide +kernel
theorem dX15_touched_12 : decode cX15_touched 12 = .ok (.aload_n 0, 1) := by decide +kernel
theorem dX15_touched_13 : decode cX15_touched 13 = .ok (.getfield 22, 3) := by decide +kernel
theorem dX15_touched_16 : decode cX15_touched 16 = .ok (.invokevirtual 123, 3) := by decide +kernel
theorem dX15_touched_19 : decode cX15_touched 19 = .ok (.astore_n 3, 1) := by decide +kernel
theorem dX15_touched_20 : decode cX15_touched 20 = .ok (.aload_n 3, 1) := by decide +kernel
theorem dX15_touched_21 : decode cX15_touched 21 = .ok (.invokeinterface 127 1, 5) := by decide +kernel
theorem dX15_touched_26 : decode cX15_touched 26 = .ok (.ifCond .eq 44, 3) := by decide +kernel
theorem dX15_touched_29 : decode cX15_touched 29 = .ok (.aload_n 3, 1) := by decide +kernel
theorem dX15_touched_30 : decode cX15_touched 30 = .ok (.invokeinterface 132 1, 5) := by decide +kernel
theorem dX15_touched_35 : decode cX15_touched 35 = .ok (.checkcast 136, 3) := by decide +kernel
theorem dX15_touched_38 : decode cX15_touched 38 = .ok (.astore 4, 2) := by decide +kernel
theorem dX15_touched_40 : decode cX15_touched 40 = .ok (.iload_n 2, 1) := by decide +kernel
theorem dX15_touched_41 : decode cX15_touched 41 = .ok (.aload_n 0, 1) := by decide +kernel
theorem dX15_touched_42 : decode cX15_touched 42 = .ok (.getfield 19, 3) := by decide +kernel
theorem dX15_touched_45 : decode cX15_touched 45 = .ok (.iload_n 1, 1) := by decide +kernel
theorem dX15_touched_46 : decode cX15_touched 46 = .ok (.invokevirtual 65, 3) := by decide +kernel
theorem dX15_touched_49 : decode cX15_touched 49 = .ok (.checkcast 82, 3) := by decide +kernel
theorem dX15_touched_52 : decode cX15_touched 52 = .ok (.aload 4, 2) := by decide +kernel
theorem dX15_touched_54 : decode cX15_touched 54 = .ok (.invokestatic 327, 3) := by decide +kernel
theorem dX15_touched_57 : decode cX15_touched 57 = .ok (.ifCond .eq 7, 3) := by decide +kernel
theorem dX15_touched_60 : decode cX15_touched 60 = .ok (.iconst 1, 1) := by decide +kernel
theorem dX15_touched_61 : decode cX15_touched 61 = .ok (.goto 4, 3) := by decide +kernel
theorem dX15_touched_64 : decode cX15_touched 64 = .ok (.iconst 0, 1) := by decide +kernel
theorem dX15_touched_65 : decode cX15_touched 65 = .ok (.iadd, 1) := by decide +kernel
theorem dX15_touched_66 : decode cX15_touched 66 = .ok (.istore_n 2, 1) := by decide +kernel
theorem dX15_touched_67 : decode cX15_touched 67 = .ok (.goto (-47), 3) := by decide +kernel
theorem dX15_touched_70 : decode cX15_touched 70 = .ok (.iload_n 2, 1) := by decide +kernel
theorem dX15_touched_71 : decode cX15_touched 71 = .ok (.ireturn, 1) := by decide +kernel
theorem dX15_waiting_0 : decode cX15_waiting 0 = .ok (.aload_n 0, 1) := by decide +kernel
theorem dX15_waiting_1 : decode cX15_waiting 1 = .ok (.iload_n 1, 1) := by decide +kernel
theorem dX15_waiting_2 : decode cX15_waiting 2 = .ok (.invokevirtual 320, 3) := by decide +kernel
theorem dX15_waiting_5 : decode cX15_waiting 5 = .ok (.ifCond .eq 7, 3) := by decide +kernel
theorem dX15_waiting_8 : decode cX15_waiting 8 = .ok (.iconst 0, 1) := by decide +kernel
theorem dX15_waiting_9 : decode cX15_waiting 9 = .ok (.goto 8, 3) := by decide +kernel
theorem dX15_waiting_12 : decode cX15_waiting 12 = .ok (.aload_n 0, 1) := by decide +kernel
theorem dX15_waiting_13 : decode cX15_waiting 13 = .ok (.iload_n 1, 1) := by decide +kernel
theorem dX15_waiting_14 : decode cX15_waiting 14 = .ok (.invokevirtual 239, 3) := by decide +kernel
theorem dX15_waiting_17 : decode cX15_waiting 17 = .ok (.ireturn, 1) := by decide +kernel
theorem dX15_wear_0 : decode cX15_wear 0 = .ok (.aload_n 0, 1) := by decide +kernel
theorem dX15_wear_1 : decode cX15_wear 1 = .ok (.iload_n 1, 1) := by decide +kernel
theorem dX15_wear_2 : decode cX15_wear 2 = .ok (.invokevirtual 320, 3) := by decide +kernel
theorem dX15_wear_5 : decode cX15_wear 5 = .ok (.ifCond .eq 7, 3) := by decide +kernel
theorem dX15_wear_8 : decode cX15_wear 8 = .ok (.iconst 0, 1) := by decide +kernel
theorem dX15_wear_9 : decode cX15_wear 9 = .ok (.goto 17, 3) := by decide +kernel
theorem dX15_wear_12 : decode cX15_wear 12 = .ok (.aload_n 0, 1) := by decide +kernel
theorem dX15_wear_13 : decode cX15_wear 13 = .ok (.getfield 10, 3) := by decide +kernel
theorem dX15_wear_16 : decode cX15_wear 16 = .ok (.iload_n 1, 1) := by decide +kernel
theorem dX15_wear_17 : decode cX15_wear 17 = .ok (.invokevirtual 65, 3) := by decide +kernel
theorem dX15_wear_20 : decode cX15_wear 20 = .ok (.checkcast 52, 3) := by decide +kernel
theorem dX15_wear_23 : decode cX15_wear 23 = .ok (.getfield 295, 3) := by decide +kernel
theorem dX15_wear_26 : decode cX15_wear 26 = .ok (.ireturn, 1) := by decide +kernel
theorem dX15_withdraw_0 : decode cX15_withdraw 0 = .ok (.aload_n 0, 1) := by decide +kernel
theorem dX15_withdraw_1 : decode cX15_withdraw 1 = .ok (.iload_n 1, 1) := by decide +kernel
theorem dX15_withdraw_2 : decode cX15_withdraw 2 = .ok (.invokevirtual 214, 3) := by decide +kernel
theorem dX15_withdraw_5 : decode cX15_withdraw 5 = .ok (.ifCond .ne 34, 3) := by decide +kernel
theorem dX15_withdraw_8 : decode cX15_withdraw 8 = .ok (.aload_n 0, 1) := by decide +kernel
theorem dX15_withdraw_9 : decode cX15_withdraw 9 = .ok (.aload_n 0, 1) := by decide +kernel
theorem dX15_withdraw_10 : decode cX15_withdraw 10 = .ok (.getfield 22, 3) := by decide +kernel
theorem dX15_withdraw_13 : decode cX15_withdraw 13 = .ok (.iload_n 1, 1) := by decide +kernel
theorem dX15_withdraw_14 : decode cX15_withdraw 14 = .ok (.invokevirtual 65, 3) := by decide +kernel
theorem dX15_withdraw_17 : decode cX15_withdraw 17 = .ok (.checkcast 136, 3) := by decide +kernel
theorem dX15_withdraw_20 : decode cX15_withdraw 20 = .ok (.getfield 139, 3) := by decide +kernel
theorem dX15_withdraw_23 : decode cX15_withdraw 23 = .ok (.bipush 112, 2) := by decide +kernel
theorem dX15_withdraw_25 : decode cX15_withdraw 25 = .ok (.if_icmp .ne 7, 3) := by decide +kernel
theorem dX15_withdraw_28 : decode cX15_withdraw 28 = .ok (.iconst 0, 1) := by decide +kernel
theorem dX15_withdraw_29 : decode cX15_withdraw 29 = .ok (.goto 4, 3) := by decide +kernel
theorem dX15_withdraw_32 : decode cX15_withdraw 32 = .ok (.iconst 2, 1) := by decide +kernel
theorem dX15_withdraw_33 : decode cX15_withdraw 33 = .ok (.invokevirtual 48, 3) := by decide +kernel
theorem dX15_withdraw_36 : decode cX15_withdraw 36 = .ok (.ifCond .eq 7, 3) := by decide +kernel
theorem dX15_withdraw_39 : decode cX15_withdraw 39 = .ok (.iconst 0, 1) := by decide +kernel
theorem dX15_withdraw_40 : decode cX15_withdraw 40 = .ok (.goto 18, 3) := by decide +kernel
theorem dX15_withdraw_43 : decode cX15_withdraw 43 = .ok (.aload_n 0, 1) := by decide +kernel
theorem dX15_withdraw_44 : decode cX15_withdraw 44 = .ok (.aload_n 0, 1) := by decide +kernel
theorem dX15_withdraw_45 : decode cX15_withdraw 45 = .ok (.getfield 22, 3) := by decide +kernel
theorem dX15_withdraw_48 : decode cX15_withdraw 48 = .ok (.iload_n 1, 1) := by decide +kernel
theorem dX15_withdraw_49 : decode cX15_withdraw 49 = .ok (.invokevirtual 65, 3) := by decide +kernel
theorem dX15_withdraw_52 : decode cX15_withdraw 52 = .ok (.checkcast 136, 3) := by decide +kernel
theorem dX15_withdraw_55 : decode cX15_withdraw 55 = .ok (.invokevirtual 146, 3) := by decide +kernel
theorem dX15_withdraw_58 : decode cX15_withdraw 58 = .ok (.ireturn, 1) := by decide +kernel
theorem dX4_init_0 : decode cX4_init 0 = .ok (.aload_n 0, 1) := by decide +kernel
theorem dX4_init_1 : decode cX4_init 1 = .ok (.invokespecial 3, 3) := by decide +kernel
theorem dX4_init_4 : decode cX4_init 4 = .ok (.aload_n 0, 1) := by decide +kernel
theorem dX4_init_5 : decode cX4_init 5 = .ok (.bipush 45, 2) := by decide +kernel
theorem dX4_init_7 : decode cX4_init 7 = .ok (.putfield 9, 3) := by decide +kernel
theorem dX4_init_10 : decode cX4_init 10 = .ok (.aload_n 0, 1) := by decide +kernel
theorem dX4_init_11 : decode cX4_init 11 = .ok (.iconst (-1), 1) := by decide +kernel
theorem dX4_init_12 : decode cX4_init 12 = .ok (.putfield 15, 3) := by decide +kernel
theorem dX4_init_15 : decode cX4_init 15 = .ok (.aload_n 0, 1) := by decide +kernel
theorem dX4_init_16 : decode cX4_init 16 = .ok (.iconst (-1), 1) := by decide +kernel
theorem dX4_init_17 : decode cX4_init 17 = .ok (.putfield 19, 3) := by decide +kernel
theorem dX4_init_20 : decode cX4_init 20 = .ok (.aload_n 0, 1) := by decide +kernel
theorem dX4_init_21 : decode cX4_init 21 = .ok (.iload_n 1, 1) := by decide +kernel
theorem dX4_init_22 : decode cX4_init 22 = .ok (.putfield 22, 3) := by decide +kernel
theorem dX4_init_25 : decode cX4_init 25 = .ok (.aload_n 0, 1) := by decide +kernel
theorem dX4_init_26 : decode cX4_init 26 = .ok (.iload_n 2, 1) := by decide +kernel
theorem dX4_init_27 : decode cX4_init 27 = .ok (.putfield 25, 3) := by decide +kernel
theorem dX4_init_30 : decode cX4_init 30 = .ok (.aload_n 0, 1) := by decide +kernel
theorem dX4_init_31 : decode cX4_init 31 = .ok (.iload_n 3, 1) := by decide +kernel
theorem dX4_init_32 : decode cX4_init 32 = .ok (.putfield 28, 3) := by decide +kernel
theorem dX4_init_35 : decode cX4_init 35 = .ok (.aload_n 0, 1) := by decide +kernel
theorem dX4_init_36 : decode cX4_init 36 = .ok (.iload 4, 2) := by decide +kernel
theorem dX4_init_38 : decode cX4_init 38 = .ok (.putfield 31, 3) := by decide +kernel
theorem dX4_init_41 : decode cX4_init 41 = .ok (.return_, 1) := by decide +kernel
theorem dX5_init_0 : decode cX5_init 0 = .ok (.aload_n 0, 1) := by decide +kernel
theorem dX5_init_1 : decode cX5_init 1 = .ok (.invokespecial 1, 3) := by decide +kernel
theorem dX5_init_4 : decode cX5_init 4 = .ok (.return_, 1) := by decide +kernel
theorem dX8_init_0 : decode cX8_init 0 = .ok (.aload_n 0, 1) := by decide +kernel
theorem dX8_init_1 : decode cX8_init 1 = .ok (.invokespecial 3, 3) := by decide +kernel
theorem dX8_init_4 : decode cX8_init 4 = .ok (.aload_n 0, 1) := by decide +kernel
theorem dX8_init_5 : decode cX8_init 5 = .ok (.iconst 4, 1) := by decide +kernel
theorem dX8_init_6 : decode cX8_init 6 = .ok (.anewarray 9, 3) := by decide +kernel
theorem dX8_init_9 : decode cX8_init 9 = .ok (.putfield 11, 3) := by decide +kernel
theorem dX8_init_12 : decode cX8_init 12 = .ok (.aload_n 0, 1) := by decide +kernel
theorem dX8_init_13 : decode cX8_init 13 = .ok (.iconst 3, 1) := by decide +kernel
theorem dX8_init_14 : decode cX8_init 14 = .ok (.anewarray 17, 3) := by decide +kernel
theorem dX8_init_17 : decode cX8_init 17 = .ok (.putfield 19, 3) := by decide +kernel
theorem dX8_init_20 : decode cX8_init 20 = .ok (.aload_n 0, 1) := by decide +kernel
theorem dX8_init_21 : decode cX8_init 21 = .ok (.new 23, 3) := by decide +kernel
theorem dX8_init_24 : decode cX8_init 24 = .ok (.dup, 1) := by decide +kernel
theorem dX8_init_25 : decode cX8_init 25 = .ok (.invokespecial 25, 3) := by decide +kernel
theorem dX8_init_28 : decode cX8_init 28 = .ok (.putfield 26, 3) := by decide +kernel
theorem dX8_init_31 : decode cX8_init 31 = .ok (.aload_n 0, 1) := by decide +kernel
theorem dX8_init_32 : decode cX8_init 32 = .ok (.iload_n 1, 1) := by decide +kernel
theorem dX8_init_33 : decode cX8_init 33 = .ok (.putfield 30, 3) := by decide +kernel
theorem dX8_init_36 : decode cX8_init 36 = .ok (.aload_n 0, 1) := by decide +kernel
theorem dX8_init_37 : decode cX8_init 37 = .ok (.iload_n 2, 1) := by decide +kernel
theorem dX8_init_38 : decode cX8_init 38 = .ok (.putfield 34, 3) := by decide +kernel
theorem dX8_init_41 : decode cX8_init 41 = .ok (.aload_n 0, 1) := by decide +kernel
theorem dX8_init_42 : decode cX8_init 42 = .ok (.iload_n 3, 1) := by decide +kernel
theorem dX8_init_43 : decode cX8_init 43 = .ok (.putfield 38, 3) := by decide +kernel
theorem dX8_init_46 : decode cX8_init 46 = .ok (.return_, 1) := by decide +kernel
theorem dX9_init_0 : decode cX9_init 0 = .ok (.aload_n 0, 1) := by decide +kernel
theorem dX9_init_1 : decode cX9_init 1 = .ok (.invokespecial 3, 3) := by decide +kernel
theorem dX9_init_4 : decode cX9_init 4 = .ok (.aload_n 0, 1) := by decide +kernel
theorem dX9_init_5 : decode cX9_init 5 = .ok (.bipush 110, 2) := by decide +kernel
theorem dX9_init_7 : decode cX9_init 7 = .ok (.putfield 9, 3) := by decide +kernel
theorem dX9_init_10 : decode cX9_init 10 = .ok (.return_, 1) := by decide +kernel
