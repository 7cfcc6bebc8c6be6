/-! decode rows of the methods that are walked (printed by TURN) -/
theorem dJx35411_hasNext_aae02_0 : decode cJx35411_hasNext_aae02 0 = .ok (.aload_n 0, 1) := by decide +kernel
theorem dJx35411_hasNext_aae02_1 : decode cJx35411_hasNext_aae02 1 = .ok (.getfield 25, 3) := by decide +kernel
theorem dJx35411_hasNext_aae02_4 : decode cJx35411_hasNext_aae02 4 = .ok (.aload_n 0, 1) := by decide +kernel
theorem dJx35411_hasNext_aae02_5 : decode cJx35411_hasNext_aae02 5 = .ok (.getfield 1, 3) := by decide +kernel
theorem dJx35411_hasNext_aae02_8 : decode cJx35411_hasNext_aae02 8 = .ok (.getfield 28, 3) := by decide +kernel
theorem dJx35411_hasNext_aae02_11 : decode cJx35411_hasNext_aae02 11 = .ok (.if_icmp .eq 7, 3) := by decide +kernel
theorem dJx35411_hasNext_aae02_18 : decode cJx35411_hasNext_aae02 18 = .ok (.iconst 0, 1) := by decide +kernel
theorem dJx35411_hasNext_aae02_19 : decode cJx35411_hasNext_aae02 19 = .ok (.ireturn, 1) := by decide +kernel
theorem dJx35411_init_45d68_0 : decode cJx35411_init_45d68 0 = .ok (.aload_n 0, 1) := by decide +kernel
theorem dJx35411_init_45d68_1 : decode cJx35411_init_45d68 1 = .ok (.aload_n 1, 1) := by decide +kernel
theorem dJx35411_init_45d68_2 : decode cJx35411_init_45d68 2 = .ok (.putfield 1, 3) := by decide +kernel
theorem dJx35411_init_45d68_5 : decode cJx35411_init_45d68 5 = .ok (.aload_n 0, 1) := by decide +kernel
theorem dJx35411_init_45d68_6 : decode cJx35411_init_45d68 6 = .ok (.invokespecial 7, 3) := by decide +kernel
theorem dJx35411_init_45d68_9 : decode cJx35411_init_45d68 9 = .ok (.aload_n 0, 1) := by decide +kernel
theorem dJx35411_init_45d68_10 : decode cJx35411_init_45d68 10 = .ok (.iconst (-1), 1) := by decide +kernel
theorem dJx35411_init_45d68_11 : decode cJx35411_init_45d68 11 = .ok (.putfield 13, 3) := by decide +kernel
theorem dJx35411_init_45d68_14 : decode cJx35411_init_45d68 14 = .ok (.aload_n 0, 1) := by decide +kernel
theorem dJx35411_init_45d68_15 : decode cJx35411_init_45d68 15 = .ok (.aload_n 0, 1) := by decide +kernel
theorem dJx35411_init_45d68_16 : decode cJx35411_init_45d68 16 = .ok (.getfield 1, 3) := by decide +kernel
theorem dJx35411_init_45d68_19 : decode cJx35411_init_45d68 19 = .ok (.getfield 17, 3) := by decide +kernel
theorem dJx35411_init_45d68_22 : decode cJx35411_init_45d68 22 = .ok (.putfield 22, 3) := by decide +kernel
theorem dJx35411_init_45d68_25 : decode cJx35411_init_45d68 25 = .ok (.return_, 1) := by decide +kernel
theorem dJx4a65c_add_72be8_0 : decode cJx4a65c_add_72be8 0 = .ok (.iload_n 3, 1) := by decide +kernel
theorem dJx4a65c_add_72be8_1 : decode cJx4a65c_add_72be8 1 = .ok (.aload_n 2, 1) := by decide +kernel
theorem dJx4a65c_add_72be8_2 : decode cJx4a65c_add_72be8 2 = .ok (.arraylength, 1) := by decide +kernel
theorem dJx4a65c_add_72be8_3 : decode cJx4a65c_add_72be8 3 = .ok (.if_icmp .ne 8, 3) := by decide +kernel
theorem dJx4a65c_add_72be8_6 : decode cJx4a65c_add_72be8 6 = .ok (.aload_n 0, 1) := by decide +kernel
theorem dJx4a65c_add_72be8_7 : decode cJx4a65c_add_72be8 7 = .ok (.invokevirtual 129, 3) := by decide +kernel
theorem dJx4a65c_add_72be8_10 : decode cJx4a65c_add_72be8 10 = .ok (.astore_n 2, 1) := by decide +kernel
theorem dJx4a65c_add_72be8_11 : decode cJx4a65c_add_72be8 11 = .ok (.aload_n 2, 1) := by decide +kernel
theorem dJx4a65c_add_72be8_12 : decode cJx4a65c_add_72be8 12 = .ok (.iload_n 3, 1) := by decide +kernel
theorem dJx4a65c_add_72be8_13 : decode cJx4a65c_add_72be8 13 = .ok (.aload_n 1, 1) := by decide +kernel
theorem dJx4a65c_add_72be8_14 : decode cJx4a65c_add_72be8 14 = .ok (.aastore, 1) := by decide +kernel
theorem dJx4a65c_add_72be8_15 : decode cJx4a65c_add_72be8 15 = .ok (.aload_n 0, 1) := by decide +kernel
theorem dJx4a65c_add_72be8_16 : decode cJx4a65c_add_72be8 16 = .ok (.iload_n 3, 1) := by decide +kernel
theorem dJx4a65c_add_72be8_17 : decode cJx4a65c_add_72be8 17 = .ok (.iconst 1, 1) := by decide +kernel
theorem dJx4a65c_add_72be8_18 : decode cJx4a65c_add_72be8 18 = .ok (.iadd, 1) := by decide +kernel
theorem dJx4a65c_add_72be8_19 : decode cJx4a65c_add_72be8 19 = .ok (.putfield 48, 3) := by decide +kernel
theorem dJx4a65c_add_72be8_22 : decode cJx4a65c_add_72be8 22 = .ok (.return_, 1) := by decide +kernel
theorem dJx4a65c_add_9ea2d_0 : decode cJx4a65c_add_9ea2d 0 = .ok (.aload_n 0, 1) := by decide +kernel
theorem dJx4a65c_add_9ea2d_1 : decode cJx4a65c_add_9ea2d 1 = .ok (.dup, 1) := by decide +kernel
theorem dJx4a65c_add_9ea2d_2 : decode cJx4a65c_add_9ea2d 2 = .ok (.getfield 63, 3) := by decide +kernel
theorem dJx4a65c_add_9ea2d_5 : decode cJx4a65c_add_9ea2d 5 = .ok (.iconst 1, 1) := by decide +kernel
theorem dJx4a65c_add_9ea2d_6 : decode cJx4a65c_add_9ea2d 6 = .ok (.iadd, 1) := by decide +kernel
theorem dJx4a65c_add_9ea2d_7 : decode cJx4a65c_add_9ea2d 7 = .ok (.putfield 63, 3) := by decide +kernel
theorem dJx4a65c_add_9ea2d_10 : decode cJx4a65c_add_9ea2d 10 = .ok (.aload_n 0, 1) := by decide +kernel
theorem dJx4a65c_add_9ea2d_11 : decode cJx4a65c_add_9ea2d 11 = .ok (.aload_n 1, 1) := by decide +kernel
theorem dJx4a65c_add_9ea2d_12 : decode cJx4a65c_add_9ea2d 12 = .ok (.aload_n 0, 1) := by decide +kernel
theorem dJx4a65c_add_9ea2d_13 : decode cJx4a65c_add_9ea2d 13 = .ok (.getfield 9, 3) := by decide +kernel
theorem dJx4a65c_add_9ea2d_16 : decode cJx4a65c_add_9ea2d 16 = .ok (.aload_n 0, 1) := by decide +kernel
theorem dJx4a65c_add_9ea2d_17 : decode cJx4a65c_add_9ea2d 17 = .ok (.getfield 48, 3) := by decide +kernel
theorem dJx4a65c_add_9ea2d_20 : decode cJx4a65c_add_9ea2d 20 = .ok (.invokevirtual 131, 3) := by decide +kernel
theorem dJx4a65c_add_9ea2d_23 : decode cJx4a65c_add_9ea2d 23 = .ok (.iconst 1, 1) := by decide +kernel
theorem dJx4a65c_add_9ea2d_24 : decode cJx4a65c_add_9ea2d 24 = .ok (.ireturn, 1) := by decide +kernel
theorem dJx4a65c_grow_92f84_0 : decode cJx4a65c_grow_92f84 0 = .ok (.aload_n 0, 1) := by decide +kernel
theorem dJx4a65c_grow_92f84_1 : decode cJx4a65c_grow_92f84 1 = .ok (.getfield 9, 3) := by decide +kernel
theorem dJx4a65c_grow_92f84_4 : decode cJx4a65c_grow_92f84 4 = .ok (.arraylength, 1) := by decide +kernel
theorem dJx4a65c_grow_92f84_5 : decode cJx4a65c_grow_92f84 5 = .ok (.istore_n 2, 1) := by decide +kernel
theorem dJx4a65c_grow_92f84_6 : decode cJx4a65c_grow_92f84 6 = .ok (.iload_n 2, 1) := by decide +kernel
theorem dJx4a65c_grow_92f84_7 : decode cJx4a65c_grow_92f84 7 = .ok (.ifCond .gt 13, 3) := by decide +kernel
theorem dJx4a65c_grow_92f84_10 : decode cJx4a65c_grow_92f84 10 = .ok (.aload_n 0, 1) := by decide +kernel
theorem dJx4a65c_grow_92f84_11 : decode cJx4a65c_grow_92f84 11 = .ok (.getfield 9, 3) := by decide +kernel
theorem dJx4a65c_grow_92f84_14 : decode cJx4a65c_grow_92f84 14 = .ok (.getstatic 39, 3) := by decide +kernel
theorem dJx4a65c_grow_92f84_17 : decode cJx4a65c_grow_92f84 17 = .ok (.if_acmp .eq 28, 3) := by decide +kernel
theorem dJx4a65c_grow_92f84_45 : decode cJx4a65c_grow_92f84 45 = .ok (.aload_n 0, 1) := by decide +kernel
theorem dJx4a65c_grow_92f84_46 : decode cJx4a65c_grow_92f84 46 = .ok (.bipush 10, 2) := by decide +kernel
theorem dJx4a65c_grow_92f84_48 : decode cJx4a65c_grow_92f84 48 = .ok (.iload_n 1, 1) := by decide +kernel
theorem dJx4a65c_grow_92f84_49 : decode cJx4a65c_grow_92f84 49 = .ok (.invokestatic 79, 3) := by decide +kernel
theorem dJx4a65c_grow_92f84_52 : decode cJx4a65c_grow_92f84 52 = .ok (.anewarray 7, 3) := by decide +kernel
theorem dJx4a65c_grow_92f84_55 : decode cJx4a65c_grow_92f84 55 = .ok (.dup_x1, 1) := by decide +kernel
theorem dJx4a65c_grow_92f84_56 : decode cJx4a65c_grow_92f84 56 = .ok (.putfield 9, 3) := by decide +kernel
theorem dJx4a65c_grow_92f84_59 : decode cJx4a65c_grow_92f84 59 = .ok (.areturn, 1) := by decide +kernel
theorem dJx4a65c_grow_d5877_0 : decode cJx4a65c_grow_d5877 0 = .ok (.aload_n 0, 1) := by decide +kernel
theorem dJx4a65c_grow_d5877_1 : decode cJx4a65c_grow_d5877 1 = .ok (.aload_n 0, 1) := by decide +kernel
theorem dJx4a65c_grow_d5877_2 : decode cJx4a65c_grow_d5877 2 = .ok (.getfield 48, 3) := by decide +kernel
theorem dJx4a65c_grow_d5877_5 : decode cJx4a65c_grow_d5877 5 = .ok (.iconst 1, 1) := by decide +kernel
theorem dJx4a65c_grow_d5877_6 : decode cJx4a65c_grow_d5877 6 = .ok (.iadd, 1) := by decide +kernel
theorem dJx4a65c_grow_d5877_7 : decode cJx4a65c_grow_d5877 7 = .ok (.invokevirtual 69, 3) := by decide +kernel
theorem dJx4a65c_grow_d5877_10 : decode cJx4a65c_grow_d5877 10 = .ok (.areturn, 1) := by decide +kernel
theorem dJx4a65c_init_da8c8_0 : decode cJx4a65c_init_da8c8 0 = .ok (.aload_n 0, 1) := by decide +kernel
theorem dJx4a65c_init_da8c8_1 : decode cJx4a65c_init_da8c8 1 = .ok (.invokespecial 1, 3) := by decide +kernel
theorem dJx4a65c_init_da8c8_4 : decode cJx4a65c_init_da8c8 4 = .ok (.aload_n 0, 1) := by decide +kernel
theorem dJx4a65c_init_da8c8_5 : decode cJx4a65c_init_da8c8 5 = .ok (.getstatic 39, 3) := by decide +kernel
theorem dJx4a65c_init_da8c8_8 : decode cJx4a65c_init_da8c8 8 = .ok (.putfield 9, 3) := by decide +kernel
theorem dJx4a65c_init_da8c8_11 : decode cJx4a65c_init_da8c8 11 = .ok (.return_, 1) := by decide +kernel
theorem dJx4a65c_isEmpty_aae02_0 : decode cJx4a65c_isEmpty_aae02 0 = .ok (.aload_n 0, 1) := by decide +kernel
theorem dJx4a65c_isEmpty_aae02_1 : decode cJx4a65c_isEmpty_aae02 1 = .ok (.getfield 48, 3) := by decide +kernel
theorem dJx4a65c_isEmpty_aae02_4 : decode cJx4a65c_isEmpty_aae02 4 = .ok (.ifCond .ne 7, 3) := by decide +kernel
theorem dJx4a65c_isEmpty_aae02_7 : decode cJx4a65c_isEmpty_aae02 7 = .ok (.iconst 1, 1) := by decide +kernel
theorem dJx4a65c_isEmpty_aae02_8 : decode cJx4a65c_isEmpty_aae02 8 = .ok (.goto 4, 3) := by decide +kernel
theorem dJx4a65c_isEmpty_aae02_12 : decode cJx4a65c_isEmpty_aae02 12 = .ok (.ireturn, 1) := by decide +kernel
theorem dJx4a65c_iterator_32c93_0 : decode cJx4a65c_iterator_32c93 0 = .ok (.new 267, 3) := by decide +kernel
theorem dJx4a65c_iterator_32c93_3 : decode cJx4a65c_iterator_32c93 3 = .ok (.dup, 1) := by decide +kernel
theorem dJx4a65c_iterator_32c93_4 : decode cJx4a65c_iterator_32c93 4 = .ok (.aload_n 0, 1) := by decide +kernel
theorem dJx4a65c_iterator_32c93_5 : decode cJx4a65c_iterator_32c93 5 = .ok (.invokespecial 269, 3) := by decide +kernel
theorem dJx4a65c_iterator_32c93_8 : decode cJx4a65c_iterator_32c93 8 = .ok (.areturn, 1) := by decide +kernel
theorem dJx4a65c_size_8abf5_0 : decode cJx4a65c_size_8abf5 0 = .ok (.aload_n 0, 1) := by decide +kernel
theorem dJx4a65c_size_8abf5_1 : decode cJx4a65c_size_8abf5 1 = .ok (.getfield 48, 3) := by decide +kernel
theorem dJx4a65c_size_8abf5_4 : decode cJx4a65c_size_8abf5 4 = .ok (.ireturn, 1) := by decide +kernel
theorem dJxa1e45_init_da8c8_0 : decode cJxa1e45_init_da8c8 0 = .ok (.aload_n 0, 1) := by decide +kernel
theorem dJxa1e45_init_da8c8_1 : decode cJxa1e45_init_da8c8 1 = .ok (.invokespecial 1, 3) := by decide +kernel
theorem dJxa1e45_init_da8c8_4 : decode cJxa1e45_init_da8c8 4 = .ok (.return_, 1) := by decide +kernel
theorem dJxc12de_init_da8c8_0 : decode cJxc12de_init_da8c8 0 = .ok (.aload_n 0, 1) := by decide +kernel
theorem dJxc12de_init_da8c8_1 : decode cJxc12de_init_da8c8 1 = .ok (.invokespecial 1, 3) := by decide +kernel
theorem dJxc12de_init_da8c8_4 : decode cJxc12de_init_da8c8 4 = .ok (.aload_n 0, 1) := by decide +kernel
theorem dJxc12de_init_da8c8_5 : decode cJxc12de_init_da8c8 5 = .ok (.iconst 0, 1) := by decide +kernel
theorem dJxc12de_init_da8c8_6 : decode cJxc12de_init_da8c8 6 = .ok (.putfield 7, 3) := by decide +kernel
theorem dJxc12de_init_da8c8_9 : decode cJxc12de_init_da8c8 9 = .ok (.return_, 1) := by decide +kernel
theorem dL_addComponent_0 : decode cL_addComponent 0 = .ok (.aload 5, 2) := by decide +kernel
theorem dL_addComponent_2 : decode cL_addComponent 2 = .ok (.iconst 0, 1) := by decide +kernel
theorem dL_addComponent_3 : decode cL_addComponent 3 = .ok (.aload_n 0, 1) := by decide +kernel
theorem dL_addComponent_4 : decode cL_addComponent 4 = .ok (.iload_n 1, 1) := by decide +kernel
theorem dL_addComponent_5 : decode cL_addComponent 5 = .ok (.iload_n 2, 1) := by decide +kernel
theorem dL_addComponent_6 : decode cL_addComponent 6 = .ok (.iload_n 3, 1) := by decide +kernel
theorem dL_addComponent_7 : decode cL_addComponent 7 = .ok (.iload 4, 2) := by decide +kernel
theorem dL_addComponent_9 : decode cL_addComponent 9 = .ok (.invokevirtual 21, 3) := by decide +kernel
theorem dL_addComponent_17 : decode cL_addComponent 17 = .ok (.astore 6, 2) := by decide +kernel
theorem dL_addComponent_19 : decode cL_addComponent 19 = .ok (.iconst 1, 1) := by decide +kernel
theorem dL_addComponent_20 : decode cL_addComponent 20 = .ok (.ireturn, 1) := by decide +kernel
theorem dL_addMachine_0 : decode cL_addMachine 0 = .ok (.aload 5, 2) := by decide +kernel
theorem dL_addMachine_2 : decode cL_addMachine 2 = .ok (.iconst 0, 1) := by decide +kernel
theorem dL_addMachine_3 : decode cL_addMachine 3 = .ok (.aload_n 0, 1) := by decide +kernel
theorem dL_addMachine_4 : decode cL_addMachine 4 = .ok (.iload_n 1, 1) := by decide +kernel
theorem dL_addMachine_5 : decode cL_addMachine 5 = .ok (.iload_n 2, 1) := by decide +kernel
theorem dL_addMachine_6 : decode cL_addMachine 6 = .ok (.iload_n 3, 1) := by decide +kernel
theorem dL_addMachine_7 : decode cL_addMachine 7 = .ok (.iload 4, 2) := by decide +kernel
theorem dL_addMachine_9 : decode cL_addMachine 9 = .ok (.invokevirtual 7, 3) := by decide +kernel
theorem dL_addMachine_12 : decode cL_addMachine 12 = .ok (.i2l, 1) := by decide +kernel
theorem dL_addMachine_13 : decode cL_addMachine 13 = .ok (.lastore, 1) := by decide +kernel
theorem dL_addMachine_14 : decode cL_addMachine 14 = .ok (.goto 11, 3) := by decide +kernel
theorem dL_addMachine_17 : decode cL_addMachine 17 = .ok (.astore 6, 2) := by decide +kernel
theorem dL_addMachine_19 : decode cL_addMachine 19 = .ok (.iconst 1, 1) := by decide +kernel
theorem dL_addMachine_20 : decode cL_addMachine 20 = .ok (.ireturn, 1) := by decide +kernel
theorem dL_addMachine_25 : decode cL_addMachine 25 = .ok (.iconst 0, 1) := by decide +kernel
theorem dL_addMachine_26 : decode cL_addMachine 26 = .ok (.ireturn, 1) := by decide +kernel
theorem dL_addOperation_0 : decode cL_addOperation 0 = .ok (.aload 5, 2) := by decide +kernel
theorem dL_addOperation_2 : decode cL_addOperation 2 = .ok (.iconst 0, 1) := by decide +kernel
theorem dL_addOperation_3 : decode cL_addOperation 3 = .ok (.aload_n 0, 1) := by decide +kernel
theorem dL_addOperation_4 : decode cL_addOperation 4 = .ok (.iload_n 1, 1) := by decide +kernel
theorem dL_addOperation_5 : decode cL_addOperation 5 = .ok (.iload_n 2, 1) := by decide +kernel
theorem dL_addOperation_6 : decode cL_addOperation 6 = .ok (.iload_n 3, 1) := by decide +kernel
theorem dL_addOperation_7 : decode cL_addOperation 7 = .ok (.iload 4, 2) := by decide +kernel
theorem dL_addOperation_9 : decode cL_addOperation 9 = .ok (.invokevirtual 28, 3) := by decide +kernel
theorem dL_addOperation_17 : decode cL_addOperation 17 = .ok (.astore 6, 2) := by decide +kernel
theorem dL_addOperation_19 : decode cL_addOperation 19 = .ok (.iconst 1, 1) := by decide +kernel
theorem dL_addOperation_20 : decode cL_addOperation 20 = .ok (.ireturn, 1) := by decide +kernel
theorem dL_addPart_0 : decode cL_addPart 0 = .ok (.aload_n 3, 1) := by decide +kernel
theorem dL_addPart_1 : decode cL_addPart 1 = .ok (.iconst 0, 1) := by decide +kernel
theorem dL_addPart_2 : decode cL_addPart 2 = .ok (.aload_n 0, 1) := by decide +kernel
theorem dL_addPart_3 : decode cL_addPart 3 = .ok (.iload_n 1, 1) := by decide +kernel
theorem dL_addPart_4 : decode cL_addPart 4 = .ok (.iload_n 2, 1) := by decide +kernel
theorem dL_addPart_5 : decode cL_addPart 5 = .ok (.invokevirtual 17, 3) := by decide +kernel
theorem dL_addPart_8 : decode cL_addPart 8 = .ok (.i2l, 1) := by decide +kernel
theorem dL_addPart_9 : decode cL_addPart 9 = .ok (.lastore, 1) := by decide +kernel
theorem dL_addPart_10 : decode cL_addPart 10 = .ok (.goto 11, 3) := by decide +kernel
theorem dL_addPart_13 : decode cL_addPart 13 = .ok (.astore 4, 2) := by decide +kernel
theorem dL_addPart_15 : decode cL_addPart 15 = .ok (.iconst 1, 1) := by decide +kernel
theorem dL_addPart_16 : decode cL_addPart 16 = .ok (.ireturn, 1) := by decide +kernel
theorem dL_addPart_21 : decode cL_addPart 21 = .ok (.iconst 0, 1) := by decide +kernel
theorem dL_addPart_22 : decode cL_addPart 22 = .ok (.ireturn, 1) := by decide +kernel
theorem dL_advance_0 : decode cL_advance 0 = .ok (.aload_n 2, 1) := by decide +kernel
theorem dL_advance_1 : decode cL_advance 1 = .ok (.iconst 0, 1) := by decide +kernel
theorem dL_advance_2 : decode cL_advance 2 = .ok (.aload_n 0, 1) := by decide +kernel
theorem dL_advance_3 : decode cL_advance 3 = .ok (.iload_n 1, 1) := by decide +kernel
theorem dL_advance_4 : decode cL_advance 4 = .ok (.invokevirtual 85, 3) := by decide +kernel
theorem dL_advance_7 : decode cL_advance 7 = .ok (.i2l, 1) := by decide +kernel
theorem dL_advance_8 : decode cL_advance 8 = .ok (.lastore, 1) := by decide +kernel
theorem dL_advance_9 : decode cL_advance 9 = .ok (.goto 9, 3) := by decide +kernel
theorem dL_advance_12 : decode cL_advance 12 = .ok (.astore_n 3, 1) := by decide +kernel
theorem dL_advance_13 : decode cL_advance 13 = .ok (.iconst 1, 1) := by decide +kernel
theorem dL_advance_14 : decode cL_advance 14 = .ok (.ireturn, 1) := by decide +kernel
theorem dL_advance_18 : decode cL_advance 18 = .ok (.iconst 0, 1) := by decide +kernel
theorem dL_advance_19 : decode cL_advance 19 = .ok (.ireturn, 1) := by decide +kernel
theorem dL_costOf_0 : decode cL_costOf 0 = .ok (.aload_n 2, 1) := by decide +kernel
theorem dL_costOf_1 : decode cL_costOf 1 = .ok (.iconst 0, 1) := by decide +kernel
theorem dL_costOf_2 : decode cL_costOf 2 = .ok (.aload_n 0, 1) := by decide +kernel
theorem dL_costOf_3 : decode cL_costOf 3 = .ok (.iload_n 1, 1) := by decide +kernel
theorem dL_costOf_4 : decode cL_costOf 4 = .ok (.invokevirtual 65, 3) := by decide +kernel
theorem dL_costOf_11 : decode cL_costOf 11 = .ok (.astore_n 3, 1) := by decide +kernel
theorem dL_costOf_12 : decode cL_costOf 12 = .ok (.iconst 1, 1) := by decide +kernel
theorem dL_costOf_13 : decode cL_costOf 13 = .ok (.ireturn, 1) := by decide +kernel
theorem dL_deliver_0 : decode cL_deliver 0 = .ok (.aload_n 2, 1) := by decide +kernel
theorem dL_deliver_1 : decode cL_deliver 1 = .ok (.iconst 0, 1) := by decide +kernel
theorem dL_deliver_2 : decode cL_deliver 2 = .ok (.aload_n 0, 1) := by decide +kernel
theorem dL_deliver_3 : decode cL_deliver 3 = .ok (.iload_n 1, 1) := by decide +kernel
theorem dL_deliver_4 : decode cL_deliver 4 = .ok (.invokevirtual 88, 3) := by decide +kernel
theorem dL_deliver_19 : decode cL_deliver 19 = .ok (.astore_n 3, 1) := by decide +kernel
theorem dL_deliver_20 : decode cL_deliver 20 = .ok (.iconst 1, 1) := by decide +kernel
theorem dL_deliver_21 : decode cL_deliver 21 = .ok (.ireturn, 1) := by decide +kernel
theorem dL_deliveredCost_0 : decode cL_deliveredCost 0 = .ok (.aload_n 2, 1) := by decide +kernel
theorem dL_deliveredCost_1 : decode cL_deliveredCost 1 = .ok (.iconst 0, 1) := by decide +kernel
theorem dL_deliveredCost_2 : decode cL_deliveredCost 2 = .ok (.aload_n 0, 1) := by decide +kernel
theorem dL_deliveredCost_3 : decode cL_deliveredCost 3 = .ok (.iload_n 1, 1) := by decide +kernel
theorem dL_deliveredCost_4 : decode cL_deliveredCost 4 = .ok (.invokevirtual 120, 3) := by decide +kernel
theorem dL_deliveredCost_11 : decode cL_deliveredCost 11 = .ok (.astore_n 3, 1) := by decide +kernel
theorem dL_deliveredCost_12 : decode cL_deliveredCost 12 = .ok (.iconst 1, 1) := by decide +kernel
theorem dL_deliveredCost_13 : decode cL_deliveredCost 13 = .ok (.ireturn, 1) := by decide +kernel
theorem dL_finishedAt_0 : decode cL_finishedAt 0 = .ok (.aload_n 2, 1) := by decide +kernel
theorem dL_finishedAt_1 : decode cL_finishedAt 1 = .ok (.iconst 0, 1) := by decide +kernel
theorem dL_finishedAt_2 : decode cL_finishedAt 2 = .ok (.aload_n 0, 1) := by decide +kernel
theorem dL_finishedAt_3 : decode cL_finishedAt 3 = .ok (.iload_n 1, 1) := by decide +kernel
theorem dL_finishedAt_4 : decode cL_finishedAt 4 = .ok (.invokevirtual 99, 3) := by decide +kernel
theorem dL_finishedAt_12 : decode cL_finishedAt 12 = .ok (.astore_n 3, 1) := by decide +kernel
theorem dL_finishedAt_13 : decode cL_finishedAt 13 = .ok (.iconst 1, 1) := by decide +kernel
theorem dL_finishedAt_14 : decode cL_finishedAt 14 = .ok (.ireturn, 1) := by decide +kernel
theorem dL_hold_0 : decode cL_hold 0 = .ok (.aload_n 3, 1) := by decide +kernel
theorem dL_hold_1 : decode cL_hold 1 = .ok (.iconst 0, 1) := by decide +kernel
theorem dL_hold_2 : decode cL_hold 2 = .ok (.aload_n 0, 1) := by decide +kernel
theorem dL_hold_3 : decode cL_hold 3 = .ok (.iload_n 1, 1) := by decide +kernel
theorem dL_hold_4 : decode cL_hold 4 = .ok (.iload_n 2, 1) := by decide +kernel
theorem dL_hold_5 : decode cL_hold 5 = .ok (.invokevirtual 39, 3) := by decide +kernel
theorem dL_hold_13 : decode cL_hold 13 = .ok (.astore 4, 2) := by decide +kernel
theorem dL_hold_15 : decode cL_hold 15 = .ok (.iconst 1, 1) := by decide +kernel
theorem dL_hold_16 : decode cL_hold 16 = .ok (.ireturn, 1) := by decide +kernel
theorem dL_inTimeShare_0 : decode cL_inTimeShare 0 = .ok (.aload_n 1, 1) := by decide +kernel
theorem dL_inTimeShare_1 : decode cL_inTimeShare 1 = .ok (.iconst 0, 1) := by decide +kernel
theorem dL_inTimeShare_2 : decode cL_inTimeShare 2 = .ok (.aload_n 0, 1) := by decide +kernel
theorem dL_inTimeShare_3 : decode cL_inTimeShare 3 = .ok (.invokevirtual 123, 3) := by decide +kernel
theorem dL_inTimeShare_11 : decode cL_inTimeShare 11 = .ok (.astore_n 2, 1) := by decide +kernel
theorem dL_inTimeShare_12 : decode cL_inTimeShare 12 = .ok (.iconst 1, 1) := by decide +kernel
theorem dL_inTimeShare_13 : decode cL_inTimeShare 13 = .ok (.ireturn, 1) := by decide +kernel
theorem dL_isHeld_0 : decode cL_isHeld 0 = .ok (.aload_n 2, 1) := by decide +kernel
theorem dL_isHeld_1 : decode cL_isHeld 1 = .ok (.iconst 0, 1) := by decide +kernel
theorem dL_isHeld_2 : decode cL_isHeld 2 = .ok (.aload_n 0, 1) := by decide +kernel
theorem dL_isHeld_3 : decode cL_isHeld 3 = .ok (.iload_n 1, 1) := by decide +kernel
theorem dL_isHeld_4 : decode cL_isHeld 4 = .ok (.invokevirtual 43, 3) := by decide +kernel
theorem dL_isHeld_19 : decode cL_isHeld 19 = .ok (.astore_n 3, 1) := by decide +kernel
theorem dL_isHeld_20 : decode cL_isHeld 20 = .ok (.iconst 1, 1) := by decide +kernel
theorem dL_isHeld_21 : decode cL_isHeld 21 = .ok (.ireturn, 1) := by decide +kernel
theorem dL_isIn_0 : decode cL_isIn 0 = .ok (.aload_n 3, 1) := by decide +kernel
theorem dL_isIn_1 : decode cL_isIn 1 = .ok (.iconst 0, 1) := by decide +kernel
theorem dL_isIn_2 : decode cL_isIn 2 = .ok (.aload_n 0, 1) := by decide +kernel
theorem dL_isIn_3 : decode cL_isIn 3 = .ok (.iload_n 1, 1) := by decide +kernel
theorem dL_isIn_4 : decode cL_isIn 4 = .ok (.iload_n 2, 1) := by decide +kernel
theorem dL_isIn_5 : decode cL_isIn 5 = .ok (.invokevirtual 111, 3) := by decide +kernel
theorem dL_isIn_20 : decode cL_isIn 20 = .ok (.astore 4, 2) := by decide +kernel
theorem dL_isIn_22 : decode cL_isIn 22 = .ok (.iconst 1, 1) := by decide +kernel
theorem dL_isIn_23 : decode cL_isIn 23 = .ok (.ireturn, 1) := by decide +kernel
theorem dL_law_0 : decode cL_law 0 = .ok (.new 8, 3) := by decide +kernel
theorem dL_law_3 : decode cL_law 3 = .ok (.dup, 1) := by decide +kernel
theorem dL_law_4 : decode cL_law 4 = .ok (.invokespecial 133, 3) := by decide +kernel
theorem dL_law_7 : decode cL_law 7 = .ok (.astore_n 1, 1) := by decide +kernel
theorem dL_law_8 : decode cL_law 8 = .ok (.new 134, 3) := by decide +kernel
theorem dL_law_11 : decode cL_law 11 = .ok (.dup, 1) := by decide +kernel
theorem dL_law_12 : decode cL_law 12 = .ok (.invokespecial 136, 3) := by decide +kernel
theorem dL_law_15 : decode cL_law 15 = .ok (.astore_n 2, 1) := by decide +kernel
theorem dL_law_16 : decode cL_law 16 = .ok (.iconst 1, 1) := by decide +kernel
theorem dL_law_17 : decode cL_law 17 = .ok (.newarray .long, 2) := by decide +kernel
theorem dL_law_19 : decode cL_law 19 = .ok (.astore_n 3, 1) := by decide +kernel
theorem dL_law_20 : decode cL_law 20 = .ok (.iconst 1, 1) := by decide +kernel
theorem dL_law_21 : decode cL_law 21 = .ok (.newarray .double, 2) := by decide +kernel
theorem dL_law_23 : decode cL_law 23 = .ok (.astore 4, 2) := by decide +kernel
theorem dL_law_25 : decode cL_law 25 = .ok (.iconst 0, 1) := by decide +kernel
theorem dL_law_26 : decode cL_law 26 = .ok (.istore 5, 2) := by decide +kernel
theorem dL_law_28 : decode cL_law 28 = .ok (.iload 5, 2) := by decide +kernel
theorem dL_law_30 : decode cL_law 30 = .ok (.aload_n 0, 1) := by decide +kernel
theorem dL_law_31 : decode cL_law 31 = .ok (.arraylength, 1) := by decide +kernel
theorem dL_law_32 : decode cL_law 32 = .ok (.bipush 6, 2) := by decide +kernel
theorem dL_law_34 : decode cL_law 34 = .ok (.isub, 1) := by decide +kernel
theorem dL_law_35 : decode cL_law 35 = .ok (.if_icmp .gt 2412, 3) := by decide +kernel
theorem dL_law_38 : decode cL_law 38 = .ok (.aload_n 0, 1) := by decide +kernel
theorem dL_law_39 : decode cL_law 39 = .ok (.iload 5, 2) := by decide +kernel
theorem dL_law_41 : decode cL_law 41 = .ok (.iaload, 1) := by decide +kernel
theorem dL_law_42 : decode cL_law 42 = .ok (.bipush 63, 2) := by decide +kernel
theorem dL_law_44 : decode cL_law 44 = .ok (.iand, 1) := by decide +kernel
theorem dL_law_45 : decode cL_law 45 = .ok (.tableswitch 2396 0 34 #[155, 247, 331, 423, 515, 619, 675, 759, 822, 902, 977, 990, 1046, 1102, 1158, 1213, 1305, 1368, 1424, 1487, 1555, 1611, 1674, 1730, 1786, 1842, 1898, 1954, 2010, 2085, 2141, 2197, 2252, 2318, 2383], 155) := by decide +kernel
theorem dL_law_200 : decode cL_law 200 = .ok (.aload_n 1, 1) := by decide +kernel
theorem dL_law_201 : decode cL_law 201 = .ok (.aload_n 0, 1) := by decide +kernel
theorem dL_law_202 : decode cL_law 202 = .ok (.iload 5, 2) := by decide +kernel
theorem dL_law_204 : decode cL_law 204 = .ok (.iconst 1, 1) := by decide +kernel
theorem dL_law_205 : decode cL_law 205 = .ok (.iadd, 1) := by decide +kernel
theorem dL_law_206 : decode cL_law 206 = .ok (.iaload, 1) := by decide +kernel
theorem dL_law_207 : decode cL_law 207 = .ok (.aload_n 0, 1) := by decide +kernel
theorem dL_law_208 : decode cL_law 208 = .ok (.iload 5, 2) := by decide +kernel
theorem dL_law_210 : decode cL_law 210 = .ok (.iconst 2, 1) := by decide +kernel
theorem dL_law_211 : decode cL_law 211 = .ok (.iadd, 1) := by decide +kernel
theorem dL_law_212 : decode cL_law 212 = .ok (.iaload, 1) := by decide +kernel
theorem dL_law_213 : decode cL_law 213 = .ok (.aload_n 0, 1) := by decide +kernel
theorem dL_law_214 : decode cL_law 214 = .ok (.iload 5, 2) := by decide +kernel
theorem dL_law_216 : decode cL_law 216 = .ok (.iconst 3, 1) := by decide +kernel
theorem dL_law_217 : decode cL_law 217 = .ok (.iadd, 1) := by decide +kernel
theorem dL_law_218 : decode cL_law 218 = .ok (.iaload, 1) := by decide +kernel
theorem dL_law_219 : decode cL_law 219 = .ok (.aload_n 0, 1) := by decide +kernel
theorem dL_law_220 : decode cL_law 220 = .ok (.iload 5, 2) := by decide +kernel
theorem dL_law_222 : decode cL_law 222 = .ok (.iconst 4, 1) := by decide +kernel
theorem dL_law_223 : decode cL_law 223 = .ok (.iadd, 1) := by decide +kernel
theorem dL_law_224 : decode cL_law 224 = .ok (.iaload, 1) := by decide +kernel
theorem dL_law_225 : decode cL_law 225 = .ok (.aload_n 3, 1) := by decide +kernel
theorem dL_law_226 : decode cL_law 226 = .ok (.invokestatic 137, 3) := by decide +kernel
theorem dL_law_229 : decode cL_law 229 = .ok (.istore 6, 2) := by decide +kernel
theorem dL_law_231 : decode cL_law 231 = .ok (.aload_n 2, 1) := by decide +kernel
theorem dL_law_232 : decode cL_law 232 = .ok (.aload_n 0, 1) := by decide +kernel
theorem dL_law_233 : decode cL_law 233 = .ok (.iload 5, 2) := by decide +kernel
theorem dL_law_235 : decode cL_law 235 = .ok (.iconst 1, 1) := by decide +kernel
theorem dL_law_236 : decode cL_law 236 = .ok (.iadd, 1) := by decide +kernel
theorem dL_law_237 : decode cL_law 237 = .ok (.iaload, 1) := by decide +kernel
theorem dL_law_238 : decode cL_law 238 = .ok (.aload_n 0, 1) := by decide +kernel
theorem dL_law_239 : decode cL_law 239 = .ok (.iload 5, 2) := by decide +kernel
theorem dL_law_241 : decode cL_law 241 = .ok (.iconst 2, 1) := by decide +kernel
theorem dL_law_242 : decode cL_law 242 = .ok (.iadd, 1) := by decide +kernel
theorem dL_law_243 : decode cL_law 243 = .ok (.iaload, 1) := by decide +kernel
theorem dL_law_244 : decode cL_law 244 = .ok (.aload_n 0, 1) := by decide +kernel
theorem dL_law_245 : decode cL_law 245 = .ok (.iload 5, 2) := by decide +kernel
theorem dL_law_247 : decode cL_law 247 = .ok (.iconst 3, 1) := by decide +kernel
theorem dL_law_248 : decode cL_law 248 = .ok (.iadd, 1) := by decide +kernel
theorem dL_law_249 : decode cL_law 249 = .ok (.iaload, 1) := by decide +kernel
theorem dL_law_250 : decode cL_law 250 = .ok (.aload_n 0, 1) := by decide +kernel
theorem dL_law_251 : decode cL_law 251 = .ok (.iload 5, 2) := by decide +kernel
theorem dL_law_253 : decode cL_law 253 = .ok (.iconst 4, 1) := by decide +kernel
theorem dL_law_254 : decode cL_law 254 = .ok (.iadd, 1) := by decide +kernel
theorem dL_law_255 : decode cL_law 255 = .ok (.iaload, 1) := by decide +kernel
theorem dL_law_256 : decode cL_law 256 = .ok (.invokevirtual 142, 3) := by decide +kernel
theorem dL_law_259 : decode cL_law 259 = .ok (.istore 7, 2) := by decide +kernel
theorem dL_law_261 : decode cL_law 261 = .ok (.aload_n 2, 1) := by decide +kernel
theorem dL_law_262 : decode cL_law 262 = .ok (.invokevirtual 143, 3) := by decide +kernel
theorem dL_law_265 : decode cL_law 265 = .ok (.iload 6, 2) := by decide +kernel
theorem dL_law_267 : decode cL_law 267 = .ok (.if_icmp .eq 5, 3) := by decide +kernel
theorem dL_law_272 : decode cL_law 272 = .ok (.iload 6, 2) := by decide +kernel
theorem dL_law_274 : decode cL_law 274 = .ok (.ifCond .ne 15, 3) := by decide +kernel
theorem dL_law_277 : decode cL_law 277 = .ok (.aload_n 3, 1) := by decide +kernel
theorem dL_law_278 : decode cL_law 278 = .ok (.iconst 0, 1) := by decide +kernel
theorem dL_law_279 : decode cL_law 279 = .ok (.laload, 1) := by decide +kernel
theorem dL_law_280 : decode cL_law 280 = .ok (.iload 7, 2) := by decide +kernel
theorem dL_law_282 : decode cL_law 282 = .ok (.i2l, 1) := by decide +kernel
theorem dL_law_283 : decode cL_law 283 = .ok (.lcmp, 1) := by decide +kernel
theorem dL_law_284 : decode cL_law 284 = .ok (.ifCond .eq 5, 3) := by decide +kernel
theorem dL_law_289 : decode cL_law 289 = .ok (.goto 2152, 3) := by decide +kernel
theorem dL_law_292 : decode cL_law 292 = .ok (.aload_n 1, 1) := by decide +kernel
theorem dL_law_293 : decode cL_law 293 = .ok (.aload_n 0, 1) := by decide +kernel
theorem dL_law_294 : decode cL_law 294 = .ok (.iload 5, 2) := by decide +kernel
theorem dL_law_296 : decode cL_law 296 = .ok (.iconst 1, 1) := by decide +kernel
theorem dL_law_297 : decode cL_law 297 = .ok (.iadd, 1) := by decide +kernel
theorem dL_law_298 : decode cL_law 298 = .ok (.iaload, 1) := by decide +kernel
theorem dL_law_299 : decode cL_law 299 = .ok (.ifCond .eq 7, 3) := by decide +kernel
theorem dL_law_302 : decode cL_law 302 = .ok (.iconst 1, 1) := by decide +kernel
theorem dL_law_303 : decode cL_law 303 = .ok (.goto 4, 3) := by decide +kernel
theorem dL_law_306 : decode cL_law 306 = .ok (.iconst 0, 1) := by decide +kernel
theorem dL_law_307 : decode cL_law 307 = .ok (.aload_n 0, 1) := by decide +kernel
theorem dL_law_308 : decode cL_law 308 = .ok (.iload 5, 2) := by decide +kernel
theorem dL_law_310 : decode cL_law 310 = .ok (.iconst 2, 1) := by decide +kernel
theorem dL_law_311 : decode cL_law 311 = .ok (.iadd, 1) := by decide +kernel
theorem dL_law_312 : decode cL_law 312 = .ok (.iaload, 1) := by decide +kernel
theorem dL_law_313 : decode cL_law 313 = .ok (.aload_n 3, 1) := by decide +kernel
theorem dL_law_314 : decode cL_law 314 = .ok (.invokestatic 147, 3) := by decide +kernel
theorem dL_law_317 : decode cL_law 317 = .ok (.istore 6, 2) := by decide +kernel
theorem dL_law_319 : decode cL_law 319 = .ok (.aload_n 2, 1) := by decide +kernel
theorem dL_law_320 : decode cL_law 320 = .ok (.aload_n 0, 1) := by decide +kernel
theorem dL_law_321 : decode cL_law 321 = .ok (.iload 5, 2) := by decide +kernel
theorem dL_law_323 : decode cL_law 323 = .ok (.iconst 1, 1) := by decide +kernel
theorem dL_law_324 : decode cL_law 324 = .ok (.iadd, 1) := by decide +kernel
theorem dL_law_325 : decode cL_law 325 = .ok (.iaload, 1) := by decide +kernel
theorem dL_law_326 : decode cL_law 326 = .ok (.ifCond .eq 7, 3) := by decide +kernel
theorem dL_law_329 : decode cL_law 329 = .ok (.iconst 1, 1) := by decide +kernel
theorem dL_law_330 : decode cL_law 330 = .ok (.goto 4, 3) := by decide +kernel
theorem dL_law_333 : decode cL_law 333 = .ok (.iconst 0, 1) := by decide +kernel
theorem dL_law_334 : decode cL_law 334 = .ok (.aload_n 0, 1) := by decide +kernel
theorem dL_law_335 : decode cL_law 335 = .ok (.iload 5, 2) := by decide +kernel
theorem dL_law_337 : decode cL_law 337 = .ok (.iconst 2, 1) := by decide +kernel
theorem dL_law_338 : decode cL_law 338 = .ok (.iadd, 1) := by decide +kernel
theorem dL_law_339 : decode cL_law 339 = .ok (.iaload, 1) := by decide +kernel
theorem dL_law_340 : decode cL_law 340 = .ok (.invokevirtual 150, 3) := by decide +kernel
theorem dL_law_343 : decode cL_law 343 = .ok (.istore 7, 2) := by decide +kernel
theorem dL_law_345 : decode cL_law 345 = .ok (.aload_n 2, 1) := by decide +kernel
theorem dL_law_346 : decode cL_law 346 = .ok (.invokevirtual 143, 3) := by decide +kernel
theorem dL_law_349 : decode cL_law 349 = .ok (.iload 6, 2) := by decide +kernel
theorem dL_law_351 : decode cL_law 351 = .ok (.if_icmp .eq 5, 3) := by decide +kernel
theorem dL_law_356 : decode cL_law 356 = .ok (.iload 6, 2) := by decide +kernel
theorem dL_law_358 : decode cL_law 358 = .ok (.ifCond .ne 15, 3) := by decide +kernel
theorem dL_law_361 : decode cL_law 361 = .ok (.aload_n 3, 1) := by decide +kernel
theorem dL_law_362 : decode cL_law 362 = .ok (.iconst 0, 1) := by decide +kernel
theorem dL_law_363 : decode cL_law 363 = .ok (.laload, 1) := by decide +kernel
theorem dL_law_364 : decode cL_law 364 = .ok (.iload 7, 2) := by decide +kernel
theorem dL_law_366 : decode cL_law 366 = .ok (.i2l, 1) := by decide +kernel
theorem dL_law_367 : decode cL_law 367 = .ok (.lcmp, 1) := by decide +kernel
theorem dL_law_368 : decode cL_law 368 = .ok (.ifCond .eq 5, 3) := by decide +kernel
theorem dL_law_373 : decode cL_law 373 = .ok (.goto 2068, 3) := by decide +kernel
theorem dL_law_376 : decode cL_law 376 = .ok (.aload_n 1, 1) := by decide +kernel
theorem dL_law_377 : decode cL_law 377 = .ok (.aload_n 0, 1) := by decide +kernel
theorem dL_law_378 : decode cL_law 378 = .ok (.iload 5, 2) := by decide +kernel
theorem dL_law_380 : decode cL_law 380 = .ok (.iconst 1, 1) := by decide +kernel
theorem dL_law_381 : decode cL_law 381 = .ok (.iadd, 1) := by decide +kernel
theorem dL_law_382 : decode cL_law 382 = .ok (.iaload, 1) := by decide +kernel
theorem dL_law_383 : decode cL_law 383 = .ok (.aload_n 0, 1) := by decide +kernel
theorem dL_law_384 : decode cL_law 384 = .ok (.iload 5, 2) := by decide +kernel
theorem dL_law_386 : decode cL_law 386 = .ok (.iconst 2, 1) := by decide +kernel
theorem dL_law_387 : decode cL_law 387 = .ok (.iadd, 1) := by decide +kernel
theorem dL_law_388 : decode cL_law 388 = .ok (.iaload, 1) := by decide +kernel
theorem dL_law_389 : decode cL_law 389 = .ok (.aload_n 0, 1) := by decide +kernel
theorem dL_law_390 : decode cL_law 390 = .ok (.iload 5, 2) := by decide +kernel
theorem dL_law_392 : decode cL_law 392 = .ok (.iconst 3, 1) := by decide +kernel
theorem dL_law_393 : decode cL_law 393 = .ok (.iadd, 1) := by decide +kernel
theorem dL_law_394 : decode cL_law 394 = .ok (.iaload, 1) := by decide +kernel
theorem dL_law_395 : decode cL_law 395 = .ok (.aload_n 0, 1) := by decide +kernel
theorem dL_law_396 : decode cL_law 396 = .ok (.iload 5, 2) := by decide +kernel
theorem dL_law_398 : decode cL_law 398 = .ok (.iconst 4, 1) := by decide +kernel
theorem dL_law_399 : decode cL_law 399 = .ok (.iadd, 1) := by decide +kernel
theorem dL_law_400 : decode cL_law 400 = .ok (.iaload, 1) := by decide +kernel
theorem dL_law_401 : decode cL_law 401 = .ok (.aload_n 3, 1) := by decide +kernel
theorem dL_law_402 : decode cL_law 402 = .ok (.invokestatic 151, 3) := by decide +kernel
theorem dL_law_405 : decode cL_law 405 = .ok (.istore 6, 2) := by decide +kernel
theorem dL_law_407 : decode cL_law 407 = .ok (.aload_n 2, 1) := by decide +kernel
theorem dL_law_408 : decode cL_law 408 = .ok (.aload_n 0, 1) := by decide +kernel
theorem dL_law_409 : decode cL_law 409 = .ok (.iload 5, 2) := by decide +kernel
theorem dL_law_411 : decode cL_law 411 = .ok (.iconst 1, 1) := by decide +kernel
theorem dL_law_412 : decode cL_law 412 = .ok (.iadd, 1) := by decide +kernel
theorem dL_law_413 : decode cL_law 413 = .ok (.iaload, 1) := by decide +kernel
theorem dL_law_414 : decode cL_law 414 = .ok (.aload_n 0, 1) := by decide +kernel
theorem dL_law_415 : decode cL_law 415 = .ok (.iload 5, 2) := by decide +kernel
theorem dL_law_417 : decode cL_law 417 = .ok (.iconst 2, 1) := by decide +kernel
theorem dL_law_418 : decode cL_law 418 = .ok (.iadd, 1) := by decide +kernel
theorem dL_law_419 : decode cL_law 419 = .ok (.iaload, 1) := by decide +kernel
theorem dL_law_420 : decode cL_law 420 = .ok (.aload_n 0, 1) := by decide +kernel
theorem dL_law_421 : decode cL_law 421 = .ok (.iload 5, 2) := by decide +kernel
theorem dL_law_423 : decode cL_law 423 = .ok (.iconst 3, 1) := by decide +kernel
theorem dL_law_424 : decode cL_law 424 = .ok (.iadd, 1) := by decide +kernel
theorem dL_law_425 : decode cL_law 425 = .ok (.iaload, 1) := by decide +kernel
theorem dL_law_426 : decode cL_law 426 = .ok (.aload_n 0, 1) := by decide +kernel
theorem dL_law_427 : decode cL_law 427 = .ok (.iload 5, 2) := by decide +kernel
theorem dL_law_429 : decode cL_law 429 = .ok (.iconst 4, 1) := by decide +kernel
theorem dL_law_430 : decode cL_law 430 = .ok (.iadd, 1) := by decide +kernel
theorem dL_law_431 : decode cL_law 431 = .ok (.iaload, 1) := by decide +kernel
theorem dL_law_432 : decode cL_law 432 = .ok (.invokevirtual 153, 3) := by decide +kernel
theorem dL_law_435 : decode cL_law 435 = .ok (.istore 7, 2) := by decide +kernel
theorem dL_law_437 : decode cL_law 437 = .ok (.aload_n 2, 1) := by decide +kernel
theorem dL_law_438 : decode cL_law 438 = .ok (.invokevirtual 143, 3) := by decide +kernel
theorem dL_law_441 : decode cL_law 441 = .ok (.iload 6, 2) := by decide +kernel
theorem dL_law_443 : decode cL_law 443 = .ok (.if_icmp .eq 5, 3) := by decide +kernel
theorem dL_law_448 : decode cL_law 448 = .ok (.iload 6, 2) := by decide +kernel
theorem dL_law_450 : decode cL_law 450 = .ok (.ifCond .ne 15, 3) := by decide +kernel
theorem dL_law_465 : decode cL_law 465 = .ok (.goto 1976, 3) := by decide +kernel
theorem dL_law_468 : decode cL_law 468 = .ok (.aload_n 1, 1) := by decide +kernel
theorem dL_law_469 : decode cL_law 469 = .ok (.aload_n 0, 1) := by decide +kernel
theorem dL_law_470 : decode cL_law 470 = .ok (.iload 5, 2) := by decide +kernel
theorem dL_law_472 : decode cL_law 472 = .ok (.iconst 1, 1) := by decide +kernel
theorem dL_law_473 : decode cL_law 473 = .ok (.iadd, 1) := by decide +kernel
theorem dL_law_474 : decode cL_law 474 = .ok (.iaload, 1) := by decide +kernel
theorem dL_law_475 : decode cL_law 475 = .ok (.aload_n 0, 1) := by decide +kernel
theorem dL_law_476 : decode cL_law 476 = .ok (.iload 5, 2) := by decide +kernel
theorem dL_law_478 : decode cL_law 478 = .ok (.iconst 2, 1) := by decide +kernel
theorem dL_law_479 : decode cL_law 479 = .ok (.iadd, 1) := by decide +kernel
theorem dL_law_480 : decode cL_law 480 = .ok (.iaload, 1) := by decide +kernel
theorem dL_law_481 : decode cL_law 481 = .ok (.aload_n 0, 1) := by decide +kernel
theorem dL_law_482 : decode cL_law 482 = .ok (.iload 5, 2) := by decide +kernel
theorem dL_law_484 : decode cL_law 484 = .ok (.iconst 3, 1) := by decide +kernel
theorem dL_law_485 : decode cL_law 485 = .ok (.iadd, 1) := by decide +kernel
theorem dL_law_486 : decode cL_law 486 = .ok (.iaload, 1) := by decide +kernel
theorem dL_law_487 : decode cL_law 487 = .ok (.aload_n 0, 1) := by decide +kernel
theorem dL_law_488 : decode cL_law 488 = .ok (.iload 5, 2) := by decide +kernel
theorem dL_law_490 : decode cL_law 490 = .ok (.iconst 4, 1) := by decide +kernel
theorem dL_law_491 : decode cL_law 491 = .ok (.iadd, 1) := by decide +kernel
theorem dL_law_492 : decode cL_law 492 = .ok (.iaload, 1) := by decide +kernel
theorem dL_law_493 : decode cL_law 493 = .ok (.aload_n 3, 1) := by decide +kernel
theorem dL_law_494 : decode cL_law 494 = .ok (.invokestatic 154, 3) := by decide +kernel
theorem dL_law_497 : decode cL_law 497 = .ok (.istore 6, 2) := by decide +kernel
theorem dL_law_499 : decode cL_law 499 = .ok (.aload_n 2, 1) := by decide +kernel
theorem dL_law_500 : decode cL_law 500 = .ok (.aload_n 0, 1) := by decide +kernel
theorem dL_law_501 : decode cL_law 501 = .ok (.iload 5, 2) := by decide +kernel
theorem dL_law_503 : decode cL_law 503 = .ok (.iconst 1, 1) := by decide +kernel
theorem dL_law_504 : decode cL_law 504 = .ok (.iadd, 1) := by decide +kernel
theorem dL_law_505 : decode cL_law 505 = .ok (.iaload, 1) := by decide +kernel
theorem dL_law_506 : decode cL_law 506 = .ok (.aload_n 0, 1) := by decide +kernel
theorem dL_law_507 : decode cL_law 507 = .ok (.iload 5, 2) := by decide +kernel
theorem dL_law_509 : decode cL_law 509 = .ok (.iconst 2, 1) := by decide +kernel
theorem dL_law_510 : decode cL_law 510 = .ok (.iadd, 1) := by decide +kernel
theorem dL_law_511 : decode cL_law 511 = .ok (.iaload, 1) := by decide +kernel
theorem dL_law_512 : decode cL_law 512 = .ok (.aload_n 0, 1) := by decide +kernel
theorem dL_law_513 : decode cL_law 513 = .ok (.iload 5, 2) := by decide +kernel
theorem dL_law_515 : decode cL_law 515 = .ok (.iconst 3, 1) := by decide +kernel
theorem dL_law_516 : decode cL_law 516 = .ok (.iadd, 1) := by decide +kernel
theorem dL_law_517 : decode cL_law 517 = .ok (.iaload, 1) := by decide +kernel
theorem dL_law_518 : decode cL_law 518 = .ok (.aload_n 0, 1) := by decide +kernel
theorem dL_law_519 : decode cL_law 519 = .ok (.iload 5, 2) := by decide +kernel
theorem dL_law_521 : decode cL_law 521 = .ok (.iconst 4, 1) := by decide +kernel
theorem dL_law_522 : decode cL_law 522 = .ok (.iadd, 1) := by decide +kernel
theorem dL_law_523 : decode cL_law 523 = .ok (.iaload, 1) := by decide +kernel
theorem dL_law_524 : decode cL_law 524 = .ok (.invokevirtual 156, 3) := by decide +kernel
theorem dL_law_527 : decode cL_law 527 = .ok (.istore 7, 2) := by decide +kernel
theorem dL_law_529 : decode cL_law 529 = .ok (.aload_n 2, 1) := by decide +kernel
theorem dL_law_530 : decode cL_law 530 = .ok (.invokevirtual 143, 3) := by decide +kernel
theorem dL_law_533 : decode cL_law 533 = .ok (.iload 6, 2) := by decide +kernel
theorem dL_law_535 : decode cL_law 535 = .ok (.if_icmp .eq 5, 3) := by decide +kernel
theorem dL_law_540 : decode cL_law 540 = .ok (.iload 6, 2) := by decide +kernel
theorem dL_law_542 : decode cL_law 542 = .ok (.ifCond .ne 15, 3) := by decide +kernel
theorem dL_law_557 : decode cL_law 557 = .ok (.goto 1884, 3) := by decide +kernel
theorem dL_law_560 : decode cL_law 560 = .ok (.aload_n 1, 1) := by decide +kernel
theorem dL_law_561 : decode cL_law 561 = .ok (.aload_n 0, 1) := by decide +kernel
theorem dL_law_562 : decode cL_law 562 = .ok (.iload 5, 2) := by decide +kernel
theorem dL_law_564 : decode cL_law 564 = .ok (.iconst 1, 1) := by decide +kernel
theorem dL_law_565 : decode cL_law 565 = .ok (.iadd, 1) := by decide +kernel
theorem dL_law_566 : decode cL_law 566 = .ok (.iaload, 1) := by decide +kernel
theorem dL_law_567 : decode cL_law 567 = .ok (.aload_n 0, 1) := by decide +kernel
theorem dL_law_568 : decode cL_law 568 = .ok (.iload 5, 2) := by decide +kernel
theorem dL_law_570 : decode cL_law 570 = .ok (.iconst 2, 1) := by decide +kernel
theorem dL_law_571 : decode cL_law 571 = .ok (.iadd, 1) := by decide +kernel
theorem dL_law_572 : decode cL_law 572 = .ok (.iaload, 1) := by decide +kernel
theorem dL_law_573 : decode cL_law 573 = .ok (.aload_n 0, 1) := by decide +kernel
theorem dL_law_574 : decode cL_law 574 = .ok (.iload 5, 2) := by decide +kernel
theorem dL_law_576 : decode cL_law 576 = .ok (.iconst 3, 1) := by decide +kernel
theorem dL_law_577 : decode cL_law 577 = .ok (.iadd, 1) := by decide +kernel
theorem dL_law_578 : decode cL_law 578 = .ok (.iaload, 1) := by decide +kernel
theorem dL_law_579 : decode cL_law 579 = .ok (.aload_n 0, 1) := by decide +kernel
theorem dL_law_580 : decode cL_law 580 = .ok (.iload 5, 2) := by decide +kernel
theorem dL_law_582 : decode cL_law 582 = .ok (.iconst 4, 1) := by decide +kernel
theorem dL_law_583 : decode cL_law 583 = .ok (.iadd, 1) := by decide +kernel
theorem dL_law_584 : decode cL_law 584 = .ok (.iaload, 1) := by decide +kernel
theorem dL_law_585 : decode cL_law 585 = .ok (.aload_n 0, 1) := by decide +kernel
theorem dL_law_586 : decode cL_law 586 = .ok (.iload 5, 2) := by decide +kernel
theorem dL_law_588 : decode cL_law 588 = .ok (.iconst 5, 1) := by decide +kernel
theorem dL_law_589 : decode cL_law 589 = .ok (.iadd, 1) := by decide +kernel
theorem dL_law_590 : decode cL_law 590 = .ok (.iaload, 1) := by decide +kernel
theorem dL_law_591 : decode cL_law 591 = .ok (.aload_n 3, 1) := by decide +kernel
theorem dL_law_592 : decode cL_law 592 = .ok (.invokestatic 157, 3) := by decide +kernel
theorem dL_law_595 : decode cL_law 595 = .ok (.istore 6, 2) := by decide +kernel
theorem dL_law_597 : decode cL_law 597 = .ok (.aload_n 2, 1) := by decide +kernel
theorem dL_law_598 : decode cL_law 598 = .ok (.aload_n 0, 1) := by decide +kernel
theorem dL_law_599 : decode cL_law 599 = .ok (.iload 5, 2) := by decide +kernel
theorem dL_law_601 : decode cL_law 601 = .ok (.iconst 1, 1) := by decide +kernel
theorem dL_law_602 : decode cL_law 602 = .ok (.iadd, 1) := by decide +kernel
theorem dL_law_603 : decode cL_law 603 = .ok (.iaload, 1) := by decide +kernel
theorem dL_law_604 : decode cL_law 604 = .ok (.aload_n 0, 1) := by decide +kernel
theorem dL_law_605 : decode cL_law 605 = .ok (.iload 5, 2) := by decide +kernel
theorem dL_law_607 : decode cL_law 607 = .ok (.iconst 2, 1) := by decide +kernel
theorem dL_law_608 : decode cL_law 608 = .ok (.iadd, 1) := by decide +kernel
theorem dL_law_609 : decode cL_law 609 = .ok (.iaload, 1) := by decide +kernel
theorem dL_law_610 : decode cL_law 610 = .ok (.aload_n 0, 1) := by decide +kernel
theorem dL_law_611 : decode cL_law 611 = .ok (.iload 5, 2) := by decide +kernel
theorem dL_law_613 : decode cL_law 613 = .ok (.iconst 3, 1) := by decide +kernel
theorem dL_law_614 : decode cL_law 614 = .ok (.iadd, 1) := by decide +kernel
theorem dL_law_615 : decode cL_law 615 = .ok (.iaload, 1) := by decide +kernel
theorem dL_law_616 : decode cL_law 616 = .ok (.aload_n 0, 1) := by decide +kernel
theorem dL_law_617 : decode cL_law 617 = .ok (.iload 5, 2) := by decide +kernel
theorem dL_law_619 : decode cL_law 619 = .ok (.iconst 4, 1) := by decide +kernel
theorem dL_law_620 : decode cL_law 620 = .ok (.iadd, 1) := by decide +kernel
theorem dL_law_621 : decode cL_law 621 = .ok (.iaload, 1) := by decide +kernel
theorem dL_law_622 : decode cL_law 622 = .ok (.aload_n 0, 1) := by decide +kernel
theorem dL_law_623 : decode cL_law 623 = .ok (.iload 5, 2) := by decide +kernel
theorem dL_law_625 : decode cL_law 625 = .ok (.iconst 5, 1) := by decide +kernel
theorem dL_law_626 : decode cL_law 626 = .ok (.iadd, 1) := by decide +kernel
theorem dL_law_627 : decode cL_law 627 = .ok (.iaload, 1) := by decide +kernel
theorem dL_law_628 : decode cL_law 628 = .ok (.invokevirtual 160, 3) := by decide +kernel
theorem dL_law_631 : decode cL_law 631 = .ok (.istore 7, 2) := by decide +kernel
theorem dL_law_633 : decode cL_law 633 = .ok (.aload_n 2, 1) := by decide +kernel
theorem dL_law_634 : decode cL_law 634 = .ok (.invokevirtual 143, 3) := by decide +kernel
theorem dL_law_637 : decode cL_law 637 = .ok (.iload 6, 2) := by decide +kernel
theorem dL_law_639 : decode cL_law 639 = .ok (.if_icmp .eq 5, 3) := by decide +kernel
theorem dL_law_644 : decode cL_law 644 = .ok (.iload 6, 2) := by decide +kernel
theorem dL_law_646 : decode cL_law 646 = .ok (.ifCond .ne 15, 3) := by decide +kernel
theorem dL_law_661 : decode cL_law 661 = .ok (.goto 1780, 3) := by decide +kernel
theorem dL_law_664 : decode cL_law 664 = .ok (.aload_n 1, 1) := by decide +kernel
theorem dL_law_665 : decode cL_law 665 = .ok (.aload_n 0, 1) := by decide +kernel
theorem dL_law_666 : decode cL_law 666 = .ok (.iload 5, 2) := by decide +kernel
theorem dL_law_668 : decode cL_law 668 = .ok (.iconst 1, 1) := by decide +kernel
theorem dL_law_669 : decode cL_law 669 = .ok (.iadd, 1) := by decide +kernel
theorem dL_law_670 : decode cL_law 670 = .ok (.iaload, 1) := by decide +kernel
theorem dL_law_671 : decode cL_law 671 = .ok (.aload_n 3, 1) := by decide +kernel
theorem dL_law_672 : decode cL_law 672 = .ok (.invokestatic 161, 3) := by decide +kernel
theorem dL_law_675 : decode cL_law 675 = .ok (.istore 6, 2) := by decide +kernel
theorem dL_law_677 : decode cL_law 677 = .ok (.aload_n 2, 1) := by decide +kernel
theorem dL_law_678 : decode cL_law 678 = .ok (.aload_n 0, 1) := by decide +kernel
theorem dL_law_679 : decode cL_law 679 = .ok (.iload 5, 2) := by decide +kernel
theorem dL_law_681 : decode cL_law 681 = .ok (.iconst 1, 1) := by decide +kernel
theorem dL_law_682 : decode cL_law 682 = .ok (.iadd, 1) := by decide +kernel
theorem dL_law_683 : decode cL_law 683 = .ok (.iaload, 1) := by decide +kernel
theorem dL_law_684 : decode cL_law 684 = .ok (.invokevirtual 164, 3) := by decide +kernel
theorem dL_law_687 : decode cL_law 687 = .ok (.istore 7, 2) := by decide +kernel
theorem dL_law_689 : decode cL_law 689 = .ok (.aload_n 2, 1) := by decide +kernel
theorem dL_law_690 : decode cL_law 690 = .ok (.invokevirtual 143, 3) := by decide +kernel
theorem dL_law_693 : decode cL_law 693 = .ok (.iload 6, 2) := by decide +kernel
theorem dL_law_695 : decode cL_law 695 = .ok (.if_icmp .eq 5, 3) := by decide +kernel
theorem dL_law_700 : decode cL_law 700 = .ok (.iload 6, 2) := by decide +kernel
theorem dL_law_702 : decode cL_law 702 = .ok (.ifCond .ne 15, 3) := by decide +kernel
theorem dL_law_705 : decode cL_law 705 = .ok (.aload_n 3, 1) := by decide +kernel
theorem dL_law_706 : decode cL_law 706 = .ok (.iconst 0, 1) := by decide +kernel
theorem dL_law_707 : decode cL_law 707 = .ok (.laload, 1) := by decide +kernel
theorem dL_law_708 : decode cL_law 708 = .ok (.iload 7, 2) := by decide +kernel
theorem dL_law_710 : decode cL_law 710 = .ok (.i2l, 1) := by decide +kernel
theorem dL_law_711 : decode cL_law 711 = .ok (.lcmp, 1) := by decide +kernel
theorem dL_law_712 : decode cL_law 712 = .ok (.ifCond .eq 5, 3) := by decide +kernel
theorem dL_law_717 : decode cL_law 717 = .ok (.goto 1724, 3) := by decide +kernel
theorem dL_law_720 : decode cL_law 720 = .ok (.aload_n 1, 1) := by decide +kernel
theorem dL_law_721 : decode cL_law 721 = .ok (.aload_n 0, 1) := by decide +kernel
theorem dL_law_722 : decode cL_law 722 = .ok (.iload 5, 2) := by decide +kernel
theorem dL_law_724 : decode cL_law 724 = .ok (.iconst 1, 1) := by decide +kernel
theorem dL_law_725 : decode cL_law 725 = .ok (.iadd, 1) := by decide +kernel
theorem dL_law_726 : decode cL_law 726 = .ok (.iaload, 1) := by decide +kernel
theorem dL_law_727 : decode cL_law 727 = .ok (.aload_n 0, 1) := by decide +kernel
theorem dL_law_728 : decode cL_law 728 = .ok (.iload 5, 2) := by decide +kernel
theorem dL_law_730 : decode cL_law 730 = .ok (.iconst 2, 1) := by decide +kernel
theorem dL_law_731 : decode cL_law 731 = .ok (.iadd, 1) := by decide +kernel
theorem dL_law_732 : decode cL_law 732 = .ok (.iaload, 1) := by decide +kernel
theorem dL_law_733 : decode cL_law 733 = .ok (.ifCond .eq 7, 3) := by decide +kernel
theorem dL_law_736 : decode cL_law 736 = .ok (.iconst 1, 1) := by decide +kernel
theorem dL_law_737 : decode cL_law 737 = .ok (.goto 4, 3) := by decide +kernel
theorem dL_law_740 : decode cL_law 740 = .ok (.iconst 0, 1) := by decide +kernel
theorem dL_law_741 : decode cL_law 741 = .ok (.aload_n 3, 1) := by decide +kernel
theorem dL_law_742 : decode cL_law 742 = .ok (.invokestatic 165, 3) := by decide +kernel
theorem dL_law_745 : decode cL_law 745 = .ok (.istore 6, 2) := by decide +kernel
theorem dL_law_747 : decode cL_law 747 = .ok (.aload_n 2, 1) := by decide +kernel
theorem dL_law_748 : decode cL_law 748 = .ok (.aload_n 0, 1) := by decide +kernel
theorem dL_law_749 : decode cL_law 749 = .ok (.iload 5, 2) := by decide +kernel
theorem dL_law_751 : decode cL_law 751 = .ok (.iconst 1, 1) := by decide +kernel
theorem dL_law_752 : decode cL_law 752 = .ok (.iadd, 1) := by decide +kernel
theorem dL_law_753 : decode cL_law 753 = .ok (.iaload, 1) := by decide +kernel
theorem dL_law_754 : decode cL_law 754 = .ok (.aload_n 0, 1) := by decide +kernel
theorem dL_law_755 : decode cL_law 755 = .ok (.iload 5, 2) := by decide +kernel
theorem dL_law_757 : decode cL_law 757 = .ok (.iconst 2, 1) := by decide +kernel
theorem dL_law_758 : decode cL_law 758 = .ok (.iadd, 1) := by decide +kernel
theorem dL_law_759 : decode cL_law 759 = .ok (.iaload, 1) := by decide +kernel
theorem dL_law_760 : decode cL_law 760 = .ok (.ifCond .eq 7, 3) := by decide +kernel
theorem dL_law_763 : decode cL_law 763 = .ok (.iconst 1, 1) := by decide +kernel
theorem dL_law_764 : decode cL_law 764 = .ok (.goto 4, 3) := by decide +kernel
theorem dL_law_767 : decode cL_law 767 = .ok (.iconst 0, 1) := by decide +kernel
theorem dL_law_768 : decode cL_law 768 = .ok (.invokevirtual 168, 3) := by decide +kernel
theorem dL_law_771 : decode cL_law 771 = .ok (.istore 7, 2) := by decide +kernel
theorem dL_law_773 : decode cL_law 773 = .ok (.aload_n 2, 1) := by decide +kernel
theorem dL_law_774 : decode cL_law 774 = .ok (.invokevirtual 143, 3) := by decide +kernel
theorem dL_law_777 : decode cL_law 777 = .ok (.iload 6, 2) := by decide +kernel
theorem dL_law_779 : decode cL_law 779 = .ok (.if_icmp .eq 5, 3) := by decide +kernel
theorem dL_law_784 : decode cL_law 784 = .ok (.iload 6, 2) := by decide +kernel
theorem dL_law_786 : decode cL_law 786 = .ok (.ifCond .ne 15, 3) := by decide +kernel
theorem dL_law_801 : decode cL_law 801 = .ok (.goto 1640, 3) := by decide +kernel
theorem dL_law_804 : decode cL_law 804 = .ok (.aload_n 1, 1) := by decide +kernel
theorem dL_law_805 : decode cL_law 805 = .ok (.aload_n 0, 1) := by decide +kernel
theorem dL_law_806 : decode cL_law 806 = .ok (.iload 5, 2) := by decide +kernel
theorem dL_law_808 : decode cL_law 808 = .ok (.iconst 1, 1) := by decide +kernel
theorem dL_law_809 : decode cL_law 809 = .ok (.iadd, 1) := by decide +kernel
theorem dL_law_810 : decode cL_law 810 = .ok (.iaload, 1) := by decide +kernel
theorem dL_law_811 : decode cL_law 811 = .ok (.aload_n 3, 1) := by decide +kernel
theorem dL_law_812 : decode cL_law 812 = .ok (.invokestatic 169, 3) := by decide +kernel
theorem dL_law_815 : decode cL_law 815 = .ok (.istore 6, 2) := by decide +kernel
theorem dL_law_817 : decode cL_law 817 = .ok (.aload_n 2, 1) := by decide +kernel
theorem dL_law_818 : decode cL_law 818 = .ok (.aload_n 0, 1) := by decide +kernel
theorem dL_law_819 : decode cL_law 819 = .ok (.iload 5, 2) := by decide +kernel
theorem dL_law_821 : decode cL_law 821 = .ok (.iconst 1, 1) := by decide +kernel
theorem dL_law_822 : decode cL_law 822 = .ok (.iadd, 1) := by decide +kernel
theorem dL_law_823 : decode cL_law 823 = .ok (.iaload, 1) := by decide +kernel
theorem dL_law_824 : decode cL_law 824 = .ok (.invokevirtual 171, 3) := by decide +kernel
theorem dL_law_827 : decode cL_law 827 = .ok (.istore 7, 2) := by decide +kernel
theorem dL_law_829 : decode cL_law 829 = .ok (.aload_n 2, 1) := by decide +kernel
theorem dL_law_830 : decode cL_law 830 = .ok (.invokevirtual 143, 3) := by decide +kernel
theorem dL_law_833 : decode cL_law 833 = .ok (.iload 6, 2) := by decide +kernel
theorem dL_law_835 : decode cL_law 835 = .ok (.if_icmp .eq 5, 3) := by decide +kernel
theorem dL_law_840 : decode cL_law 840 = .ok (.iload 6, 2) := by decide +kernel
theorem dL_law_842 : decode cL_law 842 = .ok (.ifCond .ne 22, 3) := by decide +kernel
theorem dL_law_864 : decode cL_law 864 = .ok (.goto 1577, 3) := by decide +kernel
theorem dL_law_867 : decode cL_law 867 = .ok (.aload_n 1, 1) := by decide +kernel
theorem dL_law_868 : decode cL_law 868 = .ok (.aload_n 0, 1) := by decide +kernel
theorem dL_law_869 : decode cL_law 869 = .ok (.iload 5, 2) := by decide +kernel
theorem dL_law_871 : decode cL_law 871 = .ok (.iconst 1, 1) := by decide +kernel
theorem dL_law_872 : decode cL_law 872 = .ok (.iadd, 1) := by decide +kernel
theorem dL_law_873 : decode cL_law 873 = .ok (.iaload, 1) := by decide +kernel
theorem dL_law_874 : decode cL_law 874 = .ok (.aload_n 0, 1) := by decide +kernel
theorem dL_law_875 : decode cL_law 875 = .ok (.iload 5, 2) := by decide +kernel
theorem dL_law_877 : decode cL_law 877 = .ok (.iconst 2, 1) := by decide +kernel
theorem dL_law_878 : decode cL_law 878 = .ok (.iadd, 1) := by decide +kernel
theorem dL_law_879 : decode cL_law 879 = .ok (.iaload, 1) := by decide +kernel
theorem dL_law_880 : decode cL_law 880 = .ok (.aload_n 0, 1) := by decide +kernel
theorem dL_law_881 : decode cL_law 881 = .ok (.iload 5, 2) := by decide +kernel
theorem dL_law_883 : decode cL_law 883 = .ok (.iconst 3, 1) := by decide +kernel
theorem dL_law_884 : decode cL_law 884 = .ok (.iadd, 1) := by decide +kernel
theorem dL_law_885 : decode cL_law 885 = .ok (.iaload, 1) := by decide +kernel
theorem dL_law_886 : decode cL_law 886 = .ok (.aload_n 3, 1) := by decide +kernel
theorem dL_law_887 : decode cL_law 887 = .ok (.invokestatic 172, 3) := by decide +kernel
theorem dL_law_890 : decode cL_law 890 = .ok (.istore 6, 2) := by decide +kernel
theorem dL_law_892 : decode cL_law 892 = .ok (.aload_n 2, 1) := by decide +kernel
theorem dL_law_893 : decode cL_law 893 = .ok (.aload_n 0, 1) := by decide +kernel
theorem dL_law_894 : decode cL_law 894 = .ok (.iload 5, 2) := by decide +kernel
theorem dL_law_896 : decode cL_law 896 = .ok (.iconst 1, 1) := by decide +kernel
theorem dL_law_897 : decode cL_law 897 = .ok (.iadd, 1) := by decide +kernel
theorem dL_law_898 : decode cL_law 898 = .ok (.iaload, 1) := by decide +kernel
theorem dL_law_899 : decode cL_law 899 = .ok (.aload_n 0, 1) := by decide +kernel
theorem dL_law_900 : decode cL_law 900 = .ok (.iload 5, 2) := by decide +kernel
theorem dL_law_902 : decode cL_law 902 = .ok (.iconst 2, 1) := by decide +kernel
theorem dL_law_903 : decode cL_law 903 = .ok (.iadd, 1) := by decide +kernel
theorem dL_law_904 : decode cL_law 904 = .ok (.iaload, 1) := by decide +kernel
theorem dL_law_905 : decode cL_law 905 = .ok (.aload_n 0, 1) := by decide +kernel
theorem dL_law_906 : decode cL_law 906 = .ok (.iload 5, 2) := by decide +kernel
theorem dL_law_908 : decode cL_law 908 = .ok (.iconst 3, 1) := by decide +kernel
theorem dL_law_909 : decode cL_law 909 = .ok (.iadd, 1) := by decide +kernel
theorem dL_law_910 : decode cL_law 910 = .ok (.iaload, 1) := by decide +kernel
theorem dL_law_911 : decode cL_law 911 = .ok (.invokevirtual 175, 3) := by decide +kernel
theorem dL_law_914 : decode cL_law 914 = .ok (.istore 7, 2) := by decide +kernel
theorem dL_law_916 : decode cL_law 916 = .ok (.aload_n 2, 1) := by decide +kernel
theorem dL_law_917 : decode cL_law 917 = .ok (.invokevirtual 143, 3) := by decide +kernel
theorem dL_law_920 : decode cL_law 920 = .ok (.iload 6, 2) := by decide +kernel
theorem dL_law_922 : decode cL_law 922 = .ok (.if_icmp .eq 5, 3) := by decide +kernel
theorem dL_law_927 : decode cL_law 927 = .ok (.iload 6, 2) := by decide +kernel
theorem dL_law_929 : decode cL_law 929 = .ok (.ifCond .ne 15, 3) := by decide +kernel
theorem dL_law_944 : decode cL_law 944 = .ok (.goto 1497, 3) := by decide +kernel
theorem dL_law_947 : decode cL_law 947 = .ok (.aload_n 1, 1) := by decide +kernel
theorem dL_law_948 : decode cL_law 948 = .ok (.aload_n 0, 1) := by decide +kernel
theorem dL_law_949 : decode cL_law 949 = .ok (.iload 5, 2) := by decide +kernel
theorem dL_law_951 : decode cL_law 951 = .ok (.iconst 1, 1) := by decide +kernel
theorem dL_law_952 : decode cL_law 952 = .ok (.iadd, 1) := by decide +kernel
theorem dL_law_953 : decode cL_law 953 = .ok (.iaload, 1) := by decide +kernel
theorem dL_law_954 : decode cL_law 954 = .ok (.aload_n 0, 1) := by decide +kernel
theorem dL_law_955 : decode cL_law 955 = .ok (.iload 5, 2) := by decide +kernel
theorem dL_law_957 : decode cL_law 957 = .ok (.iconst 2, 1) := by decide +kernel
theorem dL_law_958 : decode cL_law 958 = .ok (.iadd, 1) := by decide +kernel
theorem dL_law_959 : decode cL_law 959 = .ok (.iaload, 1) := by decide +kernel
theorem dL_law_960 : decode cL_law 960 = .ok (.aload_n 3, 1) := by decide +kernel
theorem dL_law_961 : decode cL_law 961 = .ok (.invokestatic 176, 3) := by decide +kernel
theorem dL_law_964 : decode cL_law 964 = .ok (.istore 6, 2) := by decide +kernel
theorem dL_law_966 : decode cL_law 966 = .ok (.aload_n 2, 1) := by decide +kernel
theorem dL_law_967 : decode cL_law 967 = .ok (.aload_n 0, 1) := by decide +kernel
theorem dL_law_968 : decode cL_law 968 = .ok (.iload 5, 2) := by decide +kernel
theorem dL_law_970 : decode cL_law 970 = .ok (.iconst 1, 1) := by decide +kernel
theorem dL_law_971 : decode cL_law 971 = .ok (.iadd, 1) := by decide +kernel
theorem dL_law_972 : decode cL_law 972 = .ok (.iaload, 1) := by decide +kernel
theorem dL_law_973 : decode cL_law 973 = .ok (.aload_n 0, 1) := by decide +kernel
theorem dL_law_974 : decode cL_law 974 = .ok (.iload 5, 2) := by decide +kernel
theorem dL_law_976 : decode cL_law 976 = .ok (.iconst 2, 1) := by decide +kernel
theorem dL_law_977 : decode cL_law 977 = .ok (.iadd, 1) := by decide +kernel
theorem dL_law_978 : decode cL_law 978 = .ok (.iaload, 1) := by decide +kernel
theorem dL_law_979 : decode cL_law 979 = .ok (.invokevirtual 179, 3) := by decide +kernel
theorem dL_law_982 : decode cL_law 982 = .ok (.istore 7, 2) := by decide +kernel
theorem dL_law_984 : decode cL_law 984 = .ok (.aload_n 2, 1) := by decide +kernel
theorem dL_law_985 : decode cL_law 985 = .ok (.invokevirtual 143, 3) := by decide +kernel
theorem dL_law_988 : decode cL_law 988 = .ok (.iload 6, 2) := by decide +kernel
theorem dL_law_990 : decode cL_law 990 = .ok (.if_icmp .eq 5, 3) := by decide +kernel
theorem dL_law_995 : decode cL_law 995 = .ok (.iload 6, 2) := by decide +kernel
theorem dL_law_997 : decode cL_law 997 = .ok (.ifCond .ne 22, 3) := by decide +kernel
theorem dL_law_1019 : decode cL_law 1019 = .ok (.goto 1422, 3) := by decide +kernel
theorem dL_law_1022 : decode cL_law 1022 = .ok (.aload_n 1, 1) := by decide +kernel
theorem dL_law_1023 : decode cL_law 1023 = .ok (.invokevirtual 180, 3) := by decide +kernel
theorem dL_law_1026 : decode cL_law 1026 = .ok (.aload_n 2, 1) := by decide +kernel
theorem dL_law_1027 : decode cL_law 1027 = .ok (.invokevirtual 183, 3) := by decide +kernel
theorem dL_law_1030 : decode cL_law 1030 = .ok (.if_icmp .eq 1411, 3) := by decide +kernel
theorem dL_law_1035 : decode cL_law 1035 = .ok (.aload_n 1, 1) := by decide +kernel
theorem dL_law_1036 : decode cL_law 1036 = .ok (.aload_n 0, 1) := by decide +kernel
theorem dL_law_1037 : decode cL_law 1037 = .ok (.iload 5, 2) := by decide +kernel
theorem dL_law_1039 : decode cL_law 1039 = .ok (.iconst 1, 1) := by decide +kernel
theorem dL_law_1040 : decode cL_law 1040 = .ok (.iadd, 1) := by decide +kernel
theorem dL_law_1041 : decode cL_law 1041 = .ok (.iaload, 1) := by decide +kernel
theorem dL_law_1042 : decode cL_law 1042 = .ok (.aload_n 3, 1) := by decide +kernel
theorem dL_law_1043 : decode cL_law 1043 = .ok (.invokestatic 184, 3) := by decide +kernel
theorem dL_law_1046 : decode cL_law 1046 = .ok (.istore 6, 2) := by decide +kernel
theorem dL_law_1048 : decode cL_law 1048 = .ok (.aload_n 2, 1) := by decide +kernel
theorem dL_law_1049 : decode cL_law 1049 = .ok (.aload_n 0, 1) := by decide +kernel
theorem dL_law_1050 : decode cL_law 1050 = .ok (.iload 5, 2) := by decide +kernel
theorem dL_law_1052 : decode cL_law 1052 = .ok (.iconst 1, 1) := by decide +kernel
theorem dL_law_1053 : decode cL_law 1053 = .ok (.iadd, 1) := by decide +kernel
theorem dL_law_1054 : decode cL_law 1054 = .ok (.iaload, 1) := by decide +kernel
theorem dL_law_1055 : decode cL_law 1055 = .ok (.invokevirtual 186, 3) := by decide +kernel
theorem dL_law_1058 : decode cL_law 1058 = .ok (.istore 7, 2) := by decide +kernel
theorem dL_law_1060 : decode cL_law 1060 = .ok (.aload_n 2, 1) := by decide +kernel
theorem dL_law_1061 : decode cL_law 1061 = .ok (.invokevirtual 143, 3) := by decide +kernel
theorem dL_law_1064 : decode cL_law 1064 = .ok (.iload 6, 2) := by decide +kernel
theorem dL_law_1066 : decode cL_law 1066 = .ok (.if_icmp .eq 5, 3) := by decide +kernel
theorem dL_law_1071 : decode cL_law 1071 = .ok (.iload 6, 2) := by decide +kernel
theorem dL_law_1073 : decode cL_law 1073 = .ok (.ifCond .ne 15, 3) := by decide +kernel
theorem dL_law_1088 : decode cL_law 1088 = .ok (.goto 1353, 3) := by decide +kernel
theorem dL_law_1091 : decode cL_law 1091 = .ok (.aload_n 1, 1) := by decide +kernel
theorem dL_law_1092 : decode cL_law 1092 = .ok (.aload_n 0, 1) := by decide +kernel
theorem dL_law_1093 : decode cL_law 1093 = .ok (.iload 5, 2) := by decide +kernel
theorem dL_law_1095 : decode cL_law 1095 = .ok (.iconst 1, 1) := by decide +kernel
theorem dL_law_1096 : decode cL_law 1096 = .ok (.iadd, 1) := by decide +kernel
theorem dL_law_1097 : decode cL_law 1097 = .ok (.iaload, 1) := by decide +kernel
theorem dL_law_1098 : decode cL_law 1098 = .ok (.aload_n 3, 1) := by decide +kernel
theorem dL_law_1099 : decode cL_law 1099 = .ok (.invokestatic 187, 3) := by decide +kernel
theorem dL_law_1102 : decode cL_law 1102 = .ok (.istore 6, 2) := by decide +kernel
theorem dL_law_1104 : decode cL_law 1104 = .ok (.aload_n 2, 1) := by decide +kernel
theorem dL_law_1105 : decode cL_law 1105 = .ok (.aload_n 0, 1) := by decide +kernel
theorem dL_law_1106 : decode cL_law 1106 = .ok (.iload 5, 2) := by decide +kernel
theorem dL_law_1108 : decode cL_law 1108 = .ok (.iconst 1, 1) := by decide +kernel
theorem dL_law_1109 : decode cL_law 1109 = .ok (.iadd, 1) := by decide +kernel
theorem dL_law_1110 : decode cL_law 1110 = .ok (.iaload, 1) := by decide +kernel
theorem dL_law_1111 : decode cL_law 1111 = .ok (.invokevirtual 189, 3) := by decide +kernel
theorem dL_law_1114 : decode cL_law 1114 = .ok (.istore 7, 2) := by decide +kernel
theorem dL_law_1116 : decode cL_law 1116 = .ok (.aload_n 2, 1) := by decide +kernel
theorem dL_law_1117 : decode cL_law 1117 = .ok (.invokevirtual 143, 3) := by decide +kernel
theorem dL_law_1120 : decode cL_law 1120 = .ok (.iload 6, 2) := by decide +kernel
theorem dL_law_1122 : decode cL_law 1122 = .ok (.if_icmp .eq 5, 3) := by decide +kernel
theorem dL_law_1127 : decode cL_law 1127 = .ok (.iload 6, 2) := by decide +kernel
theorem dL_law_1129 : decode cL_law 1129 = .ok (.ifCond .ne 15, 3) := by decide +kernel
theorem dL_law_1144 : decode cL_law 1144 = .ok (.goto 1297, 3) := by decide +kernel
theorem dL_law_1147 : decode cL_law 1147 = .ok (.aload_n 1, 1) := by decide +kernel
theorem dL_law_1148 : decode cL_law 1148 = .ok (.aload_n 0, 1) := by decide +kernel
theorem dL_law_1149 : decode cL_law 1149 = .ok (.iload 5, 2) := by decide +kernel
theorem dL_law_1151 : decode cL_law 1151 = .ok (.iconst 1, 1) := by decide +kernel
theorem dL_law_1152 : decode cL_law 1152 = .ok (.iadd, 1) := by decide +kernel
theorem dL_law_1153 : decode cL_law 1153 = .ok (.iaload, 1) := by decide +kernel
theorem dL_law_1154 : decode cL_law 1154 = .ok (.aload_n 3, 1) := by decide +kernel
theorem dL_law_1155 : decode cL_law 1155 = .ok (.invokestatic 190, 3) := by decide +kernel
theorem dL_law_1158 : decode cL_law 1158 = .ok (.istore 6, 2) := by decide +kernel
theorem dL_law_1160 : decode cL_law 1160 = .ok (.aload_n 2, 1) := by decide +kernel
theorem dL_law_1161 : decode cL_law 1161 = .ok (.aload_n 0, 1) := by decide +kernel
theorem dL_law_1162 : decode cL_law 1162 = .ok (.iload 5, 2) := by decide +kernel
theorem dL_law_1164 : decode cL_law 1164 = .ok (.iconst 1, 1) := by decide +kernel
theorem dL_law_1165 : decode cL_law 1165 = .ok (.iadd, 1) := by decide +kernel
theorem dL_law_1166 : decode cL_law 1166 = .ok (.iaload, 1) := by decide +kernel
theorem dL_law_1167 : decode cL_law 1167 = .ok (.invokevirtual 192, 3) := by decide +kernel
theorem dL_law_1170 : decode cL_law 1170 = .ok (.istore 7, 2) := by decide +kernel
theorem dL_law_1172 : decode cL_law 1172 = .ok (.aload_n 2, 1) := by decide +kernel
theorem dL_law_1173 : decode cL_law 1173 = .ok (.invokevirtual 143, 3) := by decide +kernel
theorem dL_law_1176 : decode cL_law 1176 = .ok (.iload 6, 2) := by decide +kernel
theorem dL_law_1178 : decode cL_law 1178 = .ok (.if_icmp .eq 5, 3) := by decide +kernel
theorem dL_law_1183 : decode cL_law 1183 = .ok (.iload 6, 2) := by decide +kernel
theorem dL_law_1185 : decode cL_law 1185 = .ok (.ifCond .ne 15, 3) := by decide +kernel
theorem dL_law_1200 : decode cL_law 1200 = .ok (.goto 1241, 3) := by decide +kernel
theorem dL_law_1203 : decode cL_law 1203 = .ok (.aload_n 1, 1) := by decide +kernel
theorem dL_law_1204 : decode cL_law 1204 = .ok (.aload_n 0, 1) := by decide +kernel
theorem dL_law_1205 : decode cL_law 1205 = .ok (.iload 5, 2) := by decide +kernel
theorem dL_law_1207 : decode cL_law 1207 = .ok (.iconst 1, 1) := by decide +kernel
theorem dL_law_1208 : decode cL_law 1208 = .ok (.iadd, 1) := by decide +kernel
theorem dL_law_1209 : decode cL_law 1209 = .ok (.iaload, 1) := by decide +kernel
theorem dL_law_1210 : decode cL_law 1210 = .ok (.aload_n 3, 1) := by decide +kernel
theorem dL_law_1211 : decode cL_law 1211 = .ok (.invokestatic 193, 3) := by decide +kernel
theorem dL_law_1214 : decode cL_law 1214 = .ok (.istore 6, 2) := by decide +kernel
theorem dL_law_1216 : decode cL_law 1216 = .ok (.aload_n 2, 1) := by decide +kernel
theorem dL_law_1217 : decode cL_law 1217 = .ok (.aload_n 0, 1) := by decide +kernel
theorem dL_law_1218 : decode cL_law 1218 = .ok (.iload 5, 2) := by decide +kernel
theorem dL_law_1220 : decode cL_law 1220 = .ok (.iconst 1, 1) := by decide +kernel
theorem dL_law_1221 : decode cL_law 1221 = .ok (.iadd, 1) := by decide +kernel
theorem dL_law_1222 : decode cL_law 1222 = .ok (.iaload, 1) := by decide +kernel
theorem dL_law_1223 : decode cL_law 1223 = .ok (.invokevirtual 195, 3) := by decide +kernel
theorem dL_law_1226 : decode cL_law 1226 = .ok (.lstore 7, 2) := by decide +kernel
theorem dL_law_1228 : decode cL_law 1228 = .ok (.aload_n 2, 1) := by decide +kernel
theorem dL_law_1229 : decode cL_law 1229 = .ok (.invokevirtual 143, 3) := by decide +kernel
theorem dL_law_1232 : decode cL_law 1232 = .ok (.iload 6, 2) := by decide +kernel
theorem dL_law_1234 : decode cL_law 1234 = .ok (.if_icmp .eq 5, 3) := by decide +kernel
theorem dL_law_1239 : decode cL_law 1239 = .ok (.iload 6, 2) := by decide +kernel
theorem dL_law_1241 : decode cL_law 1241 = .ok (.ifCond .ne 14, 3) := by decide +kernel
theorem dL_law_1255 : decode cL_law 1255 = .ok (.goto 1186, 3) := by decide +kernel
theorem dL_law_1258 : decode cL_law 1258 = .ok (.aload_n 1, 1) := by decide +kernel
theorem dL_law_1259 : decode cL_law 1259 = .ok (.aload_n 0, 1) := by decide +kernel
theorem dL_law_1260 : decode cL_law 1260 = .ok (.iload 5, 2) := by decide +kernel
theorem dL_law_1262 : decode cL_law 1262 = .ok (.iconst 1, 1) := by decide +kernel
theorem dL_law_1263 : decode cL_law 1263 = .ok (.iadd, 1) := by decide +kernel
theorem dL_law_1264 : decode cL_law 1264 = .ok (.iaload, 1) := by decide +kernel
theorem dL_law_1265 : decode cL_law 1265 = .ok (.aload_n 0, 1) := by decide +kernel
theorem dL_law_1266 : decode cL_law 1266 = .ok (.iload 5, 2) := by decide +kernel
theorem dL_law_1268 : decode cL_law 1268 = .ok (.iconst 2, 1) := by decide +kernel
theorem dL_law_1269 : decode cL_law 1269 = .ok (.iadd, 1) := by decide +kernel
theorem dL_law_1270 : decode cL_law 1270 = .ok (.iaload, 1) := by decide +kernel
theorem dL_law_1271 : decode cL_law 1271 = .ok (.aload_n 0, 1) := by decide +kernel
theorem dL_law_1272 : decode cL_law 1272 = .ok (.iload 5, 2) := by decide +kernel
theorem dL_law_1274 : decode cL_law 1274 = .ok (.iconst 3, 1) := by decide +kernel
theorem dL_law_1275 : decode cL_law 1275 = .ok (.iadd, 1) := by decide +kernel
theorem dL_law_1276 : decode cL_law 1276 = .ok (.iaload, 1) := by decide +kernel
theorem dL_law_1277 : decode cL_law 1277 = .ok (.aload_n 0, 1) := by decide +kernel
theorem dL_law_1278 : decode cL_law 1278 = .ok (.iload 5, 2) := by decide +kernel
theorem dL_law_1280 : decode cL_law 1280 = .ok (.iconst 4, 1) := by decide +kernel
theorem dL_law_1281 : decode cL_law 1281 = .ok (.iadd, 1) := by decide +kernel
theorem dL_law_1282 : decode cL_law 1282 = .ok (.iaload, 1) := by decide +kernel
theorem dL_law_1283 : decode cL_law 1283 = .ok (.aload_n 3, 1) := by decide +kernel
theorem dL_law_1284 : decode cL_law 1284 = .ok (.invokestatic 196, 3) := by decide +kernel
theorem dL_law_1287 : decode cL_law 1287 = .ok (.istore 6, 2) := by decide +kernel
theorem dL_law_1289 : decode cL_law 1289 = .ok (.aload_n 2, 1) := by decide +kernel
theorem dL_law_1290 : decode cL_law 1290 = .ok (.aload_n 0, 1) := by decide +kernel
theorem dL_law_1291 : decode cL_law 1291 = .ok (.iload 5, 2) := by decide +kernel
theorem dL_law_1293 : decode cL_law 1293 = .ok (.iconst 1, 1) := by decide +kernel
theorem dL_law_1294 : decode cL_law 1294 = .ok (.iadd, 1) := by decide +kernel
theorem dL_law_1295 : decode cL_law 1295 = .ok (.iaload, 1) := by decide +kernel
theorem dL_law_1296 : decode cL_law 1296 = .ok (.aload_n 0, 1) := by decide +kernel
theorem dL_law_1297 : decode cL_law 1297 = .ok (.iload 5, 2) := by decide +kernel
theorem dL_law_1299 : decode cL_law 1299 = .ok (.iconst 2, 1) := by decide +kernel
theorem dL_law_1300 : decode cL_law 1300 = .ok (.iadd, 1) := by decide +kernel
theorem dL_law_1301 : decode cL_law 1301 = .ok (.iaload, 1) := by decide +kernel
theorem dL_law_1302 : decode cL_law 1302 = .ok (.aload_n 0, 1) := by decide +kernel
theorem dL_law_1303 : decode cL_law 1303 = .ok (.iload 5, 2) := by decide +kernel
theorem dL_law_1305 : decode cL_law 1305 = .ok (.iconst 3, 1) := by decide +kernel
theorem dL_law_1306 : decode cL_law 1306 = .ok (.iadd, 1) := by decide +kernel
theorem dL_law_1307 : decode cL_law 1307 = .ok (.iaload, 1) := by decide +kernel
theorem dL_law_1308 : decode cL_law 1308 = .ok (.aload_n 0, 1) := by decide +kernel
theorem dL_law_1309 : decode cL_law 1309 = .ok (.iload 5, 2) := by decide +kernel
theorem dL_law_1311 : decode cL_law 1311 = .ok (.iconst 4, 1) := by decide +kernel
theorem dL_law_1312 : decode cL_law 1312 = .ok (.iadd, 1) := by decide +kernel
theorem dL_law_1313 : decode cL_law 1313 = .ok (.iaload, 1) := by decide +kernel
theorem dL_law_1314 : decode cL_law 1314 = .ok (.invokevirtual 198, 3) := by decide +kernel
theorem dL_law_1317 : decode cL_law 1317 = .ok (.istore 7, 2) := by decide +kernel
theorem dL_law_1319 : decode cL_law 1319 = .ok (.aload_n 2, 1) := by decide +kernel
theorem dL_law_1320 : decode cL_law 1320 = .ok (.invokevirtual 143, 3) := by decide +kernel
theorem dL_law_1323 : decode cL_law 1323 = .ok (.iload 6, 2) := by decide +kernel
theorem dL_law_1325 : decode cL_law 1325 = .ok (.if_icmp .eq 5, 3) := by decide +kernel
theorem dL_law_1330 : decode cL_law 1330 = .ok (.iload 6, 2) := by decide +kernel
theorem dL_law_1332 : decode cL_law 1332 = .ok (.ifCond .ne 15, 3) := by decide +kernel
theorem dL_law_1347 : decode cL_law 1347 = .ok (.goto 1094, 3) := by decide +kernel
theorem dL_law_1350 : decode cL_law 1350 = .ok (.aload_n 1, 1) := by decide +kernel
theorem dL_law_1351 : decode cL_law 1351 = .ok (.aload_n 0, 1) := by decide +kernel
theorem dL_law_1352 : decode cL_law 1352 = .ok (.iload 5, 2) := by decide +kernel
theorem dL_law_1354 : decode cL_law 1354 = .ok (.iconst 1, 1) := by decide +kernel
theorem dL_law_1355 : decode cL_law 1355 = .ok (.iadd, 1) := by decide +kernel
theorem dL_law_1356 : decode cL_law 1356 = .ok (.iaload, 1) := by decide +kernel
theorem dL_law_1357 : decode cL_law 1357 = .ok (.aload_n 3, 1) := by decide +kernel
theorem dL_law_1358 : decode cL_law 1358 = .ok (.invokestatic 199, 3) := by decide +kernel
theorem dL_law_1361 : decode cL_law 1361 = .ok (.istore 6, 2) := by decide +kernel
theorem dL_law_1363 : decode cL_law 1363 = .ok (.aload_n 2, 1) := by decide +kernel
theorem dL_law_1364 : decode cL_law 1364 = .ok (.aload_n 0, 1) := by decide +kernel
theorem dL_law_1365 : decode cL_law 1365 = .ok (.iload 5, 2) := by decide +kernel
theorem dL_law_1367 : decode cL_law 1367 = .ok (.iconst 1, 1) := by decide +kernel
theorem dL_law_1368 : decode cL_law 1368 = .ok (.iadd, 1) := by decide +kernel
theorem dL_law_1369 : decode cL_law 1369 = .ok (.iaload, 1) := by decide +kernel
theorem dL_law_1370 : decode cL_law 1370 = .ok (.invokevirtual 201, 3) := by decide +kernel
theorem dL_law_1373 : decode cL_law 1373 = .ok (.istore 7, 2) := by decide +kernel
theorem dL_law_1375 : decode cL_law 1375 = .ok (.aload_n 2, 1) := by decide +kernel
theorem dL_law_1376 : decode cL_law 1376 = .ok (.invokevirtual 143, 3) := by decide +kernel
theorem dL_law_1379 : decode cL_law 1379 = .ok (.iload 6, 2) := by decide +kernel
theorem dL_law_1381 : decode cL_law 1381 = .ok (.if_icmp .eq 5, 3) := by decide +kernel
theorem dL_law_1386 : decode cL_law 1386 = .ok (.iload 6, 2) := by decide +kernel
theorem dL_law_1388 : decode cL_law 1388 = .ok (.ifCond .ne 22, 3) := by decide +kernel
theorem dL_law_1410 : decode cL_law 1410 = .ok (.goto 1031, 3) := by decide +kernel
theorem dL_law_1413 : decode cL_law 1413 = .ok (.aload_n 1, 1) := by decide +kernel
theorem dL_law_1414 : decode cL_law 1414 = .ok (.aload_n 0, 1) := by decide +kernel
theorem dL_law_1415 : decode cL_law 1415 = .ok (.iload 5, 2) := by decide +kernel
theorem dL_law_1417 : decode cL_law 1417 = .ok (.iconst 1, 1) := by decide +kernel
theorem dL_law_1418 : decode cL_law 1418 = .ok (.iadd, 1) := by decide +kernel
theorem dL_law_1419 : decode cL_law 1419 = .ok (.iaload, 1) := by decide +kernel
theorem dL_law_1420 : decode cL_law 1420 = .ok (.aload_n 3, 1) := by decide +kernel
theorem dL_law_1421 : decode cL_law 1421 = .ok (.invokestatic 202, 3) := by decide +kernel
theorem dL_law_1424 : decode cL_law 1424 = .ok (.istore 6, 2) := by decide +kernel
theorem dL_law_1426 : decode cL_law 1426 = .ok (.aload_n 2, 1) := by decide +kernel
theorem dL_law_1427 : decode cL_law 1427 = .ok (.aload_n 0, 1) := by decide +kernel
theorem dL_law_1428 : decode cL_law 1428 = .ok (.iload 5, 2) := by decide +kernel
theorem dL_law_1430 : decode cL_law 1430 = .ok (.iconst 1, 1) := by decide +kernel
theorem dL_law_1431 : decode cL_law 1431 = .ok (.iadd, 1) := by decide +kernel
theorem dL_law_1432 : decode cL_law 1432 = .ok (.iaload, 1) := by decide +kernel
theorem dL_law_1433 : decode cL_law 1433 = .ok (.invokevirtual 204, 3) := by decide +kernel
theorem dL_law_1436 : decode cL_law 1436 = .ok (.istore 7, 2) := by decide +kernel
theorem dL_law_1438 : decode cL_law 1438 = .ok (.aload_n 2, 1) := by decide +kernel
theorem dL_law_1439 : decode cL_law 1439 = .ok (.invokevirtual 143, 3) := by decide +kernel
theorem dL_law_1442 : decode cL_law 1442 = .ok (.iload 6, 2) := by decide +kernel
theorem dL_law_1444 : decode cL_law 1444 = .ok (.if_icmp .eq 5, 3) := by decide +kernel
theorem dL_law_1449 : decode cL_law 1449 = .ok (.iload 6, 2) := by decide +kernel
theorem dL_law_1451 : decode cL_law 1451 = .ok (.ifCond .ne 15, 3) := by decide +kernel
theorem dL_law_1466 : decode cL_law 1466 = .ok (.goto 975, 3) := by decide +kernel
theorem dL_law_1469 : decode cL_law 1469 = .ok (.aload_n 1, 1) := by decide +kernel
theorem dL_law_1470 : decode cL_law 1470 = .ok (.aload_n 0, 1) := by decide +kernel
theorem dL_law_1471 : decode cL_law 1471 = .ok (.iload 5, 2) := by decide +kernel
theorem dL_law_1473 : decode cL_law 1473 = .ok (.iconst 1, 1) := by decide +kernel
theorem dL_law_1474 : decode cL_law 1474 = .ok (.iadd, 1) := by decide +kernel
theorem dL_law_1475 : decode cL_law 1475 = .ok (.iaload, 1) := by decide +kernel
theorem dL_law_1476 : decode cL_law 1476 = .ok (.aload_n 3, 1) := by decide +kernel
theorem dL_law_1477 : decode cL_law 1477 = .ok (.invokestatic 205, 3) := by decide +kernel
theorem dL_law_1480 : decode cL_law 1480 = .ok (.istore 6, 2) := by decide +kernel
theorem dL_law_1482 : decode cL_law 1482 = .ok (.aload_n 2, 1) := by decide +kernel
theorem dL_law_1483 : decode cL_law 1483 = .ok (.aload_n 0, 1) := by decide +kernel
theorem dL_law_1484 : decode cL_law 1484 = .ok (.iload 5, 2) := by decide +kernel
theorem dL_law_1486 : decode cL_law 1486 = .ok (.iconst 1, 1) := by decide +kernel
theorem dL_law_1487 : decode cL_law 1487 = .ok (.iadd, 1) := by decide +kernel
theorem dL_law_1488 : decode cL_law 1488 = .ok (.iaload, 1) := by decide +kernel
theorem dL_law_1489 : decode cL_law 1489 = .ok (.invokevirtual 207, 3) := by decide +kernel
theorem dL_law_1492 : decode cL_law 1492 = .ok (.istore 7, 2) := by decide +kernel
theorem dL_law_1494 : decode cL_law 1494 = .ok (.aload_n 2, 1) := by decide +kernel
theorem dL_law_1495 : decode cL_law 1495 = .ok (.invokevirtual 143, 3) := by decide +kernel
theorem dL_law_1498 : decode cL_law 1498 = .ok (.iload 6, 2) := by decide +kernel
theorem dL_law_1500 : decode cL_law 1500 = .ok (.if_icmp .eq 5, 3) := by decide +kernel
theorem dL_law_1505 : decode cL_law 1505 = .ok (.iload 6, 2) := by decide +kernel
theorem dL_law_1507 : decode cL_law 1507 = .ok (.ifCond .ne 22, 3) := by decide +kernel
theorem dL_law_1529 : decode cL_law 1529 = .ok (.goto 912, 3) := by decide +kernel
theorem dL_law_1532 : decode cL_law 1532 = .ok (.aload_n 1, 1) := by decide +kernel
theorem dL_law_1533 : decode cL_law 1533 = .ok (.aload_n 0, 1) := by decide +kernel
theorem dL_law_1534 : decode cL_law 1534 = .ok (.iload 5, 2) := by decide +kernel
theorem dL_law_1536 : decode cL_law 1536 = .ok (.iconst 1, 1) := by decide +kernel
theorem dL_law_1537 : decode cL_law 1537 = .ok (.iadd, 1) := by decide +kernel
theorem dL_law_1538 : decode cL_law 1538 = .ok (.iaload, 1) := by decide +kernel
theorem dL_law_1539 : decode cL_law 1539 = .ok (.aload_n 0, 1) := by decide +kernel
theorem dL_law_1540 : decode cL_law 1540 = .ok (.iload 5, 2) := by decide +kernel
theorem dL_law_1542 : decode cL_law 1542 = .ok (.iconst 2, 1) := by decide +kernel
theorem dL_law_1543 : decode cL_law 1543 = .ok (.iadd, 1) := by decide +kernel
theorem dL_law_1544 : decode cL_law 1544 = .ok (.iaload, 1) := by decide +kernel
theorem dL_law_1545 : decode cL_law 1545 = .ok (.aload_n 3, 1) := by decide +kernel
theorem dL_law_1546 : decode cL_law 1546 = .ok (.invokestatic 208, 3) := by decide +kernel
theorem dL_law_1549 : decode cL_law 1549 = .ok (.istore 6, 2) := by decide +kernel
theorem dL_law_1551 : decode cL_law 1551 = .ok (.aload_n 2, 1) := by decide +kernel
theorem dL_law_1552 : decode cL_law 1552 = .ok (.aload_n 0, 1) := by decide +kernel
theorem dL_law_1553 : decode cL_law 1553 = .ok (.iload 5, 2) := by decide +kernel
theorem dL_law_1555 : decode cL_law 1555 = .ok (.iconst 1, 1) := by decide +kernel
theorem dL_law_1556 : decode cL_law 1556 = .ok (.iadd, 1) := by decide +kernel
theorem dL_law_1557 : decode cL_law 1557 = .ok (.iaload, 1) := by decide +kernel
theorem dL_law_1558 : decode cL_law 1558 = .ok (.aload_n 0, 1) := by decide +kernel
theorem dL_law_1559 : decode cL_law 1559 = .ok (.iload 5, 2) := by decide +kernel
theorem dL_law_1561 : decode cL_law 1561 = .ok (.iconst 2, 1) := by decide +kernel
theorem dL_law_1562 : decode cL_law 1562 = .ok (.iadd, 1) := by decide +kernel
theorem dL_law_1563 : decode cL_law 1563 = .ok (.iaload, 1) := by decide +kernel
theorem dL_law_1564 : decode cL_law 1564 = .ok (.invokevirtual 210, 3) := by decide +kernel
theorem dL_law_1567 : decode cL_law 1567 = .ok (.istore 7, 2) := by decide +kernel
theorem dL_law_1569 : decode cL_law 1569 = .ok (.aload_n 2, 1) := by decide +kernel
theorem dL_law_1570 : decode cL_law 1570 = .ok (.invokevirtual 143, 3) := by decide +kernel
theorem dL_law_1573 : decode cL_law 1573 = .ok (.iload 6, 2) := by decide +kernel
theorem dL_law_1575 : decode cL_law 1575 = .ok (.if_icmp .eq 5, 3) := by decide +kernel
theorem dL_law_1580 : decode cL_law 1580 = .ok (.iload 6, 2) := by decide +kernel
theorem dL_law_1582 : decode cL_law 1582 = .ok (.ifCond .ne 15, 3) := by decide +kernel
theorem dL_law_1597 : decode cL_law 1597 = .ok (.goto 844, 3) := by decide +kernel
theorem dL_law_1600 : decode cL_law 1600 = .ok (.aload_n 1, 1) := by decide +kernel
theorem dL_law_1601 : decode cL_law 1601 = .ok (.aload_n 0, 1) := by decide +kernel
theorem dL_law_1602 : decode cL_law 1602 = .ok (.iload 5, 2) := by decide +kernel
theorem dL_law_1604 : decode cL_law 1604 = .ok (.iconst 1, 1) := by decide +kernel
theorem dL_law_1605 : decode cL_law 1605 = .ok (.iadd, 1) := by decide +kernel
theorem dL_law_1606 : decode cL_law 1606 = .ok (.iaload, 1) := by decide +kernel
theorem dL_law_1607 : decode cL_law 1607 = .ok (.aload_n 3, 1) := by decide +kernel
theorem dL_law_1608 : decode cL_law 1608 = .ok (.invokestatic 211, 3) := by decide +kernel
theorem dL_law_1611 : decode cL_law 1611 = .ok (.istore 6, 2) := by decide +kernel
theorem dL_law_1613 : decode cL_law 1613 = .ok (.aload_n 2, 1) := by decide +kernel
theorem dL_law_1614 : decode cL_law 1614 = .ok (.aload_n 0, 1) := by decide +kernel
theorem dL_law_1615 : decode cL_law 1615 = .ok (.iload 5, 2) := by decide +kernel
theorem dL_law_1617 : decode cL_law 1617 = .ok (.iconst 1, 1) := by decide +kernel
theorem dL_law_1618 : decode cL_law 1618 = .ok (.iadd, 1) := by decide +kernel
theorem dL_law_1619 : decode cL_law 1619 = .ok (.iaload, 1) := by decide +kernel
theorem dL_law_1620 : decode cL_law 1620 = .ok (.invokevirtual 213, 3) := by decide +kernel
theorem dL_law_1623 : decode cL_law 1623 = .ok (.istore 7, 2) := by decide +kernel
theorem dL_law_1625 : decode cL_law 1625 = .ok (.aload_n 2, 1) := by decide +kernel
theorem dL_law_1626 : decode cL_law 1626 = .ok (.invokevirtual 143, 3) := by decide +kernel
theorem dL_law_1629 : decode cL_law 1629 = .ok (.iload 6, 2) := by decide +kernel
theorem dL_law_1631 : decode cL_law 1631 = .ok (.if_icmp .eq 5, 3) := by decide +kernel
theorem dL_law_1636 : decode cL_law 1636 = .ok (.iload 6, 2) := by decide +kernel
theorem dL_law_1638 : decode cL_law 1638 = .ok (.ifCond .ne 15, 3) := by decide +kernel
theorem dL_law_1641 : decode cL_law 1641 = .ok (.aload_n 3, 1) := by decide +kernel
theorem dL_law_1642 : decode cL_law 1642 = .ok (.iconst 0, 1) := by decide +kernel
theorem dL_law_1643 : decode cL_law 1643 = .ok (.laload, 1) := by decide +kernel
theorem dL_law_1644 : decode cL_law 1644 = .ok (.iload 7, 2) := by decide +kernel
theorem dL_law_1646 : decode cL_law 1646 = .ok (.i2l, 1) := by decide +kernel
theorem dL_law_1647 : decode cL_law 1647 = .ok (.lcmp, 1) := by decide +kernel
theorem dL_law_1648 : decode cL_law 1648 = .ok (.ifCond .eq 5, 3) := by decide +kernel
theorem dL_law_1653 : decode cL_law 1653 = .ok (.goto 788, 3) := by decide +kernel
theorem dL_law_1656 : decode cL_law 1656 = .ok (.aload_n 1, 1) := by decide +kernel
theorem dL_law_1657 : decode cL_law 1657 = .ok (.aload_n 0, 1) := by decide +kernel
theorem dL_law_1658 : decode cL_law 1658 = .ok (.iload 5, 2) := by decide +kernel
theorem dL_law_1660 : decode cL_law 1660 = .ok (.iconst 1, 1) := by decide +kernel
theorem dL_law_1661 : decode cL_law 1661 = .ok (.iadd, 1) := by decide +kernel
theorem dL_law_1662 : decode cL_law 1662 = .ok (.iaload, 1) := by decide +kernel
theorem dL_law_1663 : decode cL_law 1663 = .ok (.aload_n 3, 1) := by decide +kernel
theorem dL_law_1664 : decode cL_law 1664 = .ok (.invokestatic 214, 3) := by decide +kernel
theorem dL_law_1667 : decode cL_law 1667 = .ok (.istore 6, 2) := by decide +kernel
theorem dL_law_1669 : decode cL_law 1669 = .ok (.aload_n 2, 1) := by decide +kernel
theorem dL_law_1670 : decode cL_law 1670 = .ok (.aload_n 0, 1) := by decide +kernel
theorem dL_law_1671 : decode cL_law 1671 = .ok (.iload 5, 2) := by decide +kernel
theorem dL_law_1673 : decode cL_law 1673 = .ok (.iconst 1, 1) := by decide +kernel
theorem dL_law_1674 : decode cL_law 1674 = .ok (.iadd, 1) := by decide +kernel
theorem dL_law_1675 : decode cL_law 1675 = .ok (.iaload, 1) := by decide +kernel
theorem dL_law_1676 : decode cL_law 1676 = .ok (.invokevirtual 216, 3) := by decide +kernel
theorem dL_law_1679 : decode cL_law 1679 = .ok (.istore 7, 2) := by decide +kernel
theorem dL_law_1681 : decode cL_law 1681 = .ok (.aload_n 2, 1) := by decide +kernel
theorem dL_law_1682 : decode cL_law 1682 = .ok (.invokevirtual 143, 3) := by decide +kernel
theorem dL_law_1685 : decode cL_law 1685 = .ok (.iload 6, 2) := by decide +kernel
theorem dL_law_1687 : decode cL_law 1687 = .ok (.if_icmp .eq 5, 3) := by decide +kernel
theorem dL_law_1692 : decode cL_law 1692 = .ok (.iload 6, 2) := by decide +kernel
theorem dL_law_1694 : decode cL_law 1694 = .ok (.ifCond .ne 22, 3) := by decide +kernel
theorem dL_law_1716 : decode cL_law 1716 = .ok (.goto 725, 3) := by decide +kernel
theorem dL_law_1719 : decode cL_law 1719 = .ok (.aload_n 1, 1) := by decide +kernel
theorem dL_law_1720 : decode cL_law 1720 = .ok (.aload_n 0, 1) := by decide +kernel
theorem dL_law_1721 : decode cL_law 1721 = .ok (.iload 5, 2) := by decide +kernel
theorem dL_law_1723 : decode cL_law 1723 = .ok (.iconst 1, 1) := by decide +kernel
theorem dL_law_1724 : decode cL_law 1724 = .ok (.iadd, 1) := by decide +kernel
theorem dL_law_1725 : decode cL_law 1725 = .ok (.iaload, 1) := by decide +kernel
theorem dL_law_1726 : decode cL_law 1726 = .ok (.aload_n 3, 1) := by decide +kernel
theorem dL_law_1727 : decode cL_law 1727 = .ok (.invokestatic 217, 3) := by decide +kernel
theorem dL_law_1730 : decode cL_law 1730 = .ok (.istore 6, 2) := by decide +kernel
theorem dL_law_1732 : decode cL_law 1732 = .ok (.aload_n 2, 1) := by decide +kernel
theorem dL_law_1733 : decode cL_law 1733 = .ok (.aload_n 0, 1) := by decide +kernel
theorem dL_law_1734 : decode cL_law 1734 = .ok (.iload 5, 2) := by decide +kernel
theorem dL_law_1736 : decode cL_law 1736 = .ok (.iconst 1, 1) := by decide +kernel
theorem dL_law_1737 : decode cL_law 1737 = .ok (.iadd, 1) := by decide +kernel
theorem dL_law_1738 : decode cL_law 1738 = .ok (.iaload, 1) := by decide +kernel
theorem dL_law_1739 : decode cL_law 1739 = .ok (.invokevirtual 219, 3) := by decide +kernel
theorem dL_law_1742 : decode cL_law 1742 = .ok (.istore 7, 2) := by decide +kernel
theorem dL_law_1744 : decode cL_law 1744 = .ok (.aload_n 2, 1) := by decide +kernel
theorem dL_law_1745 : decode cL_law 1745 = .ok (.invokevirtual 143, 3) := by decide +kernel
theorem dL_law_1748 : decode cL_law 1748 = .ok (.iload 6, 2) := by decide +kernel
theorem dL_law_1750 : decode cL_law 1750 = .ok (.if_icmp .eq 5, 3) := by decide +kernel
theorem dL_law_1755 : decode cL_law 1755 = .ok (.iload 6, 2) := by decide +kernel
theorem dL_law_1757 : decode cL_law 1757 = .ok (.ifCond .ne 15, 3) := by decide +kernel
theorem dL_law_1772 : decode cL_law 1772 = .ok (.goto 669, 3) := by decide +kernel
theorem dL_law_1775 : decode cL_law 1775 = .ok (.aload_n 1, 1) := by decide +kernel
theorem dL_law_1776 : decode cL_law 1776 = .ok (.aload_n 0, 1) := by decide +kernel
theorem dL_law_1777 : decode cL_law 1777 = .ok (.iload 5, 2) := by decide +kernel
theorem dL_law_1779 : decode cL_law 1779 = .ok (.iconst 1, 1) := by decide +kernel
theorem dL_law_1780 : decode cL_law 1780 = .ok (.iadd, 1) := by decide +kernel
theorem dL_law_1781 : decode cL_law 1781 = .ok (.iaload, 1) := by decide +kernel
theorem dL_law_1782 : decode cL_law 1782 = .ok (.aload_n 3, 1) := by decide +kernel
theorem dL_law_1783 : decode cL_law 1783 = .ok (.invokestatic 220, 3) := by decide +kernel
theorem dL_law_1786 : decode cL_law 1786 = .ok (.istore 6, 2) := by decide +kernel
theorem dL_law_1788 : decode cL_law 1788 = .ok (.aload_n 2, 1) := by decide +kernel
theorem dL_law_1789 : decode cL_law 1789 = .ok (.aload_n 0, 1) := by decide +kernel
theorem dL_law_1790 : decode cL_law 1790 = .ok (.iload 5, 2) := by decide +kernel
theorem dL_law_1792 : decode cL_law 1792 = .ok (.iconst 1, 1) := by decide +kernel
theorem dL_law_1793 : decode cL_law 1793 = .ok (.iadd, 1) := by decide +kernel
theorem dL_law_1794 : decode cL_law 1794 = .ok (.iaload, 1) := by decide +kernel
theorem dL_law_1795 : decode cL_law 1795 = .ok (.invokevirtual 222, 3) := by decide +kernel
theorem dL_law_1798 : decode cL_law 1798 = .ok (.istore 7, 2) := by decide +kernel
theorem dL_law_1800 : decode cL_law 1800 = .ok (.aload_n 2, 1) := by decide +kernel
theorem dL_law_1801 : decode cL_law 1801 = .ok (.invokevirtual 143, 3) := by decide +kernel
theorem dL_law_1804 : decode cL_law 1804 = .ok (.iload 6, 2) := by decide +kernel
theorem dL_law_1806 : decode cL_law 1806 = .ok (.if_icmp .eq 5, 3) := by decide +kernel
theorem dL_law_1811 : decode cL_law 1811 = .ok (.iload 6, 2) := by decide +kernel
theorem dL_law_1813 : decode cL_law 1813 = .ok (.ifCond .ne 15, 3) := by decide +kernel
theorem dL_law_1828 : decode cL_law 1828 = .ok (.goto 613, 3) := by decide +kernel
theorem dL_law_1831 : decode cL_law 1831 = .ok (.aload_n 1, 1) := by decide +kernel
theorem dL_law_1832 : decode cL_law 1832 = .ok (.aload_n 0, 1) := by decide +kernel
theorem dL_law_1833 : decode cL_law 1833 = .ok (.iload 5, 2) := by decide +kernel
theorem dL_law_1835 : decode cL_law 1835 = .ok (.iconst 1, 1) := by decide +kernel
theorem dL_law_1836 : decode cL_law 1836 = .ok (.iadd, 1) := by decide +kernel
theorem dL_law_1837 : decode cL_law 1837 = .ok (.iaload, 1) := by decide +kernel
theorem dL_law_1838 : decode cL_law 1838 = .ok (.aload_n 3, 1) := by decide +kernel
theorem dL_law_1839 : decode cL_law 1839 = .ok (.invokestatic 223, 3) := by decide +kernel
theorem dL_law_1842 : decode cL_law 1842 = .ok (.istore 6, 2) := by decide +kernel
theorem dL_law_1844 : decode cL_law 1844 = .ok (.aload_n 2, 1) := by decide +kernel
theorem dL_law_1845 : decode cL_law 1845 = .ok (.aload_n 0, 1) := by decide +kernel
theorem dL_law_1846 : decode cL_law 1846 = .ok (.iload 5, 2) := by decide +kernel
theorem dL_law_1848 : decode cL_law 1848 = .ok (.iconst 1, 1) := by decide +kernel
theorem dL_law_1849 : decode cL_law 1849 = .ok (.iadd, 1) := by decide +kernel
theorem dL_law_1850 : decode cL_law 1850 = .ok (.iaload, 1) := by decide +kernel
theorem dL_law_1851 : decode cL_law 1851 = .ok (.invokevirtual 225, 3) := by decide +kernel
theorem dL_law_1854 : decode cL_law 1854 = .ok (.istore 7, 2) := by decide +kernel
theorem dL_law_1856 : decode cL_law 1856 = .ok (.aload_n 2, 1) := by decide +kernel
theorem dL_law_1857 : decode cL_law 1857 = .ok (.invokevirtual 143, 3) := by decide +kernel
theorem dL_law_1860 : decode cL_law 1860 = .ok (.iload 6, 2) := by decide +kernel
theorem dL_law_1862 : decode cL_law 1862 = .ok (.if_icmp .eq 5, 3) := by decide +kernel
theorem dL_law_1867 : decode cL_law 1867 = .ok (.iload 6, 2) := by decide +kernel
theorem dL_law_1869 : decode cL_law 1869 = .ok (.ifCond .ne 15, 3) := by decide +kernel
theorem dL_law_1884 : decode cL_law 1884 = .ok (.goto 557, 3) := by decide +kernel
theorem dL_law_1887 : decode cL_law 1887 = .ok (.aload_n 1, 1) := by decide +kernel
theorem dL_law_1888 : decode cL_law 1888 = .ok (.aload_n 0, 1) := by decide +kernel
theorem dL_law_1889 : decode cL_law 1889 = .ok (.iload 5, 2) := by decide +kernel
theorem dL_law_1891 : decode cL_law 1891 = .ok (.iconst 1, 1) := by decide +kernel
theorem dL_law_1892 : decode cL_law 1892 = .ok (.iadd, 1) := by decide +kernel
theorem dL_law_1893 : decode cL_law 1893 = .ok (.iaload, 1) := by decide +kernel
theorem dL_law_1894 : decode cL_law 1894 = .ok (.aload_n 3, 1) := by decide +kernel
theorem dL_law_1895 : decode cL_law 1895 = .ok (.invokestatic 226, 3) := by decide +kernel
theorem dL_law_1898 : decode cL_law 1898 = .ok (.istore 6, 2) := by decide +kernel
theorem dL_law_1900 : decode cL_law 1900 = .ok (.aload_n 2, 1) := by decide +kernel
theorem dL_law_1901 : decode cL_law 1901 = .ok (.aload_n 0, 1) := by decide +kernel
theorem dL_law_1902 : decode cL_law 1902 = .ok (.iload 5, 2) := by decide +kernel
theorem dL_law_1904 : decode cL_law 1904 = .ok (.iconst 1, 1) := by decide +kernel
theorem dL_law_1905 : decode cL_law 1905 = .ok (.iadd, 1) := by decide +kernel
theorem dL_law_1906 : decode cL_law 1906 = .ok (.iaload, 1) := by decide +kernel
theorem dL_law_1907 : decode cL_law 1907 = .ok (.invokevirtual 228, 3) := by decide +kernel
theorem dL_law_1910 : decode cL_law 1910 = .ok (.istore 7, 2) := by decide +kernel
theorem dL_law_1912 : decode cL_law 1912 = .ok (.aload_n 2, 1) := by decide +kernel
theorem dL_law_1913 : decode cL_law 1913 = .ok (.invokevirtual 143, 3) := by decide +kernel
theorem dL_law_1916 : decode cL_law 1916 = .ok (.iload 6, 2) := by decide +kernel
theorem dL_law_1918 : decode cL_law 1918 = .ok (.if_icmp .eq 5, 3) := by decide +kernel
theorem dL_law_1923 : decode cL_law 1923 = .ok (.iload 6, 2) := by decide +kernel
theorem dL_law_1925 : decode cL_law 1925 = .ok (.ifCond .ne 15, 3) := by decide +kernel
theorem dL_law_1940 : decode cL_law 1940 = .ok (.goto 501, 3) := by decide +kernel
theorem dL_law_1943 : decode cL_law 1943 = .ok (.aload_n 1, 1) := by decide +kernel
theorem dL_law_1944 : decode cL_law 1944 = .ok (.aload_n 0, 1) := by decide +kernel
theorem dL_law_1945 : decode cL_law 1945 = .ok (.iload 5, 2) := by decide +kernel
theorem dL_law_1947 : decode cL_law 1947 = .ok (.iconst 1, 1) := by decide +kernel
theorem dL_law_1948 : decode cL_law 1948 = .ok (.iadd, 1) := by decide +kernel
theorem dL_law_1949 : decode cL_law 1949 = .ok (.iaload, 1) := by decide +kernel
theorem dL_law_1950 : decode cL_law 1950 = .ok (.aload_n 3, 1) := by decide +kernel
theorem dL_law_1951 : decode cL_law 1951 = .ok (.invokestatic 229, 3) := by decide +kernel
theorem dL_law_1954 : decode cL_law 1954 = .ok (.istore 6, 2) := by decide +kernel
theorem dL_law_1956 : decode cL_law 1956 = .ok (.aload_n 2, 1) := by decide +kernel
theorem dL_law_1957 : decode cL_law 1957 = .ok (.aload_n 0, 1) := by decide +kernel
theorem dL_law_1958 : decode cL_law 1958 = .ok (.iload 5, 2) := by decide +kernel
theorem dL_law_1960 : decode cL_law 1960 = .ok (.iconst 1, 1) := by decide +kernel
theorem dL_law_1961 : decode cL_law 1961 = .ok (.iadd, 1) := by decide +kernel
theorem dL_law_1962 : decode cL_law 1962 = .ok (.iaload, 1) := by decide +kernel
theorem dL_law_1963 : decode cL_law 1963 = .ok (.invokevirtual 231, 3) := by decide +kernel
theorem dL_law_1966 : decode cL_law 1966 = .ok (.istore 7, 2) := by decide +kernel
theorem dL_law_1968 : decode cL_law 1968 = .ok (.aload_n 2, 1) := by decide +kernel
theorem dL_law_1969 : decode cL_law 1969 = .ok (.invokevirtual 143, 3) := by decide +kernel
theorem dL_law_1972 : decode cL_law 1972 = .ok (.iload 6, 2) := by decide +kernel
theorem dL_law_1974 : decode cL_law 1974 = .ok (.if_icmp .eq 5, 3) := by decide +kernel
theorem dL_law_1979 : decode cL_law 1979 = .ok (.iload 6, 2) := by decide +kernel
theorem dL_law_1981 : decode cL_law 1981 = .ok (.ifCond .ne 15, 3) := by decide +kernel
theorem dL_law_1996 : decode cL_law 1996 = .ok (.goto 445, 3) := by decide +kernel
theorem dL_law_1999 : decode cL_law 1999 = .ok (.aload_n 1, 1) := by decide +kernel
theorem dL_law_2000 : decode cL_law 2000 = .ok (.aload_n 0, 1) := by decide +kernel
theorem dL_law_2001 : decode cL_law 2001 = .ok (.iload 5, 2) := by decide +kernel
theorem dL_law_2003 : decode cL_law 2003 = .ok (.iconst 1, 1) := by decide +kernel
theorem dL_law_2004 : decode cL_law 2004 = .ok (.iadd, 1) := by decide +kernel
theorem dL_law_2005 : decode cL_law 2005 = .ok (.iaload, 1) := by decide +kernel
theorem dL_law_2006 : decode cL_law 2006 = .ok (.aload_n 3, 1) := by decide +kernel
theorem dL_law_2007 : decode cL_law 2007 = .ok (.invokestatic 232, 3) := by decide +kernel
theorem dL_law_2010 : decode cL_law 2010 = .ok (.istore 6, 2) := by decide +kernel
theorem dL_law_2012 : decode cL_law 2012 = .ok (.aload_n 2, 1) := by decide +kernel
theorem dL_law_2013 : decode cL_law 2013 = .ok (.aload_n 0, 1) := by decide +kernel
theorem dL_law_2014 : decode cL_law 2014 = .ok (.iload 5, 2) := by decide +kernel
theorem dL_law_2016 : decode cL_law 2016 = .ok (.iconst 1, 1) := by decide +kernel
theorem dL_law_2017 : decode cL_law 2017 = .ok (.iadd, 1) := by decide +kernel
theorem dL_law_2018 : decode cL_law 2018 = .ok (.iaload, 1) := by decide +kernel
theorem dL_law_2019 : decode cL_law 2019 = .ok (.invokevirtual 234, 3) := by decide +kernel
theorem dL_law_2022 : decode cL_law 2022 = .ok (.istore 7, 2) := by decide +kernel
theorem dL_law_2024 : decode cL_law 2024 = .ok (.aload_n 2, 1) := by decide +kernel
theorem dL_law_2025 : decode cL_law 2025 = .ok (.invokevirtual 143, 3) := by decide +kernel
theorem dL_law_2028 : decode cL_law 2028 = .ok (.iload 6, 2) := by decide +kernel
theorem dL_law_2030 : decode cL_law 2030 = .ok (.if_icmp .eq 5, 3) := by decide +kernel
theorem dL_law_2035 : decode cL_law 2035 = .ok (.iload 6, 2) := by decide +kernel
theorem dL_law_2037 : decode cL_law 2037 = .ok (.ifCond .ne 15, 3) := by decide +kernel
theorem dL_law_2052 : decode cL_law 2052 = .ok (.goto 389, 3) := by decide +kernel
theorem dL_law_2055 : decode cL_law 2055 = .ok (.aload_n 1, 1) := by decide +kernel
theorem dL_law_2056 : decode cL_law 2056 = .ok (.aload_n 0, 1) := by decide +kernel
theorem dL_law_2057 : decode cL_law 2057 = .ok (.iload 5, 2) := by decide +kernel
theorem dL_law_2059 : decode cL_law 2059 = .ok (.iconst 1, 1) := by decide +kernel
theorem dL_law_2060 : decode cL_law 2060 = .ok (.iadd, 1) := by decide +kernel
theorem dL_law_2061 : decode cL_law 2061 = .ok (.iaload, 1) := by decide +kernel
theorem dL_law_2062 : decode cL_law 2062 = .ok (.aload_n 0, 1) := by decide +kernel
theorem dL_law_2063 : decode cL_law 2063 = .ok (.iload 5, 2) := by decide +kernel
theorem dL_law_2065 : decode cL_law 2065 = .ok (.iconst 2, 1) := by decide +kernel
theorem dL_law_2066 : decode cL_law 2066 = .ok (.iadd, 1) := by decide +kernel
theorem dL_law_2067 : decode cL_law 2067 = .ok (.iaload, 1) := by decide +kernel
theorem dL_law_2068 : decode cL_law 2068 = .ok (.aload_n 3, 1) := by decide +kernel
theorem dL_law_2069 : decode cL_law 2069 = .ok (.invokestatic 235, 3) := by decide +kernel
theorem dL_law_2072 : decode cL_law 2072 = .ok (.istore 6, 2) := by decide +kernel
theorem dL_law_2074 : decode cL_law 2074 = .ok (.aload_n 2, 1) := by decide +kernel
theorem dL_law_2075 : decode cL_law 2075 = .ok (.aload_n 0, 1) := by decide +kernel
theorem dL_law_2076 : decode cL_law 2076 = .ok (.iload 5, 2) := by decide +kernel
theorem dL_law_2078 : decode cL_law 2078 = .ok (.iconst 1, 1) := by decide +kernel
theorem dL_law_2079 : decode cL_law 2079 = .ok (.iadd, 1) := by decide +kernel
theorem dL_law_2080 : decode cL_law 2080 = .ok (.iaload, 1) := by decide +kernel
theorem dL_law_2081 : decode cL_law 2081 = .ok (.aload_n 0, 1) := by decide +kernel
theorem dL_law_2082 : decode cL_law 2082 = .ok (.iload 5, 2) := by decide +kernel
theorem dL_law_2084 : decode cL_law 2084 = .ok (.iconst 2, 1) := by decide +kernel
theorem dL_law_2085 : decode cL_law 2085 = .ok (.iadd, 1) := by decide +kernel
theorem dL_law_2086 : decode cL_law 2086 = .ok (.iaload, 1) := by decide +kernel
theorem dL_law_2087 : decode cL_law 2087 = .ok (.invokevirtual 237, 3) := by decide +kernel
theorem dL_law_2090 : decode cL_law 2090 = .ok (.istore 7, 2) := by decide +kernel
theorem dL_law_2092 : decode cL_law 2092 = .ok (.aload_n 2, 1) := by decide +kernel
theorem dL_law_2093 : decode cL_law 2093 = .ok (.invokevirtual 143, 3) := by decide +kernel
theorem dL_law_2096 : decode cL_law 2096 = .ok (.iload 6, 2) := by decide +kernel
theorem dL_law_2098 : decode cL_law 2098 = .ok (.if_icmp .eq 5, 3) := by decide +kernel
theorem dL_law_2103 : decode cL_law 2103 = .ok (.iload 6, 2) := by decide +kernel
theorem dL_law_2105 : decode cL_law 2105 = .ok (.ifCond .ne 22, 3) := by decide +kernel
theorem dL_law_2127 : decode cL_law 2127 = .ok (.goto 314, 3) := by decide +kernel
theorem dL_law_2130 : decode cL_law 2130 = .ok (.aload_n 1, 1) := by decide +kernel
theorem dL_law_2131 : decode cL_law 2131 = .ok (.aload_n 0, 1) := by decide +kernel
theorem dL_law_2132 : decode cL_law 2132 = .ok (.iload 5, 2) := by decide +kernel
theorem dL_law_2134 : decode cL_law 2134 = .ok (.iconst 1, 1) := by decide +kernel
theorem dL_law_2135 : decode cL_law 2135 = .ok (.iadd, 1) := by decide +kernel
theorem dL_law_2136 : decode cL_law 2136 = .ok (.iaload, 1) := by decide +kernel
theorem dL_law_2137 : decode cL_law 2137 = .ok (.aload_n 3, 1) := by decide +kernel
theorem dL_law_2138 : decode cL_law 2138 = .ok (.invokestatic 238, 3) := by decide +kernel
theorem dL_law_2141 : decode cL_law 2141 = .ok (.istore 6, 2) := by decide +kernel
theorem dL_law_2143 : decode cL_law 2143 = .ok (.aload_n 2, 1) := by decide +kernel
theorem dL_law_2144 : decode cL_law 2144 = .ok (.aload_n 0, 1) := by decide +kernel
theorem dL_law_2145 : decode cL_law 2145 = .ok (.iload 5, 2) := by decide +kernel
theorem dL_law_2147 : decode cL_law 2147 = .ok (.iconst 1, 1) := by decide +kernel
theorem dL_law_2148 : decode cL_law 2148 = .ok (.iadd, 1) := by decide +kernel
theorem dL_law_2149 : decode cL_law 2149 = .ok (.iaload, 1) := by decide +kernel
theorem dL_law_2150 : decode cL_law 2150 = .ok (.invokevirtual 240, 3) := by decide +kernel
theorem dL_law_2153 : decode cL_law 2153 = .ok (.istore 7, 2) := by decide +kernel
theorem dL_law_2155 : decode cL_law 2155 = .ok (.aload_n 2, 1) := by decide +kernel
theorem dL_law_2156 : decode cL_law 2156 = .ok (.invokevirtual 143, 3) := by decide +kernel
theorem dL_law_2159 : decode cL_law 2159 = .ok (.iload 6, 2) := by decide +kernel
theorem dL_law_2161 : decode cL_law 2161 = .ok (.if_icmp .eq 5, 3) := by decide +kernel
theorem dL_law_2166 : decode cL_law 2166 = .ok (.iload 6, 2) := by decide +kernel
theorem dL_law_2168 : decode cL_law 2168 = .ok (.ifCond .ne 15, 3) := by decide +kernel
theorem dL_law_2183 : decode cL_law 2183 = .ok (.goto 258, 3) := by decide +kernel
theorem dL_law_2186 : decode cL_law 2186 = .ok (.aload_n 1, 1) := by decide +kernel
theorem dL_law_2187 : decode cL_law 2187 = .ok (.aload_n 0, 1) := by decide +kernel
theorem dL_law_2188 : decode cL_law 2188 = .ok (.iload 5, 2) := by decide +kernel
theorem dL_law_2190 : decode cL_law 2190 = .ok (.iconst 1, 1) := by decide +kernel
theorem dL_law_2191 : decode cL_law 2191 = .ok (.iadd, 1) := by decide +kernel
theorem dL_law_2192 : decode cL_law 2192 = .ok (.iaload, 1) := by decide +kernel
theorem dL_law_2193 : decode cL_law 2193 = .ok (.aload_n 3, 1) := by decide +kernel
theorem dL_law_2194 : decode cL_law 2194 = .ok (.invokestatic 241, 3) := by decide +kernel
theorem dL_law_2197 : decode cL_law 2197 = .ok (.istore 6, 2) := by decide +kernel
theorem dL_law_2199 : decode cL_law 2199 = .ok (.aload_n 2, 1) := by decide +kernel
theorem dL_law_2200 : decode cL_law 2200 = .ok (.aload_n 0, 1) := by decide +kernel
theorem dL_law_2201 : decode cL_law 2201 = .ok (.iload 5, 2) := by decide +kernel
theorem dL_law_2203 : decode cL_law 2203 = .ok (.iconst 1, 1) := by decide +kernel
theorem dL_law_2204 : decode cL_law 2204 = .ok (.iadd, 1) := by decide +kernel
theorem dL_law_2205 : decode cL_law 2205 = .ok (.iaload, 1) := by decide +kernel
theorem dL_law_2206 : decode cL_law 2206 = .ok (.invokevirtual 243, 3) := by decide +kernel
theorem dL_law_2209 : decode cL_law 2209 = .ok (.istore 7, 2) := by decide +kernel
theorem dL_law_2211 : decode cL_law 2211 = .ok (.aload_n 2, 1) := by decide +kernel
theorem dL_law_2212 : decode cL_law 2212 = .ok (.invokevirtual 143, 3) := by decide +kernel
theorem dL_law_2215 : decode cL_law 2215 = .ok (.iload 6, 2) := by decide +kernel
theorem dL_law_2217 : decode cL_law 2217 = .ok (.if_icmp .eq 5, 3) := by decide +kernel
theorem dL_law_2222 : decode cL_law 2222 = .ok (.iload 6, 2) := by decide +kernel
theorem dL_law_2224 : decode cL_law 2224 = .ok (.ifCond .ne 15, 3) := by decide +kernel
theorem dL_law_2239 : decode cL_law 2239 = .ok (.goto 202, 3) := by decide +kernel
theorem dL_law_2242 : decode cL_law 2242 = .ok (.aload_n 1, 1) := by decide +kernel
theorem dL_law_2243 : decode cL_law 2243 = .ok (.aload_n 0, 1) := by decide +kernel
theorem dL_law_2244 : decode cL_law 2244 = .ok (.iload 5, 2) := by decide +kernel
theorem dL_law_2246 : decode cL_law 2246 = .ok (.iconst 1, 1) := by decide +kernel
theorem dL_law_2247 : decode cL_law 2247 = .ok (.iadd, 1) := by decide +kernel
theorem dL_law_2248 : decode cL_law 2248 = .ok (.iaload, 1) := by decide +kernel
theorem dL_law_2249 : decode cL_law 2249 = .ok (.aload_n 3, 1) := by decide +kernel
theorem dL_law_2250 : decode cL_law 2250 = .ok (.invokestatic 244, 3) := by decide +kernel
theorem dL_law_2253 : decode cL_law 2253 = .ok (.istore 6, 2) := by decide +kernel
theorem dL_law_2255 : decode cL_law 2255 = .ok (.aload_n 2, 1) := by decide +kernel
theorem dL_law_2256 : decode cL_law 2256 = .ok (.aload_n 0, 1) := by decide +kernel
theorem dL_law_2257 : decode cL_law 2257 = .ok (.iload 5, 2) := by decide +kernel
theorem dL_law_2259 : decode cL_law 2259 = .ok (.iconst 1, 1) := by decide +kernel
theorem dL_law_2260 : decode cL_law 2260 = .ok (.iadd, 1) := by decide +kernel
theorem dL_law_2261 : decode cL_law 2261 = .ok (.iaload, 1) := by decide +kernel
theorem dL_law_2262 : decode cL_law 2262 = .ok (.invokevirtual 246, 3) := by decide +kernel
theorem dL_law_2265 : decode cL_law 2265 = .ok (.lstore 7, 2) := by decide +kernel
theorem dL_law_2267 : decode cL_law 2267 = .ok (.aload_n 2, 1) := by decide +kernel
theorem dL_law_2268 : decode cL_law 2268 = .ok (.invokevirtual 143, 3) := by decide +kernel
theorem dL_law_2271 : decode cL_law 2271 = .ok (.iload 6, 2) := by decide +kernel
theorem dL_law_2273 : decode cL_law 2273 = .ok (.if_icmp .eq 5, 3) := by decide +kernel
theorem dL_law_2278 : decode cL_law 2278 = .ok (.iload 6, 2) := by decide +kernel
theorem dL_law_2280 : decode cL_law 2280 = .ok (.ifCond .ne 14, 3) := by decide +kernel
theorem dL_law_2294 : decode cL_law 2294 = .ok (.goto 147, 3) := by decide +kernel
theorem dL_law_2297 : decode cL_law 2297 = .ok (.aload_n 1, 1) := by decide +kernel
theorem dL_law_2298 : decode cL_law 2298 = .ok (.aload 4, 2) := by decide +kernel
theorem dL_law_2300 : decode cL_law 2300 = .ok (.invokestatic 247, 3) := by decide +kernel
theorem dL_law_2303 : decode cL_law 2303 = .ok (.istore 6, 2) := by decide +kernel
theorem dL_law_2305 : decode cL_law 2305 = .ok (.aload_n 2, 1) := by decide +kernel
theorem dL_law_2306 : decode cL_law 2306 = .ok (.invokevirtual 250, 3) := by decide +kernel
theorem dL_law_2309 : decode cL_law 2309 = .ok (.fstore 7, 2) := by decide +kernel
theorem dL_law_2311 : decode cL_law 2311 = .ok (.aload_n 2, 1) := by decide +kernel
theorem dL_law_2312 : decode cL_law 2312 = .ok (.invokevirtual 143, 3) := by decide +kernel
theorem dL_law_2315 : decode cL_law 2315 = .ok (.iload 6, 2) := by decide +kernel
theorem dL_law_2317 : decode cL_law 2317 = .ok (.if_icmp .eq 5, 3) := by decide +kernel
theorem dL_law_2322 : decode cL_law 2322 = .ok (.iload 6, 2) := by decide +kernel
theorem dL_law_2324 : decode cL_law 2324 = .ok (.ifCond .ne 36, 3) := by decide +kernel
theorem dL_law_2360 : decode cL_law 2360 = .ok (.goto 81, 3) := by decide +kernel
theorem dL_law_2363 : decode cL_law 2363 = .ok (.aload_n 1, 1) := by decide +kernel
theorem dL_law_2364 : decode cL_law 2364 = .ok (.aload 4, 2) := by decide +kernel
theorem dL_law_2366 : decode cL_law 2366 = .ok (.invokestatic 251, 3) := by decide +kernel
theorem dL_law_2369 : decode cL_law 2369 = .ok (.istore 6, 2) := by decide +kernel
theorem dL_law_2371 : decode cL_law 2371 = .ok (.aload_n 2, 1) := by decide +kernel
theorem dL_law_2372 : decode cL_law 2372 = .ok (.invokevirtual 253, 3) := by decide +kernel
theorem dL_law_2375 : decode cL_law 2375 = .ok (.dstore 7, 2) := by decide +kernel
theorem dL_law_2377 : decode cL_law 2377 = .ok (.aload_n 2, 1) := by decide +kernel
theorem dL_law_2378 : decode cL_law 2378 = .ok (.invokevirtual 143, 3) := by decide +kernel
theorem dL_law_2381 : decode cL_law 2381 = .ok (.iload 6, 2) := by decide +kernel
theorem dL_law_2383 : decode cL_law 2383 = .ok (.if_icmp .eq 5, 3) := by decide +kernel
theorem dL_law_2388 : decode cL_law 2388 = .ok (.iload 6, 2) := by decide +kernel
theorem dL_law_2390 : decode cL_law 2390 = .ok (.ifCond .ne 35, 3) := by decide +kernel
theorem dL_law_2425 : decode cL_law 2425 = .ok (.goto 16, 3) := by decide +kernel
theorem dL_law_2428 : decode cL_law 2428 = .ok (.aload_n 1, 1) := by decide +kernel
theorem dL_law_2429 : decode cL_law 2429 = .ok (.invokevirtual 254, 3) := by decide +kernel
theorem dL_law_2432 : decode cL_law 2432 = .ok (.aload_n 2, 1) := by decide +kernel
theorem dL_law_2433 : decode cL_law 2433 = .ok (.invokevirtual 258, 3) := by decide +kernel
theorem dL_law_2436 : decode cL_law 2436 = .ok (.if_icmp .eq 5, 3) := by decide +kernel
theorem dL_law_2441 : decode cL_law 2441 = .ok (.iinc 5 6, 3) := by decide +kernel
theorem dL_law_2444 : decode cL_law 2444 = .ok (.goto (-2416), 3) := by decide +kernel
theorem dL_law_2447 : decode cL_law 2447 = .ok (.iconst 1, 1) := by decide +kernel
theorem dL_law_2448 : decode cL_law 2448 = .ok (.ireturn, 1) := by decide +kernel
theorem dL_lotOf_0 : decode cL_lotOf 0 = .ok (.aload_n 2, 1) := by decide +kernel
theorem dL_lotOf_1 : decode cL_lotOf 1 = .ok (.iconst 0, 1) := by decide +kernel
theorem dL_lotOf_2 : decode cL_lotOf 2 = .ok (.aload_n 0, 1) := by decide +kernel
theorem dL_lotOf_3 : decode cL_lotOf 3 = .ok (.iload_n 1, 1) := by decide +kernel
theorem dL_lotOf_4 : decode cL_lotOf 4 = .ok (.invokevirtual 94, 3) := by decide +kernel
theorem dL_lotOf_12 : decode cL_lotOf 12 = .ok (.astore_n 3, 1) := by decide +kernel
theorem dL_lotOf_13 : decode cL_lotOf 13 = .ok (.iconst 1, 1) := by decide +kernel
theorem dL_lotOf_14 : decode cL_lotOf 14 = .ok (.ireturn, 1) := by decide +kernel
theorem dL_lotsIn_0 : decode cL_lotsIn 0 = .ok (.aload_n 2, 1) := by decide +kernel
theorem dL_lotsIn_1 : decode cL_lotsIn 1 = .ok (.iconst 0, 1) := by decide +kernel
theorem dL_lotsIn_2 : decode cL_lotsIn 2 = .ok (.aload_n 0, 1) := by decide +kernel
theorem dL_lotsIn_3 : decode cL_lotsIn 3 = .ok (.iload_n 1, 1) := by decide +kernel
theorem dL_lotsIn_4 : decode cL_lotsIn 4 = .ok (.invokevirtual 117, 3) := by decide +kernel
theorem dL_lotsIn_12 : decode cL_lotsIn 12 = .ok (.astore_n 3, 1) := by decide +kernel
theorem dL_lotsIn_13 : decode cL_lotsIn 13 = .ok (.iconst 1, 1) := by decide +kernel
theorem dL_lotsIn_14 : decode cL_lotsIn 14 = .ok (.ireturn, 1) := by decide +kernel
theorem dL_machineIs_0 : decode cL_machineIs 0 = .ok (.aload_n 2, 1) := by decide +kernel
theorem dL_machineIs_1 : decode cL_machineIs 1 = .ok (.iconst 0, 1) := by decide +kernel
theorem dL_machineIs_2 : decode cL_machineIs 2 = .ok (.aload_n 0, 1) := by decide +kernel
theorem dL_machineIs_3 : decode cL_machineIs 3 = .ok (.iload_n 1, 1) := by decide +kernel
theorem dL_machineIs_4 : decode cL_machineIs 4 = .ok (.invokevirtual 102, 3) := by decide +kernel
theorem dL_machineIs_12 : decode cL_machineIs 12 = .ok (.astore_n 3, 1) := by decide +kernel
theorem dL_machineIs_13 : decode cL_machineIs 13 = .ok (.iconst 1, 1) := by decide +kernel
theorem dL_machineIs_14 : decode cL_machineIs 14 = .ok (.ireturn, 1) := by decide +kernel
theorem dL_meanBusy_0 : decode cL_meanBusy 0 = .ok (.aload_n 1, 1) := by decide +kernel
theorem dL_meanBusy_1 : decode cL_meanBusy 1 = .ok (.iconst 0, 1) := by decide +kernel
theorem dL_meanBusy_2 : decode cL_meanBusy 2 = .ok (.aload_n 0, 1) := by decide +kernel
theorem dL_meanBusy_3 : decode cL_meanBusy 3 = .ok (.invokevirtual 129, 3) := by decide +kernel
theorem dL_meanBusy_10 : decode cL_meanBusy 10 = .ok (.astore_n 2, 1) := by decide +kernel
theorem dL_meanBusy_11 : decode cL_meanBusy 11 = .ok (.iconst 1, 1) := by decide +kernel
theorem dL_meanBusy_12 : decode cL_meanBusy 12 = .ok (.ireturn, 1) := by decide +kernel
theorem dL_measure_0 : decode cL_measure 0 = .ok (.aload_n 3, 1) := by decide +kernel
theorem dL_measure_1 : decode cL_measure 1 = .ok (.iconst 0, 1) := by decide +kernel
theorem dL_measure_2 : decode cL_measure 2 = .ok (.aload_n 0, 1) := by decide +kernel
theorem dL_measure_3 : decode cL_measure 3 = .ok (.iload_n 1, 1) := by decide +kernel
theorem dL_measure_4 : decode cL_measure 4 = .ok (.iload_n 2, 1) := by decide +kernel
theorem dL_measure_5 : decode cL_measure 5 = .ok (.invokevirtual 51, 3) := by decide +kernel
theorem dL_measure_20 : decode cL_measure 20 = .ok (.astore 4, 2) := by decide +kernel
theorem dL_measure_22 : decode cL_measure 22 = .ok (.iconst 1, 1) := by decide +kernel
theorem dL_measure_23 : decode cL_measure 23 = .ok (.ireturn, 1) := by decide +kernel
theorem dL_order_0 : decode cL_order 0 = .ok (.aload 5, 2) := by decide +kernel
theorem dL_order_2 : decode cL_order 2 = .ok (.iconst 0, 1) := by decide +kernel
theorem dL_order_3 : decode cL_order 3 = .ok (.aload_n 0, 1) := by decide +kernel
theorem dL_order_4 : decode cL_order 4 = .ok (.iload_n 1, 1) := by decide +kernel
theorem dL_order_5 : decode cL_order 5 = .ok (.iload_n 2, 1) := by decide +kernel
theorem dL_order_6 : decode cL_order 6 = .ok (.iload_n 3, 1) := by decide +kernel
theorem dL_order_7 : decode cL_order 7 = .ok (.iload 4, 2) := by decide +kernel
theorem dL_order_9 : decode cL_order 9 = .ok (.invokevirtual 69, 3) := by decide +kernel
theorem dL_order_17 : decode cL_order 17 = .ok (.astore 6, 2) := by decide +kernel
theorem dL_order_19 : decode cL_order 19 = .ok (.iconst 1, 1) := by decide +kernel
theorem dL_order_20 : decode cL_order 20 = .ok (.ireturn, 1) := by decide +kernel
theorem dL_partOf_0 : decode cL_partOf 0 = .ok (.aload_n 2, 1) := by decide +kernel
theorem dL_partOf_1 : decode cL_partOf 1 = .ok (.iconst 0, 1) := by decide +kernel
theorem dL_partOf_2 : decode cL_partOf 2 = .ok (.aload_n 0, 1) := by decide +kernel
theorem dL_partOf_3 : decode cL_partOf 3 = .ok (.iload_n 1, 1) := by decide +kernel
theorem dL_partOf_4 : decode cL_partOf 4 = .ok (.invokevirtual 55, 3) := by decide +kernel
theorem dL_partOf_12 : decode cL_partOf 12 = .ok (.astore_n 3, 1) := by decide +kernel
theorem dL_partOf_13 : decode cL_partOf 13 = .ok (.iconst 1, 1) := by decide +kernel
theorem dL_partOf_14 : decode cL_partOf 14 = .ok (.ireturn, 1) := by decide +kernel
theorem dL_promise_0 : decode cL_promise 0 = .ok (.aload_n 2, 1) := by decide +kernel
theorem dL_promise_1 : decode cL_promise 1 = .ok (.iconst 0, 1) := by decide +kernel
theorem dL_promise_2 : decode cL_promise 2 = .ok (.aload_n 0, 1) := by decide +kernel
theorem dL_promise_3 : decode cL_promise 3 = .ok (.iload_n 1, 1) := by decide +kernel
theorem dL_promise_4 : decode cL_promise 4 = .ok (.invokevirtual 72, 3) := by decide +kernel
theorem dL_promise_19 : decode cL_promise 19 = .ok (.astore_n 3, 1) := by decide +kernel
theorem dL_promise_20 : decode cL_promise 20 = .ok (.iconst 1, 1) := by decide +kernel
theorem dL_promise_21 : decode cL_promise 21 = .ok (.ireturn, 1) := by decide +kernel
theorem dL_receive_0 : decode cL_receive 0 = .ok (.aload 6, 2) := by decide +kernel
theorem dL_receive_2 : decode cL_receive 2 = .ok (.iconst 0, 1) := by decide +kernel
theorem dL_receive_3 : decode cL_receive 3 = .ok (.aload_n 0, 1) := by decide +kernel
theorem dL_receive_4 : decode cL_receive 4 = .ok (.iload_n 1, 1) := by decide +kernel
theorem dL_receive_5 : decode cL_receive 5 = .ok (.iload_n 2, 1) := by decide +kernel
theorem dL_receive_6 : decode cL_receive 6 = .ok (.iload_n 3, 1) := by decide +kernel
theorem dL_receive_7 : decode cL_receive 7 = .ok (.iload 4, 2) := by decide +kernel
theorem dL_receive_9 : decode cL_receive 9 = .ok (.iload 5, 2) := by decide +kernel
theorem dL_receive_11 : decode cL_receive 11 = .ok (.invokevirtual 31, 3) := by decide +kernel
theorem dL_receive_19 : decode cL_receive 19 = .ok (.astore 7, 2) := by decide +kernel
theorem dL_receive_21 : decode cL_receive 21 = .ok (.iconst 1, 1) := by decide +kernel
theorem dL_receive_22 : decode cL_receive 22 = .ok (.ireturn, 1) := by decide +kernel
theorem dL_release_0 : decode cL_release 0 = .ok (.aload_n 2, 1) := by decide +kernel
theorem dL_release_1 : decode cL_release 1 = .ok (.iconst 0, 1) := by decide +kernel
theorem dL_release_2 : decode cL_release 2 = .ok (.aload_n 0, 1) := by decide +kernel
theorem dL_release_3 : decode cL_release 3 = .ok (.iload_n 1, 1) := by decide +kernel
theorem dL_release_4 : decode cL_release 4 = .ok (.invokevirtual 78, 3) := by decide +kernel
theorem dL_release_19 : decode cL_release 19 = .ok (.astore_n 3, 1) := by decide +kernel
theorem dL_release_20 : decode cL_release 20 = .ok (.iconst 1, 1) := by decide +kernel
theorem dL_release_21 : decode cL_release 21 = .ok (.ireturn, 1) := by decide +kernel
theorem dL_reserved_0 : decode cL_reserved 0 = .ok (.aload_n 2, 1) := by decide +kernel
theorem dL_reserved_1 : decode cL_reserved 1 = .ok (.iconst 0, 1) := by decide +kernel
theorem dL_reserved_2 : decode cL_reserved 2 = .ok (.aload_n 0, 1) := by decide +kernel
theorem dL_reserved_3 : decode cL_reserved 3 = .ok (.iload_n 1, 1) := by decide +kernel
theorem dL_reserved_4 : decode cL_reserved 4 = .ok (.invokevirtual 62, 3) := by decide +kernel
theorem dL_reserved_12 : decode cL_reserved 12 = .ok (.astore_n 3, 1) := by decide +kernel
theorem dL_reserved_13 : decode cL_reserved 13 = .ok (.iconst 1, 1) := by decide +kernel
theorem dL_reserved_14 : decode cL_reserved 14 = .ok (.ireturn, 1) := by decide +kernel
theorem dL_rest_0 : decode cL_rest 0 = .ok (.aload_n 2, 1) := by decide +kernel
theorem dL_rest_1 : decode cL_rest 1 = .ok (.iconst 0, 1) := by decide +kernel
theorem dL_rest_2 : decode cL_rest 2 = .ok (.aload_n 0, 1) := by decide +kernel
theorem dL_rest_3 : decode cL_rest 3 = .ok (.iload_n 1, 1) := by decide +kernel
theorem dL_rest_4 : decode cL_rest 4 = .ok (.invokevirtual 59, 3) := by decide +kernel
theorem dL_rest_12 : decode cL_rest 12 = .ok (.astore_n 3, 1) := by decide +kernel
theorem dL_rest_13 : decode cL_rest 13 = .ok (.iconst 1, 1) := by decide +kernel
theorem dL_rest_14 : decode cL_rest 14 = .ok (.ireturn, 1) := by decide +kernel
theorem dL_rule_0 : decode cL_rule 0 = .ok (.aload_n 2, 1) := by decide +kernel
theorem dL_rule_1 : decode cL_rule 1 = .ok (.iconst 0, 1) := by decide +kernel
theorem dL_rule_2 : decode cL_rule 2 = .ok (.aload_n 0, 1) := by decide +kernel
theorem dL_rule_3 : decode cL_rule 3 = .ok (.iload_n 1, 1) := by decide +kernel
theorem dL_rule_4 : decode cL_rule 4 = .ok (.invokevirtual 35, 3) := by decide +kernel
theorem dL_rule_7 : decode cL_rule 7 = .ok (.i2l, 1) := by decide +kernel
theorem dL_rule_8 : decode cL_rule 8 = .ok (.lastore, 1) := by decide +kernel
theorem dL_rule_9 : decode cL_rule 9 = .ok (.goto 6, 3) := by decide +kernel
theorem dL_rule_12 : decode cL_rule 12 = .ok (.astore_n 3, 1) := by decide +kernel
theorem dL_rule_13 : decode cL_rule 13 = .ok (.iconst 1, 1) := by decide +kernel
theorem dL_rule_14 : decode cL_rule 14 = .ok (.ireturn, 1) := by decide +kernel
theorem dL_rule_15 : decode cL_rule 15 = .ok (.iconst 0, 1) := by decide +kernel
theorem dL_rule_16 : decode cL_rule 16 = .ok (.ireturn, 1) := by decide +kernel
theorem dL_scrap_0 : decode cL_scrap 0 = .ok (.aload_n 3, 1) := by decide +kernel
theorem dL_scrap_1 : decode cL_scrap 1 = .ok (.iconst 0, 1) := by decide +kernel
theorem dL_scrap_2 : decode cL_scrap 2 = .ok (.aload_n 0, 1) := by decide +kernel
theorem dL_scrap_3 : decode cL_scrap 3 = .ok (.iload_n 1, 1) := by decide +kernel
theorem dL_scrap_4 : decode cL_scrap 4 = .ok (.iload_n 2, 1) := by decide +kernel
theorem dL_scrap_5 : decode cL_scrap 5 = .ok (.invokevirtual 81, 3) := by decide +kernel
theorem dL_scrap_13 : decode cL_scrap 13 = .ok (.astore 4, 2) := by decide +kernel
theorem dL_scrap_15 : decode cL_scrap 15 = .ok (.iconst 1, 1) := by decide +kernel
theorem dL_scrap_16 : decode cL_scrap 16 = .ok (.ireturn, 1) := by decide +kernel
theorem dL_setChart_0 : decode cL_setChart 0 = .ok (.aload 4, 2) := by decide +kernel
theorem dL_setChart_2 : decode cL_setChart 2 = .ok (.iconst 0, 1) := by decide +kernel
theorem dL_setChart_3 : decode cL_setChart 3 = .ok (.aload_n 0, 1) := by decide +kernel
theorem dL_setChart_4 : decode cL_setChart 4 = .ok (.iload_n 1, 1) := by decide +kernel
theorem dL_setChart_5 : decode cL_setChart 5 = .ok (.iload_n 2, 1) := by decide +kernel
theorem dL_setChart_6 : decode cL_setChart 6 = .ok (.iload_n 3, 1) := by decide +kernel
theorem dL_setChart_7 : decode cL_setChart 7 = .ok (.invokevirtual 47, 3) := by decide +kernel
theorem dL_setChart_15 : decode cL_setChart 15 = .ok (.astore 5, 2) := by decide +kernel
theorem dL_setChart_17 : decode cL_setChart 17 = .ok (.iconst 1, 1) := by decide +kernel
theorem dL_setChart_18 : decode cL_setChart 18 = .ok (.ireturn, 1) := by decide +kernel
theorem dL_stateOf_0 : decode cL_stateOf 0 = .ok (.aload_n 2, 1) := by decide +kernel
theorem dL_stateOf_1 : decode cL_stateOf 1 = .ok (.iconst 0, 1) := by decide +kernel
theorem dL_stateOf_2 : decode cL_stateOf 2 = .ok (.aload_n 0, 1) := by decide +kernel
theorem dL_stateOf_3 : decode cL_stateOf 3 = .ok (.iload_n 1, 1) := by decide +kernel
theorem dL_stateOf_4 : decode cL_stateOf 4 = .ok (.invokevirtual 91, 3) := by decide +kernel
theorem dL_stateOf_12 : decode cL_stateOf 12 = .ok (.astore_n 3, 1) := by decide +kernel
theorem dL_stateOf_13 : decode cL_stateOf 13 = .ok (.iconst 1, 1) := by decide +kernel
theorem dL_stateOf_14 : decode cL_stateOf 14 = .ok (.ireturn, 1) := by decide +kernel
theorem dL_touched_0 : decode cL_touched 0 = .ok (.aload_n 2, 1) := by decide +kernel
theorem dL_touched_1 : decode cL_touched 1 = .ok (.iconst 0, 1) := by decide +kernel
theorem dL_touched_2 : decode cL_touched 2 = .ok (.aload_n 0, 1) := by decide +kernel
theorem dL_touched_3 : decode cL_touched 3 = .ok (.iload_n 1, 1) := by decide +kernel
theorem dL_touched_4 : decode cL_touched 4 = .ok (.invokevirtual 114, 3) := by decide +kernel
theorem dL_touched_12 : decode cL_touched 12 = .ok (.astore_n 3, 1) := by decide +kernel
theorem dL_touched_13 : decode cL_touched 13 = .ok (.iconst 1, 1) := by decide +kernel
theorem dL_touched_14 : decode cL_touched 14 = .ok (.ireturn, 1) := by decide +kernel
theorem dL_waiting_0 : decode cL_waiting 0 = .ok (.aload_n 2, 1) := by decide +kernel
theorem dL_waiting_1 : decode cL_waiting 1 = .ok (.iconst 0, 1) := by decide +kernel
theorem dL_waiting_2 : decode cL_waiting 2 = .ok (.aload_n 0, 1) := by decide +kernel
theorem dL_waiting_3 : decode cL_waiting 3 = .ok (.iload_n 1, 1) := by decide +kernel
theorem dL_waiting_4 : decode cL_waiting 4 = .ok (.invokevirtual 108, 3) := by decide +kernel
theorem dL_waiting_12 : decode cL_waiting 12 = .ok (.astore_n 3, 1) := by decide +kernel
theorem dL_waiting_13 : decode cL_waiting 13 = .ok (.iconst 1, 1) := by decide +kernel
theorem dL_waiting_14 : decode cL_waiting 14 = .ok (.ireturn, 1) := by decide +kernel
theorem dL_wear_0 : decode cL_wear 0 = .ok (.aload_n 2, 1) := by decide +kernel
theorem dL_wear_1 : decode cL_wear 1 = .ok (.iconst 0, 1) := by decide +kernel
theorem dL_wear_2 : decode cL_wear 2 = .ok (.aload_n 0, 1) := by decide +kernel
theorem dL_wear_3 : decode cL_wear 3 = .ok (.iload_n 1, 1) := by decide +kernel
theorem dL_wear_4 : decode cL_wear 4 = .ok (.invokevirtual 105, 3) := by decide +kernel
theorem dL_wear_12 : decode cL_wear 12 = .ok (.astore_n 3, 1) := by decide +kernel
theorem dL_wear_13 : decode cL_wear 13 = .ok (.iconst 1, 1) := by decide +kernel
theorem dL_wear_14 : decode cL_wear 14 = .ok (.ireturn, 1) := by decide +kernel
theorem dL_withdraw_0 : decode cL_withdraw 0 = .ok (.aload_n 2, 1) := by decide +kernel
theorem dL_withdraw_1 : decode cL_withdraw 1 = .ok (.iconst 0, 1) := by decide +kernel
theorem dL_withdraw_2 : decode cL_withdraw 2 = .ok (.aload_n 0, 1) := by decide +kernel
theorem dL_withdraw_3 : decode cL_withdraw 3 = .ok (.iload_n 1, 1) := by decide +kernel
theorem dL_withdraw_4 : decode cL_withdraw 4 = .ok (.invokevirtual 75, 3) := by decide +kernel
theorem dL_withdraw_12 : decode cL_withdraw 12 = .ok (.astore_n 3, 1) := by decide +kernel
theorem dL_withdraw_13 : decode cL_withdraw 13 = .ok (.iconst 1, 1) := by decide +kernel
theorem dL_withdraw_14 : decode cL_withdraw 14 = .ok (.ireturn, 1) := by decide +kernel
theorem dX0_init_0 : decode cX0_init 0 = .ok (.aload_n 0, 1) := by decide +kernel
theorem dX0_init_1 : decode cX0_init 1 = .ok (.invokespecial 1, 3) := by decide +kernel
theorem dX0_init_4 : decode cX0_init 4 = .ok (.aload_n 0, 1) := by decide +kernel
theorem dX0_init_5 : decode cX0_init 5 = .ok (.bipush 100, 2) := by decide +kernel
theorem dX0_init_7 : decode cX0_init 7 = .ok (.putfield 7, 3) := by decide +kernel
theorem dX0_init_10 : decode cX0_init 10 = .ok (.aload_n 0, 1) := by decide +kernel
theorem dX0_init_11 : decode cX0_init 11 = .ok (.bipush 10, 2) := by decide +kernel
theorem dX0_init_13 : decode cX0_init 13 = .ok (.putfield 13, 3) := by decide +kernel
theorem dX0_init_16 : decode cX0_init 16 = .ok (.return_, 1) := by decide +kernel
theorem dX10_addComponent_0 : decode cX10_addComponent 0 = .ok (.aload_n 0, 1) := by decide +kernel
theorem dX10_addComponent_1 : decode cX10_addComponent 1 = .ok (.iload_n 1, 1) := by decide +kernel
theorem dX10_addComponent_2 : decode cX10_addComponent 2 = .ok (.invokevirtual 80, 3) := by decide +kernel
theorem dX10_addMachine_0 : decode cX10_addMachine 0 = .ok (.iload_n 1, 1) := by decide +kernel
theorem dX10_addMachine_1 : decode cX10_addMachine 1 = .ok (.iconst 0, 1) := by decide +kernel
theorem dX10_addMachine_2 : decode cX10_addMachine 2 = .ok (.bipush 20, 2) := by decide +kernel
theorem dX10_addMachine_4 : decode cX10_addMachine 4 = .ok (.invokestatic 47, 3) := by decide +kernel
theorem dX10_addMachine_7 : decode cX10_addMachine 7 = .ok (.ifCond .eq 35, 3) := by decide +kernel
theorem dX10_addMachine_10 : decode cX10_addMachine 10 = .ok (.iload_n 2, 1) := by decide +kernel
theorem dX10_addMachine_11 : decode cX10_addMachine 11 = .ok (.iconst 0, 1) := by decide +kernel
theorem dX10_addMachine_12 : decode cX10_addMachine 12 = .ok (.bipush 50, 2) := by decide +kernel
theorem dX10_addMachine_14 : decode cX10_addMachine 14 = .ok (.invokestatic 47, 3) := by decide +kernel
theorem dX10_addMachine_17 : decode cX10_addMachine 17 = .ok (.ifCond .eq 25, 3) := by decide +kernel
theorem dX10_addMachine_20 : decode cX10_addMachine 20 = .ok (.iload_n 3, 1) := by decide +kernel
theorem dX10_addMachine_21 : decode cX10_addMachine 21 = .ok (.iconst 5, 1) := by decide +kernel
theorem dX10_addMachine_22 : decode cX10_addMachine 22 = .ok (.sipush 500, 3) := by decide +kernel
theorem dX10_addMachine_25 : decode cX10_addMachine 25 = .ok (.invokestatic 47, 3) := by decide +kernel
theorem dX10_addMachine_28 : decode cX10_addMachine 28 = .ok (.ifCond .eq 14, 3) := by decide +kernel
theorem dX10_addMachine_31 : decode cX10_addMachine 31 = .ok (.iload 4, 2) := by decide +kernel
theorem dX10_addMachine_33 : decode cX10_addMachine 33 = .ok (.iconst 1, 1) := by decide +kernel
theorem dX10_addMachine_34 : decode cX10_addMachine 34 = .ok (.bipush 99, 2) := by decide +kernel
theorem dX10_addMachine_36 : decode cX10_addMachine 36 = .ok (.invokestatic 47, 3) := by decide +kernel
theorem dX10_addMachine_39 : decode cX10_addMachine 39 = .ok (.ifCond .ne 13, 3) := by decide +kernel
theorem dX10_addMachine_42 : decode cX10_addMachine 42 = .ok (.new 51, 3) := by decide +kernel
theorem dX10_addMachine_45 : decode cX10_addMachine 45 = .ok (.dup, 1) := by decide +kernel
theorem dX10_addMachine_46 : decode cX10_addMachine 46 = .ok (.ldc 53, 2) := by decide +kernel
theorem dX10_addMachine_48 : decode cX10_addMachine 48 = .ok (.invokespecial 55, 3) := by decide +kernel
theorem dX10_addMachine_51 : decode cX10_addMachine 51 = .ok (.athrow, 1) := by decide +kernel
theorem dX10_addMachine_52 : decode cX10_addMachine 52 = .ok (.aload_n 0, 1) := by decide +kernel
theorem dX10_addMachine_53 : decode cX10_addMachine 53 = .ok (.getfield 58, 3) := by decide +kernel
theorem dX10_addMachine_56 : decode cX10_addMachine 56 = .ok (.aload_n 0, 1) := by decide +kernel
theorem dX10_addMachine_57 : decode cX10_addMachine 57 = .ok (.getfield 11, 3) := by decide +kernel
theorem dX10_addMachine_60 : decode cX10_addMachine 60 = .ok (.arraylength, 1) := by decide +kernel
theorem dX10_addMachine_61 : decode cX10_addMachine 61 = .ok (.if_icmp .lt 13, 3) := by decide +kernel
theorem dX10_addMachine_74 : decode cX10_addMachine 74 = .ok (.aload_n 0, 1) := by decide +kernel
theorem dX10_addMachine_75 : decode cX10_addMachine 75 = .ok (.getfield 11, 3) := by decide +kernel
theorem dX10_addMachine_78 : decode cX10_addMachine 78 = .ok (.aload_n 0, 1) := by decide +kernel
theorem dX10_addMachine_79 : decode cX10_addMachine 79 = .ok (.getfield 58, 3) := by decide +kernel
theorem dX10_addMachine_82 : decode cX10_addMachine 82 = .ok (.new 9, 3) := by decide +kernel
theorem dX10_addMachine_85 : decode cX10_addMachine 85 = .ok (.dup, 1) := by decide +kernel
theorem dX10_addMachine_86 : decode cX10_addMachine 86 = .ok (.iload_n 1, 1) := by decide +kernel
theorem dX10_addMachine_87 : decode cX10_addMachine 87 = .ok (.iload_n 2, 1) := by decide +kernel
theorem dX10_addMachine_88 : decode cX10_addMachine 88 = .ok (.iload_n 3, 1) := by decide +kernel
theorem dX10_addMachine_89 : decode cX10_addMachine 89 = .ok (.iload 4, 2) := by decide +kernel
theorem dX10_addMachine_91 : decode cX10_addMachine 91 = .ok (.invokespecial 67, 3) := by decide +kernel
theorem dX10_addMachine_94 : decode cX10_addMachine 94 = .ok (.aastore, 1) := by decide +kernel
theorem dX10_addMachine_95 : decode cX10_addMachine 95 = .ok (.aload_n 0, 1) := by decide +kernel
theorem dX10_addMachine_96 : decode cX10_addMachine 96 = .ok (.dup, 1) := by decide +kernel
theorem dX10_addMachine_97 : decode cX10_addMachine 97 = .ok (.getfield 58, 3) := by decide +kernel
theorem dX10_addMachine_100 : decode cX10_addMachine 100 = .ok (.iconst 1, 1) := by decide +kernel
theorem dX10_addMachine_101 : decode cX10_addMachine 101 = .ok (.iadd, 1) := by decide +kernel
theorem dX10_addMachine_102 : decode cX10_addMachine 102 = .ok (.putfield 58, 3) := by decide +kernel
theorem dX10_addMachine_105 : decode cX10_addMachine 105 = .ok (.aload_n 0, 1) := by decide +kernel
theorem dX10_addMachine_106 : decode cX10_addMachine 106 = .ok (.getfield 58, 3) := by decide +kernel
theorem dX10_addMachine_109 : decode cX10_addMachine 109 = .ok (.iconst 1, 1) := by decide +kernel
theorem dX10_addMachine_110 : decode cX10_addMachine 110 = .ok (.isub, 1) := by decide +kernel
theorem dX10_addMachine_111 : decode cX10_addMachine 111 = .ok (.ireturn, 1) := by decide +kernel
theorem dX10_addOperation_0 : decode cX10_addOperation 0 = .ok (.aload_n 0, 1) := by decide +kernel
theorem dX10_addOperation_1 : decode cX10_addOperation 1 = .ok (.iload_n 1, 1) := by decide +kernel
theorem dX10_addOperation_2 : decode cX10_addOperation 2 = .ok (.invokevirtual 80, 3) := by decide +kernel
theorem dX10_addPart_0 : decode cX10_addPart 0 = .ok (.iload_n 2, 1) := by decide +kernel
theorem dX10_addPart_1 : decode cX10_addPart 1 = .ok (.iconst 0, 1) := by decide +kernel
theorem dX10_addPart_2 : decode cX10_addPart 2 = .ok (.iconst 3, 1) := by decide +kernel
theorem dX10_addPart_3 : decode cX10_addPart 3 = .ok (.invokestatic 47, 3) := by decide +kernel
theorem dX10_addPart_6 : decode cX10_addPart 6 = .ok (.ifCond .ne 13, 3) := by decide +kernel
theorem dX10_addPart_9 : decode cX10_addPart 9 = .ok (.new 51, 3) := by decide +kernel
theorem dX10_addPart_12 : decode cX10_addPart 12 = .ok (.dup, 1) := by decide +kernel
theorem dX10_addPart_13 : decode cX10_addPart 13 = .ok (.ldc 70, 2) := by decide +kernel
theorem dX10_addPart_15 : decode cX10_addPart 15 = .ok (.invokespecial 55, 3) := by decide +kernel
theorem dX10_addPart_18 : decode cX10_addPart 18 = .ok (.athrow, 1) := by decide +kernel
theorem dX10_addPart_19 : decode cX10_addPart 19 = .ok (.aload_n 0, 1) := by decide +kernel
theorem dX10_addPart_20 : decode cX10_addPart 20 = .ok (.getfield 72, 3) := by decide +kernel
theorem dX10_addPart_23 : decode cX10_addPart 23 = .ok (.aload_n 0, 1) := by decide +kernel
theorem dX10_addPart_24 : decode cX10_addPart 24 = .ok (.getfield 17, 3) := by decide +kernel
theorem dX10_addPart_27 : decode cX10_addPart 27 = .ok (.arraylength, 1) := by decide +kernel
theorem dX10_addPart_28 : decode cX10_addPart 28 = .ok (.if_icmp .lt 13, 3) := by decide +kernel
theorem dX10_addPart_41 : decode cX10_addPart 41 = .ok (.aload_n 0, 1) := by decide +kernel
theorem dX10_addPart_42 : decode cX10_addPart 42 = .ok (.getfield 17, 3) := by decide +kernel
theorem dX10_addPart_45 : decode cX10_addPart 45 = .ok (.aload_n 0, 1) := by decide +kernel
theorem dX10_addPart_46 : decode cX10_addPart 46 = .ok (.getfield 72, 3) := by decide +kernel
theorem dX10_addPart_49 : decode cX10_addPart 49 = .ok (.new 15, 3) := by decide +kernel
theorem dX10_addPart_52 : decode cX10_addPart 52 = .ok (.dup, 1) := by decide +kernel
theorem dX10_addPart_53 : decode cX10_addPart 53 = .ok (.aload_n 0, 1) := by decide +kernel
theorem dX10_addPart_54 : decode cX10_addPart 54 = .ok (.getfield 72, 3) := by decide +kernel
theorem dX10_addPart_57 : decode cX10_addPart 57 = .ok (.iload_n 1, 1) := by decide +kernel
theorem dX10_addPart_58 : decode cX10_addPart 58 = .ok (.iload_n 2, 1) := by decide +kernel
theorem dX10_addPart_59 : decode cX10_addPart 59 = .ok (.invokespecial 77, 3) := by decide +kernel
theorem dX10_addPart_62 : decode cX10_addPart 62 = .ok (.aastore, 1) := by decide +kernel
theorem dX10_addPart_63 : decode cX10_addPart 63 = .ok (.aload_n 0, 1) := by decide +kernel
theorem dX10_addPart_64 : decode cX10_addPart 64 = .ok (.dup, 1) := by decide +kernel
theorem dX10_addPart_65 : decode cX10_addPart 65 = .ok (.getfield 72, 3) := by decide +kernel
theorem dX10_addPart_68 : decode cX10_addPart 68 = .ok (.iconst 1, 1) := by decide +kernel
theorem dX10_addPart_69 : decode cX10_addPart 69 = .ok (.iadd, 1) := by decide +kernel
theorem dX10_addPart_70 : decode cX10_addPart 70 = .ok (.putfield 72, 3) := by decide +kernel
theorem dX10_addPart_73 : decode cX10_addPart 73 = .ok (.aload_n 0, 1) := by decide +kernel
theorem dX10_addPart_74 : decode cX10_addPart 74 = .ok (.getfield 72, 3) := by decide +kernel
theorem dX10_addPart_77 : decode cX10_addPart 77 = .ok (.iconst 1, 1) := by decide +kernel
theorem dX10_addPart_78 : decode cX10_addPart 78 = .ok (.isub, 1) := by decide +kernel
theorem dX10_addPart_79 : decode cX10_addPart 79 = .ok (.ireturn, 1) := by decide +kernel
theorem dX10_advance_0 : decode cX10_advance 0 = .ok (.iload_n 1, 1) := by decide +kernel
theorem dX10_advance_1 : decode cX10_advance 1 = .ok (.iconst 1, 1) := by decide +kernel
theorem dX10_advance_2 : decode cX10_advance 2 = .ok (.sipush 500, 3) := by decide +kernel
theorem dX10_advance_5 : decode cX10_advance 5 = .ok (.invokestatic 47, 3) := by decide +kernel
theorem dX10_advance_8 : decode cX10_advance 8 = .ok (.ifCond .ne 13, 3) := by decide +kernel
theorem dX10_advance_11 : decode cX10_advance 11 = .ok (.new 51, 3) := by decide +kernel
theorem dX10_advance_14 : decode cX10_advance 14 = .ok (.dup, 1) := by decide +kernel
theorem dX10_advance_15 : decode cX10_advance 15 = .ok (.ldc 116, 2) := by decide +kernel
theorem dX10_advance_17 : decode cX10_advance 17 = .ok (.invokespecial 55, 3) := by decide +kernel
theorem dX10_advance_20 : decode cX10_advance 20 = .ok (.athrow, 1) := by decide +kernel
theorem dX10_advance_21 : decode cX10_advance 21 = .ok (.aload_n 0, 1) := by decide +kernel
theorem dX10_advance_22 : decode cX10_advance 22 = .ok (.getfield 294, 3) := by decide +kernel
theorem dX10_advance_25 : decode cX10_advance 25 = .ok (.iload_n 1, 1) := by decide +kernel
theorem dX10_advance_26 : decode cX10_advance 26 = .ok (.iadd, 1) := by decide +kernel
theorem dX10_advance_27 : decode cX10_advance 27 = .ok (.sipush 5000, 3) := by decide +kernel
theorem dX10_advance_30 : decode cX10_advance 30 = .ok (.if_icmp .le 14, 3) := by decide +kernel
theorem dX10_advance_44 : decode cX10_advance 44 = .ok (.iconst 0, 1) := by decide +kernel
theorem dX10_advance_45 : decode cX10_advance 45 = .ok (.istore_n 2, 1) := by decide +kernel
theorem dX10_advance_46 : decode cX10_advance 46 = .ok (.iload_n 2, 1) := by decide +kernel
theorem dX10_advance_47 : decode cX10_advance 47 = .ok (.iload_n 1, 1) := by decide +kernel
theorem dX10_advance_48 : decode cX10_advance 48 = .ok (.if_icmp .ge 13, 3) := by decide +kernel
theorem dX10_advance_51 : decode cX10_advance 51 = .ok (.aload_n 0, 1) := by decide +kernel
theorem dX10_advance_52 : decode cX10_advance 52 = .ok (.invokevirtual 299, 3) := by decide +kernel
theorem dX10_advance_55 : decode cX10_advance 55 = .ok (.iinc 2 1, 3) := by decide +kernel
theorem dX10_advance_58 : decode cX10_advance 58 = .ok (.goto (-12), 3) := by decide +kernel
theorem dX10_advance_61 : decode cX10_advance 61 = .ok (.aload_n 0, 1) := by decide +kernel
theorem dX10_advance_62 : decode cX10_advance 62 = .ok (.getfield 294, 3) := by decide +kernel
theorem dX10_advance_65 : decode cX10_advance 65 = .ok (.ireturn, 1) := by decide +kernel
theorem dX10_areCostsSound_0 : decode cX10_areCostsSound 0 = .ok (.aload_n 0, 1) := by decide +kernel
theorem dX10_areCostsSound_1 : decode cX10_areCostsSound 1 = .ok (.getfield 495, 3) := by decide +kernel
theorem dX10_areCostsSound_4 : decode cX10_areCostsSound 4 = .ok (.lstore_n 1, 1) := by decide +kernel
theorem dX10_areCostsSound_5 : decode cX10_areCostsSound 5 = .ok (.aload_n 0, 1) := by decide +kernel
theorem dX10_areCostsSound_6 : decode cX10_areCostsSound 6 = .ok (.getfield 29, 3) := by decide +kernel
theorem dX10_areCostsSound_9 : decode cX10_areCostsSound 9 = .ok (.astore_n 3, 1) := by decide +kernel
theorem dX10_areCostsSound_10 : decode cX10_areCostsSound 10 = .ok (.aload_n 3, 1) := by decide +kernel
theorem dX10_areCostsSound_11 : decode cX10_areCostsSound 11 = .ok (.arraylength, 1) := by decide +kernel
theorem dX10_areCostsSound_12 : decode cX10_areCostsSound 12 = .ok (.istore 4, 2) := by decide +kernel
theorem dX10_areCostsSound_14 : decode cX10_areCostsSound 14 = .ok (.iconst 0, 1) := by decide +kernel
theorem dX10_areCostsSound_15 : decode cX10_areCostsSound 15 = .ok (.istore 5, 2) := by decide +kernel
theorem dX10_areCostsSound_17 : decode cX10_areCostsSound 17 = .ok (.iload 5, 2) := by decide +kernel
theorem dX10_areCostsSound_19 : decode cX10_areCostsSound 19 = .ok (.iload 4, 2) := by decide +kernel
theorem dX10_areCostsSound_21 : decode cX10_areCostsSound 21 = .ok (.if_icmp .ge 32, 3) := by decide +kernel
theorem dX10_areCostsSound_24 : decode cX10_areCostsSound 24 = .ok (.aload_n 3, 1) := by decide +kernel
theorem dX10_areCostsSound_25 : decode cX10_areCostsSound 25 = .ok (.iload 5, 2) := by decide +kernel
theorem dX10_areCostsSound_27 : decode cX10_areCostsSound 27 = .ok (.aaload, 1) := by decide +kernel
theorem dX10_areCostsSound_28 : decode cX10_areCostsSound 28 = .ok (.astore 6, 2) := by decide +kernel
theorem dX10_areCostsSound_30 : decode cX10_areCostsSound 30 = .ok (.lload_n 1, 1) := by decide +kernel
theorem dX10_areCostsSound_31 : decode cX10_areCostsSound 31 = .ok (.aload 6, 2) := by decide +kernel
theorem dX10_areCostsSound_33 : decode cX10_areCostsSound 33 = .ok (.ifnull 11, 3) := by decide +kernel
theorem dX10_areCostsSound_44 : decode cX10_areCostsSound 44 = .ok (.lconst 0, 1) := by decide +kernel
theorem dX10_areCostsSound_45 : decode cX10_areCostsSound 45 = .ok (.ladd, 1) := by decide +kernel
theorem dX10_areCostsSound_46 : decode cX10_areCostsSound 46 = .ok (.lstore_n 1, 1) := by decide +kernel
theorem dX10_areCostsSound_47 : decode cX10_areCostsSound 47 = .ok (.iinc 5 1, 3) := by decide +kernel
theorem dX10_areCostsSound_50 : decode cX10_areCostsSound 50 = .ok (.goto (-33), 3) := by decide +kernel
theorem dX10_areCostsSound_53 : decode cX10_areCostsSound 53 = .ok (.aload_n 0, 1) := by decide +kernel
theorem dX10_areCostsSound_54 : decode cX10_areCostsSound 54 = .ok (.getfield 35, 3) := by decide +kernel
theorem dX10_areCostsSound_57 : decode cX10_areCostsSound 57 = .ok (.astore_n 3, 1) := by decide +kernel
theorem dX10_areCostsSound_58 : decode cX10_areCostsSound 58 = .ok (.aload_n 3, 1) := by decide +kernel
theorem dX10_areCostsSound_59 : decode cX10_areCostsSound 59 = .ok (.arraylength, 1) := by decide +kernel
theorem dX10_areCostsSound_60 : decode cX10_areCostsSound 60 = .ok (.istore 4, 2) := by decide +kernel
theorem dX10_areCostsSound_62 : decode cX10_areCostsSound 62 = .ok (.iconst 0, 1) := by decide +kernel
theorem dX10_areCostsSound_63 : decode cX10_areCostsSound 63 = .ok (.istore 5, 2) := by decide +kernel
theorem dX10_areCostsSound_65 : decode cX10_areCostsSound 65 = .ok (.iload 5, 2) := by decide +kernel
theorem dX10_areCostsSound_67 : decode cX10_areCostsSound 67 = .ok (.iload 4, 2) := by decide +kernel
theorem dX10_areCostsSound_69 : decode cX10_areCostsSound 69 = .ok (.if_icmp .ge 41, 3) := by decide +kernel
theorem dX10_areCostsSound_72 : decode cX10_areCostsSound 72 = .ok (.aload_n 3, 1) := by decide +kernel
theorem dX10_areCostsSound_73 : decode cX10_areCostsSound 73 = .ok (.iload 5, 2) := by decide +kernel
theorem dX10_areCostsSound_75 : decode cX10_areCostsSound 75 = .ok (.aaload, 1) := by decide +kernel
theorem dX10_areCostsSound_76 : decode cX10_areCostsSound 76 = .ok (.astore 6, 2) := by decide +kernel
theorem dX10_areCostsSound_78 : decode cX10_areCostsSound 78 = .ok (.lload_n 1, 1) := by decide +kernel
theorem dX10_areCostsSound_79 : decode cX10_areCostsSound 79 = .ok (.aload 6, 2) := by decide +kernel
theorem dX10_areCostsSound_81 : decode cX10_areCostsSound 81 = .ok (.ifnull 20, 3) := by decide +kernel
theorem dX10_areCostsSound_101 : decode cX10_areCostsSound 101 = .ok (.lconst 0, 1) := by decide +kernel
theorem dX10_areCostsSound_102 : decode cX10_areCostsSound 102 = .ok (.ladd, 1) := by decide +kernel
theorem dX10_areCostsSound_103 : decode cX10_areCostsSound 103 = .ok (.lstore_n 1, 1) := by decide +kernel
theorem dX10_areCostsSound_104 : decode cX10_areCostsSound 104 = .ok (.iinc 5 1, 3) := by decide +kernel
theorem dX10_areCostsSound_107 : decode cX10_areCostsSound 107 = .ok (.goto (-42), 3) := by decide +kernel
theorem dX10_areCostsSound_110 : decode cX10_areCostsSound 110 = .ok (.lload_n 1, 1) := by decide +kernel
theorem dX10_areCostsSound_111 : decode cX10_areCostsSound 111 = .ok (.aload_n 0, 1) := by decide +kernel
theorem dX10_areCostsSound_112 : decode cX10_areCostsSound 112 = .ok (.getfield 145, 3) := by decide +kernel
theorem dX10_areCostsSound_115 : decode cX10_areCostsSound 115 = .ok (.lcmp, 1) := by decide +kernel
theorem dX10_areCostsSound_116 : decode cX10_areCostsSound 116 = .ok (.ifCond .ne 7, 3) := by decide +kernel
theorem dX10_areCostsSound_119 : decode cX10_areCostsSound 119 = .ok (.iconst 1, 1) := by decide +kernel
theorem dX10_areCostsSound_120 : decode cX10_areCostsSound 120 = .ok (.goto 4, 3) := by decide +kernel
theorem dX10_areCostsSound_124 : decode cX10_areCostsSound 124 = .ok (.ireturn, 1) := by decide +kernel
theorem dX10_areJobsSound_0 : decode cX10_areJobsSound 0 = .ok (.iconst 0, 1) := by decide +kernel
theorem dX10_areJobsSound_1 : decode cX10_areJobsSound 1 = .ok (.istore_n 1, 1) := by decide +kernel
theorem dX10_areJobsSound_2 : decode cX10_areJobsSound 2 = .ok (.aload_n 0, 1) := by decide +kernel
theorem dX10_areJobsSound_3 : decode cX10_areJobsSound 3 = .ok (.getfield 35, 3) := by decide +kernel
theorem dX10_areJobsSound_6 : decode cX10_areJobsSound 6 = .ok (.astore_n 2, 1) := by decide +kernel
theorem dX10_areJobsSound_7 : decode cX10_areJobsSound 7 = .ok (.aload_n 2, 1) := by decide +kernel
theorem dX10_areJobsSound_8 : decode cX10_areJobsSound 8 = .ok (.arraylength, 1) := by decide +kernel
theorem dX10_areJobsSound_9 : decode cX10_areJobsSound 9 = .ok (.istore_n 3, 1) := by decide +kernel
theorem dX10_areJobsSound_10 : decode cX10_areJobsSound 10 = .ok (.iconst 0, 1) := by decide +kernel
theorem dX10_areJobsSound_11 : decode cX10_areJobsSound 11 = .ok (.istore 4, 2) := by decide +kernel
theorem dX10_areJobsSound_13 : decode cX10_areJobsSound 13 = .ok (.iload 4, 2) := by decide +kernel
theorem dX10_areJobsSound_15 : decode cX10_areJobsSound 15 = .ok (.iload_n 3, 1) := by decide +kernel
theorem dX10_areJobsSound_16 : decode cX10_areJobsSound 16 = .ok (.if_icmp .ge 38, 3) := by decide +kernel
theorem dX10_areJobsSound_19 : decode cX10_areJobsSound 19 = .ok (.aload_n 2, 1) := by decide +kernel
theorem dX10_areJobsSound_20 : decode cX10_areJobsSound 20 = .ok (.iload 4, 2) := by decide +kernel
theorem dX10_areJobsSound_22 : decode cX10_areJobsSound 22 = .ok (.aaload, 1) := by decide +kernel
theorem dX10_areJobsSound_23 : decode cX10_areJobsSound 23 = .ok (.astore 5, 2) := by decide +kernel
theorem dX10_areJobsSound_25 : decode cX10_areJobsSound 25 = .ok (.aload 5, 2) := by decide +kernel
theorem dX10_areJobsSound_27 : decode cX10_areJobsSound 27 = .ok (.ifnull 21, 3) := by decide +kernel
theorem dX10_areJobsSound_48 : decode cX10_areJobsSound 48 = .ok (.iinc 4 1, 3) := by decide +kernel
theorem dX10_areJobsSound_51 : decode cX10_areJobsSound 51 = .ok (.goto (-38), 3) := by decide +kernel
theorem dX10_areJobsSound_54 : decode cX10_areJobsSound 54 = .ok (.aload_n 0, 1) := by decide +kernel
theorem dX10_areJobsSound_55 : decode cX10_areJobsSound 55 = .ok (.getfield 29, 3) := by decide +kernel
theorem dX10_areJobsSound_58 : decode cX10_areJobsSound 58 = .ok (.astore_n 2, 1) := by decide +kernel
theorem dX10_areJobsSound_59 : decode cX10_areJobsSound 59 = .ok (.aload_n 2, 1) := by decide +kernel
theorem dX10_areJobsSound_60 : decode cX10_areJobsSound 60 = .ok (.arraylength, 1) := by decide +kernel
theorem dX10_areJobsSound_61 : decode cX10_areJobsSound 61 = .ok (.istore_n 3, 1) := by decide +kernel
theorem dX10_areJobsSound_62 : decode cX10_areJobsSound 62 = .ok (.iconst 0, 1) := by decide +kernel
theorem dX10_areJobsSound_63 : decode cX10_areJobsSound 63 = .ok (.istore 4, 2) := by decide +kernel
theorem dX10_areJobsSound_65 : decode cX10_areJobsSound 65 = .ok (.iload 4, 2) := by decide +kernel
theorem dX10_areJobsSound_67 : decode cX10_areJobsSound 67 = .ok (.iload_n 3, 1) := by decide +kernel
theorem dX10_areJobsSound_68 : decode cX10_areJobsSound 68 = .ok (.if_icmp .ge 32, 3) := by decide +kernel
theorem dX10_areJobsSound_71 : decode cX10_areJobsSound 71 = .ok (.aload_n 2, 1) := by decide +kernel
theorem dX10_areJobsSound_72 : decode cX10_areJobsSound 72 = .ok (.iload 4, 2) := by decide +kernel
theorem dX10_areJobsSound_74 : decode cX10_areJobsSound 74 = .ok (.aaload, 1) := by decide +kernel
theorem dX10_areJobsSound_75 : decode cX10_areJobsSound 75 = .ok (.astore 5, 2) := by decide +kernel
theorem dX10_areJobsSound_77 : decode cX10_areJobsSound 77 = .ok (.iload_n 1, 1) := by decide +kernel
theorem dX10_areJobsSound_78 : decode cX10_areJobsSound 78 = .ok (.aload 5, 2) := by decide +kernel
theorem dX10_areJobsSound_80 : decode cX10_areJobsSound 80 = .ok (.ifnull 11, 3) := by decide +kernel
theorem dX10_areJobsSound_91 : decode cX10_areJobsSound 91 = .ok (.iconst 0, 1) := by decide +kernel
theorem dX10_areJobsSound_92 : decode cX10_areJobsSound 92 = .ok (.isub, 1) := by decide +kernel
theorem dX10_areJobsSound_93 : decode cX10_areJobsSound 93 = .ok (.istore_n 1, 1) := by decide +kernel
theorem dX10_areJobsSound_94 : decode cX10_areJobsSound 94 = .ok (.iinc 4 1, 3) := by decide +kernel
theorem dX10_areJobsSound_97 : decode cX10_areJobsSound 97 = .ok (.goto (-32), 3) := by decide +kernel
theorem dX10_areJobsSound_100 : decode cX10_areJobsSound 100 = .ok (.iload_n 1, 1) := by decide +kernel
theorem dX10_areJobsSound_101 : decode cX10_areJobsSound 101 = .ok (.ifCond .ne 7, 3) := by decide +kernel
theorem dX10_areJobsSound_104 : decode cX10_areJobsSound 104 = .ok (.iconst 1, 1) := by decide +kernel
theorem dX10_areJobsSound_105 : decode cX10_areJobsSound 105 = .ok (.goto 4, 3) := by decide +kernel
theorem dX10_areJobsSound_109 : decode cX10_areJobsSound 109 = .ok (.ireturn, 1) := by decide +kernel
theorem dX10_areLotsSound_0 : decode cX10_areLotsSound 0 = .ok (.aload_n 0, 1) := by decide +kernel
theorem dX10_areLotsSound_1 : decode cX10_areLotsSound 1 = .ok (.getfield 29, 3) := by decide +kernel
theorem dX10_areLotsSound_4 : decode cX10_areLotsSound 4 = .ok (.astore_n 1, 1) := by decide +kernel
theorem dX10_areLotsSound_5 : decode cX10_areLotsSound 5 = .ok (.aload_n 1, 1) := by decide +kernel
theorem dX10_areLotsSound_6 : decode cX10_areLotsSound 6 = .ok (.arraylength, 1) := by decide +kernel
theorem dX10_areLotsSound_7 : decode cX10_areLotsSound 7 = .ok (.istore_n 2, 1) := by decide +kernel
theorem dX10_areLotsSound_8 : decode cX10_areLotsSound 8 = .ok (.iconst 0, 1) := by decide +kernel
theorem dX10_areLotsSound_9 : decode cX10_areLotsSound 9 = .ok (.istore_n 3, 1) := by decide +kernel
theorem dX10_areLotsSound_10 : decode cX10_areLotsSound 10 = .ok (.iload_n 3, 1) := by decide +kernel
theorem dX10_areLotsSound_11 : decode cX10_areLotsSound 11 = .ok (.iload_n 2, 1) := by decide +kernel
theorem dX10_areLotsSound_12 : decode cX10_areLotsSound 12 = .ok (.if_icmp .ge 48, 3) := by decide +kernel
theorem dX10_areLotsSound_15 : decode cX10_areLotsSound 15 = .ok (.aload_n 1, 1) := by decide +kernel
theorem dX10_areLotsSound_16 : decode cX10_areLotsSound 16 = .ok (.iload_n 3, 1) := by decide +kernel
theorem dX10_areLotsSound_17 : decode cX10_areLotsSound 17 = .ok (.aaload, 1) := by decide +kernel
theorem dX10_areLotsSound_18 : decode cX10_areLotsSound 18 = .ok (.astore 4, 2) := by decide +kernel
theorem dX10_areLotsSound_20 : decode cX10_areLotsSound 20 = .ok (.aload 4, 2) := by decide +kernel
theorem dX10_areLotsSound_22 : decode cX10_areLotsSound 22 = .ok (.ifnull 32, 3) := by decide +kernel
theorem dX10_areLotsSound_54 : decode cX10_areLotsSound 54 = .ok (.iinc 3 1, 3) := by decide +kernel
theorem dX10_areLotsSound_57 : decode cX10_areLotsSound 57 = .ok (.goto (-47), 3) := by decide +kernel
theorem dX10_areLotsSound_60 : decode cX10_areLotsSound 60 = .ok (.iconst 1, 1) := by decide +kernel
theorem dX10_areLotsSound_61 : decode cX10_areLotsSound 61 = .ok (.ireturn, 1) := by decide +kernel
theorem dX10_arePromisesSound_0 : decode cX10_arePromisesSound 0 = .ok (.aload_n 0, 1) := by decide +kernel
theorem dX10_arePromisesSound_1 : decode cX10_arePromisesSound 1 = .ok (.getfield 29, 3) := by decide +kernel
theorem dX10_arePromisesSound_4 : decode cX10_arePromisesSound 4 = .ok (.astore_n 1, 1) := by decide +kernel
theorem dX10_arePromisesSound_5 : decode cX10_arePromisesSound 5 = .ok (.aload_n 1, 1) := by decide +kernel
theorem dX10_arePromisesSound_6 : decode cX10_arePromisesSound 6 = .ok (.arraylength, 1) := by decide +kernel
theorem dX10_arePromisesSound_7 : decode cX10_arePromisesSound 7 = .ok (.istore_n 2, 1) := by decide +kernel
theorem dX10_arePromisesSound_8 : decode cX10_arePromisesSound 8 = .ok (.iconst 0, 1) := by decide +kernel
theorem dX10_arePromisesSound_9 : decode cX10_arePromisesSound 9 = .ok (.istore_n 3, 1) := by decide +kernel
theorem dX10_arePromisesSound_10 : decode cX10_arePromisesSound 10 = .ok (.iload_n 3, 1) := by decide +kernel
theorem dX10_arePromisesSound_11 : decode cX10_arePromisesSound 11 = .ok (.iload_n 2, 1) := by decide +kernel
theorem dX10_arePromisesSound_12 : decode cX10_arePromisesSound 12 = .ok (.if_icmp .ge 66, 3) := by decide +kernel
theorem dX10_arePromisesSound_15 : decode cX10_arePromisesSound 15 = .ok (.aload_n 1, 1) := by decide +kernel
theorem dX10_arePromisesSound_16 : decode cX10_arePromisesSound 16 = .ok (.iload_n 3, 1) := by decide +kernel
theorem dX10_arePromisesSound_17 : decode cX10_arePromisesSound 17 = .ok (.aaload, 1) := by decide +kernel
theorem dX10_arePromisesSound_18 : decode cX10_arePromisesSound 18 = .ok (.astore 4, 2) := by decide +kernel
theorem dX10_arePromisesSound_20 : decode cX10_arePromisesSound 20 = .ok (.aload 4, 2) := by decide +kernel
theorem dX10_arePromisesSound_22 : decode cX10_arePromisesSound 22 = .ok (.ifnull 50, 3) := by decide +kernel
theorem dX10_arePromisesSound_72 : decode cX10_arePromisesSound 72 = .ok (.iinc 3 1, 3) := by decide +kernel
theorem dX10_arePromisesSound_75 : decode cX10_arePromisesSound 75 = .ok (.goto (-65), 3) := by decide +kernel
theorem dX10_arePromisesSound_78 : decode cX10_arePromisesSound 78 = .ok (.iconst 1, 1) := by decide +kernel
theorem dX10_arePromisesSound_79 : decode cX10_arePromisesSound 79 = .ok (.ireturn, 1) := by decide +kernel
theorem dX10_areTracesSound_0 : decode cX10_areTracesSound 0 = .ok (.aload_n 0, 1) := by decide +kernel
theorem dX10_areTracesSound_1 : decode cX10_areTracesSound 1 = .ok (.getfield 29, 3) := by decide +kernel
theorem dX10_areTracesSound_4 : decode cX10_areTracesSound 4 = .ok (.astore_n 1, 1) := by decide +kernel
theorem dX10_areTracesSound_5 : decode cX10_areTracesSound 5 = .ok (.aload_n 1, 1) := by decide +kernel
theorem dX10_areTracesSound_6 : decode cX10_areTracesSound 6 = .ok (.arraylength, 1) := by decide +kernel
theorem dX10_areTracesSound_7 : decode cX10_areTracesSound 7 = .ok (.istore_n 2, 1) := by decide +kernel
theorem dX10_areTracesSound_8 : decode cX10_areTracesSound 8 = .ok (.iconst 0, 1) := by decide +kernel
theorem dX10_areTracesSound_9 : decode cX10_areTracesSound 9 = .ok (.istore_n 3, 1) := by decide +kernel
theorem dX10_areTracesSound_10 : decode cX10_areTracesSound 10 = .ok (.iload_n 3, 1) := by decide +kernel
theorem dX10_areTracesSound_11 : decode cX10_areTracesSound 11 = .ok (.iload_n 2, 1) := by decide +kernel
theorem dX10_areTracesSound_12 : decode cX10_areTracesSound 12 = .ok (.if_icmp .ge 30, 3) := by decide +kernel
theorem dX10_areTracesSound_15 : decode cX10_areTracesSound 15 = .ok (.aload_n 1, 1) := by decide +kernel
theorem dX10_areTracesSound_16 : decode cX10_areTracesSound 16 = .ok (.iload_n 3, 1) := by decide +kernel
theorem dX10_areTracesSound_17 : decode cX10_areTracesSound 17 = .ok (.aaload, 1) := by decide +kernel
theorem dX10_areTracesSound_18 : decode cX10_areTracesSound 18 = .ok (.astore 4, 2) := by decide +kernel
theorem dX10_areTracesSound_20 : decode cX10_areTracesSound 20 = .ok (.aload 4, 2) := by decide +kernel
theorem dX10_areTracesSound_22 : decode cX10_areTracesSound 22 = .ok (.ifnull 14, 3) := by decide +kernel
theorem dX10_areTracesSound_36 : decode cX10_areTracesSound 36 = .ok (.iinc 3 1, 3) := by decide +kernel
theorem dX10_areTracesSound_39 : decode cX10_areTracesSound 39 = .ok (.goto (-29), 3) := by decide +kernel
theorem dX10_areTracesSound_42 : decode cX10_areTracesSound 42 = .ok (.iconst 1, 1) := by decide +kernel
theorem dX10_areTracesSound_43 : decode cX10_areTracesSound 43 = .ok (.ireturn, 1) := by decide +kernel
theorem dX10_costOf_0 : decode cX10_costOf 0 = .ok (.aload_n 0, 1) := by decide +kernel
theorem dX10_costOf_1 : decode cX10_costOf 1 = .ok (.iload_n 1, 1) := by decide +kernel
theorem dX10_costOf_2 : decode cX10_costOf 2 = .ok (.invokevirtual 173, 3) := by decide +kernel
theorem dX10_deliver_0 : decode cX10_deliver 0 = .ok (.aload_n 0, 1) := by decide +kernel
theorem dX10_deliver_1 : decode cX10_deliver 1 = .ok (.iload_n 1, 1) := by decide +kernel
theorem dX10_deliver_2 : decode cX10_deliver 2 = .ok (.invokevirtual 238, 3) := by decide +kernel
theorem dX10_deliveredCost_0 : decode cX10_deliveredCost 0 = .ok (.aload_n 0, 1) := by decide +kernel
theorem dX10_deliveredCost_1 : decode cX10_deliveredCost 1 = .ok (.iload_n 1, 1) := by decide +kernel
theorem dX10_deliveredCost_2 : decode cX10_deliveredCost 2 = .ok (.invokevirtual 238, 3) := by decide +kernel
theorem dX10_findSupplier_0 : decode cX10_findSupplier 0 = .ok (.iload_n 1, 1) := by decide +kernel
theorem dX10_findSupplier_1 : decode cX10_findSupplier 1 = .ok (.ifCond .lt 21, 3) := by decide +kernel
theorem dX10_findSupplier_4 : decode cX10_findSupplier 4 = .ok (.iload_n 1, 1) := by decide +kernel
theorem dX10_findSupplier_5 : decode cX10_findSupplier 5 = .ok (.aload_n 0, 1) := by decide +kernel
theorem dX10_findSupplier_6 : decode cX10_findSupplier 6 = .ok (.getfield 23, 3) := by decide +kernel
theorem dX10_findSupplier_9 : decode cX10_findSupplier 9 = .ok (.arraylength, 1) := by decide +kernel
theorem dX10_findSupplier_10 : decode cX10_findSupplier 10 = .ok (.if_icmp .ge 12, 3) := by decide +kernel
theorem dX10_findSupplier_13 : decode cX10_findSupplier 13 = .ok (.aload_n 0, 1) := by decide +kernel
theorem dX10_findSupplier_14 : decode cX10_findSupplier 14 = .ok (.getfield 23, 3) := by decide +kernel
theorem dX10_findSupplier_17 : decode cX10_findSupplier 17 = .ok (.iload_n 1, 1) := by decide +kernel
theorem dX10_findSupplier_18 : decode cX10_findSupplier 18 = .ok (.aaload, 1) := by decide +kernel
theorem dX10_findSupplier_19 : decode cX10_findSupplier 19 = .ok (.goto 4, 3) := by decide +kernel
theorem dX10_findSupplier_22 : decode cX10_findSupplier 22 = .ok (.aconst_null, 1) := by decide +kernel
theorem dX10_findSupplier_23 : decode cX10_findSupplier 23 = .ok (.areturn, 1) := by decide +kernel
theorem dX10_finishedAt_0 : decode cX10_finishedAt 0 = .ok (.aload_n 0, 1) := by decide +kernel
theorem dX10_finishedAt_1 : decode cX10_finishedAt 1 = .ok (.iload_n 1, 1) := by decide +kernel
theorem dX10_finishedAt_2 : decode cX10_finishedAt 2 = .ok (.invokevirtual 238, 3) := by decide +kernel
theorem dX10_hold_0 : decode cX10_hold 0 = .ok (.aload_n 0, 1) := by decide +kernel
theorem dX10_hold_1 : decode cX10_hold 1 = .ok (.iload_n 1, 1) := by decide +kernel
theorem dX10_hold_2 : decode cX10_hold 2 = .ok (.invokevirtual 173, 3) := by decide +kernel
theorem dX10_inTimeShare_0 : decode cX10_inTimeShare 0 = .ok (.iconst 0, 1) := by decide +kernel
theorem dX10_inTimeShare_1 : decode cX10_inTimeShare 1 = .ok (.istore_n 1, 1) := by decide +kernel
theorem dX10_inTimeShare_2 : decode cX10_inTimeShare 2 = .ok (.iconst 0, 1) := by decide +kernel
theorem dX10_inTimeShare_3 : decode cX10_inTimeShare 3 = .ok (.istore_n 2, 1) := by decide +kernel
theorem dX10_inTimeShare_4 : decode cX10_inTimeShare 4 = .ok (.aload_n 0, 1) := by decide +kernel
theorem dX10_inTimeShare_5 : decode cX10_inTimeShare 5 = .ok (.getfield 35, 3) := by decide +kernel
theorem dX10_inTimeShare_8 : decode cX10_inTimeShare 8 = .ok (.astore_n 3, 1) := by decide +kernel
theorem dX10_inTimeShare_9 : decode cX10_inTimeShare 9 = .ok (.aload_n 3, 1) := by decide +kernel
theorem dX10_inTimeShare_10 : decode cX10_inTimeShare 10 = .ok (.arraylength, 1) := by decide +kernel
theorem dX10_inTimeShare_11 : decode cX10_inTimeShare 11 = .ok (.istore 4, 2) := by decide +kernel
theorem dX10_inTimeShare_13 : decode cX10_inTimeShare 13 = .ok (.iconst 0, 1) := by decide +kernel
theorem dX10_inTimeShare_14 : decode cX10_inTimeShare 14 = .ok (.istore 5, 2) := by decide +kernel
theorem dX10_inTimeShare_16 : decode cX10_inTimeShare 16 = .ok (.iload 5, 2) := by decide +kernel
theorem dX10_inTimeShare_18 : decode cX10_inTimeShare 18 = .ok (.iload 4, 2) := by decide +kernel
theorem dX10_inTimeShare_20 : decode cX10_inTimeShare 20 = .ok (.if_icmp .ge 54, 3) := by decide +kernel
theorem dX10_inTimeShare_23 : decode cX10_inTimeShare 23 = .ok (.aload_n 3, 1) := by decide +kernel
theorem dX10_inTimeShare_24 : decode cX10_inTimeShare 24 = .ok (.iload 5, 2) := by decide +kernel
theorem dX10_inTimeShare_26 : decode cX10_inTimeShare 26 = .ok (.aaload, 1) := by decide +kernel
theorem dX10_inTimeShare_27 : decode cX10_inTimeShare 27 = .ok (.astore 6, 2) := by decide +kernel
theorem dX10_inTimeShare_29 : decode cX10_inTimeShare 29 = .ok (.aload 6, 2) := by decide +kernel
theorem dX10_inTimeShare_31 : decode cX10_inTimeShare 31 = .ok (.ifnull 37, 3) := by decide +kernel
theorem dX10_inTimeShare_68 : decode cX10_inTimeShare 68 = .ok (.iinc 5 1, 3) := by decide +kernel
theorem dX10_inTimeShare_71 : decode cX10_inTimeShare 71 = .ok (.goto (-55), 3) := by decide +kernel
theorem dX10_inTimeShare_74 : decode cX10_inTimeShare 74 = .ok (.iload_n 1, 1) := by decide +kernel
theorem dX10_inTimeShare_75 : decode cX10_inTimeShare 75 = .ok (.ifCond .ne 14, 3) := by decide +kernel
theorem dX10_inTimeShare_78 : decode cX10_inTimeShare 78 = .ok (.new 361, 3) := by decide +kernel
theorem dX10_inTimeShare_81 : decode cX10_inTimeShare 81 = .ok (.dup, 1) := by decide +kernel
theorem dX10_inTimeShare_82 : decode cX10_inTimeShare 82 = .ok (.ldc_w 363, 3) := by decide +kernel
theorem dX10_inTimeShare_85 : decode cX10_inTimeShare 85 = .ok (.invokespecial 365, 3) := by decide +kernel
theorem dX10_inTimeShare_88 : decode cX10_inTimeShare 88 = .ok (.athrow, 1) := by decide +kernel
theorem dX10_init_0 : decode cX10_init 0 = .ok (.aload_n 0, 1) := by decide +kernel
theorem dX10_init_1 : decode cX10_init 1 = .ok (.invokespecial 1, 3) := by decide +kernel
theorem dX10_init_4 : decode cX10_init 4 = .ok (.aload_n 0, 1) := by decide +kernel
theorem dX10_init_5 : decode cX10_init 5 = .ok (.iconst 5, 1) := by decide +kernel
theorem dX10_init_6 : decode cX10_init 6 = .ok (.anewarray 9, 3) := by decide +kernel
theorem dX10_init_9 : decode cX10_init 9 = .ok (.putfield 11, 3) := by decide +kernel
theorem dX10_init_12 : decode cX10_init 12 = .ok (.aload_n 0, 1) := by decide +kernel
theorem dX10_init_13 : decode cX10_init 13 = .ok (.bipush 12, 2) := by decide +kernel
theorem dX10_init_15 : decode cX10_init 15 = .ok (.anewarray 15, 3) := by decide +kernel
theorem dX10_init_18 : decode cX10_init 18 = .ok (.putfield 17, 3) := by decide +kernel
theorem dX10_init_21 : decode cX10_init 21 = .ok (.aload_n 0, 1) := by decide +kernel
theorem dX10_init_22 : decode cX10_init 22 = .ok (.iconst 4, 1) := by decide +kernel
theorem dX10_init_23 : decode cX10_init 23 = .ok (.anewarray 21, 3) := by decide +kernel
theorem dX10_init_26 : decode cX10_init 26 = .ok (.putfield 23, 3) := by decide +kernel
theorem dX10_init_29 : decode cX10_init 29 = .ok (.aload_n 0, 1) := by decide +kernel
theorem dX10_init_30 : decode cX10_init 30 = .ok (.bipush 90, 2) := by decide +kernel
theorem dX10_init_32 : decode cX10_init 32 = .ok (.anewarray 27, 3) := by decide +kernel
theorem dX10_init_35 : decode cX10_init 35 = .ok (.putfield 29, 3) := by decide +kernel
theorem dX10_init_38 : decode cX10_init 38 = .ok (.aload_n 0, 1) := by decide +kernel
theorem dX10_init_39 : decode cX10_init 39 = .ok (.bipush 30, 2) := by decide +kernel
theorem dX10_init_41 : decode cX10_init 41 = .ok (.anewarray 33, 3) := by decide +kernel
theorem dX10_init_44 : decode cX10_init 44 = .ok (.putfield 35, 3) := by decide +kernel
theorem dX10_init_47 : decode cX10_init 47 = .ok (.aload_n 0, 1) := by decide +kernel
theorem dX10_init_48 : decode cX10_init 48 = .ok (.new 39, 3) := by decide +kernel
theorem dX10_init_51 : decode cX10_init 51 = .ok (.dup, 1) := by decide +kernel
theorem dX10_init_52 : decode cX10_init 52 = .ok (.invokespecial 41, 3) := by decide +kernel
theorem dX10_init_55 : decode cX10_init 55 = .ok (.putfield 42, 3) := by decide +kernel
theorem dX10_init_58 : decode cX10_init 58 = .ok (.iconst 0, 1) := by decide +kernel
theorem dX10_init_59 : decode cX10_init 59 = .ok (.istore_n 1, 1) := by decide +kernel
theorem dX10_init_60 : decode cX10_init 60 = .ok (.iload_n 1, 1) := by decide +kernel
theorem dX10_init_61 : decode cX10_init 61 = .ok (.aload_n 0, 1) := by decide +kernel
theorem dX10_init_62 : decode cX10_init 62 = .ok (.getfield 23, 3) := by decide +kernel
theorem dX10_init_65 : decode cX10_init 65 = .ok (.arraylength, 1) := by decide +kernel
theorem dX10_init_66 : decode cX10_init 66 = .ok (.if_icmp .ge 22, 3) := by decide +kernel
theorem dX10_init_69 : decode cX10_init 69 = .ok (.aload_n 0, 1) := by decide +kernel
theorem dX10_init_70 : decode cX10_init 70 = .ok (.getfield 23, 3) := by decide +kernel
theorem dX10_init_73 : decode cX10_init 73 = .ok (.iload_n 1, 1) := by decide +kernel
theorem dX10_init_74 : decode cX10_init 74 = .ok (.new 21, 3) := by decide +kernel
theorem dX10_init_77 : decode cX10_init 77 = .ok (.dup, 1) := by decide +kernel
theorem dX10_init_78 : decode cX10_init 78 = .ok (.invokespecial 46, 3) := by decide +kernel
theorem dX10_init_81 : decode cX10_init 81 = .ok (.aastore, 1) := by decide +kernel
theorem dX10_init_82 : decode cX10_init 82 = .ok (.iinc 1 1, 3) := by decide +kernel
theorem dX10_init_85 : decode cX10_init 85 = .ok (.goto (-25), 3) := by decide +kernel
theorem dX10_init_88 : decode cX10_init 88 = .ok (.return_, 1) := by decide +kernel
theorem dX10_isFrom_0 : decode cX10_isFrom 0 = .ok (.iload_n 0, 1) := by decide +kernel
theorem dX10_isFrom_1 : decode cX10_isFrom 1 = .ok (.iload_n 1, 1) := by decide +kernel
theorem dX10_isFrom_2 : decode cX10_isFrom 2 = .ok (.if_icmp .lt 12, 3) := by decide +kernel
theorem dX10_isFrom_5 : decode cX10_isFrom 5 = .ok (.iload_n 0, 1) := by decide +kernel
theorem dX10_isFrom_6 : decode cX10_isFrom 6 = .ok (.iload_n 2, 1) := by decide +kernel
theorem dX10_isFrom_7 : decode cX10_isFrom 7 = .ok (.if_icmp .gt 7, 3) := by decide +kernel
theorem dX10_isFrom_10 : decode cX10_isFrom 10 = .ok (.iconst 1, 1) := by decide +kernel
theorem dX10_isFrom_11 : decode cX10_isFrom 11 = .ok (.goto 4, 3) := by decide +kernel
theorem dX10_isFrom_14 : decode cX10_isFrom 14 = .ok (.iconst 0, 1) := by decide +kernel
theorem dX10_isFrom_15 : decode cX10_isFrom 15 = .ok (.ireturn, 1) := by decide +kernel
theorem dX10_isHeld_0 : decode cX10_isHeld 0 = .ok (.aload_n 0, 1) := by decide +kernel
theorem dX10_isHeld_1 : decode cX10_isHeld 1 = .ok (.aload_n 0, 1) := by decide +kernel
theorem dX10_isHeld_2 : decode cX10_isHeld 2 = .ok (.iload_n 1, 1) := by decide +kernel
theorem dX10_isHeld_3 : decode cX10_isHeld 3 = .ok (.invokevirtual 173, 3) := by decide +kernel
theorem dX10_isIn_0 : decode cX10_isIn 0 = .ok (.aload_n 0, 1) := by decide +kernel
theorem dX10_isIn_1 : decode cX10_isIn 1 = .ok (.iload_n 1, 1) := by decide +kernel
theorem dX10_isIn_2 : decode cX10_isIn 2 = .ok (.invokevirtual 173, 3) := by decide +kernel
theorem dX10_isSound_0 : decode cX10_isSound 0 = .ok (.aload_n 0, 1) := by decide +kernel
theorem dX10_isSound_1 : decode cX10_isSound 1 = .ok (.invokevirtual 372, 3) := by decide +kernel
theorem dX10_isSound_4 : decode cX10_isSound 4 = .ok (.ifCond .eq 35, 3) := by decide +kernel
theorem dX10_isSound_7 : decode cX10_isSound 7 = .ok (.aload_n 0, 1) := by decide +kernel
theorem dX10_isSound_8 : decode cX10_isSound 8 = .ok (.invokevirtual 375, 3) := by decide +kernel
theorem dX10_isSound_11 : decode cX10_isSound 11 = .ok (.ifCond .eq 28, 3) := by decide +kernel
theorem dX10_isSound_14 : decode cX10_isSound 14 = .ok (.aload_n 0, 1) := by decide +kernel
theorem dX10_isSound_15 : decode cX10_isSound 15 = .ok (.invokevirtual 378, 3) := by decide +kernel
theorem dX10_isSound_18 : decode cX10_isSound 18 = .ok (.ifCond .eq 21, 3) := by decide +kernel
theorem dX10_isSound_21 : decode cX10_isSound 21 = .ok (.aload_n 0, 1) := by decide +kernel
theorem dX10_isSound_22 : decode cX10_isSound 22 = .ok (.invokevirtual 381, 3) := by decide +kernel
theorem dX10_isSound_25 : decode cX10_isSound 25 = .ok (.ifCond .eq 14, 3) := by decide +kernel
theorem dX10_isSound_28 : decode cX10_isSound 28 = .ok (.aload_n 0, 1) := by decide +kernel
theorem dX10_isSound_29 : decode cX10_isSound 29 = .ok (.invokevirtual 384, 3) := by decide +kernel
theorem dX10_isSound_32 : decode cX10_isSound 32 = .ok (.ifCond .eq 7, 3) := by decide +kernel
theorem dX10_isSound_35 : decode cX10_isSound 35 = .ok (.iconst 1, 1) := by decide +kernel
theorem dX10_isSound_36 : decode cX10_isSound 36 = .ok (.goto 4, 3) := by decide +kernel
theorem dX10_isSound_40 : decode cX10_isSound 40 = .ok (.ireturn, 1) := by decide +kernel
theorem dX10_knownLot_0 : decode cX10_knownLot 0 = .ok (.iload_n 1, 1) := by decide +kernel
theorem dX10_knownLot_1 : decode cX10_knownLot 1 = .ok (.ifCond .lt 21, 3) := by decide +kernel
theorem dX10_knownLot_4 : decode cX10_knownLot 4 = .ok (.iload_n 1, 1) := by decide +kernel
theorem dX10_knownLot_5 : decode cX10_knownLot 5 = .ok (.aload_n 0, 1) := by decide +kernel
theorem dX10_knownLot_6 : decode cX10_knownLot 6 = .ok (.getfield 29, 3) := by decide +kernel
theorem dX10_knownLot_9 : decode cX10_knownLot 9 = .ok (.arraylength, 1) := by decide +kernel
theorem dX10_knownLot_10 : decode cX10_knownLot 10 = .ok (.if_icmp .ge 12, 3) := by decide +kernel
theorem dX10_knownLot_13 : decode cX10_knownLot 13 = .ok (.aload_n 0, 1) := by decide +kernel
theorem dX10_knownLot_14 : decode cX10_knownLot 14 = .ok (.getfield 29, 3) := by decide +kernel
theorem dX10_knownLot_17 : decode cX10_knownLot 17 = .ok (.iload_n 1, 1) := by decide +kernel
theorem dX10_knownLot_18 : decode cX10_knownLot 18 = .ok (.aaload, 1) := by decide +kernel
theorem dX10_knownLot_19 : decode cX10_knownLot 19 = .ok (.goto 4, 3) := by decide +kernel
theorem dX10_knownLot_22 : decode cX10_knownLot 22 = .ok (.aconst_null, 1) := by decide +kernel
theorem dX10_knownLot_23 : decode cX10_knownLot 23 = .ok (.astore_n 2, 1) := by decide +kernel
theorem dX10_knownLot_24 : decode cX10_knownLot 24 = .ok (.aload_n 2, 1) := by decide +kernel
theorem dX10_knownLot_25 : decode cX10_knownLot 25 = .ok (.ifnonnull 14, 3) := by decide +kernel
theorem dX10_knownLot_28 : decode cX10_knownLot 28 = .ok (.new 164, 3) := by decide +kernel
theorem dX10_knownLot_31 : decode cX10_knownLot 31 = .ok (.dup, 1) := by decide +kernel
theorem dX10_knownLot_32 : decode cX10_knownLot 32 = .ok (.ldc_w 391, 3) := by decide +kernel
theorem dX10_knownLot_35 : decode cX10_knownLot 35 = .ok (.invokespecial 168, 3) := by decide +kernel
theorem dX10_knownLot_38 : decode cX10_knownLot 38 = .ok (.athrow, 1) := by decide +kernel
theorem dX10_knownMachine_0 : decode cX10_knownMachine 0 = .ok (.iload_n 1, 1) := by decide +kernel
theorem dX10_knownMachine_1 : decode cX10_knownMachine 1 = .ok (.ifCond .lt 21, 3) := by decide +kernel
theorem dX10_knownMachine_4 : decode cX10_knownMachine 4 = .ok (.iload_n 1, 1) := by decide +kernel
theorem dX10_knownMachine_5 : decode cX10_knownMachine 5 = .ok (.aload_n 0, 1) := by decide +kernel
theorem dX10_knownMachine_6 : decode cX10_knownMachine 6 = .ok (.getfield 11, 3) := by decide +kernel
theorem dX10_knownMachine_9 : decode cX10_knownMachine 9 = .ok (.arraylength, 1) := by decide +kernel
theorem dX10_knownMachine_10 : decode cX10_knownMachine 10 = .ok (.if_icmp .ge 12, 3) := by decide +kernel
theorem dX10_knownMachine_13 : decode cX10_knownMachine 13 = .ok (.aload_n 0, 1) := by decide +kernel
theorem dX10_knownMachine_14 : decode cX10_knownMachine 14 = .ok (.getfield 11, 3) := by decide +kernel
theorem dX10_knownMachine_17 : decode cX10_knownMachine 17 = .ok (.iload_n 1, 1) := by decide +kernel
theorem dX10_knownMachine_18 : decode cX10_knownMachine 18 = .ok (.aaload, 1) := by decide +kernel
theorem dX10_knownMachine_19 : decode cX10_knownMachine 19 = .ok (.goto 4, 3) := by decide +kernel
theorem dX10_knownMachine_22 : decode cX10_knownMachine 22 = .ok (.aconst_null, 1) := by decide +kernel
theorem dX10_knownMachine_23 : decode cX10_knownMachine 23 = .ok (.astore_n 2, 1) := by decide +kernel
theorem dX10_knownMachine_24 : decode cX10_knownMachine 24 = .ok (.aload_n 2, 1) := by decide +kernel
theorem dX10_knownMachine_25 : decode cX10_knownMachine 25 = .ok (.ifnonnull 14, 3) := by decide +kernel
theorem dX10_knownMachine_28 : decode cX10_knownMachine 28 = .ok (.new 164, 3) := by decide +kernel
theorem dX10_knownMachine_31 : decode cX10_knownMachine 31 = .ok (.dup, 1) := by decide +kernel
theorem dX10_knownMachine_32 : decode cX10_knownMachine 32 = .ok (.ldc_w 387, 3) := by decide +kernel
theorem dX10_knownMachine_35 : decode cX10_knownMachine 35 = .ok (.invokespecial 168, 3) := by decide +kernel
theorem dX10_knownMachine_38 : decode cX10_knownMachine 38 = .ok (.athrow, 1) := by decide +kernel
theorem dX10_knownOrder_0 : decode cX10_knownOrder 0 = .ok (.iload_n 1, 1) := by decide +kernel
theorem dX10_knownOrder_1 : decode cX10_knownOrder 1 = .ok (.ifCond .lt 21, 3) := by decide +kernel
theorem dX10_knownOrder_4 : decode cX10_knownOrder 4 = .ok (.iload_n 1, 1) := by decide +kernel
theorem dX10_knownOrder_5 : decode cX10_knownOrder 5 = .ok (.aload_n 0, 1) := by decide +kernel
theorem dX10_knownOrder_6 : decode cX10_knownOrder 6 = .ok (.getfield 35, 3) := by decide +kernel
theorem dX10_knownOrder_9 : decode cX10_knownOrder 9 = .ok (.arraylength, 1) := by decide +kernel
theorem dX10_knownOrder_10 : decode cX10_knownOrder 10 = .ok (.if_icmp .ge 12, 3) := by decide +kernel
theorem dX10_knownOrder_13 : decode cX10_knownOrder 13 = .ok (.aload_n 0, 1) := by decide +kernel
theorem dX10_knownOrder_14 : decode cX10_knownOrder 14 = .ok (.getfield 35, 3) := by decide +kernel
theorem dX10_knownOrder_17 : decode cX10_knownOrder 17 = .ok (.iload_n 1, 1) := by decide +kernel
theorem dX10_knownOrder_18 : decode cX10_knownOrder 18 = .ok (.aaload, 1) := by decide +kernel
theorem dX10_knownOrder_19 : decode cX10_knownOrder 19 = .ok (.goto 4, 3) := by decide +kernel
theorem dX10_knownOrder_22 : decode cX10_knownOrder 22 = .ok (.aconst_null, 1) := by decide +kernel
theorem dX10_knownOrder_23 : decode cX10_knownOrder 23 = .ok (.astore_n 2, 1) := by decide +kernel
theorem dX10_knownOrder_24 : decode cX10_knownOrder 24 = .ok (.aload_n 2, 1) := by decide +kernel
theorem dX10_knownOrder_25 : decode cX10_knownOrder 25 = .ok (.ifnonnull 14, 3) := by decide +kernel
theorem dX10_knownOrder_28 : decode cX10_knownOrder 28 = .ok (.new 164, 3) := by decide +kernel
theorem dX10_knownOrder_31 : decode cX10_knownOrder 31 = .ok (.dup, 1) := by decide +kernel
theorem dX10_knownOrder_32 : decode cX10_knownOrder 32 = .ok (.ldc_w 393, 3) := by decide +kernel
theorem dX10_knownOrder_35 : decode cX10_knownOrder 35 = .ok (.invokespecial 168, 3) := by decide +kernel
theorem dX10_knownOrder_38 : decode cX10_knownOrder 38 = .ok (.athrow, 1) := by decide +kernel
theorem dX10_knownPart_0 : decode cX10_knownPart 0 = .ok (.iload_n 1, 1) := by decide +kernel
theorem dX10_knownPart_1 : decode cX10_knownPart 1 = .ok (.ifCond .lt 21, 3) := by decide +kernel
theorem dX10_knownPart_4 : decode cX10_knownPart 4 = .ok (.iload_n 1, 1) := by decide +kernel
theorem dX10_knownPart_5 : decode cX10_knownPart 5 = .ok (.aload_n 0, 1) := by decide +kernel
theorem dX10_knownPart_6 : decode cX10_knownPart 6 = .ok (.getfield 17, 3) := by decide +kernel
theorem dX10_knownPart_9 : decode cX10_knownPart 9 = .ok (.arraylength, 1) := by decide +kernel
theorem dX10_knownPart_10 : decode cX10_knownPart 10 = .ok (.if_icmp .ge 12, 3) := by decide +kernel
theorem dX10_knownPart_13 : decode cX10_knownPart 13 = .ok (.aload_n 0, 1) := by decide +kernel
theorem dX10_knownPart_14 : decode cX10_knownPart 14 = .ok (.getfield 17, 3) := by decide +kernel
theorem dX10_knownPart_17 : decode cX10_knownPart 17 = .ok (.iload_n 1, 1) := by decide +kernel
theorem dX10_knownPart_18 : decode cX10_knownPart 18 = .ok (.aaload, 1) := by decide +kernel
theorem dX10_knownPart_19 : decode cX10_knownPart 19 = .ok (.goto 4, 3) := by decide +kernel
theorem dX10_knownPart_22 : decode cX10_knownPart 22 = .ok (.aconst_null, 1) := by decide +kernel
theorem dX10_knownPart_23 : decode cX10_knownPart 23 = .ok (.astore_n 2, 1) := by decide +kernel
theorem dX10_knownPart_24 : decode cX10_knownPart 24 = .ok (.aload_n 2, 1) := by decide +kernel
theorem dX10_knownPart_25 : decode cX10_knownPart 25 = .ok (.ifnonnull 14, 3) := by decide +kernel
theorem dX10_knownPart_28 : decode cX10_knownPart 28 = .ok (.new 164, 3) := by decide +kernel
theorem dX10_knownPart_31 : decode cX10_knownPart 31 = .ok (.dup, 1) := by decide +kernel
theorem dX10_knownPart_32 : decode cX10_knownPart 32 = .ok (.ldc_w 389, 3) := by decide +kernel
theorem dX10_knownPart_35 : decode cX10_knownPart 35 = .ok (.invokespecial 168, 3) := by decide +kernel
theorem dX10_knownPart_38 : decode cX10_knownPart 38 = .ok (.athrow, 1) := by decide +kernel
theorem dX10_lotOf_0 : decode cX10_lotOf 0 = .ok (.aload_n 0, 1) := by decide +kernel
theorem dX10_lotOf_1 : decode cX10_lotOf 1 = .ok (.iload_n 1, 1) := by decide +kernel
theorem dX10_lotOf_2 : decode cX10_lotOf 2 = .ok (.invokevirtual 238, 3) := by decide +kernel
theorem dX10_lots_0 : decode cX10_lots 0 = .ok (.aload_n 0, 1) := by decide +kernel
theorem dX10_lots_1 : decode cX10_lots 1 = .ok (.getfield 215, 3) := by decide +kernel
theorem dX10_lots_4 : decode cX10_lots 4 = .ok (.ireturn, 1) := by decide +kernel
theorem dX10_lotsIn_0 : decode cX10_lotsIn 0 = .ok (.aload_n 0, 1) := by decide +kernel
theorem dX10_lotsIn_1 : decode cX10_lotsIn 1 = .ok (.iload_n 1, 1) := by decide +kernel
theorem dX10_lotsIn_2 : decode cX10_lotsIn 2 = .ok (.invokevirtual 238, 3) := by decide +kernel
theorem dX10_machineIs_0 : decode cX10_machineIs 0 = .ok (.aload_n 0, 1) := by decide +kernel
theorem dX10_machineIs_1 : decode cX10_machineIs 1 = .ok (.iload_n 1, 1) := by decide +kernel
theorem dX10_machineIs_2 : decode cX10_machineIs 2 = .ok (.invokevirtual 110, 3) := by decide +kernel
theorem dX10_meanBusy_0 : decode cX10_meanBusy 0 = .ok (.aload_n 0, 1) := by decide +kernel
theorem dX10_meanBusy_1 : decode cX10_meanBusy 1 = .ok (.getfield 58, 3) := by decide +kernel
theorem dX10_meanBusy_4 : decode cX10_meanBusy 4 = .ok (.ifCond .ne 14, 3) := by decide +kernel
theorem dX10_meanBusy_7 : decode cX10_meanBusy 7 = .ok (.new 361, 3) := by decide +kernel
theorem dX10_meanBusy_10 : decode cX10_meanBusy 10 = .ok (.dup, 1) := by decide +kernel
theorem dX10_meanBusy_11 : decode cX10_meanBusy 11 = .ok (.ldc_w 366, 3) := by decide +kernel
theorem dX10_meanBusy_14 : decode cX10_meanBusy 14 = .ok (.invokespecial 365, 3) := by decide +kernel
theorem dX10_meanBusy_17 : decode cX10_meanBusy 17 = .ok (.athrow, 1) := by decide +kernel
theorem dX10_measure_0 : decode cX10_measure 0 = .ok (.aload_n 0, 1) := by decide +kernel
theorem dX10_measure_1 : decode cX10_measure 1 = .ok (.iload_n 1, 1) := by decide +kernel
theorem dX10_measure_2 : decode cX10_measure 2 = .ok (.invokevirtual 173, 3) := by decide +kernel
theorem dX10_order_0 : decode cX10_order 0 = .ok (.aload_n 0, 1) := by decide +kernel
theorem dX10_order_1 : decode cX10_order 1 = .ok (.iload_n 1, 1) := by decide +kernel
theorem dX10_order_2 : decode cX10_order 2 = .ok (.invokevirtual 80, 3) := by decide +kernel
theorem dX10_partOf_0 : decode cX10_partOf 0 = .ok (.aload_n 0, 1) := by decide +kernel
theorem dX10_partOf_1 : decode cX10_partOf 1 = .ok (.iload_n 1, 1) := by decide +kernel
theorem dX10_partOf_2 : decode cX10_partOf 2 = .ok (.invokevirtual 173, 3) := by decide +kernel
theorem dX10_passTime_0 : decode cX10_passTime 0 = .ok (.aload_n 0, 1) := by decide +kernel
theorem dX10_passTime_1 : decode cX10_passTime 1 = .ok (.dup, 1) := by decide +kernel
theorem dX10_passTime_2 : decode cX10_passTime 2 = .ok (.getfield 294, 3) := by decide +kernel
theorem dX10_passTime_5 : decode cX10_passTime 5 = .ok (.iconst 1, 1) := by decide +kernel
theorem dX10_passTime_6 : decode cX10_passTime 6 = .ok (.iadd, 1) := by decide +kernel
theorem dX10_passTime_7 : decode cX10_passTime 7 = .ok (.putfield 294, 3) := by decide +kernel
theorem dX10_passTime_10 : decode cX10_passTime 10 = .ok (.aload_n 0, 1) := by decide +kernel
theorem dX10_passTime_11 : decode cX10_passTime 11 = .ok (.getfield 11, 3) := by decide +kernel
theorem dX10_passTime_14 : decode cX10_passTime 14 = .ok (.astore_n 1, 1) := by decide +kernel
theorem dX10_passTime_15 : decode cX10_passTime 15 = .ok (.aload_n 1, 1) := by decide +kernel
theorem dX10_passTime_16 : decode cX10_passTime 16 = .ok (.arraylength, 1) := by decide +kernel
theorem dX10_passTime_17 : decode cX10_passTime 17 = .ok (.istore_n 2, 1) := by decide +kernel
theorem dX10_passTime_18 : decode cX10_passTime 18 = .ok (.iconst 0, 1) := by decide +kernel
theorem dX10_passTime_19 : decode cX10_passTime 19 = .ok (.istore_n 3, 1) := by decide +kernel
theorem dX10_passTime_20 : decode cX10_passTime 20 = .ok (.iload_n 3, 1) := by decide +kernel
theorem dX10_passTime_21 : decode cX10_passTime 21 = .ok (.iload_n 2, 1) := by decide +kernel
theorem dX10_passTime_22 : decode cX10_passTime 22 = .ok (.if_icmp .ge 37, 3) := by decide +kernel
theorem dX10_passTime_25 : decode cX10_passTime 25 = .ok (.aload_n 1, 1) := by decide +kernel
theorem dX10_passTime_26 : decode cX10_passTime 26 = .ok (.iload_n 3, 1) := by decide +kernel
theorem dX10_passTime_27 : decode cX10_passTime 27 = .ok (.aaload, 1) := by decide +kernel
theorem dX10_passTime_28 : decode cX10_passTime 28 = .ok (.astore 4, 2) := by decide +kernel
theorem dX10_passTime_30 : decode cX10_passTime 30 = .ok (.aload 4, 2) := by decide +kernel
theorem dX10_passTime_32 : decode cX10_passTime 32 = .ok (.ifnull 21, 3) := by decide +kernel
theorem dX10_passTime_53 : decode cX10_passTime 53 = .ok (.iinc 3 1, 3) := by decide +kernel
theorem dX10_passTime_56 : decode cX10_passTime 56 = .ok (.goto (-36), 3) := by decide +kernel
theorem dX10_passTime_59 : decode cX10_passTime 59 = .ok (.aload_n 0, 1) := by decide +kernel
theorem dX10_passTime_60 : decode cX10_passTime 60 = .ok (.getfield 11, 3) := by decide +kernel
theorem dX10_passTime_63 : decode cX10_passTime 63 = .ok (.astore_n 1, 1) := by decide +kernel
theorem dX10_passTime_64 : decode cX10_passTime 64 = .ok (.aload_n 1, 1) := by decide +kernel
theorem dX10_passTime_65 : decode cX10_passTime 65 = .ok (.arraylength, 1) := by decide +kernel
theorem dX10_passTime_66 : decode cX10_passTime 66 = .ok (.istore_n 2, 1) := by decide +kernel
theorem dX10_passTime_67 : decode cX10_passTime 67 = .ok (.iconst 0, 1) := by decide +kernel
theorem dX10_passTime_68 : decode cX10_passTime 68 = .ok (.istore_n 3, 1) := by decide +kernel
theorem dX10_passTime_69 : decode cX10_passTime 69 = .ok (.iload_n 3, 1) := by decide +kernel
theorem dX10_passTime_70 : decode cX10_passTime 70 = .ok (.iload_n 2, 1) := by decide +kernel
theorem dX10_passTime_71 : decode cX10_passTime 71 = .ok (.if_icmp .ge 25, 3) := by decide +kernel
theorem dX10_passTime_74 : decode cX10_passTime 74 = .ok (.aload_n 1, 1) := by decide +kernel
theorem dX10_passTime_75 : decode cX10_passTime 75 = .ok (.iload_n 3, 1) := by decide +kernel
theorem dX10_passTime_76 : decode cX10_passTime 76 = .ok (.aaload, 1) := by decide +kernel
theorem dX10_passTime_77 : decode cX10_passTime 77 = .ok (.astore 4, 2) := by decide +kernel
theorem dX10_passTime_79 : decode cX10_passTime 79 = .ok (.aload 4, 2) := by decide +kernel
theorem dX10_passTime_81 : decode cX10_passTime 81 = .ok (.ifnull 9, 3) := by decide +kernel
theorem dX10_passTime_90 : decode cX10_passTime 90 = .ok (.iinc 3 1, 3) := by decide +kernel
theorem dX10_passTime_93 : decode cX10_passTime 93 = .ok (.goto (-24), 3) := by decide +kernel
theorem dX10_passTime_96 : decode cX10_passTime 96 = .ok (.return_, 1) := by decide +kernel
theorem dX10_promise_0 : decode cX10_promise 0 = .ok (.aload_n 0, 1) := by decide +kernel
theorem dX10_promise_1 : decode cX10_promise 1 = .ok (.iload_n 1, 1) := by decide +kernel
theorem dX10_promise_2 : decode cX10_promise 2 = .ok (.invokevirtual 238, 3) := by decide +kernel
theorem dX10_receive_0 : decode cX10_receive 0 = .ok (.aload_n 0, 1) := by decide +kernel
theorem dX10_receive_1 : decode cX10_receive 1 = .ok (.iload_n 1, 1) := by decide +kernel
theorem dX10_receive_2 : decode cX10_receive 2 = .ok (.invokevirtual 80, 3) := by decide +kernel
theorem dX10_release_0 : decode cX10_release 0 = .ok (.aload_n 0, 1) := by decide +kernel
theorem dX10_release_1 : decode cX10_release 1 = .ok (.iload_n 1, 1) := by decide +kernel
theorem dX10_release_2 : decode cX10_release 2 = .ok (.invokevirtual 238, 3) := by decide +kernel
theorem dX10_reserved_0 : decode cX10_reserved 0 = .ok (.aload_n 0, 1) := by decide +kernel
theorem dX10_reserved_1 : decode cX10_reserved 1 = .ok (.iload_n 1, 1) := by decide +kernel
theorem dX10_reserved_2 : decode cX10_reserved 2 = .ok (.invokevirtual 173, 3) := by decide +kernel
theorem dX10_rest_0 : decode cX10_rest 0 = .ok (.aload_n 0, 1) := by decide +kernel
theorem dX10_rest_1 : decode cX10_rest 1 = .ok (.iload_n 1, 1) := by decide +kernel
theorem dX10_rest_2 : decode cX10_rest 2 = .ok (.invokevirtual 173, 3) := by decide +kernel
theorem dX10_rule_0 : decode cX10_rule 0 = .ok (.aload_n 0, 1) := by decide +kernel
theorem dX10_rule_1 : decode cX10_rule 1 = .ok (.iload_n 1, 1) := by decide +kernel
theorem dX10_rule_2 : decode cX10_rule 2 = .ok (.invokevirtual 132, 3) := by decide +kernel
theorem dX10_rule_5 : decode cX10_rule 5 = .ok (.astore_n 2, 1) := by decide +kernel
theorem dX10_rule_6 : decode cX10_rule 6 = .ok (.aload_n 2, 1) := by decide +kernel
theorem dX10_rule_7 : decode cX10_rule 7 = .ok (.ifnonnull 13, 3) := by decide +kernel
theorem dX10_rule_10 : decode cX10_rule 10 = .ok (.new 164, 3) := by decide +kernel
theorem dX10_rule_13 : decode cX10_rule 13 = .ok (.dup, 1) := by decide +kernel
theorem dX10_rule_14 : decode cX10_rule 14 = .ok (.ldc 166, 2) := by decide +kernel
theorem dX10_rule_16 : decode cX10_rule 16 = .ok (.invokespecial 168, 3) := by decide +kernel
theorem dX10_rule_19 : decode cX10_rule 19 = .ok (.athrow, 1) := by decide +kernel
theorem dX10_rule_20 : decode cX10_rule 20 = .ok (.aload_n 2, 1) := by decide +kernel
theorem dX10_rule_21 : decode cX10_rule 21 = .ok (.getfield 169, 3) := by decide +kernel
theorem dX10_rule_24 : decode cX10_rule 24 = .ok (.ireturn, 1) := by decide +kernel
theorem dX10_scrap_0 : decode cX10_scrap 0 = .ok (.aload_n 0, 1) := by decide +kernel
theorem dX10_scrap_1 : decode cX10_scrap 1 = .ok (.iload_n 1, 1) := by decide +kernel
theorem dX10_scrap_2 : decode cX10_scrap 2 = .ok (.invokevirtual 238, 3) := by decide +kernel
theorem dX10_setChart_0 : decode cX10_setChart 0 = .ok (.aload_n 0, 1) := by decide +kernel
theorem dX10_setChart_1 : decode cX10_setChart 1 = .ok (.iload_n 1, 1) := by decide +kernel
theorem dX10_setChart_2 : decode cX10_setChart 2 = .ok (.invokevirtual 80, 3) := by decide +kernel
theorem dX10_stateOf_0 : decode cX10_stateOf 0 = .ok (.aload_n 0, 1) := by decide +kernel
theorem dX10_stateOf_1 : decode cX10_stateOf 1 = .ok (.iload_n 1, 1) := by decide +kernel
theorem dX10_stateOf_2 : decode cX10_stateOf 2 = .ok (.invokevirtual 238, 3) := by decide +kernel
theorem dX10_touched_0 : decode cX10_touched 0 = .ok (.aload_n 0, 1) := by decide +kernel
theorem dX10_touched_1 : decode cX10_touched 1 = .ok (.iload_n 1, 1) := by decide +kernel
theorem dX10_touched_2 : decode cX10_touched 2 = .ok (.invokevirtual 173, 3) := by decide +kernel
theorem dX10_waiting_0 : decode cX10_waiting 0 = .ok (.aload_n 0, 1) := by decide +kernel
theorem dX10_waiting_1 : decode cX10_waiting 1 = .ok (.aload_n 0, 1) := by decide +kernel
theorem dX10_waiting_2 : decode cX10_waiting 2 = .ok (.iload_n 1, 1) := by decide +kernel
theorem dX10_waiting_3 : decode cX10_waiting 3 = .ok (.invokevirtual 110, 3) := by decide +kernel
theorem dX10_wear_0 : decode cX10_wear 0 = .ok (.aload_n 0, 1) := by decide +kernel
theorem dX10_wear_1 : decode cX10_wear 1 = .ok (.iload_n 1, 1) := by decide +kernel
theorem dX10_wear_2 : decode cX10_wear 2 = .ok (.invokevirtual 110, 3) := by decide +kernel
theorem dX10_withdraw_0 : decode cX10_withdraw 0 = .ok (.aload_n 0, 1) := by decide +kernel
theorem dX10_withdraw_1 : decode cX10_withdraw 1 = .ok (.iload_n 1, 1) := by decide +kernel
theorem dX10_withdraw_2 : decode cX10_withdraw 2 = .ok (.invokevirtual 238, 3) := by decide +kernel
theorem dX12_init_0 : decode cX12_init 0 = .ok (.aload_n 0, 1) := by decide +kernel
theorem dX12_init_1 : decode cX12_init 1 = .ok (.invokespecial 1, 3) := by decide +kernel
theorem dX12_init_4 : decode cX12_init 4 = .ok (.aload_n 0, 1) := by decide +kernel
theorem dX12_init_5 : decode cX12_init 5 = .ok (.iconst (-1), 1) := by decide +kernel
theorem dX12_init_6 : decode cX12_init 6 = .ok (.putfield 7, 3) := by decide +kernel
theorem dX12_init_9 : decode cX12_init 9 = .ok (.aload_n 0, 1) := by decide +kernel
theorem dX12_init_10 : decode cX12_init 10 = .ok (.bipush 45, 2) := by decide +kernel
theorem dX12_init_12 : decode cX12_init 12 = .ok (.putfield 13, 3) := by decide +kernel
theorem dX12_init_15 : decode cX12_init 15 = .ok (.aload_n 0, 1) := by decide +kernel
theorem dX12_init_16 : decode cX12_init 16 = .ok (.iload_n 1, 1) := by decide +kernel
theorem dX12_init_17 : decode cX12_init 17 = .ok (.putfield 17, 3) := by decide +kernel
theorem dX12_init_20 : decode cX12_init 20 = .ok (.aload_n 0, 1) := by decide +kernel
theorem dX12_init_21 : decode cX12_init 21 = .ok (.iload_n 2, 1) := by decide +kernel
theorem dX12_init_22 : decode cX12_init 22 = .ok (.putfield 20, 3) := by decide +kernel
theorem dX12_init_25 : decode cX12_init 25 = .ok (.aload_n 0, 1) := by decide +kernel
theorem dX12_init_26 : decode cX12_init 26 = .ok (.iload_n 3, 1) := by decide +kernel
theorem dX12_init_27 : decode cX12_init 27 = .ok (.putfield 23, 3) := by decide +kernel
theorem dX12_init_30 : decode cX12_init 30 = .ok (.aload_n 0, 1) := by decide +kernel
theorem dX12_init_31 : decode cX12_init 31 = .ok (.iload 4, 2) := by decide +kernel
theorem dX12_init_33 : decode cX12_init 33 = .ok (.putfield 26, 3) := by decide +kernel
theorem dX12_init_36 : decode cX12_init 36 = .ok (.return_, 1) := by decide +kernel
theorem dX14_init_0 : decode cX14_init 0 = .ok (.aload_n 0, 1) := by decide +kernel
theorem dX14_init_1 : decode cX14_init 1 = .ok (.invokespecial 1, 3) := by decide +kernel
theorem dX14_init_4 : decode cX14_init 4 = .ok (.aload_n 0, 1) := by decide +kernel
theorem dX14_init_5 : decode cX14_init 5 = .ok (.new 7, 3) := by decide +kernel
theorem dX14_init_8 : decode cX14_init 8 = .ok (.dup, 1) := by decide +kernel
theorem dX14_init_9 : decode cX14_init 9 = .ok (.invokespecial 9, 3) := by decide +kernel
theorem dX14_init_12 : decode cX14_init 12 = .ok (.putfield 10, 3) := by decide +kernel
theorem dX14_init_15 : decode cX14_init 15 = .ok (.aload_n 0, 1) := by decide +kernel
theorem dX14_init_16 : decode cX14_init 16 = .ok (.new 7, 3) := by decide +kernel
theorem dX14_init_19 : decode cX14_init 19 = .ok (.dup, 1) := by decide +kernel
theorem dX14_init_20 : decode cX14_init 20 = .ok (.invokespecial 9, 3) := by decide +kernel
theorem dX14_init_23 : decode cX14_init 23 = .ok (.putfield 16, 3) := by decide +kernel
theorem dX14_init_26 : decode cX14_init 26 = .ok (.aload_n 0, 1) := by decide +kernel
theorem dX14_init_27 : decode cX14_init 27 = .ok (.bipush 100, 2) := by decide +kernel
theorem dX14_init_29 : decode cX14_init 29 = .ok (.putfield 19, 3) := by decide +kernel
theorem dX14_init_32 : decode cX14_init 32 = .ok (.aload_n 0, 1) := by decide +kernel
theorem dX14_init_33 : decode cX14_init 33 = .ok (.bipush 10, 2) := by decide +kernel
theorem dX14_init_35 : decode cX14_init 35 = .ok (.putfield 23, 3) := by decide +kernel
theorem dX14_init_38 : decode cX14_init 38 = .ok (.aload_n 0, 1) := by decide +kernel
theorem dX14_init_39 : decode cX14_init 39 = .ok (.iload_n 1, 1) := by decide +kernel
theorem dX14_init_40 : decode cX14_init 40 = .ok (.putfield 26, 3) := by decide +kernel
theorem dX14_init_43 : decode cX14_init 43 = .ok (.aload_n 0, 1) := by decide +kernel
theorem dX14_init_44 : decode cX14_init 44 = .ok (.iload_n 2, 1) := by decide +kernel
theorem dX14_init_45 : decode cX14_init 45 = .ok (.putfield 30, 3) := by decide +kernel
theorem dX14_init_48 : decode cX14_init 48 = .ok (.return_, 1) := by decide +kernel
theorem dX15_addComponent_0 : decode cX15_addComponent 0 = .ok (.aload_n 0, 1) := by decide +kernel
theorem dX15_addComponent_1 : decode cX15_addComponent 1 = .ok (.aload_n 0, 1) := by decide +kernel
theorem dX15_addComponent_2 : decode cX15_addComponent 2 = .ok (.iload_n 1, 1) := by decide +kernel
theorem dX15_addComponent_3 : decode cX15_addComponent 3 = .ok (.invokevirtual 62, 3) := by decide +kernel
theorem dX15_addComponent_6 : decode cX15_addComponent 6 = .ok (.ifCond .eq 15, 3) := by decide +kernel
theorem dX15_addComponent_21 : decode cX15_addComponent 21 = .ok (.iconst 1, 1) := by decide +kernel
theorem dX15_addComponent_22 : decode cX15_addComponent 22 = .ok (.invokevirtual 48, 3) := by decide +kernel
theorem dX15_addComponent_25 : decode cX15_addComponent 25 = .ok (.ifCond .eq 5, 3) := by decide +kernel
theorem dX15_addComponent_28 : decode cX15_addComponent 28 = .ok (.iconst 0, 1) := by decide +kernel
theorem dX15_addComponent_29 : decode cX15_addComponent 29 = .ok (.ireturn, 1) := by decide +kernel
theorem dX15_addMachine_0 : decode cX15_addMachine 0 = .ok (.iload_n 1, 1) := by decide +kernel
theorem dX15_addMachine_1 : decode cX15_addMachine 1 = .ok (.iconst 0, 1) := by decide +kernel
theorem dX15_addMachine_2 : decode cX15_addMachine 2 = .ok (.bipush 20, 2) := by decide +kernel
theorem dX15_addMachine_4 : decode cX15_addMachine 4 = .ok (.invokestatic 40, 3) := by decide +kernel
theorem dX15_addMachine_7 : decode cX15_addMachine 7 = .ok (.ifCond .eq 39, 3) := by decide +kernel
theorem dX15_addMachine_10 : decode cX15_addMachine 10 = .ok (.iload_n 2, 1) := by decide +kernel
theorem dX15_addMachine_11 : decode cX15_addMachine 11 = .ok (.iconst 0, 1) := by decide +kernel
theorem dX15_addMachine_12 : decode cX15_addMachine 12 = .ok (.bipush 50, 2) := by decide +kernel
theorem dX15_addMachine_14 : decode cX15_addMachine 14 = .ok (.invokestatic 40, 3) := by decide +kernel
theorem dX15_addMachine_17 : decode cX15_addMachine 17 = .ok (.ifCond .eq 29, 3) := by decide +kernel
theorem dX15_addMachine_20 : decode cX15_addMachine 20 = .ok (.iload_n 3, 1) := by decide +kernel
theorem dX15_addMachine_21 : decode cX15_addMachine 21 = .ok (.iconst 5, 1) := by decide +kernel
theorem dX15_addMachine_22 : decode cX15_addMachine 22 = .ok (.sipush 500, 3) := by decide +kernel
theorem dX15_addMachine_25 : decode cX15_addMachine 25 = .ok (.invokestatic 40, 3) := by decide +kernel
theorem dX15_addMachine_28 : decode cX15_addMachine 28 = .ok (.ifCond .eq 18, 3) := by decide +kernel
theorem dX15_addMachine_31 : decode cX15_addMachine 31 = .ok (.iload 4, 2) := by decide +kernel
theorem dX15_addMachine_33 : decode cX15_addMachine 33 = .ok (.iconst 1, 1) := by decide +kernel
theorem dX15_addMachine_34 : decode cX15_addMachine 34 = .ok (.bipush 99, 2) := by decide +kernel
theorem dX15_addMachine_36 : decode cX15_addMachine 36 = .ok (.invokestatic 40, 3) := by decide +kernel
theorem dX15_addMachine_39 : decode cX15_addMachine 39 = .ok (.ifCond .eq 7, 3) := by decide +kernel
theorem dX15_addMachine_42 : decode cX15_addMachine 42 = .ok (.iconst 1, 1) := by decide +kernel
theorem dX15_addMachine_43 : decode cX15_addMachine 43 = .ok (.goto 4, 3) := by decide +kernel
theorem dX15_addMachine_46 : decode cX15_addMachine 46 = .ok (.iconst 0, 1) := by decide +kernel
theorem dX15_addMachine_47 : decode cX15_addMachine 47 = .ok (.istore 5, 2) := by decide +kernel
theorem dX15_addMachine_49 : decode cX15_addMachine 49 = .ok (.aload_n 0, 1) := by decide +kernel
theorem dX15_addMachine_50 : decode cX15_addMachine 50 = .ok (.iload 5, 2) := by decide +kernel
theorem dX15_addMachine_52 : decode cX15_addMachine 52 = .ok (.ifCond .ne 7, 3) := by decide +kernel
theorem dX15_addMachine_55 : decode cX15_addMachine 55 = .ok (.iconst 1, 1) := by decide +kernel
theorem dX15_addMachine_56 : decode cX15_addMachine 56 = .ok (.goto 19, 3) := by decide +kernel
theorem dX15_addMachine_59 : decode cX15_addMachine 59 = .ok (.aload_n 0, 1) := by decide +kernel
theorem dX15_addMachine_60 : decode cX15_addMachine 60 = .ok (.getfield 10, 3) := by decide +kernel
theorem dX15_addMachine_63 : decode cX15_addMachine 63 = .ok (.invokevirtual 44, 3) := by decide +kernel
theorem dX15_addMachine_66 : decode cX15_addMachine 66 = .ok (.iconst 5, 1) := by decide +kernel
theorem dX15_addMachine_67 : decode cX15_addMachine 67 = .ok (.if_icmp .ne 7, 3) := by decide +kernel
theorem dX15_addMachine_74 : decode cX15_addMachine 74 = .ok (.iconst 0, 1) := by decide +kernel
theorem dX15_addMachine_75 : decode cX15_addMachine 75 = .ok (.invokevirtual 48, 3) := by decide +kernel
theorem dX15_addMachine_78 : decode cX15_addMachine 78 = .ok (.ifCond .eq 5, 3) := by decide +kernel
theorem dX15_addMachine_81 : decode cX15_addMachine 81 = .ok (.iconst 0, 1) := by decide +kernel
theorem dX15_addMachine_82 : decode cX15_addMachine 82 = .ok (.ireturn, 1) := by decide +kernel
theorem dX15_addMachine_83 : decode cX15_addMachine 83 = .ok (.aload_n 0, 1) := by decide +kernel
theorem dX15_addMachine_84 : decode cX15_addMachine 84 = .ok (.getfield 10, 3) := by decide +kernel
theorem dX15_addMachine_87 : decode cX15_addMachine 87 = .ok (.new 52, 3) := by decide +kernel
theorem dX15_addMachine_90 : decode cX15_addMachine 90 = .ok (.dup, 1) := by decide +kernel
theorem dX15_addMachine_91 : decode cX15_addMachine 91 = .ok (.iload_n 1, 1) := by decide +kernel
theorem dX15_addMachine_92 : decode cX15_addMachine 92 = .ok (.iload_n 2, 1) := by decide +kernel
theorem dX15_addMachine_93 : decode cX15_addMachine 93 = .ok (.iload_n 3, 1) := by decide +kernel
theorem dX15_addMachine_94 : decode cX15_addMachine 94 = .ok (.iload 4, 2) := by decide +kernel
theorem dX15_addMachine_96 : decode cX15_addMachine 96 = .ok (.invokespecial 54, 3) := by decide +kernel
theorem dX15_addMachine_99 : decode cX15_addMachine 99 = .ok (.invokevirtual 32, 3) := by decide +kernel
theorem dX15_addMachine_102 : decode cX15_addMachine 102 = .ok (.istore 6, 2) := by decide +kernel
theorem dX15_addMachine_104 : decode cX15_addMachine 104 = .ok (.aload_n 0, 1) := by decide +kernel
theorem dX15_addMachine_105 : decode cX15_addMachine 105 = .ok (.getfield 10, 3) := by decide +kernel
theorem dX15_addMachine_108 : decode cX15_addMachine 108 = .ok (.invokevirtual 44, 3) := by decide +kernel
theorem dX15_addMachine_111 : decode cX15_addMachine 111 = .ok (.iconst 1, 1) := by decide +kernel
theorem dX15_addMachine_112 : decode cX15_addMachine 112 = .ok (.isub, 1) := by decide +kernel
theorem dX15_addMachine_113 : decode cX15_addMachine 113 = .ok (.ireturn, 1) := by decide +kernel
theorem dX15_addOperation_0 : decode cX15_addOperation 0 = .ok (.aload_n 0, 1) := by decide +kernel
theorem dX15_addOperation_1 : decode cX15_addOperation 1 = .ok (.aload_n 0, 1) := by decide +kernel
theorem dX15_addOperation_2 : decode cX15_addOperation 2 = .ok (.iload_n 1, 1) := by decide +kernel
theorem dX15_addOperation_3 : decode cX15_addOperation 3 = .ok (.invokevirtual 62, 3) := by decide +kernel
theorem dX15_addOperation_6 : decode cX15_addOperation 6 = .ok (.ifCond .eq 28, 3) := by decide +kernel
theorem dX15_addOperation_34 : decode cX15_addOperation 34 = .ok (.iconst 1, 1) := by decide +kernel
theorem dX15_addOperation_35 : decode cX15_addOperation 35 = .ok (.invokevirtual 48, 3) := by decide +kernel
theorem dX15_addOperation_38 : decode cX15_addOperation 38 = .ok (.ifCond .eq 5, 3) := by decide +kernel
theorem dX15_addOperation_41 : decode cX15_addOperation 41 = .ok (.iconst 0, 1) := by decide +kernel
theorem dX15_addOperation_42 : decode cX15_addOperation 42 = .ok (.ireturn, 1) := by decide +kernel
theorem dX15_addPart_0 : decode cX15_addPart 0 = .ok (.aload_n 0, 1) := by decide +kernel
theorem dX15_addPart_1 : decode cX15_addPart 1 = .ok (.iload_n 2, 1) := by decide +kernel
theorem dX15_addPart_2 : decode cX15_addPart 2 = .ok (.iconst 0, 1) := by decide +kernel
theorem dX15_addPart_3 : decode cX15_addPart 3 = .ok (.iconst 3, 1) := by decide +kernel
theorem dX15_addPart_4 : decode cX15_addPart 4 = .ok (.invokestatic 40, 3) := by decide +kernel
theorem dX15_addPart_7 : decode cX15_addPart 7 = .ok (.ifCond .ne 7, 3) := by decide +kernel
theorem dX15_addPart_10 : decode cX15_addPart 10 = .ok (.iconst 1, 1) := by decide +kernel
theorem dX15_addPart_11 : decode cX15_addPart 11 = .ok (.goto 20, 3) := by decide +kernel
theorem dX15_addPart_14 : decode cX15_addPart 14 = .ok (.aload_n 0, 1) := by decide +kernel
theorem dX15_addPart_15 : decode cX15_addPart 15 = .ok (.getfield 16, 3) := by decide +kernel
theorem dX15_addPart_18 : decode cX15_addPart 18 = .ok (.invokevirtual 44, 3) := by decide +kernel
theorem dX15_addPart_21 : decode cX15_addPart 21 = .ok (.bipush 12, 2) := by decide +kernel
theorem dX15_addPart_23 : decode cX15_addPart 23 = .ok (.if_icmp .ne 7, 3) := by decide +kernel
theorem dX15_addPart_30 : decode cX15_addPart 30 = .ok (.iconst 0, 1) := by decide +kernel
theorem dX15_addPart_31 : decode cX15_addPart 31 = .ok (.invokevirtual 48, 3) := by decide +kernel
theorem dX15_addPart_34 : decode cX15_addPart 34 = .ok (.ifCond .eq 5, 3) := by decide +kernel
theorem dX15_addPart_37 : decode cX15_addPart 37 = .ok (.iconst 0, 1) := by decide +kernel
theorem dX15_addPart_38 : decode cX15_addPart 38 = .ok (.ireturn, 1) := by decide +kernel
theorem dX15_addPart_39 : decode cX15_addPart 39 = .ok (.aload_n 0, 1) := by decide +kernel
theorem dX15_addPart_40 : decode cX15_addPart 40 = .ok (.getfield 16, 3) := by decide +kernel
theorem dX15_addPart_43 : decode cX15_addPart 43 = .ok (.new 57, 3) := by decide +kernel
theorem dX15_addPart_46 : decode cX15_addPart 46 = .ok (.dup, 1) := by decide +kernel
theorem dX15_addPart_47 : decode cX15_addPart 47 = .ok (.iload_n 1, 1) := by decide +kernel
theorem dX15_addPart_48 : decode cX15_addPart 48 = .ok (.iload_n 2, 1) := by decide +kernel
theorem dX15_addPart_49 : decode cX15_addPart 49 = .ok (.invokespecial 59, 3) := by decide +kernel
theorem dX15_addPart_52 : decode cX15_addPart 52 = .ok (.invokevirtual 32, 3) := by decide +kernel
theorem dX15_addPart_55 : decode cX15_addPart 55 = .ok (.istore_n 3, 1) := by decide +kernel
theorem dX15_addPart_56 : decode cX15_addPart 56 = .ok (.aload_n 0, 1) := by decide +kernel
theorem dX15_addPart_57 : decode cX15_addPart 57 = .ok (.getfield 16, 3) := by decide +kernel
theorem dX15_addPart_60 : decode cX15_addPart 60 = .ok (.invokevirtual 44, 3) := by decide +kernel
theorem dX15_addPart_63 : decode cX15_addPart 63 = .ok (.iconst 1, 1) := by decide +kernel
theorem dX15_addPart_64 : decode cX15_addPart 64 = .ok (.isub, 1) := by decide +kernel
theorem dX15_addPart_65 : decode cX15_addPart 65 = .ok (.ireturn, 1) := by decide +kernel
theorem dX15_advance_0 : decode cX15_advance 0 = .ok (.aload_n 0, 1) := by decide +kernel
theorem dX15_advance_1 : decode cX15_advance 1 = .ok (.iload_n 1, 1) := by decide +kernel
theorem dX15_advance_2 : decode cX15_advance 2 = .ok (.iconst 1, 1) := by decide +kernel
theorem dX15_advance_3 : decode cX15_advance 3 = .ok (.sipush 500, 3) := by decide +kernel
theorem dX15_advance_6 : decode cX15_advance 6 = .ok (.invokestatic 40, 3) := by decide +kernel
theorem dX15_advance_9 : decode cX15_advance 9 = .ok (.ifCond .ne 7, 3) := by decide +kernel
theorem dX15_advance_12 : decode cX15_advance 12 = .ok (.iconst 1, 1) := by decide +kernel
theorem dX15_advance_13 : decode cX15_advance 13 = .ok (.goto 20, 3) := by decide +kernel
theorem dX15_advance_16 : decode cX15_advance 16 = .ok (.aload_n 0, 1) := by decide +kernel
theorem dX15_advance_17 : decode cX15_advance 17 = .ok (.getfield 252, 3) := by decide +kernel
theorem dX15_advance_20 : decode cX15_advance 20 = .ok (.iload_n 1, 1) := by decide +kernel
theorem dX15_advance_21 : decode cX15_advance 21 = .ok (.iadd, 1) := by decide +kernel
theorem dX15_advance_22 : decode cX15_advance 22 = .ok (.sipush 5000, 3) := by decide +kernel
theorem dX15_advance_25 : decode cX15_advance 25 = .ok (.if_icmp .le 7, 3) := by decide +kernel
theorem dX15_advance_32 : decode cX15_advance 32 = .ok (.iconst 0, 1) := by decide +kernel
theorem dX15_advance_33 : decode cX15_advance 33 = .ok (.invokevirtual 48, 3) := by decide +kernel
theorem dX15_advance_36 : decode cX15_advance 36 = .ok (.ifCond .eq 5, 3) := by decide +kernel
theorem dX15_advance_39 : decode cX15_advance 39 = .ok (.iconst 0, 1) := by decide +kernel
theorem dX15_advance_40 : decode cX15_advance 40 = .ok (.ireturn, 1) := by decide +kernel
theorem dX15_advance_41 : decode cX15_advance 41 = .ok (.iconst 0, 1) := by decide +kernel
theorem dX15_advance_42 : decode cX15_advance 42 = .ok (.istore_n 2, 1) := by decide +kernel
theorem dX15_advance_43 : decode cX15_advance 43 = .ok (.iload_n 2, 1) := by decide +kernel
theorem dX15_advance_44 : decode cX15_advance 44 = .ok (.iload_n 1, 1) := by decide +kernel
theorem dX15_advance_45 : decode cX15_advance 45 = .ok (.if_icmp .ge 27, 3) := by decide +kernel
theorem dX15_advance_48 : decode cX15_advance 48 = .ok (.aload_n 0, 1) := by decide +kernel
theorem dX15_advance_49 : decode cX15_advance 49 = .ok (.dup, 1) := by decide +kernel
theorem dX15_advance_50 : decode cX15_advance 50 = .ok (.getfield 252, 3) := by decide +kernel
theorem dX15_advance_53 : decode cX15_advance 53 = .ok (.iconst 1, 1) := by decide +kernel
theorem dX15_advance_54 : decode cX15_advance 54 = .ok (.iadd, 1) := by decide +kernel
theorem dX15_advance_55 : decode cX15_advance 55 = .ok (.putfield 252, 3) := by decide +kernel
theorem dX15_advance_58 : decode cX15_advance 58 = .ok (.aload_n 0, 1) := by decide +kernel
theorem dX15_advance_59 : decode cX15_advance 59 = .ok (.invokevirtual 304, 3) := by decide +kernel
theorem dX15_advance_62 : decode cX15_advance 62 = .ok (.aload_n 0, 1) := by decide +kernel
theorem dX15_advance_63 : decode cX15_advance 63 = .ok (.invokevirtual 236, 3) := by decide +kernel
theorem dX15_advance_66 : decode cX15_advance 66 = .ok (.iinc 2 1, 3) := by decide +kernel
theorem dX15_advance_69 : decode cX15_advance 69 = .ok (.goto (-26), 3) := by decide +kernel
theorem dX15_advance_72 : decode cX15_advance 72 = .ok (.aload_n 0, 1) := by decide +kernel
theorem dX15_advance_73 : decode cX15_advance 73 = .ok (.getfield 252, 3) := by decide +kernel
theorem dX15_advance_76 : decode cX15_advance 76 = .ok (.ireturn, 1) := by decide +kernel
theorem dX15_begin_0 : decode cX15_begin 0 = .ok (.iconst 0, 1) := by decide +kernel
theorem dX15_begin_1 : decode cX15_begin 1 = .ok (.istore_n 1, 1) := by decide +kernel
theorem dX15_begin_2 : decode cX15_begin 2 = .ok (.iload_n 1, 1) := by decide +kernel
theorem dX15_begin_3 : decode cX15_begin 3 = .ok (.aload_n 0, 1) := by decide +kernel
theorem dX15_begin_4 : decode cX15_begin 4 = .ok (.getfield 10, 3) := by decide +kernel
theorem dX15_begin_7 : decode cX15_begin 7 = .ok (.invokevirtual 44, 3) := by decide +kernel
theorem dX15_begin_10 : decode cX15_begin 10 = .ok (.if_icmp .ge 256, 3) := by decide +kernel
theorem dX15_begin_266 : decode cX15_begin 266 = .ok (.return_, 1) := by decide +kernel
theorem dX15_costOf_0 : decode cX15_costOf 0 = .ok (.aload_n 0, 1) := by decide +kernel
theorem dX15_costOf_1 : decode cX15_costOf 1 = .ok (.iload_n 1, 1) := by decide +kernel
theorem dX15_costOf_2 : decode cX15_costOf 2 = .ok (.invokevirtual 161, 3) := by decide +kernel
theorem dX15_costOf_5 : decode cX15_costOf 5 = .ok (.ifCond .eq 7, 3) := by decide +kernel
theorem dX15_costOf_8 : decode cX15_costOf 8 = .ok (.lconst 0, 1) := by decide +kernel
theorem dX15_costOf_9 : decode cX15_costOf 9 = .ok (.goto 17, 3) := by decide +kernel
theorem dX15_costOf_26 : decode cX15_costOf 26 = .ok (.lreturn, 1) := by decide +kernel
theorem dX15_deliver_0 : decode cX15_deliver 0 = .ok (.aload_n 0, 1) := by decide +kernel
theorem dX15_deliver_1 : decode cX15_deliver 1 = .ok (.iload_n 1, 1) := by decide +kernel
theorem dX15_deliver_2 : decode cX15_deliver 2 = .ok (.invokevirtual 214, 3) := by decide +kernel
theorem dX15_deliver_5 : decode cX15_deliver 5 = .ok (.ifCond .eq 5, 3) := by decide +kernel
theorem dX15_deliver_8 : decode cX15_deliver 8 = .ok (.iconst 0, 1) := by decide +kernel
theorem dX15_deliver_9 : decode cX15_deliver 9 = .ok (.ireturn, 1) := by decide +kernel
theorem dX15_deliveredCost_0 : decode cX15_deliveredCost 0 = .ok (.aload_n 0, 1) := by decide +kernel
theorem dX15_deliveredCost_1 : decode cX15_deliveredCost 1 = .ok (.iload_n 1, 1) := by decide +kernel
theorem dX15_deliveredCost_2 : decode cX15_deliveredCost 2 = .ok (.invokevirtual 214, 3) := by decide +kernel
theorem dX15_deliveredCost_5 : decode cX15_deliveredCost 5 = .ok (.ifCond .ne 34, 3) := by decide +kernel
theorem dX15_deliveredCost_39 : decode cX15_deliveredCost 39 = .ok (.lconst 0, 1) := by decide +kernel
theorem dX15_deliveredCost_40 : decode cX15_deliveredCost 40 = .ok (.goto 17, 3) := by decide +kernel
theorem dX15_deliveredCost_57 : decode cX15_deliveredCost 57 = .ok (.lreturn, 1) := by decide +kernel
theorem dX15_end_0 : decode cX15_end 0 = .ok (.aload_n 0, 1) := by decide +kernel
theorem dX15_end_1 : decode cX15_end 1 = .ok (.getfield 10, 3) := by decide +kernel
theorem dX15_end_4 : decode cX15_end 4 = .ok (.invokevirtual 123, 3) := by decide +kernel
theorem dX15_end_7 : decode cX15_end 7 = .ok (.astore_n 1, 1) := by decide +kernel
theorem dX15_end_8 : decode cX15_end 8 = .ok (.aload_n 1, 1) := by decide +kernel
theorem dX15_end_9 : decode cX15_end 9 = .ok (.invokeinterface 127 1, 5) := by decide +kernel
theorem dX15_end_14 : decode cX15_end 14 = .ok (.ifCond .eq 145, 3) := by decide +kernel
theorem dX15_end_159 : decode cX15_end 159 = .ok (.return_, 1) := by decide +kernel
theorem dX15_fails_0 : decode cX15_fails 0 = .ok (.aload_n 0, 1) := by decide +kernel
theorem dX15_fails_1 : decode cX15_fails 1 = .ok (.iload_n 1, 1) := by decide +kernel
theorem dX15_fails_2 : decode cX15_fails 2 = .ok (.putfield 36, 3) := by decide +kernel
theorem dX15_fails_5 : decode cX15_fails 5 = .ok (.iload_n 1, 1) := by decide +kernel
theorem dX15_fails_6 : decode cX15_fails 6 = .ok (.ifCond .le 7, 3) := by decide +kernel
theorem dX15_fails_9 : decode cX15_fails 9 = .ok (.iconst 1, 1) := by decide +kernel
theorem dX15_fails_10 : decode cX15_fails 10 = .ok (.goto 4, 3) := by decide +kernel
theorem dX15_fails_13 : decode cX15_fails 13 = .ok (.iconst 0, 1) := by decide +kernel
theorem dX15_fails_14 : decode cX15_fails 14 = .ok (.ireturn, 1) := by decide +kernel
theorem dX15_failsLot_0 : decode cX15_failsLot 0 = .ok (.aload_n 0, 1) := by decide +kernel
theorem dX15_failsLot_1 : decode cX15_failsLot 1 = .ok (.iload_n 1, 1) := by decide +kernel
theorem dX15_failsLot_2 : decode cX15_failsLot 2 = .ok (.iconst 0, 1) := by decide +kernel
theorem dX15_failsLot_3 : decode cX15_failsLot 3 = .ok (.aload_n 0, 1) := by decide +kernel
theorem dX15_failsLot_4 : decode cX15_failsLot 4 = .ok (.getfield 19, 3) := by decide +kernel
theorem dX15_failsLot_7 : decode cX15_failsLot 7 = .ok (.invokevirtual 44, 3) := by decide +kernel
theorem dX15_failsLot_10 : decode cX15_failsLot 10 = .ok (.iconst 1, 1) := by decide +kernel
theorem dX15_failsLot_11 : decode cX15_failsLot 11 = .ok (.isub, 1) := by decide +kernel
theorem dX15_failsLot_12 : decode cX15_failsLot 12 = .ok (.invokestatic 40, 3) := by decide +kernel
theorem dX15_failsLot_15 : decode cX15_failsLot 15 = .ok (.ifCond .eq 7, 3) := by decide +kernel
theorem dX15_failsLot_22 : decode cX15_failsLot 22 = .ok (.iconst 1, 1) := by decide +kernel
theorem dX15_failsLot_23 : decode cX15_failsLot 23 = .ok (.invokevirtual 48, 3) := by decide +kernel
theorem dX15_failsLot_26 : decode cX15_failsLot 26 = .ok (.ireturn, 1) := by decide +kernel
theorem dX15_failsMachine_0 : decode cX15_failsMachine 0 = .ok (.aload_n 0, 1) := by decide +kernel
theorem dX15_failsMachine_1 : decode cX15_failsMachine 1 = .ok (.aload_n 0, 1) := by decide +kernel
theorem dX15_failsMachine_2 : decode cX15_failsMachine 2 = .ok (.iload_n 1, 1) := by decide +kernel
theorem dX15_failsMachine_3 : decode cX15_failsMachine 3 = .ok (.invokevirtual 76, 3) := by decide +kernel
theorem dX15_failsMachine_6 : decode cX15_failsMachine 6 = .ok (.ifCond .eq 7, 3) := by decide +kernel
theorem dX15_failsMachine_13 : decode cX15_failsMachine 13 = .ok (.iconst 1, 1) := by decide +kernel
theorem dX15_failsMachine_14 : decode cX15_failsMachine 14 = .ok (.invokevirtual 48, 3) := by decide +kernel
theorem dX15_failsMachine_17 : decode cX15_failsMachine 17 = .ok (.ireturn, 1) := by decide +kernel
theorem dX15_failsOrder_0 : decode cX15_failsOrder 0 = .ok (.aload_n 0, 1) := by decide +kernel
theorem dX15_failsOrder_1 : decode cX15_failsOrder 1 = .ok (.iload_n 1, 1) := by decide +kernel
theorem dX15_failsOrder_2 : decode cX15_failsOrder 2 = .ok (.iconst 0, 1) := by decide +kernel
theorem dX15_failsOrder_3 : decode cX15_failsOrder 3 = .ok (.aload_n 0, 1) := by decide +kernel
theorem dX15_failsOrder_4 : decode cX15_failsOrder 4 = .ok (.getfield 22, 3) := by decide +kernel
theorem dX15_failsOrder_7 : decode cX15_failsOrder 7 = .ok (.invokevirtual 44, 3) := by decide +kernel
theorem dX15_failsOrder_10 : decode cX15_failsOrder 10 = .ok (.iconst 1, 1) := by decide +kernel
theorem dX15_failsOrder_11 : decode cX15_failsOrder 11 = .ok (.isub, 1) := by decide +kernel
theorem dX15_failsOrder_12 : decode cX15_failsOrder 12 = .ok (.invokestatic 40, 3) := by decide +kernel
theorem dX15_failsOrder_15 : decode cX15_failsOrder 15 = .ok (.ifCond .eq 7, 3) := by decide +kernel
theorem dX15_failsOrder_22 : decode cX15_failsOrder 22 = .ok (.iconst 1, 1) := by decide +kernel
theorem dX15_failsOrder_23 : decode cX15_failsOrder 23 = .ok (.invokevirtual 48, 3) := by decide +kernel
theorem dX15_failsOrder_26 : decode cX15_failsOrder 26 = .ok (.ireturn, 1) := by decide +kernel
theorem dX15_finishedAt_0 : decode cX15_finishedAt 0 = .ok (.aload_n 0, 1) := by decide +kernel
theorem dX15_finishedAt_1 : decode cX15_finishedAt 1 = .ok (.iload_n 1, 1) := by decide +kernel
theorem dX15_finishedAt_2 : decode cX15_finishedAt 2 = .ok (.invokevirtual 214, 3) := by decide +kernel
theorem dX15_finishedAt_5 : decode cX15_finishedAt 5 = .ok (.ifCond .ne 32, 3) := by decide +kernel
theorem dX15_finishedAt_37 : decode cX15_finishedAt 37 = .ok (.iconst 0, 1) := by decide +kernel
theorem dX15_finishedAt_38 : decode cX15_finishedAt 38 = .ok (.goto 17, 3) := by decide +kernel
theorem dX15_finishedAt_55 : decode cX15_finishedAt 55 = .ok (.ireturn, 1) := by decide +kernel
theorem dX15_hold_0 : decode cX15_hold 0 = .ok (.aload_n 0, 1) := by decide +kernel
theorem dX15_hold_1 : decode cX15_hold 1 = .ok (.iload_n 1, 1) := by decide +kernel
theorem dX15_hold_2 : decode cX15_hold 2 = .ok (.invokevirtual 161, 3) := by decide +kernel
theorem dX15_hold_5 : decode cX15_hold 5 = .ok (.ifCond .eq 5, 3) := by decide +kernel
theorem dX15_hold_8 : decode cX15_hold 8 = .ok (.iconst 0, 1) := by decide +kernel
theorem dX15_hold_9 : decode cX15_hold 9 = .ok (.ireturn, 1) := by decide +kernel
theorem dX15_in_0 : decode cX15_in 0 = .ok (.iload_n 0, 1) := by decide +kernel
theorem dX15_in_1 : decode cX15_in 1 = .ok (.iload_n 1, 1) := by decide +kernel
theorem dX15_in_2 : decode cX15_in 2 = .ok (.if_icmp .lt 12, 3) := by decide +kernel
theorem dX15_in_5 : decode cX15_in 5 = .ok (.iload_n 0, 1) := by decide +kernel
theorem dX15_in_6 : decode cX15_in 6 = .ok (.iload_n 2, 1) := by decide +kernel
theorem dX15_in_7 : decode cX15_in 7 = .ok (.if_icmp .gt 7, 3) := by decide +kernel
theorem dX15_in_10 : decode cX15_in 10 = .ok (.iconst 1, 1) := by decide +kernel
theorem dX15_in_11 : decode cX15_in 11 = .ok (.goto 4, 3) := by decide +kernel
theorem dX15_in_14 : decode cX15_in 14 = .ok (.iconst 0, 1) := by decide +kernel
theorem dX15_in_15 : decode cX15_in 15 = .ok (.ireturn, 1) := by decide +kernel
theorem dX15_inTimeShare_0 : decode cX15_inTimeShare 0 = .ok (.iconst 0, 1) := by decide +kernel
theorem dX15_inTimeShare_1 : decode cX15_inTimeShare 1 = .ok (.istore_n 1, 1) := by decide +kernel
theorem dX15_inTimeShare_2 : decode cX15_inTimeShare 2 = .ok (.iconst 0, 1) := by decide +kernel
theorem dX15_inTimeShare_3 : decode cX15_inTimeShare 3 = .ok (.istore_n 2, 1) := by decide +kernel
theorem dX15_inTimeShare_4 : decode cX15_inTimeShare 4 = .ok (.aload_n 0, 1) := by decide +kernel
theorem dX15_inTimeShare_5 : decode cX15_inTimeShare 5 = .ok (.getfield 22, 3) := by decide +kernel
theorem dX15_inTimeShare_8 : decode cX15_inTimeShare 8 = .ok (.invokevirtual 123, 3) := by decide +kernel
theorem dX15_inTimeShare_11 : decode cX15_inTimeShare 11 = .ok (.astore_n 3, 1) := by decide +kernel
theorem dX15_inTimeShare_12 : decode cX15_inTimeShare 12 = .ok (.aload_n 3, 1) := by decide +kernel
theorem dX15_inTimeShare_13 : decode cX15_inTimeShare 13 = .ok (.invokeinterface 127 1, 5) := by decide +kernel
theorem dX15_inTimeShare_18 : decode cX15_inTimeShare 18 = .ok (.ifCond .eq 62, 3) := by decide +kernel
theorem dX15_inTimeShare_80 : decode cX15_inTimeShare 80 = .ok (.aload_n 0, 1) := by decide +kernel
theorem dX15_inTimeShare_81 : decode cX15_inTimeShare 81 = .ok (.iload_n 1, 1) := by decide +kernel
theorem dX15_inTimeShare_82 : decode cX15_inTimeShare 82 = .ok (.ifCond .ne 7, 3) := by decide +kernel
theorem dX15_inTimeShare_85 : decode cX15_inTimeShare 85 = .ok (.iconst 1, 1) := by decide +kernel
theorem dX15_inTimeShare_86 : decode cX15_inTimeShare 86 = .ok (.goto 4, 3) := by decide +kernel
theorem dX15_inTimeShare_90 : decode cX15_inTimeShare 90 = .ok (.invokevirtual 48, 3) := by decide +kernel
theorem dX15_inTimeShare_93 : decode cX15_inTimeShare 93 = .ok (.ifCond .eq 7, 3) := by decide +kernel
theorem dX15_inTimeShare_96 : decode cX15_inTimeShare 96 = .ok (.fconst 0, 1) := by decide +kernel
theorem dX15_inTimeShare_97 : decode cX15_inTimeShare 97 = .ok (.goto 8, 3) := by decide +kernel
theorem dX15_inTimeShare_105 : decode cX15_inTimeShare 105 = .ok (.freturn, 1) := by decide +kernel
theorem dX15_init_0 : decode cX15_init 0 = .ok (.aload_n 0, 1) := by decide +kernel
theorem dX15_init_1 : decode cX15_init 1 = .ok (.invokespecial 1, 3) := by decide +kernel
theorem dX15_init_4 : decode cX15_init 4 = .ok (.aload_n 0, 1) := by decide +kernel
theorem dX15_init_5 : decode cX15_init 5 = .ok (.new 7, 3) := by decide +kernel
theorem dX15_init_8 : decode cX15_init 8 = .ok (.dup, 1) := by decide +kernel
theorem dX15_init_9 : decode cX15_init 9 = .ok (.invokespecial 9, 3) := by decide +kernel
theorem dX15_init_12 : decode cX15_init 12 = .ok (.putfield 10, 3) := by decide +kernel
theorem dX15_init_15 : decode cX15_init 15 = .ok (.aload_n 0, 1) := by decide +kernel
theorem dX15_init_16 : decode cX15_init 16 = .ok (.new 7, 3) := by decide +kernel
theorem dX15_init_19 : decode cX15_init 19 = .ok (.dup, 1) := by decide +kernel
theorem dX15_init_20 : decode cX15_init 20 = .ok (.invokespecial 9, 3) := by decide +kernel
theorem dX15_init_23 : decode cX15_init 23 = .ok (.putfield 16, 3) := by decide +kernel
theorem dX15_init_26 : decode cX15_init 26 = .ok (.aload_n 0, 1) := by decide +kernel
theorem dX15_init_27 : decode cX15_init 27 = .ok (.new 7, 3) := by decide +kernel
theorem dX15_init_30 : decode cX15_init 30 = .ok (.dup, 1) := by decide +kernel
theorem dX15_init_31 : decode cX15_init 31 = .ok (.invokespecial 9, 3) := by decide +kernel
theorem dX15_init_34 : decode cX15_init 34 = .ok (.putfield 19, 3) := by decide +kernel
theorem dX15_init_37 : decode cX15_init 37 = .ok (.aload_n 0, 1) := by decide +kernel
theorem dX15_init_38 : decode cX15_init 38 = .ok (.new 7, 3) := by decide +kernel
theorem dX15_init_41 : decode cX15_init 41 = .ok (.dup, 1) := by decide +kernel
theorem dX15_init_42 : decode cX15_init 42 = .ok (.invokespecial 9, 3) := by decide +kernel
theorem dX15_init_45 : decode cX15_init 45 = .ok (.putfield 22, 3) := by decide +kernel
theorem dX15_init_48 : decode cX15_init 48 = .ok (.aload_n 0, 1) := by decide +kernel
theorem dX15_init_49 : decode cX15_init 49 = .ok (.iconst 4, 1) := by decide +kernel
theorem dX15_init_50 : decode cX15_init 50 = .ok (.newarray .char, 2) := by decide +kernel
theorem dX15_init_52 : decode cX15_init 52 = .ok (.dup, 1) := by decide +kernel
theorem dX15_init_53 : decode cX15_init 53 = .ok (.iconst 0, 1) := by decide +kernel
theorem dX15_init_54 : decode cX15_init 54 = .ok (.bipush 110, 2) := by decide +kernel
theorem dX15_init_56 : decode cX15_init 56 = .ok (.castore, 1) := by decide +kernel
theorem dX15_init_57 : decode cX15_init 57 = .ok (.dup, 1) := by decide +kernel
theorem dX15_init_58 : decode cX15_init 58 = .ok (.iconst 1, 1) := by decide +kernel
theorem dX15_init_59 : decode cX15_init 59 = .ok (.bipush 110, 2) := by decide +kernel
theorem dX15_init_61 : decode cX15_init 61 = .ok (.castore, 1) := by decide +kernel
theorem dX15_init_62 : decode cX15_init 62 = .ok (.dup, 1) := by decide +kernel
theorem dX15_init_63 : decode cX15_init 63 = .ok (.iconst 2, 1) := by decide +kernel
theorem dX15_init_64 : decode cX15_init 64 = .ok (.bipush 110, 2) := by decide +kernel
theorem dX15_init_66 : decode cX15_init 66 = .ok (.castore, 1) := by decide +kernel
theorem dX15_init_67 : decode cX15_init 67 = .ok (.dup, 1) := by decide +kernel
theorem dX15_init_68 : decode cX15_init 68 = .ok (.iconst 3, 1) := by decide +kernel
theorem dX15_init_69 : decode cX15_init 69 = .ok (.bipush 110, 2) := by decide +kernel
theorem dX15_init_71 : decode cX15_init 71 = .ok (.castore, 1) := by decide +kernel
theorem dX15_init_72 : decode cX15_init 72 = .ok (.putfield 25, 3) := by decide +kernel
theorem dX15_init_75 : decode cX15_init 75 = .ok (.aload_n 0, 1) := by decide +kernel
theorem dX15_init_76 : decode cX15_init 76 = .ok (.new 7, 3) := by decide +kernel
theorem dX15_init_79 : decode cX15_init 79 = .ok (.dup, 1) := by decide +kernel
theorem dX15_init_80 : decode cX15_init 80 = .ok (.invokespecial 9, 3) := by decide +kernel
theorem dX15_init_83 : decode cX15_init 83 = .ok (.putfield 29, 3) := by decide +kernel
theorem dX15_init_86 : decode cX15_init 86 = .ok (.iconst 0, 1) := by decide +kernel
theorem dX15_init_87 : decode cX15_init 87 = .ok (.istore_n 1, 1) := by decide +kernel
theorem dX15_init_88 : decode cX15_init 88 = .ok (.iload_n 1, 1) := by decide +kernel
theorem dX15_init_89 : decode cX15_init 89 = .ok (.iconst 4, 1) := by decide +kernel
theorem dX15_init_90 : decode cX15_init 90 = .ok (.if_icmp .ge 24, 3) := by decide +kernel
theorem dX15_init_93 : decode cX15_init 93 = .ok (.aload_n 0, 1) := by decide +kernel
theorem dX15_init_94 : decode cX15_init 94 = .ok (.getfield 29, 3) := by decide +kernel
theorem dX15_init_97 : decode cX15_init 97 = .ok (.new 7, 3) := by decide +kernel
theorem dX15_init_100 : decode cX15_init 100 = .ok (.dup, 1) := by decide +kernel
theorem dX15_init_101 : decode cX15_init 101 = .ok (.invokespecial 9, 3) := by decide +kernel
theorem dX15_init_104 : decode cX15_init 104 = .ok (.invokevirtual 32, 3) := by decide +kernel
theorem dX15_init_107 : decode cX15_init 107 = .ok (.istore_n 2, 1) := by decide +kernel
theorem dX15_init_108 : decode cX15_init 108 = .ok (.iinc 1 1, 3) := by decide +kernel
theorem dX15_init_111 : decode cX15_init 111 = .ok (.goto (-23), 3) := by decide +kernel
theorem dX15_init_114 : decode cX15_init 114 = .ok (.return_, 1) := by decide +kernel
theorem dX15_isHeld_0 : decode cX15_isHeld 0 = .ok (.aload_n 0, 1) := by decide +kernel
theorem dX15_isHeld_1 : decode cX15_isHeld 1 = .ok (.iload_n 1, 1) := by decide +kernel
theorem dX15_isHeld_2 : decode cX15_isHeld 2 = .ok (.invokevirtual 161, 3) := by decide +kernel
theorem dX15_isHeld_5 : decode cX15_isHeld 5 = .ok (.ifCond .ne 24, 3) := by decide +kernel
theorem dX15_isHeld_29 : decode cX15_isHeld 29 = .ok (.iconst 0, 1) := by decide +kernel
theorem dX15_isHeld_30 : decode cX15_isHeld 30 = .ok (.ireturn, 1) := by decide +kernel
theorem dX15_isIn_0 : decode cX15_isIn 0 = .ok (.iload_n 1, 1) := by decide +kernel
theorem dX15_isIn_1 : decode cX15_isIn 1 = .ok (.iconst 0, 1) := by decide +kernel
theorem dX15_isIn_2 : decode cX15_isIn 2 = .ok (.aload_n 0, 1) := by decide +kernel
theorem dX15_isIn_3 : decode cX15_isIn 3 = .ok (.getfield 19, 3) := by decide +kernel
theorem dX15_isIn_6 : decode cX15_isIn 6 = .ok (.invokevirtual 44, 3) := by decide +kernel
theorem dX15_isIn_9 : decode cX15_isIn 9 = .ok (.iconst 1, 1) := by decide +kernel
theorem dX15_isIn_10 : decode cX15_isIn 10 = .ok (.isub, 1) := by decide +kernel
theorem dX15_isIn_11 : decode cX15_isIn 11 = .ok (.invokestatic 40, 3) := by decide +kernel
theorem dX15_isIn_14 : decode cX15_isIn 14 = .ok (.ifCond .eq 24, 3) := by decide +kernel
theorem dX15_isIn_38 : decode cX15_isIn 38 = .ok (.iconst 0, 1) := by decide +kernel
theorem dX15_isIn_39 : decode cX15_isIn 39 = .ok (.istore_n 3, 1) := by decide +kernel
theorem dX15_isIn_40 : decode cX15_isIn 40 = .ok (.aload_n 0, 1) := by decide +kernel
theorem dX15_isIn_41 : decode cX15_isIn 41 = .ok (.iload_n 3, 1) := by decide +kernel
theorem dX15_isIn_42 : decode cX15_isIn 42 = .ok (.ifCond .eq 7, 3) := by decide +kernel
theorem dX15_isIn_49 : decode cX15_isIn 49 = .ok (.iconst 1, 1) := by decide +kernel
theorem dX15_isIn_50 : decode cX15_isIn 50 = .ok (.invokevirtual 48, 3) := by decide +kernel
theorem dX15_isIn_53 : decode cX15_isIn 53 = .ok (.ifCond .ne 35, 3) := by decide +kernel
theorem dX15_isIn_88 : decode cX15_isIn 88 = .ok (.iconst 0, 1) := by decide +kernel
theorem dX15_isIn_89 : decode cX15_isIn 89 = .ok (.ireturn, 1) := by decide +kernel
theorem dX15_isMachine_0 : decode cX15_isMachine 0 = .ok (.iload_n 1, 1) := by decide +kernel
theorem dX15_isMachine_1 : decode cX15_isMachine 1 = .ok (.iconst 0, 1) := by decide +kernel
theorem dX15_isMachine_2 : decode cX15_isMachine 2 = .ok (.aload_n 0, 1) := by decide +kernel
theorem dX15_isMachine_3 : decode cX15_isMachine 3 = .ok (.getfield 10, 3) := by decide +kernel
theorem dX15_isMachine_6 : decode cX15_isMachine 6 = .ok (.invokevirtual 44, 3) := by decide +kernel
theorem dX15_isMachine_9 : decode cX15_isMachine 9 = .ok (.iconst 1, 1) := by decide +kernel
theorem dX15_isMachine_10 : decode cX15_isMachine 10 = .ok (.isub, 1) := by decide +kernel
theorem dX15_isMachine_11 : decode cX15_isMachine 11 = .ok (.invokestatic 40, 3) := by decide +kernel
theorem dX15_isMachine_14 : decode cX15_isMachine 14 = .ok (.ireturn, 1) := by decide +kernel
theorem dX15_isPart_0 : decode cX15_isPart 0 = .ok (.iload_n 1, 1) := by decide +kernel
theorem dX15_isPart_1 : decode cX15_isPart 1 = .ok (.iconst 0, 1) := by decide +kernel
theorem dX15_isPart_2 : decode cX15_isPart 2 = .ok (.aload_n 0, 1) := by decide +kernel
theorem dX15_isPart_3 : decode cX15_isPart 3 = .ok (.getfield 16, 3) := by decide +kernel
theorem dX15_isPart_6 : decode cX15_isPart 6 = .ok (.invokevirtual 44, 3) := by decide +kernel
theorem dX15_isPart_9 : decode cX15_isPart 9 = .ok (.iconst 1, 1) := by decide +kernel
theorem dX15_isPart_10 : decode cX15_isPart 10 = .ok (.isub, 1) := by decide +kernel
theorem dX15_isPart_11 : decode cX15_isPart 11 = .ok (.invokestatic 40, 3) := by decide +kernel
theorem dX15_isPart_14 : decode cX15_isPart 14 = .ok (.ireturn, 1) := by decide +kernel
theorem dX15_isSound_0 : decode cX15_isSound 0 = .ok (.aload_n 0, 1) := by decide +kernel
theorem dX15_isSound_1 : decode cX15_isSound 1 = .ok (.iconst 0, 1) := by decide +kernel
theorem dX15_isSound_2 : decode cX15_isSound 2 = .ok (.putfield 36, 3) := by decide +kernel
theorem dX15_isSound_5 : decode cX15_isSound 5 = .ok (.iconst 1, 1) := by decide +kernel
theorem dX15_isSound_6 : decode cX15_isSound 6 = .ok (.ireturn, 1) := by decide +kernel
theorem dX15_lotOf_0 : decode cX15_lotOf 0 = .ok (.aload_n 0, 1) := by decide +kernel
theorem dX15_lotOf_1 : decode cX15_lotOf 1 = .ok (.iload_n 1, 1) := by decide +kernel
theorem dX15_lotOf_2 : decode cX15_lotOf 2 = .ok (.invokevirtual 214, 3) := by decide +kernel
theorem dX15_lotOf_5 : decode cX15_lotOf 5 = .ok (.ifCond .ne 32, 3) := by decide +kernel
theorem dX15_lotOf_37 : decode cX15_lotOf 37 = .ok (.iconst 0, 1) := by decide +kernel
theorem dX15_lotOf_38 : decode cX15_lotOf 38 = .ok (.goto 20, 3) := by decide +kernel
theorem dX15_lotOf_58 : decode cX15_lotOf 58 = .ok (.ireturn, 1) := by decide +kernel
theorem dX15_lots_0 : decode cX15_lots 0 = .ok (.aload_n 0, 1) := by decide +kernel
theorem dX15_lots_1 : decode cX15_lots 1 = .ok (.iconst 0, 1) := by decide +kernel
theorem dX15_lots_2 : decode cX15_lots 2 = .ok (.putfield 36, 3) := by decide +kernel
theorem dX15_lots_5 : decode cX15_lots 5 = .ok (.aload_n 0, 1) := by decide +kernel
theorem dX15_lots_6 : decode cX15_lots 6 = .ok (.getfield 19, 3) := by decide +kernel
theorem dX15_lots_9 : decode cX15_lots 9 = .ok (.invokevirtual 44, 3) := by decide +kernel
theorem dX15_lots_12 : decode cX15_lots 12 = .ok (.ireturn, 1) := by decide +kernel
theorem dX15_lotsIn_0 : decode cX15_lotsIn 0 = .ok (.aload_n 0, 1) := by decide +kernel
theorem dX15_lotsIn_1 : decode cX15_lotsIn 1 = .ok (.iload_n 1, 1) := by decide +kernel
theorem dX15_lotsIn_2 : decode cX15_lotsIn 2 = .ok (.invokevirtual 214, 3) := by decide +kernel
theorem dX15_lotsIn_5 : decode cX15_lotsIn 5 = .ok (.ifCond .eq 5, 3) := by decide +kernel
theorem dX15_lotsIn_8 : decode cX15_lotsIn 8 = .ok (.iconst 0, 1) := by decide +kernel
theorem dX15_lotsIn_9 : decode cX15_lotsIn 9 = .ok (.ireturn, 1) := by decide +kernel
theorem dX15_machineIs_0 : decode cX15_machineIs 0 = .ok (.aload_n 0, 1) := by decide +kernel
theorem dX15_machineIs_1 : decode cX15_machineIs 1 = .ok (.iload_n 1, 1) := by decide +kernel
theorem dX15_machineIs_2 : decode cX15_machineIs 2 = .ok (.invokevirtual 320, 3) := by decide +kernel
theorem dX15_machineIs_5 : decode cX15_machineIs 5 = .ok (.ifCond .eq 7, 3) := by decide +kernel
theorem dX15_machineIs_8 : decode cX15_machineIs 8 = .ok (.iconst 0, 1) := by decide +kernel
theorem dX15_machineIs_9 : decode cX15_machineIs 9 = .ok (.goto 17, 3) := by decide +kernel
theorem dX15_machineIs_26 : decode cX15_machineIs 26 = .ok (.ireturn, 1) := by decide +kernel
theorem dX15_meanBusy_0 : decode cX15_meanBusy 0 = .ok (.iconst 0, 1) := by decide +kernel
theorem dX15_meanBusy_1 : decode cX15_meanBusy 1 = .ok (.istore_n 1, 1) := by decide +kernel
theorem dX15_meanBusy_2 : decode cX15_meanBusy 2 = .ok (.aload_n 0, 1) := by decide +kernel
theorem dX15_meanBusy_3 : decode cX15_meanBusy 3 = .ok (.getfield 10, 3) := by decide +kernel
theorem dX15_meanBusy_6 : decode cX15_meanBusy 6 = .ok (.invokevirtual 123, 3) := by decide +kernel
theorem dX15_meanBusy_9 : decode cX15_meanBusy 9 = .ok (.astore_n 2, 1) := by decide +kernel
theorem dX15_meanBusy_10 : decode cX15_meanBusy 10 = .ok (.aload_n 2, 1) := by decide +kernel
theorem dX15_meanBusy_11 : decode cX15_meanBusy 11 = .ok (.invokeinterface 127 1, 5) := by decide +kernel
theorem dX15_meanBusy_16 : decode cX15_meanBusy 16 = .ok (.ifCond .eq 46, 3) := by decide +kernel
theorem dX15_meanBusy_62 : decode cX15_meanBusy 62 = .ok (.aload_n 0, 1) := by decide +kernel
theorem dX15_meanBusy_63 : decode cX15_meanBusy 63 = .ok (.aload_n 0, 1) := by decide +kernel
theorem dX15_meanBusy_64 : decode cX15_meanBusy 64 = .ok (.getfield 10, 3) := by decide +kernel
theorem dX15_meanBusy_67 : decode cX15_meanBusy 67 = .ok (.invokevirtual 331, 3) := by decide +kernel
theorem dX15_meanBusy_70 : decode cX15_meanBusy 70 = .ok (.ifCond .eq 7, 3) := by decide +kernel
theorem dX15_meanBusy_73 : decode cX15_meanBusy 73 = .ok (.iconst 1, 1) := by decide +kernel
theorem dX15_meanBusy_74 : decode cX15_meanBusy 74 = .ok (.goto 4, 3) := by decide +kernel
theorem dX15_meanBusy_78 : decode cX15_meanBusy 78 = .ok (.invokevirtual 48, 3) := by decide +kernel
theorem dX15_meanBusy_81 : decode cX15_meanBusy 81 = .ok (.ifCond .eq 7, 3) := by decide +kernel
theorem dX15_meanBusy_84 : decode cX15_meanBusy 84 = .ok (.dconst 0, 1) := by decide +kernel
theorem dX15_meanBusy_85 : decode cX15_meanBusy 85 = .ok (.goto 14, 3) := by decide +kernel
theorem dX15_meanBusy_99 : decode cX15_meanBusy 99 = .ok (.dreturn, 1) := by decide +kernel
theorem dX15_measure_0 : decode cX15_measure 0 = .ok (.aload_n 0, 1) := by decide +kernel
theorem dX15_measure_1 : decode cX15_measure 1 = .ok (.iload_n 1, 1) := by decide +kernel
theorem dX15_measure_2 : decode cX15_measure 2 = .ok (.invokevirtual 161, 3) := by decide +kernel
theorem dX15_measure_5 : decode cX15_measure 5 = .ok (.ifCond .ne 26, 3) := by decide +kernel
theorem dX15_measure_31 : decode cX15_measure 31 = .ok (.iconst 0, 1) := by decide +kernel
theorem dX15_measure_32 : decode cX15_measure 32 = .ok (.ireturn, 1) := by decide +kernel
theorem dX15_order_0 : decode cX15_order 0 = .ok (.iload_n 2, 1) := by decide +kernel
theorem dX15_order_1 : decode cX15_order 1 = .ok (.iconst 1, 1) := by decide +kernel
theorem dX15_order_2 : decode cX15_order 2 = .ok (.bipush 100, 2) := by decide +kernel
theorem dX15_order_4 : decode cX15_order 4 = .ok (.invokestatic 40, 3) := by decide +kernel
theorem dX15_order_7 : decode cX15_order 7 = .ok (.ifCond .eq 28, 3) := by decide +kernel
theorem dX15_order_10 : decode cX15_order 10 = .ok (.iload_n 3, 1) := by decide +kernel
theorem dX15_order_11 : decode cX15_order 11 = .ok (.iconst 0, 1) := by decide +kernel
theorem dX15_order_12 : decode cX15_order 12 = .ok (.iconst 2, 1) := by decide +kernel
theorem dX15_order_13 : decode cX15_order 13 = .ok (.invokestatic 40, 3) := by decide +kernel
theorem dX15_order_16 : decode cX15_order 16 = .ok (.ifCond .eq 19, 3) := by decide +kernel
theorem dX15_order_19 : decode cX15_order 19 = .ok (.iload 4, 2) := by decide +kernel
theorem dX15_order_21 : decode cX15_order 21 = .ok (.iconst 0, 1) := by decide +kernel
theorem dX15_order_22 : decode cX15_order 22 = .ok (.sipush 9999, 3) := by decide +kernel
theorem dX15_order_25 : decode cX15_order 25 = .ok (.invokestatic 40, 3) := by decide +kernel
theorem dX15_order_28 : decode cX15_order 28 = .ok (.ifCond .eq 7, 3) := by decide +kernel
theorem dX15_order_31 : decode cX15_order 31 = .ok (.iconst 1, 1) := by decide +kernel
theorem dX15_order_32 : decode cX15_order 32 = .ok (.goto 4, 3) := by decide +kernel
theorem dX15_order_35 : decode cX15_order 35 = .ok (.iconst 0, 1) := by decide +kernel
theorem dX15_order_36 : decode cX15_order 36 = .ok (.istore 5, 2) := by decide +kernel
theorem dX15_order_38 : decode cX15_order 38 = .ok (.aload_n 0, 1) := by decide +kernel
theorem dX15_order_39 : decode cX15_order 39 = .ok (.aload_n 0, 1) := by decide +kernel
theorem dX15_order_40 : decode cX15_order 40 = .ok (.iload_n 1, 1) := by decide +kernel
theorem dX15_order_41 : decode cX15_order 41 = .ok (.invokevirtual 62, 3) := by decide +kernel
theorem dX15_order_44 : decode cX15_order 44 = .ok (.ifCond .ne 7, 3) := by decide +kernel
theorem dX15_order_47 : decode cX15_order 47 = .ok (.iconst 1, 1) := by decide +kernel
theorem dX15_order_48 : decode cX15_order 48 = .ok (.goto 29, 3) := by decide +kernel
theorem dX15_order_77 : decode cX15_order 77 = .ok (.invokevirtual 48, 3) := by decide +kernel
theorem dX15_order_80 : decode cX15_order 80 = .ok (.ifCond .eq 5, 3) := by decide +kernel
theorem dX15_order_83 : decode cX15_order 83 = .ok (.iconst 0, 1) := by decide +kernel
theorem dX15_order_84 : decode cX15_order 84 = .ok (.ireturn, 1) := by decide +kernel
theorem dX15_partOf_0 : decode cX15_partOf 0 = .ok (.aload_n 0, 1) := by decide +kernel
theorem dX15_partOf_1 : decode cX15_partOf 1 = .ok (.iload_n 1, 1) := by decide +kernel
theorem dX15_partOf_2 : decode cX15_partOf 2 = .ok (.invokevirtual 161, 3) := by decide +kernel
theorem dX15_partOf_5 : decode cX15_partOf 5 = .ok (.ifCond .eq 7, 3) := by decide +kernel
theorem dX15_partOf_8 : decode cX15_partOf 8 = .ok (.iconst 0, 1) := by decide +kernel
theorem dX15_partOf_9 : decode cX15_partOf 9 = .ok (.goto 17, 3) := by decide +kernel
theorem dX15_partOf_26 : decode cX15_partOf 26 = .ok (.ireturn, 1) := by decide +kernel
theorem dX15_promise_0 : decode cX15_promise 0 = .ok (.aload_n 0, 1) := by decide +kernel
theorem dX15_promise_1 : decode cX15_promise 1 = .ok (.iload_n 1, 1) := by decide +kernel
theorem dX15_promise_2 : decode cX15_promise 2 = .ok (.invokevirtual 214, 3) := by decide +kernel
theorem dX15_promise_5 : decode cX15_promise 5 = .ok (.ifCond .eq 5, 3) := by decide +kernel
theorem dX15_promise_8 : decode cX15_promise 8 = .ok (.iconst 0, 1) := by decide +kernel
theorem dX15_promise_9 : decode cX15_promise 9 = .ok (.ireturn, 1) := by decide +kernel
theorem dX15_receive_0 : decode cX15_receive 0 = .ok (.aload_n 0, 1) := by decide +kernel
theorem dX15_receive_1 : decode cX15_receive 1 = .ok (.aload_n 0, 1) := by decide +kernel
theorem dX15_receive_2 : decode cX15_receive 2 = .ok (.iload_n 1, 1) := by decide +kernel
theorem dX15_receive_3 : decode cX15_receive 3 = .ok (.invokevirtual 62, 3) := by decide +kernel
theorem dX15_receive_6 : decode cX15_receive 6 = .ok (.ifCond .eq 7, 3) := by decide +kernel
theorem dX15_receive_13 : decode cX15_receive 13 = .ok (.iconst 1, 1) := by decide +kernel
theorem dX15_receive_14 : decode cX15_receive 14 = .ok (.invokevirtual 48, 3) := by decide +kernel
theorem dX15_receive_17 : decode cX15_receive 17 = .ok (.ifCond .ne 32, 3) := by decide +kernel
theorem dX15_receive_49 : decode cX15_receive 49 = .ok (.iconst 0, 1) := by decide +kernel
theorem dX15_receive_50 : decode cX15_receive 50 = .ok (.ireturn, 1) := by decide +kernel
theorem dX15_release_0 : decode cX15_release 0 = .ok (.aload_n 0, 1) := by decide +kernel
theorem dX15_release_1 : decode cX15_release 1 = .ok (.iload_n 1, 1) := by decide +kernel
theorem dX15_release_2 : decode cX15_release 2 = .ok (.invokevirtual 214, 3) := by decide +kernel
theorem dX15_release_5 : decode cX15_release 5 = .ok (.ifCond .eq 5, 3) := by decide +kernel
theorem dX15_release_8 : decode cX15_release 8 = .ok (.iconst 0, 1) := by decide +kernel
theorem dX15_release_9 : decode cX15_release 9 = .ok (.ireturn, 1) := by decide +kernel
theorem dX15_reserved_0 : decode cX15_reserved 0 = .ok (.aload_n 0, 1) := by decide +kernel
theorem dX15_reserved_1 : decode cX15_reserved 1 = .ok (.iload_n 1, 1) := by decide +kernel
theorem dX15_reserved_2 : decode cX15_reserved 2 = .ok (.invokevirtual 161, 3) := by decide +kernel
theorem dX15_reserved_5 : decode cX15_reserved 5 = .ok (.ifCond .eq 7, 3) := by decide +kernel
theorem dX15_reserved_8 : decode cX15_reserved 8 = .ok (.iconst 0, 1) := by decide +kernel
theorem dX15_reserved_9 : decode cX15_reserved 9 = .ok (.goto 17, 3) := by decide +kernel
theorem dX15_reserved_26 : decode cX15_reserved 26 = .ok (.ireturn, 1) := by decide +kernel
theorem dX15_rest_0 : decode cX15_rest 0 = .ok (.aload_n 0, 1) := by decide +kernel
theorem dX15_rest_1 : decode cX15_rest 1 = .ok (.iload_n 1, 1) := by decide +kernel
theorem dX15_rest_2 : decode cX15_rest 2 = .ok (.invokevirtual 161, 3) := by decide +kernel
theorem dX15_rest_5 : decode cX15_rest 5 = .ok (.ifCond .eq 7, 3) := by decide +kernel
theorem dX15_rest_8 : decode cX15_rest 8 = .ok (.iconst 0, 1) := by decide +kernel
theorem dX15_rest_9 : decode cX15_rest 9 = .ok (.goto 17, 3) := by decide +kernel
theorem dX15_rest_26 : decode cX15_rest 26 = .ok (.ireturn, 1) := by decide +kernel
theorem dX15_rule_0 : decode cX15_rule 0 = .ok (.aload_n 0, 1) := by decide +kernel
theorem dX15_rule_1 : decode cX15_rule 1 = .ok (.iload_n 1, 1) := by decide +kernel
theorem dX15_rule_2 : decode cX15_rule 2 = .ok (.iconst 0, 1) := by decide +kernel
theorem dX15_rule_3 : decode cX15_rule 3 = .ok (.iconst 3, 1) := by decide +kernel
theorem dX15_rule_4 : decode cX15_rule 4 = .ok (.invokestatic 40, 3) := by decide +kernel
theorem dX15_rule_7 : decode cX15_rule 7 = .ok (.ifCond .eq 7, 3) := by decide +kernel
theorem dX15_rule_10 : decode cX15_rule 10 = .ok (.iconst 0, 1) := by decide +kernel
theorem dX15_rule_11 : decode cX15_rule 11 = .ok (.goto 4, 3) := by decide +kernel
theorem dX15_rule_14 : decode cX15_rule 14 = .ok (.iconst 1, 1) := by decide +kernel
theorem dX15_rule_15 : decode cX15_rule 15 = .ok (.invokevirtual 48, 3) := by decide +kernel
theorem dX15_rule_18 : decode cX15_rule 18 = .ok (.ifCond .eq 7, 3) := by decide +kernel
theorem dX15_rule_21 : decode cX15_rule 21 = .ok (.iconst 0, 1) := by decide +kernel
theorem dX15_rule_22 : decode cX15_rule 22 = .ok (.goto 9, 3) := by decide +kernel
theorem dX15_rule_25 : decode cX15_rule 25 = .ok (.aload_n 0, 1) := by decide +kernel
theorem dX15_rule_26 : decode cX15_rule 26 = .ok (.getfield 25, 3) := by decide +kernel
theorem dX15_rule_29 : decode cX15_rule 29 = .ok (.iload_n 1, 1) := by decide +kernel
theorem dX15_rule_30 : decode cX15_rule 30 = .ok (.caload, 1) := by decide +kernel
theorem dX15_rule_31 : decode cX15_rule 31 = .ok (.ireturn, 1) := by decide +kernel
theorem dX15_scrap_0 : decode cX15_scrap 0 = .ok (.aload_n 0, 1) := by decide +kernel
theorem dX15_scrap_1 : decode cX15_scrap 1 = .ok (.iload_n 1, 1) := by decide +kernel
theorem dX15_scrap_2 : decode cX15_scrap 2 = .ok (.invokevirtual 214, 3) := by decide +kernel
theorem dX15_scrap_5 : decode cX15_scrap 5 = .ok (.ifCond .eq 5, 3) := by decide +kernel
theorem dX15_scrap_8 : decode cX15_scrap 8 = .ok (.iconst 0, 1) := by decide +kernel
theorem dX15_scrap_9 : decode cX15_scrap 9 = .ok (.ireturn, 1) := by decide +kernel
theorem dX15_setChart_0 : decode cX15_setChart 0 = .ok (.aload_n 0, 1) := by decide +kernel
theorem dX15_setChart_1 : decode cX15_setChart 1 = .ok (.aload_n 0, 1) := by decide +kernel
theorem dX15_setChart_2 : decode cX15_setChart 2 = .ok (.iload_n 1, 1) := by decide +kernel
theorem dX15_setChart_3 : decode cX15_setChart 3 = .ok (.invokevirtual 62, 3) := by decide +kernel
theorem dX15_setChart_6 : decode cX15_setChart 6 = .ok (.ifCond .ne 7, 3) := by decide +kernel
theorem dX15_setChart_9 : decode cX15_setChart 9 = .ok (.iconst 1, 1) := by decide +kernel
theorem dX15_setChart_10 : decode cX15_setChart 10 = .ok (.goto 30, 3) := by decide +kernel
theorem dX15_setChart_40 : decode cX15_setChart 40 = .ok (.invokevirtual 48, 3) := by decide +kernel
theorem dX15_setChart_43 : decode cX15_setChart 43 = .ok (.ifCond .eq 5, 3) := by decide +kernel
theorem dX15_setChart_46 : decode cX15_setChart 46 = .ok (.iconst 0, 1) := by decide +kernel
theorem dX15_setChart_47 : decode cX15_setChart 47 = .ok (.ireturn, 1) := by decide +kernel
theorem dX15_stateOf_0 : decode cX15_stateOf 0 = .ok (.aload_n 0, 1) := by decide +kernel
theorem dX15_stateOf_1 : decode cX15_stateOf 1 = .ok (.iload_n 1, 1) := by decide +kernel
theorem dX15_stateOf_2 : decode cX15_stateOf 2 = .ok (.invokevirtual 214, 3) := by decide +kernel
theorem dX15_stateOf_5 : decode cX15_stateOf 5 = .ok (.ifCond .eq 7, 3) := by decide +kernel
theorem dX15_stateOf_8 : decode cX15_stateOf 8 = .ok (.iconst 0, 1) := by decide +kernel
theorem dX15_stateOf_9 : decode cX15_stateOf 9 = .ok (.goto 17, 3) := by decide +kernel
theorem dX15_stateOf_26 : decode cX15_stateOf 26 = .ok (.ireturn, 1) := by decide +kernel
theorem dX15_thrown_0 : decode cX15_thrown 0 = .ok (.aload_n 0, 1) := by decide +kernel
theorem dX15_thrown_1 : decode cX15_thrown 1 = .ok (.getfield 36, 3) := by decide +kernel
theorem dX15_thrown_4 : decode cX15_thrown 4 = .ok (.ireturn, 1) := by decide +kernel
theorem dX15_touched_0 : decode cX15_touched 0 = .ok (.aload_n 0, 1) := by decide +kernel
theorem dX15_touched_1 : decode cX15_touched 1 = .ok (.iload_n 1, 1) := by decide +kernel
theorem dX15_touched_2 : decode cX15_touched 2 = .ok (.invokevirtual 161, 3) := by decide +kernel
theorem dX15_touched_5 : decode cX15_touched 5 = .ok (.ifCond .eq 5, 3) := by decide +kernel
theorem dX15_touched_8 : decode cX15_touched 8 = .ok (.iconst 0, 1) := by decide +kernel
theorem dX15_touched_9 : decode cX15_touched 9 = .ok (.ireturn, 1) := by decide +kernel
theorem dX15_waiting_0 : decode cX15_waiting 0 = .ok (.aload_n 0, 1) := by decide +kernel
theorem dX15_waiting_1 : decode cX15_waiting 1 = .ok (.iload_n 1, 1) := by decide +kernel
theorem dX15_waiting_2 : decode cX15_waiting 2 = .ok (.invokevirtual 320, 3) := by decide +kernel
theorem dX15_waiting_5 : decode cX15_waiting 5 = .ok (.ifCond .eq 7, 3) := by decide +kernel
theorem dX15_waiting_8 : decode cX15_waiting 8 = .ok (.iconst 0, 1) := by decide +kernel
theorem dX15_waiting_9 : decode cX15_waiting 9 = .ok (.goto 8, 3) := by decide +kernel
theorem dX15_waiting_17 : decode cX15_waiting 17 = .ok (.ireturn, 1) := by decide +kernel
theorem dX15_wear_0 : decode cX15_wear 0 = .ok (.aload_n 0, 1) := by decide +kernel
theorem dX15_wear_1 : decode cX15_wear 1 = .ok (.iload_n 1, 1) := by decide +kernel
theorem dX15_wear_2 : decode cX15_wear 2 = .ok (.invokevirtual 320, 3) := by decide +kernel
theorem dX15_wear_5 : decode cX15_wear 5 = .ok (.ifCond .eq 7, 3) := by decide +kernel
theorem dX15_wear_8 : decode cX15_wear 8 = .ok (.iconst 0, 1) := by decide +kernel
theorem dX15_wear_9 : decode cX15_wear 9 = .ok (.goto 17, 3) := by decide +kernel
theorem dX15_wear_26 : decode cX15_wear 26 = .ok (.ireturn, 1) := by decide +kernel
theorem dX15_withdraw_0 : decode cX15_withdraw 0 = .ok (.aload_n 0, 1) := by decide +kernel
theorem dX15_withdraw_1 : decode cX15_withdraw 1 = .ok (.iload_n 1, 1) := by decide +kernel
theorem dX15_withdraw_2 : decode cX15_withdraw 2 = .ok (.invokevirtual 214, 3) := by decide +kernel
theorem dX15_withdraw_5 : decode cX15_withdraw 5 = .ok (.ifCond .ne 34, 3) := by decide +kernel
theorem dX15_withdraw_39 : decode cX15_withdraw 39 = .ok (.iconst 0, 1) := by decide +kernel
theorem dX15_withdraw_40 : decode cX15_withdraw 40 = .ok (.goto 18, 3) := by decide +kernel
theorem dX15_withdraw_58 : decode cX15_withdraw 58 = .ok (.ireturn, 1) := by decide +kernel
theorem dX4_init_0 : decode cX4_init 0 = .ok (.aload_n 0, 1) := by decide +kernel
theorem dX4_init_1 : decode cX4_init 1 = .ok (.invokespecial 3, 3) := by decide +kernel
theorem dX4_init_4 : decode cX4_init 4 = .ok (.aload_n 0, 1) := by decide +kernel
theorem dX4_init_5 : decode cX4_init 5 = .ok (.bipush 45, 2) := by decide +kernel
theorem dX4_init_7 : decode cX4_init 7 = .ok (.putfield 9, 3) := by decide +kernel
theorem dX4_init_10 : decode cX4_init 10 = .ok (.aload_n 0, 1) := by decide +kernel
theorem dX4_init_11 : decode cX4_init 11 = .ok (.iconst (-1), 1) := by decide +kernel
theorem dX4_init_12 : decode cX4_init 12 = .ok (.putfield 15, 3) := by decide +kernel
theorem dX4_init_15 : decode cX4_init 15 = .ok (.aload_n 0, 1) := by decide +kernel
theorem dX4_init_16 : decode cX4_init 16 = .ok (.iconst (-1), 1) := by decide +kernel
theorem dX4_init_17 : decode cX4_init 17 = .ok (.putfield 19, 3) := by decide +kernel
theorem dX4_init_20 : decode cX4_init 20 = .ok (.aload_n 0, 1) := by decide +kernel
theorem dX4_init_21 : decode cX4_init 21 = .ok (.iload_n 1, 1) := by decide +kernel
theorem dX4_init_22 : decode cX4_init 22 = .ok (.putfield 22, 3) := by decide +kernel
theorem dX4_init_25 : decode cX4_init 25 = .ok (.aload_n 0, 1) := by decide +kernel
theorem dX4_init_26 : decode cX4_init 26 = .ok (.iload_n 2, 1) := by decide +kernel
theorem dX4_init_27 : decode cX4_init 27 = .ok (.putfield 25, 3) := by decide +kernel
theorem dX4_init_30 : decode cX4_init 30 = .ok (.aload_n 0, 1) := by decide +kernel
theorem dX4_init_31 : decode cX4_init 31 = .ok (.iload_n 3, 1) := by decide +kernel
theorem dX4_init_32 : decode cX4_init 32 = .ok (.putfield 28, 3) := by decide +kernel
theorem dX4_init_35 : decode cX4_init 35 = .ok (.aload_n 0, 1) := by decide +kernel
theorem dX4_init_36 : decode cX4_init 36 = .ok (.iload 4, 2) := by decide +kernel
theorem dX4_init_38 : decode cX4_init 38 = .ok (.putfield 31, 3) := by decide +kernel
theorem dX4_init_41 : decode cX4_init 41 = .ok (.return_, 1) := by decide +kernel
theorem dX5_init_0 : decode cX5_init 0 = .ok (.aload_n 0, 1) := by decide +kernel
theorem dX5_init_1 : decode cX5_init 1 = .ok (.invokespecial 1, 3) := by decide +kernel
theorem dX5_init_4 : decode cX5_init 4 = .ok (.return_, 1) := by decide +kernel
theorem dX8_init_0 : decode cX8_init 0 = .ok (.aload_n 0, 1) := by decide +kernel
theorem dX8_init_1 : decode cX8_init 1 = .ok (.invokespecial 3, 3) := by decide +kernel
theorem dX8_init_4 : decode cX8_init 4 = .ok (.aload_n 0, 1) := by decide +kernel
theorem dX8_init_5 : decode cX8_init 5 = .ok (.iconst 4, 1) := by decide +kernel
theorem dX8_init_6 : decode cX8_init 6 = .ok (.anewarray 9, 3) := by decide +kernel
theorem dX8_init_9 : decode cX8_init 9 = .ok (.putfield 11, 3) := by decide +kernel
theorem dX8_init_12 : decode cX8_init 12 = .ok (.aload_n 0, 1) := by decide +kernel
theorem dX8_init_13 : decode cX8_init 13 = .ok (.iconst 3, 1) := by decide +kernel
theorem dX8_init_14 : decode cX8_init 14 = .ok (.anewarray 17, 3) := by decide +kernel
theorem dX8_init_17 : decode cX8_init 17 = .ok (.putfield 19, 3) := by decide +kernel
theorem dX8_init_20 : decode cX8_init 20 = .ok (.aload_n 0, 1) := by decide +kernel
theorem dX8_init_21 : decode cX8_init 21 = .ok (.new 23, 3) := by decide +kernel
theorem dX8_init_24 : decode cX8_init 24 = .ok (.dup, 1) := by decide +kernel
theorem dX8_init_25 : decode cX8_init 25 = .ok (.invokespecial 25, 3) := by decide +kernel
theorem dX8_init_28 : decode cX8_init 28 = .ok (.putfield 26, 3) := by decide +kernel
theorem dX8_init_31 : decode cX8_init 31 = .ok (.aload_n 0, 1) := by decide +kernel
theorem dX8_init_32 : decode cX8_init 32 = .ok (.iload_n 1, 1) := by decide +kernel
theorem dX8_init_33 : decode cX8_init 33 = .ok (.putfield 30, 3) := by decide +kernel
theorem dX8_init_36 : decode cX8_init 36 = .ok (.aload_n 0, 1) := by decide +kernel
theorem dX8_init_37 : decode cX8_init 37 = .ok (.iload_n 2, 1) := by decide +kernel
theorem dX8_init_38 : decode cX8_init 38 = .ok (.putfield 34, 3) := by decide +kernel
theorem dX8_init_41 : decode cX8_init 41 = .ok (.aload_n 0, 1) := by decide +kernel
theorem dX8_init_42 : decode cX8_init 42 = .ok (.iload_n 3, 1) := by decide +kernel
theorem dX8_init_43 : decode cX8_init 43 = .ok (.putfield 38, 3) := by decide +kernel
theorem dX8_init_46 : decode cX8_init 46 = .ok (.return_, 1) := by decide +kernel
theorem dX9_init_0 : decode cX9_init 0 = .ok (.aload_n 0, 1) := by decide +kernel
theorem dX9_init_1 : decode cX9_init 1 = .ok (.invokespecial 3, 3) := by decide +kernel
theorem dX9_init_4 : decode cX9_init 4 = .ok (.aload_n 0, 1) := by decide +kernel
theorem dX9_init_5 : decode cX9_init 5 = .ok (.bipush 110, 2) := by decide +kernel
theorem dX9_init_7 : decode cX9_init 7 = .ok (.putfield 9, 3) := by decide +kernel
theorem dX9_init_10 : decode cX9_init 10 = .ok (.return_, 1) := by decide +kernel
