theorem dX0_init_0 : decode cX0_init 0 = .ok (.aload_n 0, 1) := by decide +kernel
theorem dX0_init_1 : decode cX0_init 1 = .ok (.invokespecial 3, 3) := by decide +kernel
theorem dX0_init_4 : decode cX0_init 4 = .ok (.aload_n 0, 1) := by decide +kernel
theorem dX0_init_5 : decode cX0_init 5 = .ok (.sipush 300, 3) := by decide +kernel
theorem dX0_init_8 : decode cX0_init 8 = .ok (.newarray .int, 2) := by decide +kernel
theorem dX0_init_10 : decode cX0_init 10 = .ok (.putfield 9, 3) := by decide +kernel
theorem dX0_init_13 : decode cX0_init 13 = .ok (.aload_n 0, 1) := by decide +kernel
theorem dX0_init_14 : decode cX0_init 14 = .ok (.sipush 300, 3) := by decide +kernel
theorem dX0_init_17 : decode cX0_init 17 = .ok (.newarray .int, 2) := by decide +kernel
theorem dX0_init_19 : decode cX0_init 19 = .ok (.putfield 15, 3) := by decide +kernel
theorem dX0_init_22 : decode cX0_init 22 = .ok (.aload_n 0, 1) := by decide +kernel
theorem dX0_init_23 : decode cX0_init 23 = .ok (.iconst 0, 1) := by decide +kernel
theorem dX0_init_24 : decode cX0_init 24 = .ok (.putfield 18, 3) := by decide +kernel
theorem dX0_init_27 : decode cX0_init 27 = .ok (.return_, 1) := by decide +kernel
theorem dX0_holds_0 : decode cX0_holds 0 = .ok (.iload_n 1, 1) := by decide +kernel
theorem dX0_holds_1 : decode cX0_holds 1 = .ok (.ifCond .lt 15, 3) := by decide +kernel
theorem dX0_holds_4 : decode cX0_holds 4 = .ok (.iload_n 1, 1) := by decide +kernel
theorem dX0_holds_5 : decode cX0_holds 5 = .ok (.aload_n 0, 1) := by decide +kernel
theorem dX0_holds_6 : decode cX0_holds 6 = .ok (.getfield 18, 3) := by decide +kernel
theorem dX0_holds_9 : decode cX0_holds 9 = .ok (.if_icmp .ge 7, 3) := by decide +kernel
theorem dX0_holds_12 : decode cX0_holds 12 = .ok (.iconst 1, 1) := by decide +kernel
theorem dX0_holds_13 : decode cX0_holds 13 = .ok (.goto 4, 3) := by decide +kernel
theorem dX0_holds_16 : decode cX0_holds 16 = .ok (.iconst 0, 1) := by decide +kernel
theorem dX0_holds_17 : decode cX0_holds 17 = .ok (.ireturn, 1) := by decide +kernel
theorem dX0_kindAt_0 : decode cX0_kindAt 0 = .ok (.aload_n 0, 1) := by decide +kernel
theorem dX0_kindAt_1 : decode cX0_kindAt 1 = .ok (.iload_n 1, 1) := by decide +kernel
theorem dX0_kindAt_2 : decode cX0_kindAt 2 = .ok (.invokevirtual 22, 3) := by decide +kernel
theorem dX0_kindAt_5 : decode cX0_kindAt 5 = .ok (.ifCond .eq 12, 3) := by decide +kernel
theorem dX0_kindAt_8 : decode cX0_kindAt 8 = .ok (.aload_n 0, 1) := by decide +kernel
theorem dX0_kindAt_9 : decode cX0_kindAt 9 = .ok (.getfield 9, 3) := by decide +kernel
theorem dX0_kindAt_12 : decode cX0_kindAt 12 = .ok (.iload_n 1, 1) := by decide +kernel
theorem dX0_kindAt_13 : decode cX0_kindAt 13 = .ok (.iaload, 1) := by decide +kernel
theorem dX0_kindAt_14 : decode cX0_kindAt 14 = .ok (.goto 4, 3) := by decide +kernel
theorem dX0_kindAt_17 : decode cX0_kindAt 17 = .ok (.iconst (-1), 1) := by decide +kernel
theorem dX0_kindAt_18 : decode cX0_kindAt 18 = .ok (.ireturn, 1) := by decide +kernel
theorem dX0_numberAt_0 : decode cX0_numberAt 0 = .ok (.aload_n 0, 1) := by decide +kernel
theorem dX0_numberAt_1 : decode cX0_numberAt 1 = .ok (.iload_n 1, 1) := by decide +kernel
theorem dX0_numberAt_2 : decode cX0_numberAt 2 = .ok (.invokevirtual 22, 3) := by decide +kernel
theorem dX0_numberAt_5 : decode cX0_numberAt 5 = .ok (.ifCond .eq 12, 3) := by decide +kernel
theorem dX0_numberAt_8 : decode cX0_numberAt 8 = .ok (.aload_n 0, 1) := by decide +kernel
theorem dX0_numberAt_9 : decode cX0_numberAt 9 = .ok (.getfield 15, 3) := by decide +kernel
theorem dX0_numberAt_12 : decode cX0_numberAt 12 = .ok (.iload_n 1, 1) := by decide +kernel
theorem dX0_numberAt_13 : decode cX0_numberAt 13 = .ok (.iaload, 1) := by decide +kernel
theorem dX0_numberAt_14 : decode cX0_numberAt 14 = .ok (.goto 4, 3) := by decide +kernel
theorem dX0_numberAt_17 : decode cX0_numberAt 17 = .ok (.iconst 0, 1) := by decide +kernel
theorem dX0_numberAt_18 : decode cX0_numberAt 18 = .ok (.ireturn, 1) := by decide +kernel
theorem dX0_add_0 : decode cX0_add 0 = .ok (.aload_n 0, 1) := by decide +kernel
theorem dX0_add_1 : decode cX0_add 1 = .ok (.getfield 18, 3) := by decide +kernel
theorem dX0_add_4 : decode cX0_add 4 = .ok (.sipush 300, 3) := by decide +kernel
theorem dX0_add_7 : decode cX0_add 7 = .ok (.if_icmp .ge 33, 3) := by decide +kernel
theorem dX0_add_10 : decode cX0_add 10 = .ok (.aload_n 0, 1) := by decide +kernel
theorem dX0_add_11 : decode cX0_add 11 = .ok (.getfield 9, 3) := by decide +kernel
theorem dX0_add_14 : decode cX0_add 14 = .ok (.aload_n 0, 1) := by decide +kernel
theorem dX0_add_15 : decode cX0_add 15 = .ok (.getfield 18, 3) := by decide +kernel
theorem dX0_add_18 : decode cX0_add 18 = .ok (.iload_n 1, 1) := by decide +kernel
theorem dX0_add_19 : decode cX0_add 19 = .ok (.iastore, 1) := by decide +kernel
theorem dX0_add_20 : decode cX0_add 20 = .ok (.aload_n 0, 1) := by decide +kernel
theorem dX0_add_21 : decode cX0_add 21 = .ok (.getfield 15, 3) := by decide +kernel
theorem dX0_add_24 : decode cX0_add 24 = .ok (.aload_n 0, 1) := by decide +kernel
theorem dX0_add_25 : decode cX0_add 25 = .ok (.getfield 18, 3) := by decide +kernel
theorem dX0_add_28 : decode cX0_add 28 = .ok (.iload_n 2, 1) := by decide +kernel
theorem dX0_add_29 : decode cX0_add 29 = .ok (.iastore, 1) := by decide +kernel
theorem dX0_add_30 : decode cX0_add 30 = .ok (.aload_n 0, 1) := by decide +kernel
theorem dX0_add_31 : decode cX0_add 31 = .ok (.dup, 1) := by decide +kernel
theorem dX0_add_32 : decode cX0_add 32 = .ok (.getfield 18, 3) := by decide +kernel
theorem dX0_add_35 : decode cX0_add 35 = .ok (.iconst 1, 1) := by decide +kernel
theorem dX0_add_36 : decode cX0_add 36 = .ok (.iadd, 1) := by decide +kernel
theorem dX0_add_37 : decode cX0_add 37 = .ok (.putfield 18, 3) := by decide +kernel
theorem dX0_add_40 : decode cX0_add 40 = .ok (.return_, 1) := by decide +kernel
theorem dX0_change_0 : decode cX0_change 0 = .ok (.aload_n 0, 1) := by decide +kernel
theorem dX0_change_1 : decode cX0_change 1 = .ok (.iload_n 1, 1) := by decide +kernel
theorem dX0_change_2 : decode cX0_change 2 = .ok (.invokevirtual 22, 3) := by decide +kernel
theorem dX0_change_5 : decode cX0_change 5 = .ok (.ifCond .eq 17, 3) := by decide +kernel
theorem dX0_change_8 : decode cX0_change 8 = .ok (.aload_n 0, 1) := by decide +kernel
theorem dX0_change_9 : decode cX0_change 9 = .ok (.getfield 9, 3) := by decide +kernel
theorem dX0_change_12 : decode cX0_change 12 = .ok (.iload_n 1, 1) := by decide +kernel
theorem dX0_change_13 : decode cX0_change 13 = .ok (.iload_n 2, 1) := by decide +kernel
theorem dX0_change_14 : decode cX0_change 14 = .ok (.iastore, 1) := by decide +kernel
theorem dX0_change_15 : decode cX0_change 15 = .ok (.aload_n 0, 1) := by decide +kernel
theorem dX0_change_16 : decode cX0_change 16 = .ok (.getfield 15, 3) := by decide +kernel
theorem dX0_change_19 : decode cX0_change 19 = .ok (.iload_n 1, 1) := by decide +kernel
theorem dX0_change_20 : decode cX0_change 20 = .ok (.iload_n 3, 1) := by decide +kernel
theorem dX0_change_21 : decode cX0_change 21 = .ok (.iastore, 1) := by decide +kernel
theorem dX0_change_22 : decode cX0_change 22 = .ok (.return_, 1) := by decide +kernel
theorem dX0_copyDown_0 : decode cX0_copyDown 0 = .ok (.aload_n 0, 1) := by decide +kernel
theorem dX0_copyDown_1 : decode cX0_copyDown 1 = .ok (.iload_n 2, 1) := by decide +kernel
theorem dX0_copyDown_2 : decode cX0_copyDown 2 = .ok (.aload_n 0, 1) := by decide +kernel
theorem dX0_copyDown_3 : decode cX0_copyDown 3 = .ok (.iload_n 1, 1) := by decide +kernel
theorem dX0_copyDown_4 : decode cX0_copyDown 4 = .ok (.invokevirtual 26, 3) := by decide +kernel
theorem dX0_copyDown_7 : decode cX0_copyDown 7 = .ok (.aload_n 0, 1) := by decide +kernel
theorem dX0_copyDown_8 : decode cX0_copyDown 8 = .ok (.iload_n 1, 1) := by decide +kernel
theorem dX0_copyDown_9 : decode cX0_copyDown 9 = .ok (.invokevirtual 30, 3) := by decide +kernel
theorem dX0_copyDown_12 : decode cX0_copyDown 12 = .ok (.invokevirtual 33, 3) := by decide +kernel
theorem dX0_copyDown_15 : decode cX0_copyDown 15 = .ok (.return_, 1) := by decide +kernel
theorem dX0_exchange_0 : decode cX0_exchange 0 = .ok (.aload_n 0, 1) := by decide +kernel
theorem dX0_exchange_1 : decode cX0_exchange 1 = .ok (.iload_n 1, 1) := by decide +kernel
theorem dX0_exchange_2 : decode cX0_exchange 2 = .ok (.invokevirtual 26, 3) := by decide +kernel
theorem dX0_exchange_5 : decode cX0_exchange 5 = .ok (.istore_n 3, 1) := by decide +kernel
theorem dX0_exchange_6 : decode cX0_exchange 6 = .ok (.aload_n 0, 1) := by decide +kernel
theorem dX0_exchange_7 : decode cX0_exchange 7 = .ok (.iload_n 1, 1) := by decide +kernel
theorem dX0_exchange_8 : decode cX0_exchange 8 = .ok (.invokevirtual 30, 3) := by decide +kernel
theorem dX0_exchange_11 : decode cX0_exchange 11 = .ok (.istore 4, 2) := by decide +kernel
theorem dX0_exchange_13 : decode cX0_exchange 13 = .ok (.aload_n 0, 1) := by decide +kernel
theorem dX0_exchange_14 : decode cX0_exchange 14 = .ok (.iload_n 2, 1) := by decide +kernel
theorem dX0_exchange_15 : decode cX0_exchange 15 = .ok (.iload_n 1, 1) := by decide +kernel
theorem dX0_exchange_16 : decode cX0_exchange 16 = .ok (.invokevirtual 37, 3) := by decide +kernel
theorem dX0_exchange_19 : decode cX0_exchange 19 = .ok (.aload_n 0, 1) := by decide +kernel
theorem dX0_exchange_20 : decode cX0_exchange 20 = .ok (.iload_n 2, 1) := by decide +kernel
theorem dX0_exchange_21 : decode cX0_exchange 21 = .ok (.iload_n 3, 1) := by decide +kernel
theorem dX0_exchange_22 : decode cX0_exchange 22 = .ok (.iload 4, 2) := by decide +kernel
theorem dX0_exchange_24 : decode cX0_exchange 24 = .ok (.invokevirtual 33, 3) := by decide +kernel
theorem dX0_exchange_27 : decode cX0_exchange 27 = .ok (.return_, 1) := by decide +kernel
theorem dX0_cutTo_0 : decode cX0_cutTo 0 = .ok (.iload_n 1, 1) := by decide +kernel
theorem dX0_cutTo_1 : decode cX0_cutTo 1 = .ok (.ifCond .lt 16, 3) := by decide +kernel
theorem dX0_cutTo_4 : decode cX0_cutTo 4 = .ok (.iload_n 1, 1) := by decide +kernel
theorem dX0_cutTo_5 : decode cX0_cutTo 5 = .ok (.aload_n 0, 1) := by decide +kernel
theorem dX0_cutTo_6 : decode cX0_cutTo 6 = .ok (.getfield 18, 3) := by decide +kernel
theorem dX0_cutTo_9 : decode cX0_cutTo 9 = .ok (.if_icmp .ge 8, 3) := by decide +kernel
theorem dX0_cutTo_12 : decode cX0_cutTo 12 = .ok (.aload_n 0, 1) := by decide +kernel
theorem dX0_cutTo_13 : decode cX0_cutTo 13 = .ok (.iload_n 1, 1) := by decide +kernel
theorem dX0_cutTo_14 : decode cX0_cutTo 14 = .ok (.putfield 18, 3) := by decide +kernel
theorem dX0_cutTo_17 : decode cX0_cutTo 17 = .ok (.return_, 1) := by decide +kernel
theorem dX1_init_0 : decode cX1_init 0 = .ok (.aload_n 0, 1) := by decide +kernel
theorem dX1_init_1 : decode cX1_init 1 = .ok (.invokespecial 3, 3) := by decide +kernel
theorem dX1_init_4 : decode cX1_init 4 = .ok (.aload_n 0, 1) := by decide +kernel
theorem dX1_init_5 : decode cX1_init 5 = .ok (.new 9, 3) := by decide +kernel
theorem dX1_init_8 : decode cX1_init 8 = .ok (.dup, 1) := by decide +kernel
theorem dX1_init_9 : decode cX1_init 9 = .ok (.invokespecial 11, 3) := by decide +kernel
theorem dX1_init_12 : decode cX1_init 12 = .ok (.putfield 12, 3) := by decide +kernel
theorem dX1_init_15 : decode cX1_init 15 = .ok (.aload_n 0, 1) := by decide +kernel
theorem dX1_init_16 : decode cX1_init 16 = .ok (.bipush 100, 2) := by decide +kernel
theorem dX1_init_18 : decode cX1_init 18 = .ok (.newarray .int, 2) := by decide +kernel
theorem dX1_init_20 : decode cX1_init 20 = .ok (.putfield 18, 3) := by decide +kernel
theorem dX1_init_23 : decode cX1_init 23 = .ok (.aload_n 0, 1) := by decide +kernel
theorem dX1_init_24 : decode cX1_init 24 = .ok (.iconst 0, 1) := by decide +kernel
theorem dX1_init_25 : decode cX1_init 25 = .ok (.putfield 22, 3) := by decide +kernel
theorem dX1_init_28 : decode cX1_init 28 = .ok (.return_, 1) := by decide +kernel
theorem dX1_endOf_0 : decode cX1_endOf 0 = .ok (.iload_n 1, 1) := by decide +kernel
theorem dX1_endOf_1 : decode cX1_endOf 1 = .ok (.ifCond .lt 20, 3) := by decide +kernel
theorem dX1_endOf_4 : decode cX1_endOf 4 = .ok (.iload_n 1, 1) := by decide +kernel
theorem dX1_endOf_5 : decode cX1_endOf 5 = .ok (.aload_n 0, 1) := by decide +kernel
theorem dX1_endOf_6 : decode cX1_endOf 6 = .ok (.getfield 22, 3) := by decide +kernel
theorem dX1_endOf_9 : decode cX1_endOf 9 = .ok (.if_icmp .ge 12, 3) := by decide +kernel
theorem dX1_endOf_12 : decode cX1_endOf 12 = .ok (.aload_n 0, 1) := by decide +kernel
theorem dX1_endOf_13 : decode cX1_endOf 13 = .ok (.getfield 18, 3) := by decide +kernel
theorem dX1_endOf_16 : decode cX1_endOf 16 = .ok (.iload_n 1, 1) := by decide +kernel
theorem dX1_endOf_17 : decode cX1_endOf 17 = .ok (.iaload, 1) := by decide +kernel
theorem dX1_endOf_18 : decode cX1_endOf 18 = .ok (.goto 10, 3) := by decide +kernel
theorem dX1_endOf_21 : decode cX1_endOf 21 = .ok (.aload_n 0, 1) := by decide +kernel
theorem dX1_endOf_22 : decode cX1_endOf 22 = .ok (.getfield 12, 3) := by decide +kernel
theorem dX1_endOf_25 : decode cX1_endOf 25 = .ok (.getfield 26, 3) := by decide +kernel
theorem dX1_endOf_28 : decode cX1_endOf 28 = .ok (.ireturn, 1) := by decide +kernel
theorem dX1_addTerm_0 : decode cX1_addTerm 0 = .ok (.iload_n 2, 1) := by decide +kernel
theorem dX1_addTerm_1 : decode cX1_addTerm 1 = .ok (.istore 4, 2) := by decide +kernel
theorem dX1_addTerm_3 : decode cX1_addTerm 3 = .ok (.iload 4, 2) := by decide +kernel
theorem dX1_addTerm_5 : decode cX1_addTerm 5 = .ok (.iload_n 3, 1) := by decide +kernel
theorem dX1_addTerm_6 : decode cX1_addTerm 6 = .ok (.if_icmp .ge 28, 3) := by decide +kernel
theorem dX1_addTerm_9 : decode cX1_addTerm 9 = .ok (.aload_n 0, 1) := by decide +kernel
theorem dX1_addTerm_10 : decode cX1_addTerm 10 = .ok (.getfield 12, 3) := by decide +kernel
theorem dX1_addTerm_13 : decode cX1_addTerm 13 = .ok (.aload_n 1, 1) := by decide +kernel
theorem dX1_addTerm_14 : decode cX1_addTerm 14 = .ok (.iload 4, 2) := by decide +kernel
theorem dX1_addTerm_16 : decode cX1_addTerm 16 = .ok (.invokevirtual 27, 3) := by decide +kernel
theorem dX1_addTerm_19 : decode cX1_addTerm 19 = .ok (.aload_n 1, 1) := by decide +kernel
theorem dX1_addTerm_20 : decode cX1_addTerm 20 = .ok (.iload 4, 2) := by decide +kernel
theorem dX1_addTerm_22 : decode cX1_addTerm 22 = .ok (.invokevirtual 31, 3) := by decide +kernel
theorem dX1_addTerm_25 : decode cX1_addTerm 25 = .ok (.invokevirtual 34, 3) := by decide +kernel
theorem dX1_addTerm_28 : decode cX1_addTerm 28 = .ok (.iinc 4 1, 3) := by decide +kernel
theorem dX1_addTerm_31 : decode cX1_addTerm 31 = .ok (.goto (-28), 3) := by decide +kernel
theorem dX1_addTerm_34 : decode cX1_addTerm 34 = .ok (.return_, 1) := by decide +kernel
theorem dX1_close_0 : decode cX1_close 0 = .ok (.aload_n 0, 1) := by decide +kernel
theorem dX1_close_1 : decode cX1_close 1 = .ok (.getfield 12, 3) := by decide +kernel
theorem dX1_close_4 : decode cX1_close 4 = .ok (.iload_n 1, 1) := by decide +kernel
theorem dX1_close_5 : decode cX1_close 5 = .ok (.iload_n 2, 1) := by decide +kernel
theorem dX1_close_6 : decode cX1_close 6 = .ok (.invokevirtual 34, 3) := by decide +kernel
theorem dX1_close_9 : decode cX1_close 9 = .ok (.aload_n 0, 1) := by decide +kernel
theorem dX1_close_10 : decode cX1_close 10 = .ok (.getfield 22, 3) := by decide +kernel
theorem dX1_close_13 : decode cX1_close 13 = .ok (.bipush 100, 2) := by decide +kernel
theorem dX1_close_15 : decode cX1_close 15 = .ok (.if_icmp .ge 29, 3) := by decide +kernel
theorem dX1_close_18 : decode cX1_close 18 = .ok (.aload_n 0, 1) := by decide +kernel
theorem dX1_close_19 : decode cX1_close 19 = .ok (.getfield 18, 3) := by decide +kernel
theorem dX1_close_22 : decode cX1_close 22 = .ok (.aload_n 0, 1) := by decide +kernel
theorem dX1_close_23 : decode cX1_close 23 = .ok (.getfield 22, 3) := by decide +kernel
theorem dX1_close_26 : decode cX1_close 26 = .ok (.aload_n 0, 1) := by decide +kernel
theorem dX1_close_27 : decode cX1_close 27 = .ok (.getfield 12, 3) := by decide +kernel
theorem dX1_close_30 : decode cX1_close 30 = .ok (.getfield 26, 3) := by decide +kernel
theorem dX1_close_33 : decode cX1_close 33 = .ok (.iastore, 1) := by decide +kernel
theorem dX1_close_34 : decode cX1_close 34 = .ok (.aload_n 0, 1) := by decide +kernel
theorem dX1_close_35 : decode cX1_close 35 = .ok (.dup, 1) := by decide +kernel
theorem dX1_close_36 : decode cX1_close 36 = .ok (.getfield 22, 3) := by decide +kernel
theorem dX1_close_39 : decode cX1_close 39 = .ok (.iconst 1, 1) := by decide +kernel
theorem dX1_close_40 : decode cX1_close 40 = .ok (.iadd, 1) := by decide +kernel
theorem dX1_close_41 : decode cX1_close 41 = .ok (.putfield 22, 3) := by decide +kernel
theorem dX1_close_44 : decode cX1_close 44 = .ok (.return_, 1) := by decide +kernel
theorem dX4_init_0 : decode cX4_init 0 = .ok (.aload_n 0, 1) := by decide +kernel
theorem dX4_init_1 : decode cX4_init 1 = .ok (.invokespecial 3, 3) := by decide +kernel
theorem dX4_init_4 : decode cX4_init 4 = .ok (.aload_n 0, 1) := by decide +kernel
theorem dX4_init_5 : decode cX4_init 5 = .ok (.new 9, 3) := by decide +kernel
theorem dX4_init_8 : decode cX4_init 8 = .ok (.dup, 1) := by decide +kernel
theorem dX4_init_9 : decode cX4_init 9 = .ok (.invokespecial 11, 3) := by decide +kernel
theorem dX4_init_12 : decode cX4_init 12 = .ok (.putfield 12, 3) := by decide +kernel
theorem dX4_init_15 : decode cX4_init 15 = .ok (.aload_n 0, 1) := by decide +kernel
theorem dX4_init_16 : decode cX4_init 16 = .ok (.new 18, 3) := by decide +kernel
theorem dX4_init_19 : decode cX4_init 19 = .ok (.dup, 1) := by decide +kernel
theorem dX4_init_20 : decode cX4_init 20 = .ok (.invokespecial 20, 3) := by decide +kernel
theorem dX4_init_23 : decode cX4_init 23 = .ok (.putfield 21, 3) := by decide +kernel
theorem dX4_init_26 : decode cX4_init 26 = .ok (.aload_n 0, 1) := by decide +kernel
theorem dX4_init_27 : decode cX4_init 27 = .ok (.bipush 20, 2) := by decide +kernel
theorem dX4_init_29 : decode cX4_init 29 = .ok (.newarray .int, 2) := by decide +kernel
theorem dX4_init_31 : decode cX4_init 31 = .ok (.putfield 25, 3) := by decide +kernel
theorem dX4_init_34 : decode cX4_init 34 = .ok (.aload_n 0, 1) := by decide +kernel
theorem dX4_init_35 : decode cX4_init 35 = .ok (.iconst 0, 1) := by decide +kernel
theorem dX4_init_36 : decode cX4_init 36 = .ok (.putfield 29, 3) := by decide +kernel
theorem dX4_init_39 : decode cX4_init 39 = .ok (.aload_n 0, 1) := by decide +kernel
theorem dX4_init_40 : decode cX4_init 40 = .ok (.iconst 0, 1) := by decide +kernel
theorem dX4_init_41 : decode cX4_init 41 = .ok (.putfield 33, 3) := by decide +kernel
theorem dX4_init_44 : decode cX4_init 44 = .ok (.return_, 1) := by decide +kernel
theorem dX4_tell_0 : decode cX4_tell 0 = .ok (.iload_n 1, 1) := by decide +kernel
theorem dX4_tell_1 : decode cX4_tell 1 = .ok (.tableswitch 132 0 10 #[59, 59, 93, 112, 59, 59, 93, 132, 132, 132, 73], 59) := by decide +kernel
theorem dX4_tell_60 : decode cX4_tell 60 = .ok (.aload_n 0, 1) := by decide +kernel
theorem dX4_tell_61 : decode cX4_tell 61 = .ok (.iload_n 1, 1) := by decide +kernel
theorem dX4_tell_62 : decode cX4_tell 62 = .ok (.iload_n 2, 1) := by decide +kernel
theorem dX4_tell_63 : decode cX4_tell 63 = .ok (.iload_n 1, 1) := by decide +kernel
theorem dX4_tell_64 : decode cX4_tell 64 = .ok (.iload_n 2, 1) := by decide +kernel
theorem dX4_tell_65 : decode cX4_tell 65 = .ok (.invokestatic 36, 3) := by decide +kernel
theorem dX4_tell_68 : decode cX4_tell 68 = .ok (.invokevirtual 40, 3) := by decide +kernel
theorem dX4_tell_71 : decode cX4_tell 71 = .ok (.goto 75, 3) := by decide +kernel
theorem dX4_tell_74 : decode cX4_tell 74 = .ok (.aload_n 0, 1) := by decide +kernel
theorem dX4_tell_75 : decode cX4_tell 75 = .ok (.aload_n 0, 1) := by decide +kernel
theorem dX4_tell_76 : decode cX4_tell 76 = .ok (.getfield 29, 3) := by decide +kernel
theorem dX4_tell_79 : decode cX4_tell 79 = .ok (.iload_n 2, 1) := by decide +kernel
theorem dX4_tell_80 : decode cX4_tell 80 = .ok (.isub, 1) := by decide +kernel
theorem dX4_tell_81 : decode cX4_tell 81 = .ok (.invokevirtual 44, 3) := by decide +kernel
theorem dX4_tell_84 : decode cX4_tell 84 = .ok (.aload_n 0, 1) := by decide +kernel
theorem dX4_tell_85 : decode cX4_tell 85 = .ok (.iload_n 1, 1) := by decide +kernel
theorem dX4_tell_86 : decode cX4_tell 86 = .ok (.iload_n 2, 1) := by decide +kernel
theorem dX4_tell_87 : decode cX4_tell 87 = .ok (.iload_n 2, 1) := by decide +kernel
theorem dX4_tell_88 : decode cX4_tell 88 = .ok (.invokevirtual 40, 3) := by decide +kernel
theorem dX4_tell_91 : decode cX4_tell 91 = .ok (.goto 55, 3) := by decide +kernel
theorem dX4_tell_94 : decode cX4_tell 94 = .ok (.aload_n 0, 1) := by decide +kernel
theorem dX4_tell_95 : decode cX4_tell 95 = .ok (.aload_n 0, 1) := by decide +kernel
theorem dX4_tell_96 : decode cX4_tell 96 = .ok (.getfield 29, 3) := by decide +kernel
theorem dX4_tell_99 : decode cX4_tell 99 = .ok (.iconst 1, 1) := by decide +kernel
theorem dX4_tell_100 : decode cX4_tell 100 = .ok (.isub, 1) := by decide +kernel
theorem dX4_tell_101 : decode cX4_tell 101 = .ok (.invokevirtual 44, 3) := by decide +kernel
theorem dX4_tell_104 : decode cX4_tell 104 = .ok (.aload_n 0, 1) := by decide +kernel
theorem dX4_tell_105 : decode cX4_tell 105 = .ok (.iload_n 1, 1) := by decide +kernel
theorem dX4_tell_106 : decode cX4_tell 106 = .ok (.iload_n 2, 1) := by decide +kernel
theorem dX4_tell_107 : decode cX4_tell 107 = .ok (.invokevirtual 48, 3) := by decide +kernel
theorem dX4_tell_110 : decode cX4_tell 110 = .ok (.goto 36, 3) := by decide +kernel
theorem dX4_tell_113 : decode cX4_tell 113 = .ok (.aload_n 0, 1) := by decide +kernel
theorem dX4_tell_114 : decode cX4_tell 114 = .ok (.aload_n 0, 1) := by decide +kernel
theorem dX4_tell_115 : decode cX4_tell 115 = .ok (.getfield 29, 3) := by decide +kernel
theorem dX4_tell_118 : decode cX4_tell 118 = .ok (.invokevirtual 44, 3) := by decide +kernel
theorem dX4_tell_121 : decode cX4_tell 121 = .ok (.aload_n 0, 1) := by decide +kernel
theorem dX4_tell_122 : decode cX4_tell 122 = .ok (.getfield 12, 3) := by decide +kernel
theorem dX4_tell_125 : decode cX4_tell 125 = .ok (.iload_n 1, 1) := by decide +kernel
theorem dX4_tell_126 : decode cX4_tell 126 = .ok (.iload_n 2, 1) := by decide +kernel
theorem dX4_tell_127 : decode cX4_tell 127 = .ok (.invokevirtual 52, 3) := by decide +kernel
theorem dX4_tell_130 : decode cX4_tell 130 = .ok (.goto 16, 3) := by decide +kernel
theorem dX4_tell_133 : decode cX4_tell 133 = .ok (.aload_n 0, 1) := by decide +kernel
theorem dX4_tell_134 : decode cX4_tell 134 = .ok (.aload_n 0, 1) := by decide +kernel
theorem dX4_tell_135 : decode cX4_tell 135 = .ok (.getfield 29, 3) := by decide +kernel
theorem dX4_tell_138 : decode cX4_tell 138 = .ok (.invokevirtual 44, 3) := by decide +kernel
theorem dX4_tell_141 : decode cX4_tell 141 = .ok (.aload_n 0, 1) := by decide +kernel
theorem dX4_tell_142 : decode cX4_tell 142 = .ok (.iload_n 1, 1) := by decide +kernel
theorem dX4_tell_143 : decode cX4_tell 143 = .ok (.invokevirtual 55, 3) := by decide +kernel
theorem dX4_tell_146 : decode cX4_tell 146 = .ok (.return_, 1) := by decide +kernel
theorem dX4_startOf_0 : decode cX4_startOf 0 = .ok (.iload_n 1, 1) := by decide +kernel
theorem dX4_startOf_1 : decode cX4_startOf 1 = .ok (.ifCond .lt 20, 3) := by decide +kernel
theorem dX4_startOf_4 : decode cX4_startOf 4 = .ok (.iload_n 1, 1) := by decide +kernel
theorem dX4_startOf_5 : decode cX4_startOf 5 = .ok (.aload_n 0, 1) := by decide +kernel
theorem dX4_startOf_6 : decode cX4_startOf 6 = .ok (.getfield 29, 3) := by decide +kernel
theorem dX4_startOf_9 : decode cX4_startOf 9 = .ok (.if_icmp .ge 12, 3) := by decide +kernel
theorem dX4_startOf_12 : decode cX4_startOf 12 = .ok (.aload_n 0, 1) := by decide +kernel
theorem dX4_startOf_13 : decode cX4_startOf 13 = .ok (.getfield 25, 3) := by decide +kernel
theorem dX4_startOf_16 : decode cX4_startOf 16 = .ok (.iload_n 1, 1) := by decide +kernel
theorem dX4_startOf_17 : decode cX4_startOf 17 = .ok (.iaload, 1) := by decide +kernel
theorem dX4_startOf_18 : decode cX4_startOf 18 = .ok (.goto 10, 3) := by decide +kernel
theorem dX4_startOf_21 : decode cX4_startOf 21 = .ok (.aload_n 0, 1) := by decide +kernel
theorem dX4_startOf_22 : decode cX4_startOf 22 = .ok (.getfield 21, 3) := by decide +kernel
theorem dX4_startOf_25 : decode cX4_startOf 25 = .ok (.getfield 58, 3) := by decide +kernel
theorem dX4_startOf_28 : decode cX4_startOf 28 = .ok (.ireturn, 1) := by decide +kernel
theorem dX4_endOf_0 : decode cX4_endOf 0 = .ok (.aload_n 0, 1) := by decide +kernel
theorem dX4_endOf_1 : decode cX4_endOf 1 = .ok (.iload_n 1, 1) := by decide +kernel
theorem dX4_endOf_2 : decode cX4_endOf 2 = .ok (.iconst 1, 1) := by decide +kernel
theorem dX4_endOf_3 : decode cX4_endOf 3 = .ok (.iadd, 1) := by decide +kernel
theorem dX4_endOf_4 : decode cX4_endOf 4 = .ok (.invokevirtual 59, 3) := by decide +kernel
theorem dX4_endOf_7 : decode cX4_endOf 7 = .ok (.ireturn, 1) := by decide +kernel
theorem dX4_put_0 : decode cX4_put 0 = .ok (.aload_n 0, 1) := by decide +kernel
theorem dX4_put_1 : decode cX4_put 1 = .ok (.getfield 29, 3) := by decide +kernel
theorem dX4_put_4 : decode cX4_put 4 = .ok (.iload_n 3, 1) := by decide +kernel
theorem dX4_put_5 : decode cX4_put 5 = .ok (.isub, 1) := by decide +kernel
theorem dX4_put_6 : decode cX4_put 6 = .ok (.istore 4, 2) := by decide +kernel
theorem dX4_put_8 : decode cX4_put 8 = .ok (.iload 4, 2) := by decide +kernel
theorem dX4_put_10 : decode cX4_put 10 = .ok (.ifCond .lt 40, 3) := by decide +kernel
theorem dX4_put_13 : decode cX4_put 13 = .ok (.iload 4, 2) := by decide +kernel
theorem dX4_put_15 : decode cX4_put 15 = .ok (.bipush 20, 2) := by decide +kernel
theorem dX4_put_17 : decode cX4_put 17 = .ok (.if_icmp .ge 33, 3) := by decide +kernel
theorem dX4_put_20 : decode cX4_put 20 = .ok (.aload_n 0, 1) := by decide +kernel
theorem dX4_put_21 : decode cX4_put 21 = .ok (.getfield 25, 3) := by decide +kernel
theorem dX4_put_24 : decode cX4_put 24 = .ok (.iload 4, 2) := by decide +kernel
theorem dX4_put_26 : decode cX4_put 26 = .ok (.aload_n 0, 1) := by decide +kernel
theorem dX4_put_27 : decode cX4_put 27 = .ok (.iload 4, 2) := by decide +kernel
theorem dX4_put_29 : decode cX4_put 29 = .ok (.invokevirtual 59, 3) := by decide +kernel
theorem dX4_put_32 : decode cX4_put 32 = .ok (.iastore, 1) := by decide +kernel
theorem dX4_put_33 : decode cX4_put 33 = .ok (.aload_n 0, 1) := by decide +kernel
theorem dX4_put_34 : decode cX4_put 34 = .ok (.getfield 21, 3) := by decide +kernel
theorem dX4_put_37 : decode cX4_put 37 = .ok (.iload_n 1, 1) := by decide +kernel
theorem dX4_put_38 : decode cX4_put 38 = .ok (.iload_n 2, 1) := by decide +kernel
theorem dX4_put_39 : decode cX4_put 39 = .ok (.invokevirtual 63, 3) := by decide +kernel
theorem dX4_put_42 : decode cX4_put 42 = .ok (.aload_n 0, 1) := by decide +kernel
theorem dX4_put_43 : decode cX4_put 43 = .ok (.iload 4, 2) := by decide +kernel
theorem dX4_put_45 : decode cX4_put 45 = .ok (.iconst 1, 1) := by decide +kernel
theorem dX4_put_46 : decode cX4_put 46 = .ok (.iadd, 1) := by decide +kernel
theorem dX4_put_47 : decode cX4_put 47 = .ok (.putfield 29, 3) := by decide +kernel
theorem dX4_put_50 : decode cX4_put 50 = .ok (.return_, 1) := by decide +kernel
theorem dX4_endLineWithLast_0 : decode cX4_endLineWithLast 0 = .ok (.aload_n 0, 1) := by decide +kernel
theorem dX4_endLineWithLast_1 : decode cX4_endLineWithLast 1 = .ok (.aload_n 0, 1) := by decide +kernel
theorem dX4_endLineWithLast_2 : decode cX4_endLineWithLast 2 = .ok (.getfield 29, 3) := by decide +kernel
theorem dX4_endLineWithLast_5 : decode cX4_endLineWithLast 5 = .ok (.iconst 1, 1) := by decide +kernel
theorem dX4_endLineWithLast_6 : decode cX4_endLineWithLast 6 = .ok (.isub, 1) := by decide +kernel
theorem dX4_endLineWithLast_7 : decode cX4_endLineWithLast 7 = .ok (.invokevirtual 59, 3) := by decide +kernel
theorem dX4_endLineWithLast_10 : decode cX4_endLineWithLast 10 = .ok (.istore_n 3, 1) := by decide +kernel
theorem dX4_endLineWithLast_11 : decode cX4_endLineWithLast 11 = .ok (.aload_n 0, 1) := by decide +kernel
theorem dX4_endLineWithLast_12 : decode cX4_endLineWithLast 12 = .ok (.getfield 12, 3) := by decide +kernel
theorem dX4_endLineWithLast_15 : decode cX4_endLineWithLast 15 = .ok (.aload_n 0, 1) := by decide +kernel
theorem dX4_endLineWithLast_16 : decode cX4_endLineWithLast 16 = .ok (.getfield 21, 3) := by decide +kernel
theorem dX4_endLineWithLast_19 : decode cX4_endLineWithLast 19 = .ok (.iload_n 3, 1) := by decide +kernel
theorem dX4_endLineWithLast_20 : decode cX4_endLineWithLast 20 = .ok (.aload_n 0, 1) := by decide +kernel
theorem dX4_endLineWithLast_21 : decode cX4_endLineWithLast 21 = .ok (.getfield 21, 3) := by decide +kernel
theorem dX4_endLineWithLast_24 : decode cX4_endLineWithLast 24 = .ok (.getfield 58, 3) := by decide +kernel
theorem dX4_endLineWithLast_27 : decode cX4_endLineWithLast 27 = .ok (.invokevirtual 66, 3) := by decide +kernel
theorem dX4_endLineWithLast_30 : decode cX4_endLineWithLast 30 = .ok (.aload_n 0, 1) := by decide +kernel
theorem dX4_endLineWithLast_31 : decode cX4_endLineWithLast 31 = .ok (.getfield 12, 3) := by decide +kernel
theorem dX4_endLineWithLast_34 : decode cX4_endLineWithLast 34 = .ok (.iload_n 1, 1) := by decide +kernel
theorem dX4_endLineWithLast_35 : decode cX4_endLineWithLast 35 = .ok (.iload_n 2, 1) := by decide +kernel
theorem dX4_endLineWithLast_36 : decode cX4_endLineWithLast 36 = .ok (.invokevirtual 52, 3) := by decide +kernel
theorem dX4_endLineWithLast_39 : decode cX4_endLineWithLast 39 = .ok (.aload_n 0, 1) := by decide +kernel
theorem dX4_endLineWithLast_40 : decode cX4_endLineWithLast 40 = .ok (.getfield 21, 3) := by decide +kernel
theorem dX4_endLineWithLast_43 : decode cX4_endLineWithLast 43 = .ok (.iload_n 3, 1) := by decide +kernel
theorem dX4_endLineWithLast_44 : decode cX4_endLineWithLast 44 = .ok (.invokevirtual 70, 3) := by decide +kernel
theorem dX4_endLineWithLast_47 : decode cX4_endLineWithLast 47 = .ok (.aload_n 0, 1) := by decide +kernel
theorem dX4_endLineWithLast_48 : decode cX4_endLineWithLast 48 = .ok (.dup, 1) := by decide +kernel
theorem dX4_endLineWithLast_49 : decode cX4_endLineWithLast 49 = .ok (.getfield 29, 3) := by decide +kernel
theorem dX4_endLineWithLast_52 : decode cX4_endLineWithLast 52 = .ok (.iconst 1, 1) := by decide +kernel
theorem dX4_endLineWithLast_53 : decode cX4_endLineWithLast 53 = .ok (.isub, 1) := by decide +kernel
theorem dX4_endLineWithLast_54 : decode cX4_endLineWithLast 54 = .ok (.putfield 29, 3) := by decide +kernel
theorem dX4_endLineWithLast_57 : decode cX4_endLineWithLast 57 = .ok (.return_, 1) := by decide +kernel
theorem dX4_putOutBelow_0 : decode cX4_putOutBelow 0 = .ok (.aload_n 0, 1) := by decide +kernel
theorem dX4_putOutBelow_1 : decode cX4_putOutBelow 1 = .ok (.iload_n 1, 1) := by decide +kernel
theorem dX4_putOutBelow_2 : decode cX4_putOutBelow 2 = .ok (.invokevirtual 59, 3) := by decide +kernel
theorem dX4_putOutBelow_5 : decode cX4_putOutBelow 5 = .ok (.istore_n 2, 1) := by decide +kernel
theorem dX4_putOutBelow_6 : decode cX4_putOutBelow 6 = .ok (.iconst 0, 1) := by decide +kernel
theorem dX4_putOutBelow_7 : decode cX4_putOutBelow 7 = .ok (.istore_n 3, 1) := by decide +kernel
theorem dX4_putOutBelow_8 : decode cX4_putOutBelow 8 = .ok (.iload_n 3, 1) := by decide +kernel
theorem dX4_putOutBelow_9 : decode cX4_putOutBelow 9 = .ok (.iload_n 1, 1) := by decide +kernel
theorem dX4_putOutBelow_10 : decode cX4_putOutBelow 10 = .ok (.if_icmp .ge 14, 3) := by decide +kernel
theorem dX4_putOutBelow_13 : decode cX4_putOutBelow 13 = .ok (.aload_n 0, 1) := by decide +kernel
theorem dX4_putOutBelow_14 : decode cX4_putOutBelow 14 = .ok (.iload_n 3, 1) := by decide +kernel
theorem dX4_putOutBelow_15 : decode cX4_putOutBelow 15 = .ok (.invokevirtual 73, 3) := by decide +kernel
theorem dX4_putOutBelow_18 : decode cX4_putOutBelow 18 = .ok (.iinc 3 1, 3) := by decide +kernel
theorem dX4_putOutBelow_21 : decode cX4_putOutBelow 21 = .ok (.goto (-13), 3) := by decide +kernel
theorem dX4_putOutBelow_24 : decode cX4_putOutBelow 24 = .ok (.aload_n 0, 1) := by decide +kernel
theorem dX4_putOutBelow_25 : decode cX4_putOutBelow 25 = .ok (.iload_n 2, 1) := by decide +kernel
theorem dX4_putOutBelow_26 : decode cX4_putOutBelow 26 = .ok (.iload_n 1, 1) := by decide +kernel
theorem dX4_putOutBelow_27 : decode cX4_putOutBelow 27 = .ok (.invokevirtual 76, 3) := by decide +kernel
theorem dX4_putOutBelow_30 : decode cX4_putOutBelow 30 = .ok (.return_, 1) := by decide +kernel
theorem dX4_putOut_0 : decode cX4_putOut 0 = .ok (.aload_n 0, 1) := by decide +kernel
theorem dX4_putOut_1 : decode cX4_putOut 1 = .ok (.iload_n 1, 1) := by decide +kernel
theorem dX4_putOut_2 : decode cX4_putOut 2 = .ok (.invokevirtual 59, 3) := by decide +kernel
theorem dX4_putOut_5 : decode cX4_putOut 5 = .ok (.istore_n 2, 1) := by decide +kernel
theorem dX4_putOut_6 : decode cX4_putOut 6 = .ok (.aload_n 0, 1) := by decide +kernel
theorem dX4_putOut_7 : decode cX4_putOut 7 = .ok (.iload_n 1, 1) := by decide +kernel
theorem dX4_putOut_8 : decode cX4_putOut 8 = .ok (.invokevirtual 79, 3) := by decide +kernel
theorem dX4_putOut_11 : decode cX4_putOut 11 = .ok (.istore_n 3, 1) := by decide +kernel
theorem dX4_putOut_12 : decode cX4_putOut 12 = .ok (.aload_n 0, 1) := by decide +kernel
theorem dX4_putOut_13 : decode cX4_putOut 13 = .ok (.getfield 21, 3) := by decide +kernel
theorem dX4_putOut_16 : decode cX4_putOut 16 = .ok (.iload_n 3, 1) := by decide +kernel
theorem dX4_putOut_17 : decode cX4_putOut 17 = .ok (.iconst 1, 1) := by decide +kernel
theorem dX4_putOut_18 : decode cX4_putOut 18 = .ok (.isub, 1) := by decide +kernel
theorem dX4_putOut_19 : decode cX4_putOut 19 = .ok (.invokevirtual 82, 3) := by decide +kernel
theorem dX4_putOut_22 : decode cX4_putOut 22 = .ok (.istore 4, 2) := by decide +kernel
theorem dX4_putOut_24 : decode cX4_putOut 24 = .ok (.iload 4, 2) := by decide +kernel
theorem dX4_putOut_26 : decode cX4_putOut 26 = .ok (.ifCond .eq 10, 3) := by decide +kernel
theorem dX4_putOut_29 : decode cX4_putOut 29 = .ok (.iload 4, 2) := by decide +kernel
theorem dX4_putOut_31 : decode cX4_putOut 31 = .ok (.bipush 11, 2) := by decide +kernel
theorem dX4_putOut_33 : decode cX4_putOut 33 = .ok (.if_icmp .ne 15, 3) := by decide +kernel
theorem dX4_putOut_36 : decode cX4_putOut 36 = .ok (.aload_n 0, 1) := by decide +kernel
theorem dX4_putOut_37 : decode cX4_putOut 37 = .ok (.getfield 21, 3) := by decide +kernel
theorem dX4_putOut_40 : decode cX4_putOut 40 = .ok (.iload_n 2, 1) := by decide +kernel
theorem dX4_putOut_41 : decode cX4_putOut 41 = .ok (.iload_n 1, 1) := by decide +kernel
theorem dX4_putOut_42 : decode cX4_putOut 42 = .ok (.invokevirtual 85, 3) := by decide +kernel
theorem dX4_putOut_45 : decode cX4_putOut 45 = .ok (.goto 53, 3) := by decide +kernel
theorem dX4_putOut_48 : decode cX4_putOut 48 = .ok (.aload_n 0, 1) := by decide +kernel
theorem dX4_putOut_49 : decode cX4_putOut 49 = .ok (.getfield 12, 3) := by decide +kernel
theorem dX4_putOut_52 : decode cX4_putOut 52 = .ok (.aload_n 0, 1) := by decide +kernel
theorem dX4_putOut_53 : decode cX4_putOut 53 = .ok (.getfield 21, 3) := by decide +kernel
theorem dX4_putOut_56 : decode cX4_putOut 56 = .ok (.iload_n 2, 1) := by decide +kernel
theorem dX4_putOut_57 : decode cX4_putOut 57 = .ok (.iload_n 3, 1) := by decide +kernel
theorem dX4_putOut_58 : decode cX4_putOut 58 = .ok (.invokevirtual 66, 3) := by decide +kernel
theorem dX4_putOut_61 : decode cX4_putOut 61 = .ok (.aload_n 0, 1) := by decide +kernel
theorem dX4_putOut_62 : decode cX4_putOut 62 = .ok (.getfield 12, 3) := by decide +kernel
theorem dX4_putOut_65 : decode cX4_putOut 65 = .ok (.bipush 12, 2) := by decide +kernel
theorem dX4_putOut_67 : decode cX4_putOut 67 = .ok (.aload_n 0, 1) := by decide +kernel
theorem dX4_putOut_68 : decode cX4_putOut 68 = .ok (.getfield 33, 3) := by decide +kernel
theorem dX4_putOut_71 : decode cX4_putOut 71 = .ok (.invokevirtual 52, 3) := by decide +kernel
theorem dX4_putOut_74 : decode cX4_putOut 74 = .ok (.aload_n 0, 1) := by decide +kernel
theorem dX4_putOut_75 : decode cX4_putOut 75 = .ok (.getfield 21, 3) := by decide +kernel
theorem dX4_putOut_78 : decode cX4_putOut 78 = .ok (.iload_n 1, 1) := by decide +kernel
theorem dX4_putOut_79 : decode cX4_putOut 79 = .ok (.bipush 11, 2) := by decide +kernel
theorem dX4_putOut_81 : decode cX4_putOut 81 = .ok (.aload_n 0, 1) := by decide +kernel
theorem dX4_putOut_82 : decode cX4_putOut 82 = .ok (.getfield 33, 3) := by decide +kernel
theorem dX4_putOut_85 : decode cX4_putOut 85 = .ok (.invokevirtual 88, 3) := by decide +kernel
theorem dX4_putOut_88 : decode cX4_putOut 88 = .ok (.aload_n 0, 1) := by decide +kernel
theorem dX4_putOut_89 : decode cX4_putOut 89 = .ok (.dup, 1) := by decide +kernel
theorem dX4_putOut_90 : decode cX4_putOut 90 = .ok (.getfield 33, 3) := by decide +kernel
theorem dX4_putOut_93 : decode cX4_putOut 93 = .ok (.iconst 1, 1) := by decide +kernel
theorem dX4_putOut_94 : decode cX4_putOut 94 = .ok (.iadd, 1) := by decide +kernel
theorem dX4_putOut_95 : decode cX4_putOut 95 = .ok (.putfield 33, 3) := by decide +kernel
theorem dX4_putOut_98 : decode cX4_putOut 98 = .ok (.iload_n 1, 1) := by decide +kernel
theorem dX4_putOut_99 : decode cX4_putOut 99 = .ok (.ifCond .lt 16, 3) := by decide +kernel
theorem dX4_putOut_102 : decode cX4_putOut 102 = .ok (.iload_n 1, 1) := by decide +kernel
theorem dX4_putOut_103 : decode cX4_putOut 103 = .ok (.bipush 20, 2) := by decide +kernel
theorem dX4_putOut_105 : decode cX4_putOut 105 = .ok (.if_icmp .ge 10, 3) := by decide +kernel
theorem dX4_putOut_108 : decode cX4_putOut 108 = .ok (.aload_n 0, 1) := by decide +kernel
theorem dX4_putOut_109 : decode cX4_putOut 109 = .ok (.getfield 25, 3) := by decide +kernel
theorem dX4_putOut_112 : decode cX4_putOut 112 = .ok (.iload_n 1, 1) := by decide +kernel
theorem dX4_putOut_113 : decode cX4_putOut 113 = .ok (.iload_n 1, 1) := by decide +kernel
theorem dX4_putOut_114 : decode cX4_putOut 114 = .ok (.iastore, 1) := by decide +kernel
theorem dX4_putOut_115 : decode cX4_putOut 115 = .ok (.return_, 1) := by decide +kernel
theorem dX4_moveDown_0 : decode cX4_moveDown 0 = .ok (.iload_n 1, 1) := by decide +kernel
theorem dX4_moveDown_1 : decode cX4_moveDown 1 = .ok (.iload_n 2, 1) := by decide +kernel
theorem dX4_moveDown_2 : decode cX4_moveDown 2 = .ok (.isub, 1) := by decide +kernel
theorem dX4_moveDown_3 : decode cX4_moveDown 3 = .ok (.istore_n 3, 1) := by decide +kernel
theorem dX4_moveDown_4 : decode cX4_moveDown 4 = .ok (.iload_n 1, 1) := by decide +kernel
theorem dX4_moveDown_5 : decode cX4_moveDown 5 = .ok (.istore 4, 2) := by decide +kernel
theorem dX4_moveDown_7 : decode cX4_moveDown 7 = .ok (.iload 4, 2) := by decide +kernel
theorem dX4_moveDown_9 : decode cX4_moveDown 9 = .ok (.aload_n 0, 1) := by decide +kernel
theorem dX4_moveDown_10 : decode cX4_moveDown 10 = .ok (.getfield 21, 3) := by decide +kernel
theorem dX4_moveDown_13 : decode cX4_moveDown 13 = .ok (.getfield 58, 3) := by decide +kernel
theorem dX4_moveDown_16 : decode cX4_moveDown 16 = .ok (.if_icmp .ge 22, 3) := by decide +kernel
theorem dX4_moveDown_19 : decode cX4_moveDown 19 = .ok (.aload_n 0, 1) := by decide +kernel
theorem dX4_moveDown_20 : decode cX4_moveDown 20 = .ok (.getfield 21, 3) := by decide +kernel
theorem dX4_moveDown_23 : decode cX4_moveDown 23 = .ok (.iload 4, 2) := by decide +kernel
theorem dX4_moveDown_25 : decode cX4_moveDown 25 = .ok (.iload 4, 2) := by decide +kernel
theorem dX4_moveDown_27 : decode cX4_moveDown 27 = .ok (.iload_n 3, 1) := by decide +kernel
theorem dX4_moveDown_28 : decode cX4_moveDown 28 = .ok (.isub, 1) := by decide +kernel
theorem dX4_moveDown_29 : decode cX4_moveDown 29 = .ok (.invokevirtual 85, 3) := by decide +kernel
theorem dX4_moveDown_32 : decode cX4_moveDown 32 = .ok (.iinc 4 1, 3) := by decide +kernel
theorem dX4_moveDown_35 : decode cX4_moveDown 35 = .ok (.goto (-28), 3) := by decide +kernel
theorem dX4_moveDown_38 : decode cX4_moveDown 38 = .ok (.iload_n 2, 1) := by decide +kernel
theorem dX4_moveDown_39 : decode cX4_moveDown 39 = .ok (.istore 4, 2) := by decide +kernel
theorem dX4_moveDown_41 : decode cX4_moveDown 41 = .ok (.iload 4, 2) := by decide +kernel
theorem dX4_moveDown_43 : decode cX4_moveDown 43 = .ok (.aload_n 0, 1) := by decide +kernel
theorem dX4_moveDown_44 : decode cX4_moveDown 44 = .ok (.getfield 29, 3) := by decide +kernel
theorem dX4_moveDown_47 : decode cX4_moveDown 47 = .ok (.if_icmp .ge 27, 3) := by decide +kernel
theorem dX4_moveDown_50 : decode cX4_moveDown 50 = .ok (.iload 4, 2) := by decide +kernel
theorem dX4_moveDown_52 : decode cX4_moveDown 52 = .ok (.bipush 20, 2) := by decide +kernel
theorem dX4_moveDown_54 : decode cX4_moveDown 54 = .ok (.if_icmp .ge 20, 3) := by decide +kernel
theorem dX4_moveDown_57 : decode cX4_moveDown 57 = .ok (.aload_n 0, 1) := by decide +kernel
theorem dX4_moveDown_58 : decode cX4_moveDown 58 = .ok (.getfield 25, 3) := by decide +kernel
theorem dX4_moveDown_61 : decode cX4_moveDown 61 = .ok (.iload 4, 2) := by decide +kernel
theorem dX4_moveDown_63 : decode cX4_moveDown 63 = .ok (.dup2, 1) := by decide +kernel
theorem dX4_moveDown_64 : decode cX4_moveDown 64 = .ok (.iaload, 1) := by decide +kernel
theorem dX4_moveDown_65 : decode cX4_moveDown 65 = .ok (.iload_n 3, 1) := by decide +kernel
theorem dX4_moveDown_66 : decode cX4_moveDown 66 = .ok (.isub, 1) := by decide +kernel
theorem dX4_moveDown_67 : decode cX4_moveDown 67 = .ok (.iastore, 1) := by decide +kernel
theorem dX4_moveDown_68 : decode cX4_moveDown 68 = .ok (.iinc 4 1, 3) := by decide +kernel
theorem dX4_moveDown_71 : decode cX4_moveDown 71 = .ok (.goto (-30), 3) := by decide +kernel
theorem dX4_moveDown_74 : decode cX4_moveDown 74 = .ok (.aload_n 0, 1) := by decide +kernel
theorem dX4_moveDown_75 : decode cX4_moveDown 75 = .ok (.getfield 21, 3) := by decide +kernel
theorem dX4_moveDown_78 : decode cX4_moveDown 78 = .ok (.aload_n 0, 1) := by decide +kernel
theorem dX4_moveDown_79 : decode cX4_moveDown 79 = .ok (.getfield 21, 3) := by decide +kernel
theorem dX4_moveDown_82 : decode cX4_moveDown 82 = .ok (.getfield 58, 3) := by decide +kernel
theorem dX4_moveDown_85 : decode cX4_moveDown 85 = .ok (.iload_n 3, 1) := by decide +kernel
theorem dX4_moveDown_86 : decode cX4_moveDown 86 = .ok (.isub, 1) := by decide +kernel
theorem dX4_moveDown_87 : decode cX4_moveDown 87 = .ok (.invokevirtual 70, 3) := by decide +kernel
theorem dX4_moveDown_90 : decode cX4_moveDown 90 = .ok (.return_, 1) := by decide +kernel
theorem dX4_turn_0 : decode cX4_turn 0 = .ok (.aload_n 0, 1) := by decide +kernel
theorem dX4_turn_1 : decode cX4_turn 1 = .ok (.getfield 29, 3) := by decide +kernel
theorem dX4_turn_4 : decode cX4_turn 4 = .ok (.iconst 1, 1) := by decide +kernel
theorem dX4_turn_5 : decode cX4_turn 5 = .ok (.isub, 1) := by decide +kernel
theorem dX4_turn_6 : decode cX4_turn 6 = .ok (.istore_n 2, 1) := by decide +kernel
theorem dX4_turn_7 : decode cX4_turn 7 = .ok (.iload_n 1, 1) := by decide +kernel
theorem dX4_turn_8 : decode cX4_turn 8 = .ok (.bipush 8, 2) := by decide +kernel
theorem dX4_turn_10 : decode cX4_turn 10 = .ok (.if_icmp .eq 9, 3) := by decide +kernel
theorem dX4_turn_13 : decode cX4_turn 13 = .ok (.iload_n 1, 1) := by decide +kernel
theorem dX4_turn_14 : decode cX4_turn 14 = .ok (.bipush 9, 2) := by decide +kernel
theorem dX4_turn_16 : decode cX4_turn 16 = .ok (.if_icmp .ne 14, 3) := by decide +kernel
theorem dX4_turn_19 : decode cX4_turn 19 = .ok (.aload_n 0, 1) := by decide +kernel
theorem dX4_turn_20 : decode cX4_turn 20 = .ok (.getfield 21, 3) := by decide +kernel
theorem dX4_turn_23 : decode cX4_turn 23 = .ok (.iload_n 2, 1) := by decide +kernel
theorem dX4_turn_24 : decode cX4_turn 24 = .ok (.iconst 1, 1) := by decide +kernel
theorem dX4_turn_25 : decode cX4_turn 25 = .ok (.isub, 1) := by decide +kernel
theorem dX4_turn_26 : decode cX4_turn 26 = .ok (.iload_n 2, 1) := by decide +kernel
theorem dX4_turn_27 : decode cX4_turn 27 = .ok (.invokevirtual 91, 3) := by decide +kernel
theorem dX4_turn_30 : decode cX4_turn 30 = .ok (.iload_n 1, 1) := by decide +kernel
theorem dX4_turn_31 : decode cX4_turn 31 = .ok (.bipush 7, 2) := by decide +kernel
theorem dX4_turn_33 : decode cX4_turn 33 = .ok (.if_icmp .ne 27, 3) := by decide +kernel
theorem dX4_turn_36 : decode cX4_turn 36 = .ok (.aload_n 0, 1) := by decide +kernel
theorem dX4_turn_37 : decode cX4_turn 37 = .ok (.aload_n 0, 1) := by decide +kernel
theorem dX4_turn_38 : decode cX4_turn 38 = .ok (.getfield 21, 3) := by decide +kernel
theorem dX4_turn_41 : decode cX4_turn 41 = .ok (.iload_n 2, 1) := by decide +kernel
theorem dX4_turn_42 : decode cX4_turn 42 = .ok (.invokevirtual 82, 3) := by decide +kernel
theorem dX4_turn_45 : decode cX4_turn 45 = .ok (.aload_n 0, 1) := by decide +kernel
theorem dX4_turn_46 : decode cX4_turn 46 = .ok (.getfield 21, 3) := by decide +kernel
theorem dX4_turn_49 : decode cX4_turn 49 = .ok (.iload_n 2, 1) := by decide +kernel
theorem dX4_turn_50 : decode cX4_turn 50 = .ok (.invokevirtual 94, 3) := by decide +kernel
theorem dX4_turn_53 : decode cX4_turn 53 = .ok (.iconst 0, 1) := by decide +kernel
theorem dX4_turn_54 : decode cX4_turn 54 = .ok (.invokevirtual 40, 3) := by decide +kernel
theorem dX4_turn_57 : decode cX4_turn 57 = .ok (.goto 34, 3) := by decide +kernel
theorem dX4_turn_60 : decode cX4_turn 60 = .ok (.iload_n 1, 1) := by decide +kernel
theorem dX4_turn_61 : decode cX4_turn 61 = .ok (.bipush 9, 2) := by decide +kernel
theorem dX4_turn_63 : decode cX4_turn 63 = .ok (.if_icmp .ne 28, 3) := by decide +kernel
theorem dX4_turn_66 : decode cX4_turn 66 = .ok (.aload_n 0, 1) := by decide +kernel
theorem dX4_turn_67 : decode cX4_turn 67 = .ok (.aload_n 0, 1) := by decide +kernel
theorem dX4_turn_68 : decode cX4_turn 68 = .ok (.getfield 21, 3) := by decide +kernel
theorem dX4_turn_71 : decode cX4_turn 71 = .ok (.iload_n 2, 1) := by decide +kernel
theorem dX4_turn_72 : decode cX4_turn 72 = .ok (.iconst 1, 1) := by decide +kernel
theorem dX4_turn_73 : decode cX4_turn 73 = .ok (.isub, 1) := by decide +kernel
theorem dX4_turn_74 : decode cX4_turn 74 = .ok (.invokevirtual 82, 3) := by decide +kernel
theorem dX4_turn_77 : decode cX4_turn 77 = .ok (.aload_n 0, 1) := by decide +kernel
theorem dX4_turn_78 : decode cX4_turn 78 = .ok (.getfield 21, 3) := by decide +kernel
theorem dX4_turn_81 : decode cX4_turn 81 = .ok (.iload_n 2, 1) := by decide +kernel
theorem dX4_turn_82 : decode cX4_turn 82 = .ok (.iconst 1, 1) := by decide +kernel
theorem dX4_turn_83 : decode cX4_turn 83 = .ok (.isub, 1) := by decide +kernel
theorem dX4_turn_84 : decode cX4_turn 84 = .ok (.invokevirtual 94, 3) := by decide +kernel
theorem dX4_turn_87 : decode cX4_turn 87 = .ok (.iconst 0, 1) := by decide +kernel
theorem dX4_turn_88 : decode cX4_turn 88 = .ok (.invokevirtual 40, 3) := by decide +kernel
theorem dX4_turn_91 : decode cX4_turn 91 = .ok (.return_, 1) := by decide +kernel
