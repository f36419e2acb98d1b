theorem dX5_init_0 : decode cX5_init 0 = .ok (.aload_n 0, 1) := by decide +kernel
theorem dX5_init_1 : decode cX5_init 1 = .ok (.invokespecial 3, 3) := by decide +kernel
theorem dX5_init_4 : decode cX5_init 4 = .ok (.aload_n 0, 1) := by decide +kernel
theorem dX5_init_5 : decode cX5_init 5 = .ok (.new 9, 3) := by decide +kernel
theorem dX5_init_8 : decode cX5_init 8 = .ok (.dup, 1) := by decide +kernel
theorem dX5_init_9 : decode cX5_init 9 = .ok (.invokespecial 11, 3) := by decide +kernel
theorem dX5_init_12 : decode cX5_init 12 = .ok (.putfield 12, 3) := by decide +kernel
theorem dX5_init_15 : decode cX5_init 15 = .ok (.aload_n 0, 1) := by decide +kernel
theorem dX5_init_16 : decode cX5_init 16 = .ok (.new 16, 3) := by decide +kernel
theorem dX5_init_19 : decode cX5_init 19 = .ok (.dup, 1) := by decide +kernel
theorem dX5_init_20 : decode cX5_init 20 = .ok (.invokespecial 18, 3) := by decide +kernel
theorem dX5_init_23 : decode cX5_init 23 = .ok (.putfield 19, 3) := by decide +kernel
theorem dX5_init_26 : decode cX5_init 26 = .ok (.aload_n 0, 1) := by decide +kernel
theorem dX5_init_27 : decode cX5_init 27 = .ok (.aload_n 0, 1) := by decide +kernel
theorem dX5_init_28 : decode cX5_init 28 = .ok (.getfield 19, 3) := by decide +kernel
theorem dX5_init_31 : decode cX5_init 31 = .ok (.getfield 23, 3) := by decide +kernel
theorem dX5_init_34 : decode cX5_init 34 = .ok (.putfield 27, 3) := by decide +kernel
theorem dX5_init_37 : decode cX5_init 37 = .ok (.aload_n 0, 1) := by decide +kernel
theorem dX5_init_38 : decode cX5_init 38 = .ok (.bipush 10, 2) := by decide +kernel
theorem dX5_init_40 : decode cX5_init 40 = .ok (.newarray .long, 2) := by decide +kernel
theorem dX5_init_42 : decode cX5_init 42 = .ok (.putfield 28, 3) := by decide +kernel
theorem dX5_init_45 : decode cX5_init 45 = .ok (.aload_n 0, 1) := by decide +kernel
theorem dX5_init_46 : decode cX5_init 46 = .ok (.new 32, 3) := by decide +kernel
theorem dX5_init_49 : decode cX5_init 49 = .ok (.dup, 1) := by decide +kernel
theorem dX5_init_50 : decode cX5_init 50 = .ok (.invokespecial 34, 3) := by decide +kernel
theorem dX5_init_53 : decode cX5_init 53 = .ok (.putfield 35, 3) := by decide +kernel
theorem dX5_init_56 : decode cX5_init 56 = .ok (.aload_n 0, 1) := by decide +kernel
theorem dX5_init_57 : decode cX5_init 57 = .ok (.new 32, 3) := by decide +kernel
theorem dX5_init_60 : decode cX5_init 60 = .ok (.dup, 1) := by decide +kernel
theorem dX5_init_61 : decode cX5_init 61 = .ok (.invokespecial 34, 3) := by decide +kernel
theorem dX5_init_64 : decode cX5_init 64 = .ok (.putfield 39, 3) := by decide +kernel
theorem dX5_init_67 : decode cX5_init 67 = .ok (.aload_n 0, 1) := by decide +kernel
theorem dX5_init_68 : decode cX5_init 68 = .ok (.new 42, 3) := by decide +kernel
theorem dX5_init_71 : decode cX5_init 71 = .ok (.dup, 1) := by decide +kernel
theorem dX5_init_72 : decode cX5_init 72 = .ok (.invokespecial 44, 3) := by decide +kernel
theorem dX5_init_75 : decode cX5_init 75 = .ok (.putfield 45, 3) := by decide +kernel
theorem dX5_init_78 : decode cX5_init 78 = .ok (.return_, 1) := by decide +kernel
theorem dX5_act_0 : decode cX5_act 0 = .ok (.iload_n 1, 1) := by decide +kernel
theorem dX5_act_1 : decode cX5_act 1 = .ok (.iload_n 2, 1) := by decide +kernel
theorem dX5_act_2 : decode cX5_act 2 = .ok (.invokestatic 49, 3) := by decide +kernel
theorem dX5_act_5 : decode cX5_act 5 = .ok (.ifCond .ne 13, 3) := by decide +kernel
theorem dX5_act_8 : decode cX5_act 8 = .ok (.new 53, 3) := by decide +kernel
theorem dX5_act_11 : decode cX5_act 11 = .ok (.dup, 1) := by decide +kernel
theorem dX5_act_12 : decode cX5_act 12 = .ok (.ldc 55, 2) := by decide +kernel
theorem dX5_act_14 : decode cX5_act 14 = .ok (.invokespecial 57, 3) := by decide +kernel
theorem dX5_act_17 : decode cX5_act 17 = .ok (.athrow, 1) := by decide +kernel
theorem dX5_act_18 : decode cX5_act 18 = .ok (.aload_n 0, 1) := by decide +kernel
theorem dX5_act_19 : decode cX5_act 19 = .ok (.getfield 12, 3) := by decide +kernel
theorem dX5_act_22 : decode cX5_act 22 = .ok (.getfield 60, 3) := by decide +kernel
theorem dX5_act_25 : decode cX5_act 25 = .ok (.bipush 100, 2) := by decide +kernel
theorem dX5_act_27 : decode cX5_act 27 = .ok (.if_icmp .ge 12, 3) := by decide +kernel
theorem dX5_act_30 : decode cX5_act 30 = .ok (.aload_n 0, 1) := by decide +kernel
theorem dX5_act_31 : decode cX5_act 31 = .ok (.iload_n 1, 1) := by decide +kernel
theorem dX5_act_32 : decode cX5_act 32 = .ok (.iload_n 2, 1) := by decide +kernel
theorem dX5_act_33 : decode cX5_act 33 = .ok (.invokevirtual 64, 3) := by decide +kernel
theorem dX5_act_36 : decode cX5_act 36 = .ok (.ifCond .ne 13, 3) := by decide +kernel
theorem dX5_act_39 : decode cX5_act 39 = .ok (.new 67, 3) := by decide +kernel
theorem dX5_act_42 : decode cX5_act 42 = .ok (.dup, 1) := by decide +kernel
theorem dX5_act_43 : decode cX5_act 43 = .ok (.ldc 69, 2) := by decide +kernel
theorem dX5_act_45 : decode cX5_act 45 = .ok (.invokespecial 71, 3) := by decide +kernel
theorem dX5_act_48 : decode cX5_act 48 = .ok (.athrow, 1) := by decide +kernel
theorem dX5_act_49 : decode cX5_act 49 = .ok (.aload_n 0, 1) := by decide +kernel
theorem dX5_act_50 : decode cX5_act 50 = .ok (.getfield 12, 3) := by decide +kernel
theorem dX5_act_53 : decode cX5_act 53 = .ok (.iload_n 1, 1) := by decide +kernel
theorem dX5_act_54 : decode cX5_act 54 = .ok (.iload_n 2, 1) := by decide +kernel
theorem dX5_act_55 : decode cX5_act 55 = .ok (.invokevirtual 72, 3) := by decide +kernel
theorem dX5_act_58 : decode cX5_act 58 = .ok (.aload_n 0, 1) := by decide +kernel
theorem dX5_act_59 : decode cX5_act 59 = .ok (.getfield 19, 3) := by decide +kernel
theorem dX5_act_62 : decode cX5_act 62 = .ok (.iload_n 1, 1) := by decide +kernel
theorem dX5_act_63 : decode cX5_act 63 = .ok (.iload_n 2, 1) := by decide +kernel
theorem dX5_act_64 : decode cX5_act 64 = .ok (.invokevirtual 76, 3) := by decide +kernel
theorem dX5_act_67 : decode cX5_act 67 = .ok (.aload_n 0, 1) := by decide +kernel
theorem dX5_act_68 : decode cX5_act 68 = .ok (.getfield 12, 3) := by decide +kernel
theorem dX5_act_71 : decode cX5_act 71 = .ok (.getfield 60, 3) := by decide +kernel
theorem dX5_act_74 : decode cX5_act 74 = .ok (.ireturn, 1) := by decide +kernel
theorem dX5_line_0 : decode cX5_line 0 = .ok (.iload_n 1, 1) := by decide +kernel
theorem dX5_line_1 : decode cX5_line 1 = .ok (.ifCond .lt 14, 3) := by decide +kernel
theorem dX5_line_4 : decode cX5_line 4 = .ok (.iload_n 1, 1) := by decide +kernel
theorem dX5_line_5 : decode cX5_line 5 = .ok (.aload_n 0, 1) := by decide +kernel
theorem dX5_line_6 : decode cX5_line 6 = .ok (.getfield 27, 3) := by decide +kernel
theorem dX5_line_9 : decode cX5_line 9 = .ok (.getfield 79, 3) := by decide +kernel
theorem dX5_line_12 : decode cX5_line 12 = .ok (.if_icmp .lt 5, 3) := by decide +kernel
theorem dX5_line_15 : decode cX5_line 15 = .ok (.iconst (-1), 1) := by decide +kernel
theorem dX5_line_16 : decode cX5_line 16 = .ok (.ireturn, 1) := by decide +kernel
theorem dX5_line_17 : decode cX5_line 17 = .ok (.aload_n 0, 1) := by decide +kernel
theorem dX5_line_18 : decode cX5_line 18 = .ok (.getfield 45, 3) := by decide +kernel
theorem dX5_line_21 : decode cX5_line 21 = .ok (.aload_n 0, 1) := by decide +kernel
theorem dX5_line_22 : decode cX5_line 22 = .ok (.getfield 27, 3) := by decide +kernel
theorem dX5_line_25 : decode cX5_line 25 = .ok (.getfield 82, 3) := by decide +kernel
theorem dX5_line_28 : decode cX5_line 28 = .ok (.aload_n 0, 1) := by decide +kernel
theorem dX5_line_29 : decode cX5_line 29 = .ok (.getfield 27, 3) := by decide +kernel
theorem dX5_line_32 : decode cX5_line 32 = .ok (.iload_n 1, 1) := by decide +kernel
theorem dX5_line_33 : decode cX5_line 33 = .ok (.invokevirtual 85, 3) := by decide +kernel
theorem dX5_line_36 : decode cX5_line 36 = .ok (.iconst 1, 1) := by decide +kernel
theorem dX5_line_37 : decode cX5_line 37 = .ok (.isub, 1) := by decide +kernel
theorem dX5_line_38 : decode cX5_line 38 = .ok (.invokevirtual 89, 3) := by decide +kernel
theorem dX5_line_41 : decode cX5_line 41 = .ok (.aload_n 0, 1) := by decide +kernel
theorem dX5_line_42 : decode cX5_line 42 = .ok (.getfield 45, 3) := by decide +kernel
theorem dX5_line_45 : decode cX5_line 45 = .ok (.iload_n 2, 1) := by decide +kernel
theorem dX5_line_46 : decode cX5_line 46 = .ok (.invokevirtual 93, 3) := by decide +kernel
theorem dX5_line_49 : decode cX5_line 49 = .ok (.ireturn, 1) := by decide +kernel
theorem dX5_term_0 : decode cX5_term 0 = .ok (.iload_n 1, 1) := by decide +kernel
theorem dX5_term_1 : decode cX5_term 1 = .ok (.ifCond .lt 14, 3) := by decide +kernel
theorem dX5_term_4 : decode cX5_term 4 = .ok (.iload_n 1, 1) := by decide +kernel
theorem dX5_term_5 : decode cX5_term 5 = .ok (.aload_n 0, 1) := by decide +kernel
theorem dX5_term_6 : decode cX5_term 6 = .ok (.getfield 19, 3) := by decide +kernel
theorem dX5_term_9 : decode cX5_term 9 = .ok (.getfield 96, 3) := by decide +kernel
theorem dX5_term_12 : decode cX5_term 12 = .ok (.if_icmp .lt 5, 3) := by decide +kernel
theorem dX5_term_15 : decode cX5_term 15 = .ok (.iconst (-1), 1) := by decide +kernel
theorem dX5_term_16 : decode cX5_term 16 = .ok (.ireturn, 1) := by decide +kernel
theorem dX5_term_17 : decode cX5_term 17 = .ok (.aload_n 0, 1) := by decide +kernel
theorem dX5_term_18 : decode cX5_term 18 = .ok (.getfield 45, 3) := by decide +kernel
theorem dX5_term_21 : decode cX5_term 21 = .ok (.aload_n 0, 1) := by decide +kernel
theorem dX5_term_22 : decode cX5_term 22 = .ok (.getfield 19, 3) := by decide +kernel
theorem dX5_term_25 : decode cX5_term 25 = .ok (.getfield 97, 3) := by decide +kernel
theorem dX5_term_28 : decode cX5_term 28 = .ok (.aload_n 0, 1) := by decide +kernel
theorem dX5_term_29 : decode cX5_term 29 = .ok (.getfield 19, 3) := by decide +kernel
theorem dX5_term_32 : decode cX5_term 32 = .ok (.iload_n 1, 1) := by decide +kernel
theorem dX5_term_33 : decode cX5_term 33 = .ok (.invokevirtual 98, 3) := by decide +kernel
theorem dX5_term_36 : decode cX5_term 36 = .ok (.iconst 1, 1) := by decide +kernel
theorem dX5_term_37 : decode cX5_term 37 = .ok (.isub, 1) := by decide +kernel
theorem dX5_term_38 : decode cX5_term 38 = .ok (.invokevirtual 99, 3) := by decide +kernel
theorem dX5_term_41 : decode cX5_term 41 = .ok (.aload_n 0, 1) := by decide +kernel
theorem dX5_term_42 : decode cX5_term 42 = .ok (.getfield 45, 3) := by decide +kernel
theorem dX5_term_45 : decode cX5_term 45 = .ok (.iload_n 2, 1) := by decide +kernel
theorem dX5_term_46 : decode cX5_term 46 = .ok (.invokevirtual 93, 3) := by decide +kernel
theorem dX5_term_49 : decode cX5_term 49 = .ok (.ireturn, 1) := by decide +kernel
theorem dX5_give_0 : decode cX5_give 0 = .ok (.iload_n 1, 1) := by decide +kernel
theorem dX5_give_1 : decode cX5_give 1 = .ok (.invokestatic 102, 3) := by decide +kernel
theorem dX5_give_4 : decode cX5_give 4 = .ok (.ifCond .ne 5, 3) := by decide +kernel
theorem dX5_give_7 : decode cX5_give 7 = .ok (.iconst 0, 1) := by decide +kernel
theorem dX5_give_8 : decode cX5_give 8 = .ok (.ireturn, 1) := by decide +kernel
theorem dX5_give_9 : decode cX5_give 9 = .ok (.aload_n 0, 1) := by decide +kernel
theorem dX5_give_10 : decode cX5_give 10 = .ok (.getfield 28, 3) := by decide +kernel
theorem dX5_give_13 : decode cX5_give 13 = .ok (.iload_n 1, 1) := by decide +kernel
theorem dX5_give_14 : decode cX5_give 14 = .ok (.lload_n 2, 1) := by decide +kernel
theorem dX5_give_15 : decode cX5_give 15 = .ok (.lastore, 1) := by decide +kernel
theorem dX5_give_16 : decode cX5_give 16 = .ok (.iconst 1, 1) := by decide +kernel
theorem dX5_give_17 : decode cX5_give 17 = .ok (.ireturn, 1) := by decide +kernel
theorem dX5_run_0 : decode cX5_run 0 = .ok (.iload_n 1, 1) := by decide +kernel
theorem dX5_run_1 : decode cX5_run 1 = .ok (.invokestatic 106, 3) := by decide +kernel
theorem dX5_run_4 : decode cX5_run 4 = .ok (.ifCond .ne 13, 3) := by decide +kernel
theorem dX5_run_7 : decode cX5_run 7 = .ok (.new 53, 3) := by decide +kernel
theorem dX5_run_10 : decode cX5_run 10 = .ok (.dup, 1) := by decide +kernel
theorem dX5_run_11 : decode cX5_run 11 = .ok (.ldc 109, 2) := by decide +kernel
theorem dX5_run_13 : decode cX5_run 13 = .ok (.invokespecial 57, 3) := by decide +kernel
theorem dX5_run_16 : decode cX5_run 16 = .ok (.athrow, 1) := by decide +kernel
theorem dX5_run_17 : decode cX5_run 17 = .ok (.aload_n 0, 1) := by decide +kernel
theorem dX5_run_18 : decode cX5_run 18 = .ok (.iload_n 1, 1) := by decide +kernel
theorem dX5_run_19 : decode cX5_run 19 = .ok (.invokevirtual 111, 3) := by decide +kernel
theorem dX5_run_22 : decode cX5_run 22 = .ok (.astore_n 2, 1) := by decide +kernel
theorem dX5_run_23 : decode cX5_run 23 = .ok (.aload_n 2, 1) := by decide +kernel
theorem dX5_run_24 : decode cX5_run 24 = .ok (.aload_n 0, 1) := by decide +kernel
theorem dX5_run_25 : decode cX5_run 25 = .ok (.getfield 28, 3) := by decide +kernel
theorem dX5_run_28 : decode cX5_run 28 = .ok (.invokevirtual 115, 3) := by decide +kernel
theorem dX5_run_31 : decode cX5_run 31 = .ok (.iload_n 1, 1) := by decide +kernel
theorem dX5_run_32 : decode cX5_run 32 = .ok (.ifCond .ne 14, 3) := by decide +kernel
theorem dX5_run_35 : decode cX5_run 35 = .ok (.aload_n 2, 1) := by decide +kernel
theorem dX5_run_36 : decode cX5_run 36 = .ok (.aload_n 0, 1) := by decide +kernel
theorem dX5_run_37 : decode cX5_run 37 = .ok (.getfield 12, 3) := by decide +kernel
theorem dX5_run_40 : decode cX5_run 40 = .ok (.invokevirtual 119, 3) := by decide +kernel
theorem dX5_run_43 : decode cX5_run 43 = .ok (.goto 36, 3) := by decide +kernel
theorem dX5_run_46 : decode cX5_run 46 = .ok (.aload_n 2, 1) := by decide +kernel
theorem dX5_run_47 : decode cX5_run 47 = .ok (.aload_n 0, 1) := by decide +kernel
theorem dX5_run_48 : decode cX5_run 48 = .ok (.getfield 27, 3) := by decide +kernel
theorem dX5_run_51 : decode cX5_run 51 = .ok (.getfield 82, 3) := by decide +kernel
theorem dX5_run_54 : decode cX5_run 54 = .ok (.invokevirtual 119, 3) := by decide +kernel
theorem dX5_run_57 : decode cX5_run 57 = .ok (.ifCond .eq 21, 3) := by decide +kernel
theorem dX5_run_60 : decode cX5_run 60 = .ok (.aload_n 2, 1) := by decide +kernel
theorem dX5_run_61 : decode cX5_run 61 = .ok (.aload_n 0, 1) := by decide +kernel
theorem dX5_run_62 : decode cX5_run 62 = .ok (.getfield 19, 3) := by decide +kernel
theorem dX5_run_65 : decode cX5_run 65 = .ok (.getfield 97, 3) := by decide +kernel
theorem dX5_run_68 : decode cX5_run 68 = .ok (.invokevirtual 119, 3) := by decide +kernel
theorem dX5_run_71 : decode cX5_run 71 = .ok (.ifCond .eq 7, 3) := by decide +kernel
theorem dX5_run_74 : decode cX5_run 74 = .ok (.iconst 1, 1) := by decide +kernel
theorem dX5_run_75 : decode cX5_run 75 = .ok (.goto 4, 3) := by decide +kernel
theorem dX5_run_78 : decode cX5_run 78 = .ok (.iconst 0, 1) := by decide +kernel
theorem dX5_run_79 : decode cX5_run 79 = .ok (.istore_n 3, 1) := by decide +kernel
theorem dX5_run_80 : decode cX5_run 80 = .ok (.iload_n 3, 1) := by decide +kernel
theorem dX5_run_81 : decode cX5_run 81 = .ok (.ifCond .eq 7, 3) := by decide +kernel
theorem dX5_run_84 : decode cX5_run 84 = .ok (.iconst 0, 1) := by decide +kernel
theorem dX5_run_85 : decode cX5_run 85 = .ok (.goto 9, 3) := by decide +kernel
theorem dX5_run_88 : decode cX5_run 88 = .ok (.aload_n 2, 1) := by decide +kernel
theorem dX5_run_89 : decode cX5_run 89 = .ok (.getfield 123, 3) := by decide +kernel
theorem dX5_run_92 : decode cX5_run 92 = .ok (.iconst 1, 1) := by decide +kernel
theorem dX5_run_93 : decode cX5_run 93 = .ok (.iadd, 1) := by decide +kernel
theorem dX5_run_94 : decode cX5_run 94 = .ok (.ireturn, 1) := by decide +kernel
theorem dX5_value_0 : decode cX5_value 0 = .ok (.iload_n 1, 1) := by decide +kernel
theorem dX5_value_1 : decode cX5_value 1 = .ok (.invokestatic 106, 3) := by decide +kernel
theorem dX5_value_4 : decode cX5_value 4 = .ok (.ifCond .eq 10, 3) := by decide +kernel
theorem dX5_value_7 : decode cX5_value 7 = .ok (.iload_n 2, 1) := by decide +kernel
theorem dX5_value_8 : decode cX5_value 8 = .ok (.invokestatic 102, 3) := by decide +kernel
theorem dX5_value_11 : decode cX5_value 11 = .ok (.ifCond .ne 13, 3) := by decide +kernel
theorem dX5_value_14 : decode cX5_value 14 = .ok (.new 126, 3) := by decide +kernel
theorem dX5_value_17 : decode cX5_value 17 = .ok (.dup, 1) := by decide +kernel
theorem dX5_value_18 : decode cX5_value 18 = .ok (.ldc 128, 2) := by decide +kernel
theorem dX5_value_20 : decode cX5_value 20 = .ok (.invokespecial 130, 3) := by decide +kernel
theorem dX5_value_23 : decode cX5_value 23 = .ok (.athrow, 1) := by decide +kernel
theorem dX5_value_24 : decode cX5_value 24 = .ok (.aload_n 0, 1) := by decide +kernel
theorem dX5_value_25 : decode cX5_value 25 = .ok (.iload_n 1, 1) := by decide +kernel
theorem dX5_value_26 : decode cX5_value 26 = .ok (.invokevirtual 111, 3) := by decide +kernel
theorem dX5_value_29 : decode cX5_value 29 = .ok (.astore_n 3, 1) := by decide +kernel
theorem dX5_value_30 : decode cX5_value 30 = .ok (.aload_n 3, 1) := by decide +kernel
theorem dX5_value_31 : decode cX5_value 31 = .ok (.getfield 131, 3) := by decide +kernel
theorem dX5_value_34 : decode cX5_value 34 = .ok (.ifCond .eq 12, 3) := by decide +kernel
theorem dX5_value_37 : decode cX5_value 37 = .ok (.aload_n 3, 1) := by decide +kernel
theorem dX5_value_38 : decode cX5_value 38 = .ok (.getfield 135, 3) := by decide +kernel
theorem dX5_value_41 : decode cX5_value 41 = .ok (.iload_n 2, 1) := by decide +kernel
theorem dX5_value_42 : decode cX5_value 42 = .ok (.laload, 1) := by decide +kernel
theorem dX5_value_43 : decode cX5_value 43 = .ok (.goto 9, 3) := by decide +kernel
theorem dX5_value_46 : decode cX5_value 46 = .ok (.aload_n 0, 1) := by decide +kernel
theorem dX5_value_47 : decode cX5_value 47 = .ok (.getfield 28, 3) := by decide +kernel
theorem dX5_value_50 : decode cX5_value 50 = .ok (.iload_n 2, 1) := by decide +kernel
theorem dX5_value_51 : decode cX5_value 51 = .ok (.laload, 1) := by decide +kernel
theorem dX5_value_52 : decode cX5_value 52 = .ok (.lreturn, 1) := by decide +kernel
theorem dX5_left_0 : decode cX5_left 0 = .ok (.iload_n 1, 1) := by decide +kernel
theorem dX5_left_1 : decode cX5_left 1 = .ok (.invokestatic 106, 3) := by decide +kernel
theorem dX5_left_4 : decode cX5_left 4 = .ok (.ifCond .ne 13, 3) := by decide +kernel
theorem dX5_left_7 : decode cX5_left 7 = .ok (.new 126, 3) := by decide +kernel
theorem dX5_left_10 : decode cX5_left 10 = .ok (.dup, 1) := by decide +kernel
theorem dX5_left_11 : decode cX5_left 11 = .ok (.ldc 109, 2) := by decide +kernel
theorem dX5_left_13 : decode cX5_left 13 = .ok (.invokespecial 130, 3) := by decide +kernel
theorem dX5_left_16 : decode cX5_left 16 = .ok (.athrow, 1) := by decide +kernel
theorem dX5_left_17 : decode cX5_left 17 = .ok (.aload_n 0, 1) := by decide +kernel
theorem dX5_left_18 : decode cX5_left 18 = .ok (.iload_n 1, 1) := by decide +kernel
theorem dX5_left_19 : decode cX5_left 19 = .ok (.invokevirtual 111, 3) := by decide +kernel
theorem dX5_left_22 : decode cX5_left 22 = .ok (.astore_n 3, 1) := by decide +kernel
theorem dX5_left_23 : decode cX5_left 23 = .ok (.iload_n 2, 1) := by decide +kernel
theorem dX5_left_24 : decode cX5_left 24 = .ok (.ifCond .lt 11, 3) := by decide +kernel
theorem dX5_left_27 : decode cX5_left 27 = .ok (.iload_n 2, 1) := by decide +kernel
theorem dX5_left_28 : decode cX5_left 28 = .ok (.aload_n 3, 1) := by decide +kernel
theorem dX5_left_29 : decode cX5_left 29 = .ok (.getfield 138, 3) := by decide +kernel
theorem dX5_left_32 : decode cX5_left 32 = .ok (.if_icmp .lt 13, 3) := by decide +kernel
theorem dX5_left_35 : decode cX5_left 35 = .ok (.new 126, 3) := by decide +kernel
theorem dX5_left_38 : decode cX5_left 38 = .ok (.dup, 1) := by decide +kernel
theorem dX5_left_39 : decode cX5_left 39 = .ok (.ldc 139, 2) := by decide +kernel
theorem dX5_left_41 : decode cX5_left 41 = .ok (.invokespecial 130, 3) := by decide +kernel
theorem dX5_left_44 : decode cX5_left 44 = .ok (.athrow, 1) := by decide +kernel
theorem dX5_left_45 : decode cX5_left 45 = .ok (.aload_n 3, 1) := by decide +kernel
theorem dX5_left_46 : decode cX5_left 46 = .ok (.getfield 141, 3) := by decide +kernel
theorem dX5_left_49 : decode cX5_left 49 = .ok (.iload_n 2, 1) := by decide +kernel
theorem dX5_left_50 : decode cX5_left 50 = .ok (.laload, 1) := by decide +kernel
theorem dX5_left_51 : decode cX5_left 51 = .ok (.lreturn, 1) := by decide +kernel
theorem dX5_count_0 : decode cX5_count 0 = .ok (.iload_n 1, 1) := by decide +kernel
theorem dX5_count_1 : decode cX5_count 1 = .ok (.tableswitch 87 0 5 #[39, 47, 55, 63, 71, 79], 39) := by decide +kernel
theorem dX5_count_40 : decode cX5_count 40 = .ok (.aload_n 0, 1) := by decide +kernel
theorem dX5_count_41 : decode cX5_count 41 = .ok (.getfield 12, 3) := by decide +kernel
theorem dX5_count_44 : decode cX5_count 44 = .ok (.getfield 60, 3) := by decide +kernel
theorem dX5_count_47 : decode cX5_count 47 = .ok (.ireturn, 1) := by decide +kernel
theorem dX5_count_48 : decode cX5_count 48 = .ok (.aload_n 0, 1) := by decide +kernel
theorem dX5_count_49 : decode cX5_count 49 = .ok (.getfield 27, 3) := by decide +kernel
theorem dX5_count_52 : decode cX5_count 52 = .ok (.getfield 79, 3) := by decide +kernel
theorem dX5_count_55 : decode cX5_count 55 = .ok (.ireturn, 1) := by decide +kernel
theorem dX5_count_56 : decode cX5_count 56 = .ok (.aload_n 0, 1) := by decide +kernel
theorem dX5_count_57 : decode cX5_count 57 = .ok (.getfield 19, 3) := by decide +kernel
theorem dX5_count_60 : decode cX5_count 60 = .ok (.getfield 144, 3) := by decide +kernel
theorem dX5_count_63 : decode cX5_count 63 = .ok (.ireturn, 1) := by decide +kernel
theorem dX5_count_64 : decode cX5_count 64 = .ok (.aload_n 0, 1) := by decide +kernel
theorem dX5_count_65 : decode cX5_count 65 = .ok (.getfield 19, 3) := by decide +kernel
theorem dX5_count_68 : decode cX5_count 68 = .ok (.getfield 96, 3) := by decide +kernel
theorem dX5_count_71 : decode cX5_count 71 = .ok (.ireturn, 1) := by decide +kernel
theorem dX5_count_72 : decode cX5_count 72 = .ok (.aload_n 0, 1) := by decide +kernel
theorem dX5_count_73 : decode cX5_count 73 = .ok (.getfield 35, 3) := by decide +kernel
theorem dX5_count_76 : decode cX5_count 76 = .ok (.getfield 123, 3) := by decide +kernel
theorem dX5_count_79 : decode cX5_count 79 = .ok (.ireturn, 1) := by decide +kernel
theorem dX5_count_80 : decode cX5_count 80 = .ok (.aload_n 0, 1) := by decide +kernel
theorem dX5_count_81 : decode cX5_count 81 = .ok (.getfield 39, 3) := by decide +kernel
theorem dX5_count_84 : decode cX5_count 84 = .ok (.getfield 123, 3) := by decide +kernel
theorem dX5_count_87 : decode cX5_count 87 = .ok (.ireturn, 1) := by decide +kernel
theorem dX5_count_88 : decode cX5_count 88 = .ok (.iconst (-1), 1) := by decide +kernel
theorem dX5_count_89 : decode cX5_count 89 = .ok (.ireturn, 1) := by decide +kernel
theorem dX5_machineOf_0 : decode cX5_machineOf 0 = .ok (.iload_n 1, 1) := by decide +kernel
theorem dX5_machineOf_1 : decode cX5_machineOf 1 = .ok (.ifCond .ne 10, 3) := by decide +kernel
theorem dX5_machineOf_4 : decode cX5_machineOf 4 = .ok (.aload_n 0, 1) := by decide +kernel
theorem dX5_machineOf_5 : decode cX5_machineOf 5 = .ok (.getfield 35, 3) := by decide +kernel
theorem dX5_machineOf_8 : decode cX5_machineOf 8 = .ok (.goto 7, 3) := by decide +kernel
theorem dX5_machineOf_11 : decode cX5_machineOf 11 = .ok (.aload_n 0, 1) := by decide +kernel
theorem dX5_machineOf_12 : decode cX5_machineOf 12 = .ok (.getfield 39, 3) := by decide +kernel
theorem dX5_machineOf_15 : decode cX5_machineOf 15 = .ok (.areturn, 1) := by decide +kernel
theorem dX5_canBeDone_0 : decode cX5_canBeDone 0 = .ok (.aload_n 0, 1) := by decide +kernel
theorem dX5_canBeDone_1 : decode cX5_canBeDone 1 = .ok (.getfield 19, 3) := by decide +kernel
theorem dX5_canBeDone_4 : decode cX5_canBeDone 4 = .ok (.getfield 96, 3) := by decide +kernel
theorem dX5_canBeDone_7 : decode cX5_canBeDone 7 = .ok (.iload_n 1, 1) := by decide +kernel
theorem dX5_canBeDone_8 : decode cX5_canBeDone 8 = .ok (.iload_n 2, 1) := by decide +kernel
theorem dX5_canBeDone_9 : decode cX5_canBeDone 9 = .ok (.invokestatic 147, 3) := by decide +kernel
theorem dX5_canBeDone_12 : decode cX5_canBeDone 12 = .ok (.isub, 1) := by decide +kernel
theorem dX5_canBeDone_13 : decode cX5_canBeDone 13 = .ok (.istore_n 3, 1) := by decide +kernel
theorem dX5_canBeDone_14 : decode cX5_canBeDone 14 = .ok (.iload_n 3, 1) := by decide +kernel
theorem dX5_canBeDone_15 : decode cX5_canBeDone 15 = .ok (.ifCond .lt 19, 3) := by decide +kernel
theorem dX5_canBeDone_18 : decode cX5_canBeDone 18 = .ok (.iload_n 3, 1) := by decide +kernel
theorem dX5_canBeDone_19 : decode cX5_canBeDone 19 = .ok (.getstatic 151, 3) := by decide +kernel
theorem dX5_canBeDone_22 : decode cX5_canBeDone 22 = .ok (.iload_n 1, 1) := by decide +kernel
theorem dX5_canBeDone_23 : decode cX5_canBeDone 23 = .ok (.iaload, 1) := by decide +kernel
theorem dX5_canBeDone_24 : decode cX5_canBeDone 24 = .ok (.iadd, 1) := by decide +kernel
theorem dX5_canBeDone_25 : decode cX5_canBeDone 25 = .ok (.bipush 20, 2) := by decide +kernel
theorem dX5_canBeDone_27 : decode cX5_canBeDone 27 = .ok (.if_icmp .gt 7, 3) := by decide +kernel
theorem dX5_canBeDone_30 : decode cX5_canBeDone 30 = .ok (.iconst 1, 1) := by decide +kernel
theorem dX5_canBeDone_31 : decode cX5_canBeDone 31 = .ok (.goto 4, 3) := by decide +kernel
theorem dX5_canBeDone_34 : decode cX5_canBeDone 34 = .ok (.iconst 0, 1) := by decide +kernel
theorem dX5_canBeDone_35 : decode cX5_canBeDone 35 = .ok (.ireturn, 1) := by decide +kernel
theorem dX5_isSide_0 : decode cX5_isSide 0 = .ok (.iload_n 0, 1) := by decide +kernel
theorem dX5_isSide_1 : decode cX5_isSide 1 = .ok (.ifCond .eq 8, 3) := by decide +kernel
theorem dX5_isSide_4 : decode cX5_isSide 4 = .ok (.iload_n 0, 1) := by decide +kernel
theorem dX5_isSide_5 : decode cX5_isSide 5 = .ok (.iconst 1, 1) := by decide +kernel
theorem dX5_isSide_6 : decode cX5_isSide 6 = .ok (.if_icmp .ne 7, 3) := by decide +kernel
theorem dX5_isSide_9 : decode cX5_isSide 9 = .ok (.iconst 1, 1) := by decide +kernel
theorem dX5_isSide_10 : decode cX5_isSide 10 = .ok (.goto 4, 3) := by decide +kernel
theorem dX5_isSide_13 : decode cX5_isSide 13 = .ok (.iconst 0, 1) := by decide +kernel
theorem dX5_isSide_14 : decode cX5_isSide 14 = .ok (.ireturn, 1) := by decide +kernel
theorem dX5_isVariable_0 : decode cX5_isVariable 0 = .ok (.iload_n 0, 1) := by decide +kernel
theorem dX5_isVariable_1 : decode cX5_isVariable 1 = .ok (.ifCond .lt 13, 3) := by decide +kernel
theorem dX5_isVariable_4 : decode cX5_isVariable 4 = .ok (.iload_n 0, 1) := by decide +kernel
theorem dX5_isVariable_5 : decode cX5_isVariable 5 = .ok (.bipush 10, 2) := by decide +kernel
theorem dX5_isVariable_7 : decode cX5_isVariable 7 = .ok (.if_icmp .ge 7, 3) := by decide +kernel
theorem dX5_isVariable_10 : decode cX5_isVariable 10 = .ok (.iconst 1, 1) := by decide +kernel
theorem dX5_isVariable_11 : decode cX5_isVariable 11 = .ok (.goto 4, 3) := by decide +kernel
theorem dX5_isVariable_14 : decode cX5_isVariable 14 = .ok (.iconst 0, 1) := by decide +kernel
theorem dX5_isVariable_15 : decode cX5_isVariable 15 = .ok (.ireturn, 1) := by decide +kernel
theorem dX5_isAct_0 : decode cX5_isAct 0 = .ok (.iload_n 0, 1) := by decide +kernel
theorem dX5_isAct_1 : decode cX5_isAct 1 = .ok (.ifCond .lt 31, 3) := by decide +kernel
theorem dX5_isAct_4 : decode cX5_isAct 4 = .ok (.iload_n 0, 1) := by decide +kernel
theorem dX5_isAct_5 : decode cX5_isAct 5 = .ok (.bipush 10, 2) := by decide +kernel
theorem dX5_isAct_7 : decode cX5_isAct 7 = .ok (.if_icmp .gt 25, 3) := by decide +kernel
theorem dX5_isAct_10 : decode cX5_isAct 10 = .ok (.iload_n 1, 1) := by decide +kernel
theorem dX5_isAct_11 : decode cX5_isAct 11 = .ok (.getstatic 155, 3) := by decide +kernel
theorem dX5_isAct_14 : decode cX5_isAct 14 = .ok (.iload_n 0, 1) := by decide +kernel
theorem dX5_isAct_15 : decode cX5_isAct 15 = .ok (.iaload, 1) := by decide +kernel
theorem dX5_isAct_16 : decode cX5_isAct 16 = .ok (.if_icmp .lt 16, 3) := by decide +kernel
theorem dX5_isAct_19 : decode cX5_isAct 19 = .ok (.iload_n 1, 1) := by decide +kernel
theorem dX5_isAct_20 : decode cX5_isAct 20 = .ok (.getstatic 158, 3) := by decide +kernel
theorem dX5_isAct_23 : decode cX5_isAct 23 = .ok (.iload_n 0, 1) := by decide +kernel
theorem dX5_isAct_24 : decode cX5_isAct 24 = .ok (.iaload, 1) := by decide +kernel
theorem dX5_isAct_25 : decode cX5_isAct 25 = .ok (.if_icmp .gt 7, 3) := by decide +kernel
theorem dX5_isAct_28 : decode cX5_isAct 28 = .ok (.iconst 1, 1) := by decide +kernel
theorem dX5_isAct_29 : decode cX5_isAct 29 = .ok (.goto 4, 3) := by decide +kernel
theorem dX5_isAct_32 : decode cX5_isAct 32 = .ok (.iconst 0, 1) := by decide +kernel
theorem dX5_isAct_33 : decode cX5_isAct 33 = .ok (.ireturn, 1) := by decide +kernel
theorem dX5_takenBy_0 : decode cX5_takenBy 0 = .ok (.iload_n 0, 1) := by decide +kernel
theorem dX5_takenBy_1 : decode cX5_takenBy 1 = .ok (.bipush 10, 2) := by decide +kernel
theorem dX5_takenBy_3 : decode cX5_takenBy 3 = .ok (.if_icmp .ne 7, 3) := by decide +kernel
theorem dX5_takenBy_6 : decode cX5_takenBy 6 = .ok (.iload_n 1, 1) := by decide +kernel
theorem dX5_takenBy_7 : decode cX5_takenBy 7 = .ok (.goto 8, 3) := by decide +kernel
theorem dX5_takenBy_10 : decode cX5_takenBy 10 = .ok (.getstatic 161, 3) := by decide +kernel
theorem dX5_takenBy_13 : decode cX5_takenBy 13 = .ok (.iload_n 0, 1) := by decide +kernel
theorem dX5_takenBy_14 : decode cX5_takenBy 14 = .ok (.iaload, 1) := by decide +kernel
theorem dX5_takenBy_15 : decode cX5_takenBy 15 = .ok (.ireturn, 1) := by decide +kernel
theorem dX5_grownVariableIn_0 : decode cX5_grownVariableIn 0 = .ok (.iload_n 0, 1) := by decide +kernel
theorem dX5_grownVariableIn_1 : decode cX5_grownVariableIn 1 = .ok (.sipush 256, 3) := by decide +kernel
theorem dX5_grownVariableIn_4 : decode cX5_grownVariableIn 4 = .ok (.idiv, 1) := by decide +kernel
theorem dX5_grownVariableIn_5 : decode cX5_grownVariableIn 5 = .ok (.ireturn, 1) := by decide +kernel
theorem dX5_growthIn_0 : decode cX5_growthIn 0 = .ok (.iload_n 0, 1) := by decide +kernel
theorem dX5_growthIn_1 : decode cX5_growthIn 1 = .ok (.sipush 256, 3) := by decide +kernel
theorem dX5_growthIn_4 : decode cX5_growthIn 4 = .ok (.irem, 1) := by decide +kernel
theorem dX5_growthIn_5 : decode cX5_growthIn 5 = .ok (.sipush 128, 3) := by decide +kernel
theorem dX5_growthIn_8 : decode cX5_growthIn 8 = .ok (.isub, 1) := by decide +kernel
theorem dX5_growthIn_9 : decode cX5_growthIn 9 = .ok (.ireturn, 1) := by decide +kernel
theorem dJ0_length_8abf5_0 : decode cJ0_length_8abf5 0 = .ok (.aload_n 0, 1) := by decide +kernel
theorem dJ0_length_8abf5_1 : decode cJ0_length_8abf5 1 = .ok (.getfield 9, 3) := by decide +kernel
theorem dJ0_length_8abf5_4 : decode cJ0_length_8abf5 4 = .ok (.arraylength, 1) := by decide +kernel
theorem dJ0_length_8abf5_5 : decode cJ0_length_8abf5 5 = .ok (.aload_n 0, 1) := by decide +kernel
theorem dJ0_length_8abf5_6 : decode cJ0_length_8abf5 6 = .ok (.invokevirtual 335, 3) := by decide +kernel
theorem dJ0_length_8abf5_9 : decode cJ0_length_8abf5 9 = .ok (.ishr, 1) := by decide +kernel
theorem dJ0_length_8abf5_10 : decode cJ0_length_8abf5 10 = .ok (.ireturn, 1) := by decide +kernel
theorem dJ0_charAt_5068e_0 : decode cJ0_charAt_5068e 0 = .ok (.aload_n 0, 1) := by decide +kernel
theorem dJ0_charAt_5068e_1 : decode cJ0_charAt_5068e 1 = .ok (.invokevirtual 492, 3) := by decide +kernel
theorem dJ0_charAt_5068e_4 : decode cJ0_charAt_5068e 4 = .ok (.ifCond .eq 12, 3) := by decide +kernel
theorem dJ0_charAt_5068e_7 : decode cJ0_charAt_5068e 7 = .ok (.aload_n 0, 1) := by decide +kernel
theorem dJ0_charAt_5068e_8 : decode cJ0_charAt_5068e 8 = .ok (.getfield 9, 3) := by decide +kernel
theorem dJ0_charAt_5068e_11 : decode cJ0_charAt_5068e 11 = .ok (.iload_n 1, 1) := by decide +kernel
theorem dJ0_charAt_5068e_12 : decode cJ0_charAt_5068e 12 = .ok (.invokestatic 495, 3) := by decide +kernel
theorem dJ0_charAt_5068e_15 : decode cJ0_charAt_5068e 15 = .ok (.ireturn, 1) := by decide +kernel
theorem dJ0_charAt_5068e_16 : decode cJ0_charAt_5068e 16 = .ok (.aload_n 0, 1) := by decide +kernel
theorem dJ0_charAt_5068e_17 : decode cJ0_charAt_5068e 17 = .ok (.getfield 9, 3) := by decide +kernel
theorem dJ0_charAt_5068e_20 : decode cJ0_charAt_5068e 20 = .ok (.iload_n 1, 1) := by decide +kernel
theorem dJ0_charAt_5068e_21 : decode cJ0_charAt_5068e 21 = .ok (.invokestatic 498, 3) := by decide +kernel
theorem dJ0_charAt_5068e_24 : decode cJ0_charAt_5068e 24 = .ok (.ireturn, 1) := by decide +kernel
theorem dJ0_coder_7d493_0 : decode cJ0_coder_7d493 0 = .ok (.getstatic 38, 3) := by decide +kernel
theorem dJ0_coder_7d493_3 : decode cJ0_coder_7d493 3 = .ok (.ifCond .eq 10, 3) := by decide +kernel
theorem dJ0_coder_7d493_6 : decode cJ0_coder_7d493 6 = .ok (.aload_n 0, 1) := by decide +kernel
theorem dJ0_coder_7d493_7 : decode cJ0_coder_7d493 7 = .ok (.getfield 15, 3) := by decide +kernel
theorem dJ0_coder_7d493_10 : decode cJ0_coder_7d493 10 = .ok (.goto 4, 3) := by decide +kernel
theorem dJ0_coder_7d493_13 : decode cJ0_coder_7d493 13 = .ok (.iconst 1, 1) := by decide +kernel
theorem dJ0_coder_7d493_14 : decode cJ0_coder_7d493 14 = .ok (.ireturn, 1) := by decide +kernel
theorem dJ0_isLatin1_aae02_0 : decode cJ0_isLatin1_aae02 0 = .ok (.getstatic 38, 3) := by decide +kernel
theorem dJ0_isLatin1_aae02_3 : decode cJ0_isLatin1_aae02 3 = .ok (.ifCond .eq 14, 3) := by decide +kernel
theorem dJ0_isLatin1_aae02_6 : decode cJ0_isLatin1_aae02 6 = .ok (.aload_n 0, 1) := by decide +kernel
theorem dJ0_isLatin1_aae02_7 : decode cJ0_isLatin1_aae02 7 = .ok (.getfield 15, 3) := by decide +kernel
theorem dJ0_isLatin1_aae02_10 : decode cJ0_isLatin1_aae02 10 = .ok (.ifCond .ne 7, 3) := by decide +kernel
theorem dJ0_isLatin1_aae02_13 : decode cJ0_isLatin1_aae02 13 = .ok (.iconst 1, 1) := by decide +kernel
theorem dJ0_isLatin1_aae02_14 : decode cJ0_isLatin1_aae02 14 = .ok (.goto 4, 3) := by decide +kernel
theorem dJ0_isLatin1_aae02_17 : decode cJ0_isLatin1_aae02 17 = .ok (.iconst 0, 1) := by decide +kernel
theorem dJ0_isLatin1_aae02_18 : decode cJ0_isLatin1_aae02 18 = .ok (.ireturn, 1) := by decide +kernel
theorem dJ0_checkIndex_df160_0 : decode cJ0_checkIndex_df160 0 = .ok (.iload_n 0, 1) := by decide +kernel
theorem dJ0_checkIndex_df160_1 : decode cJ0_checkIndex_df160 1 = .ok (.iload_n 1, 1) := by decide +kernel
theorem dJ0_checkIndex_df160_2 : decode cJ0_checkIndex_df160 2 = .ok (.getstatic 1053, 3) := by decide +kernel
theorem dJ0_checkIndex_df160_5 : decode cJ0_checkIndex_df160 5 = .ok (.invokestatic 1059, 3) := by decide +kernel
theorem dJ0_checkIndex_df160_8 : decode cJ0_checkIndex_df160 8 = .ok (.pop, 1) := by decide +kernel
theorem dJ0_checkIndex_df160_9 : decode cJ0_checkIndex_df160 9 = .ok (.return_, 1) := by decide +kernel
theorem dJ1_charAt_3b067_0 : decode cJ1_charAt_3b067 0 = .ok (.iload_n 1, 1) := by decide +kernel
theorem dJ1_charAt_3b067_1 : decode cJ1_charAt_3b067 1 = .ok (.aload_n 0, 1) := by decide +kernel
theorem dJ1_charAt_3b067_2 : decode cJ1_charAt_3b067 2 = .ok (.arraylength, 1) := by decide +kernel
theorem dJ1_charAt_3b067_3 : decode cJ1_charAt_3b067 3 = .ok (.invokestatic 9, 3) := by decide +kernel
theorem dJ1_charAt_3b067_6 : decode cJ1_charAt_3b067 6 = .ok (.aload_n 0, 1) := by decide +kernel
theorem dJ1_charAt_3b067_7 : decode cJ1_charAt_3b067 7 = .ok (.iload_n 1, 1) := by decide +kernel
theorem dJ1_charAt_3b067_8 : decode cJ1_charAt_3b067 8 = .ok (.baload, 1) := by decide +kernel
theorem dJ1_charAt_3b067_9 : decode cJ1_charAt_3b067 9 = .ok (.sipush 255, 3) := by decide +kernel
theorem dJ1_charAt_3b067_12 : decode cJ1_charAt_3b067 12 = .ok (.iand, 1) := by decide +kernel
theorem dJ1_charAt_3b067_13 : decode cJ1_charAt_3b067 13 = .ok (.i2c, 1) := by decide +kernel
theorem dJ1_charAt_3b067_14 : decode cJ1_charAt_3b067 14 = .ok (.ireturn, 1) := by decide +kernel
theorem dJ2_getChar_3b067_0 : decode cJ2_getChar_3b067 0 = .ok (.getstatic 44, 3) := by decide +kernel
theorem dJ2_getChar_3b067_3 : decode cJ2_getChar_3b067 3 = .ok (.ifCond .ne 25, 3) := by decide +kernel
theorem dJ2_getChar_3b067_6 : decode cJ2_getChar_3b067 6 = .ok (.iload_n 1, 1) := by decide +kernel
theorem dJ2_getChar_3b067_7 : decode cJ2_getChar_3b067 7 = .ok (.ifCond .lt 11, 3) := by decide +kernel
theorem dJ2_getChar_3b067_10 : decode cJ2_getChar_3b067 10 = .ok (.iload_n 1, 1) := by decide +kernel
theorem dJ2_getChar_3b067_11 : decode cJ2_getChar_3b067 11 = .ok (.aload_n 0, 1) := by decide +kernel
theorem dJ2_getChar_3b067_12 : decode cJ2_getChar_3b067 12 = .ok (.invokestatic 48, 3) := by decide +kernel
theorem dJ2_getChar_3b067_15 : decode cJ2_getChar_3b067 15 = .ok (.if_icmp .lt 13, 3) := by decide +kernel
theorem dJ2_getChar_3b067_18 : decode cJ2_getChar_3b067 18 = .ok (.new 52, 3) := by decide +kernel
theorem dJ2_getChar_3b067_21 : decode cJ2_getChar_3b067 21 = .ok (.dup, 1) := by decide +kernel
theorem dJ2_getChar_3b067_22 : decode cJ2_getChar_3b067 22 = .ok (.ldc 54, 2) := by decide +kernel
theorem dJ2_getChar_3b067_24 : decode cJ2_getChar_3b067 24 = .ok (.invokespecial 56, 3) := by decide +kernel
theorem dJ2_getChar_3b067_27 : decode cJ2_getChar_3b067 27 = .ok (.athrow, 1) := by decide +kernel
theorem dJ2_getChar_3b067_28 : decode cJ2_getChar_3b067 28 = .ok (.iload_n 1, 1) := by decide +kernel
theorem dJ2_getChar_3b067_29 : decode cJ2_getChar_3b067 29 = .ok (.iconst 1, 1) := by decide +kernel
theorem dJ2_getChar_3b067_30 : decode cJ2_getChar_3b067 30 = .ok (.ishl, 1) := by decide +kernel
theorem dJ2_getChar_3b067_31 : decode cJ2_getChar_3b067 31 = .ok (.istore_n 1, 1) := by decide +kernel
theorem dJ2_getChar_3b067_32 : decode cJ2_getChar_3b067 32 = .ok (.aload_n 0, 1) := by decide +kernel
theorem dJ2_getChar_3b067_33 : decode cJ2_getChar_3b067 33 = .ok (.iload_n 1, 1) := by decide +kernel
theorem dJ2_getChar_3b067_34 : decode cJ2_getChar_3b067 34 = .ok (.iinc 1 1, 3) := by decide +kernel
theorem dJ2_getChar_3b067_37 : decode cJ2_getChar_3b067 37 = .ok (.baload, 1) := by decide +kernel
theorem dJ2_getChar_3b067_38 : decode cJ2_getChar_3b067 38 = .ok (.sipush 255, 3) := by decide +kernel
theorem dJ2_getChar_3b067_41 : decode cJ2_getChar_3b067 41 = .ok (.iand, 1) := by decide +kernel
theorem dJ2_getChar_3b067_42 : decode cJ2_getChar_3b067 42 = .ok (.getstatic 59, 3) := by decide +kernel
theorem dJ2_getChar_3b067_45 : decode cJ2_getChar_3b067 45 = .ok (.ishl, 1) := by decide +kernel
theorem dJ2_getChar_3b067_46 : decode cJ2_getChar_3b067 46 = .ok (.aload_n 0, 1) := by decide +kernel
theorem dJ2_getChar_3b067_47 : decode cJ2_getChar_3b067 47 = .ok (.iload_n 1, 1) := by decide +kernel
theorem dJ2_getChar_3b067_48 : decode cJ2_getChar_3b067 48 = .ok (.baload, 1) := by decide +kernel
theorem dJ2_getChar_3b067_49 : decode cJ2_getChar_3b067 49 = .ok (.sipush 255, 3) := by decide +kernel
theorem dJ2_getChar_3b067_52 : decode cJ2_getChar_3b067 52 = .ok (.iand, 1) := by decide +kernel
theorem dJ2_getChar_3b067_53 : decode cJ2_getChar_3b067 53 = .ok (.getstatic 63, 3) := by decide +kernel
theorem dJ2_getChar_3b067_56 : decode cJ2_getChar_3b067 56 = .ok (.ishl, 1) := by decide +kernel
theorem dJ2_getChar_3b067_57 : decode cJ2_getChar_3b067 57 = .ok (.ior, 1) := by decide +kernel
theorem dJ2_getChar_3b067_58 : decode cJ2_getChar_3b067 58 = .ok (.i2c, 1) := by decide +kernel
theorem dJ2_getChar_3b067_59 : decode cJ2_getChar_3b067 59 = .ok (.ireturn, 1) := by decide +kernel
theorem dJ2_length_9d52b_0 : decode cJ2_length_9d52b 0 = .ok (.aload_n 0, 1) := by decide +kernel
theorem dJ2_length_9d52b_1 : decode cJ2_length_9d52b 1 = .ok (.arraylength, 1) := by decide +kernel
theorem dJ2_length_9d52b_2 : decode cJ2_length_9d52b 2 = .ok (.iconst 1, 1) := by decide +kernel
theorem dJ2_length_9d52b_3 : decode cJ2_length_9d52b 3 = .ok (.ishr, 1) := by decide +kernel
theorem dJ2_length_9d52b_4 : decode cJ2_length_9d52b 4 = .ok (.ireturn, 1) := by decide +kernel
theorem dJ2_charAt_3b067_0 : decode cJ2_charAt_3b067 0 = .ok (.iload_n 1, 1) := by decide +kernel
theorem dJ2_charAt_3b067_1 : decode cJ2_charAt_3b067 1 = .ok (.aload_n 0, 1) := by decide +kernel
theorem dJ2_charAt_3b067_2 : decode cJ2_charAt_3b067 2 = .ok (.invokestatic 67, 3) := by decide +kernel
theorem dJ2_charAt_3b067_5 : decode cJ2_charAt_3b067 5 = .ok (.aload_n 0, 1) := by decide +kernel
theorem dJ2_charAt_3b067_6 : decode cJ2_charAt_3b067 6 = .ok (.iload_n 1, 1) := by decide +kernel
theorem dJ2_charAt_3b067_7 : decode cJ2_charAt_3b067 7 = .ok (.invokestatic 71, 3) := by decide +kernel
theorem dJ2_charAt_3b067_10 : decode cJ2_charAt_3b067 10 = .ok (.ireturn, 1) := by decide +kernel
theorem dJ2_checkIndex_2214a_0 : decode cJ2_checkIndex_2214a 0 = .ok (.iload_n 0, 1) := by decide +kernel
theorem dJ2_checkIndex_2214a_1 : decode cJ2_checkIndex_2214a 1 = .ok (.aload_n 1, 1) := by decide +kernel
theorem dJ2_checkIndex_2214a_2 : decode cJ2_checkIndex_2214a 2 = .ok (.invokestatic 48, 3) := by decide +kernel
theorem dJ2_checkIndex_2214a_5 : decode cJ2_checkIndex_2214a 5 = .ok (.invokestatic 414, 3) := by decide +kernel
theorem dJ2_checkIndex_2214a_8 : decode cJ2_checkIndex_2214a 8 = .ok (.return_, 1) := by decide +kernel
theorem dJ3_checkIndex_8e157_0 : decode cJ3_checkIndex_8e157 0 = .ok (.iload_n 0, 1) := by decide +kernel
theorem dJ3_checkIndex_8e157_1 : decode cJ3_checkIndex_8e157 1 = .ok (.ifCond .lt 8, 3) := by decide +kernel
theorem dJ3_checkIndex_8e157_4 : decode cJ3_checkIndex_8e157 4 = .ok (.iload_n 0, 1) := by decide +kernel
theorem dJ3_checkIndex_8e157_5 : decode cJ3_checkIndex_8e157 5 = .ok (.iload_n 1, 1) := by decide +kernel
theorem dJ3_checkIndex_8e157_6 : decode cJ3_checkIndex_8e157 6 = .ok (.if_icmp .lt 10, 3) := by decide +kernel
theorem dJ3_checkIndex_8e157_9 : decode cJ3_checkIndex_8e157 9 = .ok (.aload_n 2, 1) := by decide +kernel
theorem dJ3_checkIndex_8e157_10 : decode cJ3_checkIndex_8e157 10 = .ok (.iload_n 0, 1) := by decide +kernel
theorem dJ3_checkIndex_8e157_11 : decode cJ3_checkIndex_8e157 11 = .ok (.iload_n 1, 1) := by decide +kernel
theorem dJ3_checkIndex_8e157_12 : decode cJ3_checkIndex_8e157 12 = .ok (.invokestatic 95, 3) := by decide +kernel
theorem dJ3_checkIndex_8e157_15 : decode cJ3_checkIndex_8e157 15 = .ok (.athrow, 1) := by decide +kernel
theorem dJ3_checkIndex_8e157_16 : decode cJ3_checkIndex_8e157 16 = .ok (.iload_n 0, 1) := by decide +kernel
theorem dJ3_checkIndex_8e157_17 : decode cJ3_checkIndex_8e157 17 = .ok (.ireturn, 1) := by decide +kernel
