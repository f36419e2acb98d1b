theorem dX2_init_0 : decode cX2_init 0 = .ok (.aload_n 0, 1) := by decide +kernel
theorem dX2_init_1 : decode cX2_init 1 = .ok (.invokespecial 3, 3) := by decide +kernel
theorem dX2_init_4 : decode cX2_init 4 = .ok (.aload_n 0, 1) := by decide +kernel
theorem dX2_init_5 : decode cX2_init 5 = .ok (.bipush 10, 2) := by decide +kernel
theorem dX2_init_7 : decode cX2_init 7 = .ok (.newarray .long, 2) := by decide +kernel
theorem dX2_init_9 : decode cX2_init 9 = .ok (.putfield 9, 3) := by decide +kernel
theorem dX2_init_12 : decode cX2_init 12 = .ok (.aload_n 0, 1) := by decide +kernel
theorem dX2_init_13 : decode cX2_init 13 = .ok (.bipush 100, 2) := by decide +kernel
theorem dX2_init_15 : decode cX2_init 15 = .ok (.newarray .long, 2) := by decide +kernel
theorem dX2_init_17 : decode cX2_init 17 = .ok (.putfield 15, 3) := by decide +kernel
theorem dX2_init_20 : decode cX2_init 20 = .ok (.aload_n 0, 1) := by decide +kernel
theorem dX2_init_21 : decode cX2_init 21 = .ok (.bipush 20, 2) := by decide +kernel
theorem dX2_init_23 : decode cX2_init 23 = .ok (.newarray .long, 2) := by decide +kernel
theorem dX2_init_25 : decode cX2_init 25 = .ok (.putfield 18, 3) := by decide +kernel
theorem dX2_init_28 : decode cX2_init 28 = .ok (.aload_n 0, 1) := by decide +kernel
theorem dX2_init_29 : decode cX2_init 29 = .ok (.iconst 0, 1) := by decide +kernel
theorem dX2_init_30 : decode cX2_init 30 = .ok (.putfield 21, 3) := by decide +kernel
theorem dX2_init_33 : decode cX2_init 33 = .ok (.aload_n 0, 1) := by decide +kernel
theorem dX2_init_34 : decode cX2_init 34 = .ok (.iconst 0, 1) := by decide +kernel
theorem dX2_init_35 : decode cX2_init 35 = .ok (.putfield 25, 3) := by decide +kernel
theorem dX2_init_38 : decode cX2_init 38 = .ok (.aload_n 0, 1) := by decide +kernel
theorem dX2_init_39 : decode cX2_init 39 = .ok (.iconst 0, 1) := by decide +kernel
theorem dX2_init_40 : decode cX2_init 40 = .ok (.putfield 28, 3) := by decide +kernel
theorem dX2_init_43 : decode cX2_init 43 = .ok (.return_, 1) := by decide +kernel
theorem dX2_begin_0 : decode cX2_begin 0 = .ok (.iconst 0, 1) := by decide +kernel
theorem dX2_begin_1 : decode cX2_begin 1 = .ok (.istore_n 2, 1) := by decide +kernel
theorem dX2_begin_2 : decode cX2_begin 2 = .ok (.iload_n 2, 1) := by decide +kernel
theorem dX2_begin_3 : decode cX2_begin 3 = .ok (.bipush 10, 2) := by decide +kernel
theorem dX2_begin_5 : decode cX2_begin 5 = .ok (.if_icmp .ge 24, 3) := by decide +kernel
theorem dX2_begin_8 : decode cX2_begin 8 = .ok (.iload_n 2, 1) := by decide +kernel
theorem dX2_begin_9 : decode cX2_begin 9 = .ok (.aload_n 1, 1) := by decide +kernel
theorem dX2_begin_10 : decode cX2_begin 10 = .ok (.arraylength, 1) := by decide +kernel
theorem dX2_begin_11 : decode cX2_begin 11 = .ok (.if_icmp .ge 18, 3) := by decide +kernel
theorem dX2_begin_14 : decode cX2_begin 14 = .ok (.aload_n 0, 1) := by decide +kernel
theorem dX2_begin_15 : decode cX2_begin 15 = .ok (.getfield 9, 3) := by decide +kernel
theorem dX2_begin_18 : decode cX2_begin 18 = .ok (.iload_n 2, 1) := by decide +kernel
theorem dX2_begin_19 : decode cX2_begin 19 = .ok (.aload_n 1, 1) := by decide +kernel
theorem dX2_begin_20 : decode cX2_begin 20 = .ok (.iload_n 2, 1) := by decide +kernel
theorem dX2_begin_21 : decode cX2_begin 21 = .ok (.laload, 1) := by decide +kernel
theorem dX2_begin_22 : decode cX2_begin 22 = .ok (.lastore, 1) := by decide +kernel
theorem dX2_begin_23 : decode cX2_begin 23 = .ok (.iinc 2 1, 3) := by decide +kernel
theorem dX2_begin_26 : decode cX2_begin 26 = .ok (.goto (-24), 3) := by decide +kernel
theorem dX2_begin_29 : decode cX2_begin 29 = .ok (.aload_n 0, 1) := by decide +kernel
theorem dX2_begin_30 : decode cX2_begin 30 = .ok (.iconst 0, 1) := by decide +kernel
theorem dX2_begin_31 : decode cX2_begin 31 = .ok (.putfield 21, 3) := by decide +kernel
theorem dX2_begin_34 : decode cX2_begin 34 = .ok (.aload_n 0, 1) := by decide +kernel
theorem dX2_begin_35 : decode cX2_begin 35 = .ok (.iconst 0, 1) := by decide +kernel
theorem dX2_begin_36 : decode cX2_begin 36 = .ok (.putfield 25, 3) := by decide +kernel
theorem dX2_begin_39 : decode cX2_begin 39 = .ok (.aload_n 0, 1) := by decide +kernel
theorem dX2_begin_40 : decode cX2_begin 40 = .ok (.iconst 1, 1) := by decide +kernel
theorem dX2_begin_41 : decode cX2_begin 41 = .ok (.putfield 28, 3) := by decide +kernel
theorem dX2_begin_44 : decode cX2_begin 44 = .ok (.return_, 1) := by decide +kernel
theorem dX2_works_0 : decode cX2_works 0 = .ok (.iconst 0, 1) := by decide +kernel
theorem dX2_works_1 : decode cX2_works 1 = .ok (.istore_n 2, 1) := by decide +kernel
theorem dX2_works_2 : decode cX2_works 2 = .ok (.iload_n 2, 1) := by decide +kernel
theorem dX2_works_3 : decode cX2_works 3 = .ok (.aload_n 1, 1) := by decide +kernel
theorem dX2_works_4 : decode cX2_works 4 = .ok (.getfield 32, 3) := by decide +kernel
theorem dX2_works_7 : decode cX2_works 7 = .ok (.if_icmp .ge 33, 3) := by decide +kernel
theorem dX2_works_10 : decode cX2_works 10 = .ok (.aload_n 0, 1) := by decide +kernel
theorem dX2_works_11 : decode cX2_works 11 = .ok (.aload_n 1, 1) := by decide +kernel
theorem dX2_works_12 : decode cX2_works 12 = .ok (.iload_n 2, 1) := by decide +kernel
theorem dX2_works_13 : decode cX2_works 13 = .ok (.invokevirtual 35, 3) := by decide +kernel
theorem dX2_works_16 : decode cX2_works 16 = .ok (.aload_n 1, 1) := by decide +kernel
theorem dX2_works_17 : decode cX2_works 17 = .ok (.iload_n 2, 1) := by decide +kernel
theorem dX2_works_18 : decode cX2_works 18 = .ok (.invokevirtual 39, 3) := by decide +kernel
theorem dX2_works_21 : decode cX2_works 21 = .ok (.invokevirtual 42, 3) := by decide +kernel
theorem dX2_works_24 : decode cX2_works 24 = .ok (.ifCond .ne 10, 3) := by decide +kernel
theorem dX2_works_27 : decode cX2_works 27 = .ok (.aload_n 0, 1) := by decide +kernel
theorem dX2_works_28 : decode cX2_works 28 = .ok (.iconst 0, 1) := by decide +kernel
theorem dX2_works_29 : decode cX2_works 29 = .ok (.putfield 21, 3) := by decide +kernel
theorem dX2_works_32 : decode cX2_works 32 = .ok (.iconst 0, 1) := by decide +kernel
theorem dX2_works_33 : decode cX2_works 33 = .ok (.ireturn, 1) := by decide +kernel
theorem dX2_works_34 : decode cX2_works 34 = .ok (.iinc 2 1, 3) := by decide +kernel
theorem dX2_works_37 : decode cX2_works 37 = .ok (.goto (-35), 3) := by decide +kernel
theorem dX2_works_40 : decode cX2_works 40 = .ok (.iconst 1, 1) := by decide +kernel
theorem dX2_works_41 : decode cX2_works 41 = .ok (.ireturn, 1) := by decide +kernel
theorem dX2_step_0 : decode cX2_step 0 = .ok (.iload_n 1, 1) := by decide +kernel
theorem dX2_step_1 : decode cX2_step 1 = .ok (.tableswitch 188 0 12 #[67, 75, 98, 109, 123, 129, 140, 188, 188, 188, 147, 154, 177], 67) := by decide +kernel
theorem dX2_step_68 : decode cX2_step 68 = .ok (.aload_n 0, 1) := by decide +kernel
theorem dX2_step_69 : decode cX2_step 69 = .ok (.iload_n 2, 1) := by decide +kernel
theorem dX2_step_70 : decode cX2_step 70 = .ok (.i2l, 1) := by decide +kernel
theorem dX2_step_71 : decode cX2_step 71 = .ok (.invokevirtual 46, 3) := by decide +kernel
theorem dX2_step_74 : decode cX2_step 74 = .ok (.iconst 1, 1) := by decide +kernel
theorem dX2_step_75 : decode cX2_step 75 = .ok (.ireturn, 1) := by decide +kernel
theorem dX2_step_76 : decode cX2_step 76 = .ok (.aload_n 0, 1) := by decide +kernel
theorem dX2_step_77 : decode cX2_step 77 = .ok (.iload_n 2, 1) := by decide +kernel
theorem dX2_step_78 : decode cX2_step 78 = .ok (.invokestatic 50, 3) := by decide +kernel
theorem dX2_step_81 : decode cX2_step 81 = .ok (.ifCond .eq 12, 3) := by decide +kernel
theorem dX2_step_84 : decode cX2_step 84 = .ok (.aload_n 0, 1) := by decide +kernel
theorem dX2_step_85 : decode cX2_step 85 = .ok (.getfield 9, 3) := by decide +kernel
theorem dX2_step_88 : decode cX2_step 88 = .ok (.iload_n 2, 1) := by decide +kernel
theorem dX2_step_89 : decode cX2_step 89 = .ok (.laload, 1) := by decide +kernel
theorem dX2_step_90 : decode cX2_step 90 = .ok (.goto 4, 3) := by decide +kernel
theorem dX2_step_93 : decode cX2_step 93 = .ok (.lconst 0, 1) := by decide +kernel
theorem dX2_step_94 : decode cX2_step 94 = .ok (.invokevirtual 46, 3) := by decide +kernel
theorem dX2_step_97 : decode cX2_step 97 = .ok (.iconst 1, 1) := by decide +kernel
theorem dX2_step_98 : decode cX2_step 98 = .ok (.ireturn, 1) := by decide +kernel
theorem dX2_step_99 : decode cX2_step 99 = .ok (.aload_n 0, 1) := by decide +kernel
theorem dX2_step_100 : decode cX2_step 100 = .ok (.iload_n 2, 1) := by decide +kernel
theorem dX2_step_101 : decode cX2_step 101 = .ok (.aload_n 0, 1) := by decide +kernel
theorem dX2_step_102 : decode cX2_step 102 = .ok (.invokevirtual 54, 3) := by decide +kernel
theorem dX2_step_105 : decode cX2_step 105 = .ok (.invokevirtual 58, 3) := by decide +kernel
theorem dX2_step_108 : decode cX2_step 108 = .ok (.iconst 1, 1) := by decide +kernel
theorem dX2_step_109 : decode cX2_step 109 = .ok (.ireturn, 1) := by decide +kernel
theorem dX2_step_110 : decode cX2_step 110 = .ok (.aload_n 0, 1) := by decide +kernel
theorem dX2_step_111 : decode cX2_step 111 = .ok (.iload_n 2, 1) := by decide +kernel
theorem dX2_step_112 : decode cX2_step 112 = .ok (.invokestatic 62, 3) := by decide +kernel
theorem dX2_step_115 : decode cX2_step 115 = .ok (.iload_n 2, 1) := by decide +kernel
theorem dX2_step_116 : decode cX2_step 116 = .ok (.invokestatic 65, 3) := by decide +kernel
theorem dX2_step_119 : decode cX2_step 119 = .ok (.invokevirtual 68, 3) := by decide +kernel
theorem dX2_step_122 : decode cX2_step 122 = .ok (.iconst 1, 1) := by decide +kernel
theorem dX2_step_123 : decode cX2_step 123 = .ok (.ireturn, 1) := by decide +kernel
theorem dX2_step_124 : decode cX2_step 124 = .ok (.aload_n 0, 1) := by decide +kernel
theorem dX2_step_125 : decode cX2_step 125 = .ok (.iload_n 2, 1) := by decide +kernel
theorem dX2_step_126 : decode cX2_step 126 = .ok (.invokevirtual 72, 3) := by decide +kernel
theorem dX2_step_129 : decode cX2_step 129 = .ok (.ireturn, 1) := by decide +kernel
theorem dX2_step_130 : decode cX2_step 130 = .ok (.aload_n 0, 1) := by decide +kernel
theorem dX2_step_131 : decode cX2_step 131 = .ok (.aload_n 0, 1) := by decide +kernel
theorem dX2_step_132 : decode cX2_step 132 = .ok (.invokevirtual 54, 3) := by decide +kernel
theorem dX2_step_135 : decode cX2_step 135 = .ok (.lneg, 1) := by decide +kernel
theorem dX2_step_136 : decode cX2_step 136 = .ok (.invokevirtual 46, 3) := by decide +kernel
theorem dX2_step_139 : decode cX2_step 139 = .ok (.iconst 1, 1) := by decide +kernel
theorem dX2_step_140 : decode cX2_step 140 = .ok (.ireturn, 1) := by decide +kernel
theorem dX2_step_141 : decode cX2_step 141 = .ok (.aload_n 0, 1) := by decide +kernel
theorem dX2_step_142 : decode cX2_step 142 = .ok (.invokevirtual 54, 3) := by decide +kernel
theorem dX2_step_145 : decode cX2_step 145 = .ok (.pop2, 1) := by decide +kernel
theorem dX2_step_146 : decode cX2_step 146 = .ok (.iconst 1, 1) := by decide +kernel
theorem dX2_step_147 : decode cX2_step 147 = .ok (.ireturn, 1) := by decide +kernel
theorem dX2_step_148 : decode cX2_step 148 = .ok (.aload_n 0, 1) := by decide +kernel
theorem dX2_step_149 : decode cX2_step 149 = .ok (.iload_n 2, 1) := by decide +kernel
theorem dX2_step_150 : decode cX2_step 150 = .ok (.invokevirtual 75, 3) := by decide +kernel
theorem dX2_step_153 : decode cX2_step 153 = .ok (.iconst 1, 1) := by decide +kernel
theorem dX2_step_154 : decode cX2_step 154 = .ok (.ireturn, 1) := by decide +kernel
theorem dX2_step_155 : decode cX2_step 155 = .ok (.aload_n 0, 1) := by decide +kernel
theorem dX2_step_156 : decode cX2_step 156 = .ok (.iload_n 2, 1) := by decide +kernel
theorem dX2_step_157 : decode cX2_step 157 = .ok (.invokestatic 79, 3) := by decide +kernel
theorem dX2_step_160 : decode cX2_step 160 = .ok (.ifCond .eq 12, 3) := by decide +kernel
theorem dX2_step_163 : decode cX2_step 163 = .ok (.aload_n 0, 1) := by decide +kernel
theorem dX2_step_164 : decode cX2_step 164 = .ok (.getfield 15, 3) := by decide +kernel
theorem dX2_step_167 : decode cX2_step 167 = .ok (.iload_n 2, 1) := by decide +kernel
theorem dX2_step_168 : decode cX2_step 168 = .ok (.laload, 1) := by decide +kernel
theorem dX2_step_169 : decode cX2_step 169 = .ok (.goto 4, 3) := by decide +kernel
theorem dX2_step_172 : decode cX2_step 172 = .ok (.lconst 0, 1) := by decide +kernel
theorem dX2_step_173 : decode cX2_step 173 = .ok (.invokevirtual 46, 3) := by decide +kernel
theorem dX2_step_176 : decode cX2_step 176 = .ok (.iconst 1, 1) := by decide +kernel
theorem dX2_step_177 : decode cX2_step 177 = .ok (.ireturn, 1) := by decide +kernel
theorem dX2_step_178 : decode cX2_step 178 = .ok (.aload_n 0, 1) := by decide +kernel
theorem dX2_step_179 : decode cX2_step 179 = .ok (.iload_n 2, 1) := by decide +kernel
theorem dX2_step_180 : decode cX2_step 180 = .ok (.aload_n 0, 1) := by decide +kernel
theorem dX2_step_181 : decode cX2_step 181 = .ok (.invokevirtual 54, 3) := by decide +kernel
theorem dX2_step_184 : decode cX2_step 184 = .ok (.invokevirtual 82, 3) := by decide +kernel
theorem dX2_step_187 : decode cX2_step 187 = .ok (.iconst 1, 1) := by decide +kernel
theorem dX2_step_188 : decode cX2_step 188 = .ok (.ireturn, 1) := by decide +kernel
theorem dX2_step_189 : decode cX2_step 189 = .ok (.aload_n 0, 1) := by decide +kernel
theorem dX2_step_190 : decode cX2_step 190 = .ok (.iload_n 1, 1) := by decide +kernel
theorem dX2_step_191 : decode cX2_step 191 = .ok (.invokevirtual 85, 3) := by decide +kernel
theorem dX2_step_194 : decode cX2_step 194 = .ok (.iconst 1, 1) := by decide +kernel
theorem dX2_step_195 : decode cX2_step 195 = .ok (.ireturn, 1) := by decide +kernel
theorem dX2_workOp_0 : decode cX2_workOp 0 = .ok (.aload_n 0, 1) := by decide +kernel
theorem dX2_workOp_1 : decode cX2_workOp 1 = .ok (.invokevirtual 54, 3) := by decide +kernel
theorem dX2_workOp_4 : decode cX2_workOp 4 = .ok (.lstore_n 2, 1) := by decide +kernel
theorem dX2_workOp_5 : decode cX2_workOp 5 = .ok (.aload_n 0, 1) := by decide +kernel
theorem dX2_workOp_6 : decode cX2_workOp 6 = .ok (.invokevirtual 54, 3) := by decide +kernel
theorem dX2_workOp_9 : decode cX2_workOp 9 = .ok (.lstore 4, 2) := by decide +kernel
theorem dX2_workOp_11 : decode cX2_workOp 11 = .ok (.iload_n 1, 1) := by decide +kernel
theorem dX2_workOp_12 : decode cX2_workOp 12 = .ok (.bipush 6, 2) := by decide +kernel
theorem dX2_workOp_14 : decode cX2_workOp 14 = .ok (.if_icmp .eq 9, 3) := by decide +kernel
theorem dX2_workOp_17 : decode cX2_workOp 17 = .ok (.iload_n 1, 1) := by decide +kernel
theorem dX2_workOp_18 : decode cX2_workOp 18 = .ok (.bipush 7, 2) := by decide +kernel
theorem dX2_workOp_20 : decode cX2_workOp 20 = .ok (.if_icmp .ne 34, 3) := by decide +kernel
theorem dX2_workOp_23 : decode cX2_workOp 23 = .ok (.lload_n 2, 1) := by decide +kernel
theorem dX2_workOp_24 : decode cX2_workOp 24 = .ok (.lconst 0, 1) := by decide +kernel
theorem dX2_workOp_25 : decode cX2_workOp 25 = .ok (.lcmp, 1) := by decide +kernel
theorem dX2_workOp_26 : decode cX2_workOp 26 = .ok (.ifCond .ne 5, 3) := by decide +kernel
theorem dX2_workOp_29 : decode cX2_workOp 29 = .ok (.iconst 0, 1) := by decide +kernel
theorem dX2_workOp_30 : decode cX2_workOp 30 = .ok (.ireturn, 1) := by decide +kernel
theorem dX2_workOp_31 : decode cX2_workOp 31 = .ok (.aload_n 0, 1) := by decide +kernel
theorem dX2_workOp_32 : decode cX2_workOp 32 = .ok (.iload_n 1, 1) := by decide +kernel
theorem dX2_workOp_33 : decode cX2_workOp 33 = .ok (.bipush 6, 2) := by decide +kernel
theorem dX2_workOp_35 : decode cX2_workOp 35 = .ok (.if_icmp .ne 10, 3) := by decide +kernel
theorem dX2_workOp_38 : decode cX2_workOp 38 = .ok (.lload 4, 2) := by decide +kernel
theorem dX2_workOp_40 : decode cX2_workOp 40 = .ok (.lload_n 2, 1) := by decide +kernel
theorem dX2_workOp_41 : decode cX2_workOp 41 = .ok (.ldiv, 1) := by decide +kernel
theorem dX2_workOp_42 : decode cX2_workOp 42 = .ok (.goto 7, 3) := by decide +kernel
theorem dX2_workOp_45 : decode cX2_workOp 45 = .ok (.lload 4, 2) := by decide +kernel
theorem dX2_workOp_47 : decode cX2_workOp 47 = .ok (.lload_n 2, 1) := by decide +kernel
theorem dX2_workOp_48 : decode cX2_workOp 48 = .ok (.lrem, 1) := by decide +kernel
theorem dX2_workOp_49 : decode cX2_workOp 49 = .ok (.invokevirtual 46, 3) := by decide +kernel
theorem dX2_workOp_52 : decode cX2_workOp 52 = .ok (.iconst 1, 1) := by decide +kernel
theorem dX2_workOp_53 : decode cX2_workOp 53 = .ok (.ireturn, 1) := by decide +kernel
theorem dX2_workOp_54 : decode cX2_workOp 54 = .ok (.aload_n 0, 1) := by decide +kernel
theorem dX2_workOp_55 : decode cX2_workOp 55 = .ok (.iload_n 1, 1) := by decide +kernel
theorem dX2_workOp_56 : decode cX2_workOp 56 = .ok (.lload 4, 2) := by decide +kernel
theorem dX2_workOp_58 : decode cX2_workOp 58 = .ok (.lload_n 2, 1) := by decide +kernel
theorem dX2_workOp_59 : decode cX2_workOp 59 = .ok (.invokestatic 88, 3) := by decide +kernel
theorem dX2_workOp_62 : decode cX2_workOp 62 = .ok (.invokevirtual 46, 3) := by decide +kernel
theorem dX2_workOp_65 : decode cX2_workOp 65 = .ok (.iconst 1, 1) := by decide +kernel
theorem dX2_workOp_66 : decode cX2_workOp 66 = .ok (.ireturn, 1) := by decide +kernel
theorem dX2_worked_0 : decode cX2_worked 0 = .ok (.iload_n 0, 1) := by decide +kernel
theorem dX2_worked_1 : decode cX2_worked 1 = .ok (.tableswitch 55 0 4 #[35, 39, 43, 47, 51], 35) := by decide +kernel
theorem dX2_worked_36 : decode cX2_worked 36 = .ok (.lload_n 1, 1) := by decide +kernel
theorem dX2_worked_37 : decode cX2_worked 37 = .ok (.lload_n 3, 1) := by decide +kernel
theorem dX2_worked_38 : decode cX2_worked 38 = .ok (.ladd, 1) := by decide +kernel
theorem dX2_worked_39 : decode cX2_worked 39 = .ok (.lreturn, 1) := by decide +kernel
theorem dX2_worked_40 : decode cX2_worked 40 = .ok (.lload_n 1, 1) := by decide +kernel
theorem dX2_worked_41 : decode cX2_worked 41 = .ok (.lload_n 3, 1) := by decide +kernel
theorem dX2_worked_42 : decode cX2_worked 42 = .ok (.lsub, 1) := by decide +kernel
theorem dX2_worked_43 : decode cX2_worked 43 = .ok (.lreturn, 1) := by decide +kernel
theorem dX2_worked_44 : decode cX2_worked 44 = .ok (.lload_n 1, 1) := by decide +kernel
theorem dX2_worked_45 : decode cX2_worked 45 = .ok (.lload_n 3, 1) := by decide +kernel
theorem dX2_worked_46 : decode cX2_worked 46 = .ok (.lmul, 1) := by decide +kernel
theorem dX2_worked_47 : decode cX2_worked 47 = .ok (.lreturn, 1) := by decide +kernel
theorem dX2_worked_48 : decode cX2_worked 48 = .ok (.lload_n 1, 1) := by decide +kernel
theorem dX2_worked_49 : decode cX2_worked 49 = .ok (.lload_n 3, 1) := by decide +kernel
theorem dX2_worked_50 : decode cX2_worked 50 = .ok (.land, 1) := by decide +kernel
theorem dX2_worked_51 : decode cX2_worked 51 = .ok (.lreturn, 1) := by decide +kernel
theorem dX2_worked_52 : decode cX2_worked 52 = .ok (.lload_n 1, 1) := by decide +kernel
theorem dX2_worked_53 : decode cX2_worked 53 = .ok (.lload_n 3, 1) := by decide +kernel
theorem dX2_worked_54 : decode cX2_worked 54 = .ok (.lor, 1) := by decide +kernel
theorem dX2_worked_55 : decode cX2_worked 55 = .ok (.lreturn, 1) := by decide +kernel
theorem dX2_worked_56 : decode cX2_worked 56 = .ok (.lload_n 1, 1) := by decide +kernel
theorem dX2_worked_57 : decode cX2_worked 57 = .ok (.lload_n 3, 1) := by decide +kernel
theorem dX2_worked_58 : decode cX2_worked 58 = .ok (.lxor, 1) := by decide +kernel
theorem dX2_worked_59 : decode cX2_worked 59 = .ok (.lreturn, 1) := by decide +kernel
theorem dX2_callWith_0 : decode cX2_callWith 0 = .ok (.iload_n 1, 1) := by decide +kernel
theorem dX2_callWith_1 : decode cX2_callWith 1 = .ok (.iconst 2, 1) := by decide +kernel
theorem dX2_callWith_2 : decode cX2_callWith 2 = .ok (.if_icmp .le 10, 3) := by decide +kernel
theorem dX2_callWith_5 : decode cX2_callWith 5 = .ok (.aload_n 0, 1) := by decide +kernel
theorem dX2_callWith_6 : decode cX2_callWith 6 = .ok (.invokevirtual 54, 3) := by decide +kernel
theorem dX2_callWith_9 : decode cX2_callWith 9 = .ok (.goto 4, 3) := by decide +kernel
theorem dX2_callWith_12 : decode cX2_callWith 12 = .ok (.lconst 0, 1) := by decide +kernel
theorem dX2_callWith_13 : decode cX2_callWith 13 = .ok (.lstore_n 2, 1) := by decide +kernel
theorem dX2_callWith_14 : decode cX2_callWith 14 = .ok (.iload_n 1, 1) := by decide +kernel
theorem dX2_callWith_15 : decode cX2_callWith 15 = .ok (.iconst 1, 1) := by decide +kernel
theorem dX2_callWith_16 : decode cX2_callWith 16 = .ok (.if_icmp .le 10, 3) := by decide +kernel
theorem dX2_callWith_19 : decode cX2_callWith 19 = .ok (.aload_n 0, 1) := by decide +kernel
theorem dX2_callWith_20 : decode cX2_callWith 20 = .ok (.invokevirtual 54, 3) := by decide +kernel
theorem dX2_callWith_23 : decode cX2_callWith 23 = .ok (.goto 4, 3) := by decide +kernel
theorem dX2_callWith_26 : decode cX2_callWith 26 = .ok (.lconst 0, 1) := by decide +kernel
theorem dX2_callWith_27 : decode cX2_callWith 27 = .ok (.lstore 4, 2) := by decide +kernel
theorem dX2_callWith_29 : decode cX2_callWith 29 = .ok (.iload_n 1, 1) := by decide +kernel
theorem dX2_callWith_30 : decode cX2_callWith 30 = .ok (.ifCond .le 10, 3) := by decide +kernel
theorem dX2_callWith_33 : decode cX2_callWith 33 = .ok (.aload_n 0, 1) := by decide +kernel
theorem dX2_callWith_34 : decode cX2_callWith 34 = .ok (.invokevirtual 54, 3) := by decide +kernel
theorem dX2_callWith_37 : decode cX2_callWith 37 = .ok (.goto 4, 3) := by decide +kernel
theorem dX2_callWith_40 : decode cX2_callWith 40 = .ok (.lconst 0, 1) := by decide +kernel
theorem dX2_callWith_41 : decode cX2_callWith 41 = .ok (.lstore 6, 2) := by decide +kernel
theorem dX2_callWith_43 : decode cX2_callWith 43 = .ok (.aload_n 0, 1) := by decide +kernel
theorem dX2_callWith_44 : decode cX2_callWith 44 = .ok (.dup, 1) := by decide +kernel
theorem dX2_callWith_45 : decode cX2_callWith 45 = .ok (.getfield 25, 3) := by decide +kernel
theorem dX2_callWith_48 : decode cX2_callWith 48 = .ok (.iconst 1, 1) := by decide +kernel
theorem dX2_callWith_49 : decode cX2_callWith 49 = .ok (.iadd, 1) := by decide +kernel
theorem dX2_callWith_50 : decode cX2_callWith 50 = .ok (.putfield 25, 3) := by decide +kernel
theorem dX2_callWith_53 : decode cX2_callWith 53 = .ok (.aload_n 0, 1) := by decide +kernel
theorem dX2_callWith_54 : decode cX2_callWith 54 = .ok (.ldc2_w 92, 3) := by decide +kernel
theorem dX2_callWith_57 : decode cX2_callWith 57 = .ok (.aload_n 0, 1) := by decide +kernel
theorem dX2_callWith_58 : decode cX2_callWith 58 = .ok (.getfield 25, 3) := by decide +kernel
theorem dX2_callWith_61 : decode cX2_callWith 61 = .ok (.i2l, 1) := by decide +kernel
theorem dX2_callWith_62 : decode cX2_callWith 62 = .ok (.lmul, 1) := by decide +kernel
theorem dX2_callWith_63 : decode cX2_callWith 63 = .ok (.lload 6, 2) := by decide +kernel
theorem dX2_callWith_65 : decode cX2_callWith 65 = .ok (.ladd, 1) := by decide +kernel
theorem dX2_callWith_66 : decode cX2_callWith 66 = .ok (.ldc2_w 94, 3) := by decide +kernel
theorem dX2_callWith_69 : decode cX2_callWith 69 = .ok (.lload 4, 2) := by decide +kernel
theorem dX2_callWith_71 : decode cX2_callWith 71 = .ok (.lmul, 1) := by decide +kernel
theorem dX2_callWith_72 : decode cX2_callWith 72 = .ok (.ladd, 1) := by decide +kernel
theorem dX2_callWith_73 : decode cX2_callWith 73 = .ok (.ldc2_w 96, 3) := by decide +kernel
theorem dX2_callWith_76 : decode cX2_callWith 76 = .ok (.lload_n 2, 1) := by decide +kernel
theorem dX2_callWith_77 : decode cX2_callWith 77 = .ok (.lmul, 1) := by decide +kernel
theorem dX2_callWith_78 : decode cX2_callWith 78 = .ok (.ladd, 1) := by decide +kernel
theorem dX2_callWith_79 : decode cX2_callWith 79 = .ok (.invokevirtual 46, 3) := by decide +kernel
theorem dX2_callWith_82 : decode cX2_callWith 82 = .ok (.return_, 1) := by decide +kernel
theorem dX2_turn_0 : decode cX2_turn 0 = .ok (.aload_n 0, 1) := by decide +kernel
theorem dX2_turn_1 : decode cX2_turn 1 = .ok (.invokevirtual 54, 3) := by decide +kernel
theorem dX2_turn_4 : decode cX2_turn 4 = .ok (.lstore_n 2, 1) := by decide +kernel
theorem dX2_turn_5 : decode cX2_turn 5 = .ok (.iload_n 1, 1) := by decide +kernel
theorem dX2_turn_6 : decode cX2_turn 6 = .ok (.bipush 7, 2) := by decide +kernel
theorem dX2_turn_8 : decode cX2_turn 8 = .ok (.if_icmp .ne 14, 3) := by decide +kernel
theorem dX2_turn_11 : decode cX2_turn 11 = .ok (.aload_n 0, 1) := by decide +kernel
theorem dX2_turn_12 : decode cX2_turn 12 = .ok (.lload_n 2, 1) := by decide +kernel
theorem dX2_turn_13 : decode cX2_turn 13 = .ok (.invokevirtual 46, 3) := by decide +kernel
theorem dX2_turn_16 : decode cX2_turn 16 = .ok (.aload_n 0, 1) := by decide +kernel
theorem dX2_turn_17 : decode cX2_turn 17 = .ok (.lload_n 2, 1) := by decide +kernel
theorem dX2_turn_18 : decode cX2_turn 18 = .ok (.invokevirtual 46, 3) := by decide +kernel
theorem dX2_turn_21 : decode cX2_turn 21 = .ok (.return_, 1) := by decide +kernel
theorem dX2_turn_22 : decode cX2_turn 22 = .ok (.aload_n 0, 1) := by decide +kernel
theorem dX2_turn_23 : decode cX2_turn 23 = .ok (.invokevirtual 54, 3) := by decide +kernel
theorem dX2_turn_26 : decode cX2_turn 26 = .ok (.lstore 4, 2) := by decide +kernel
theorem dX2_turn_28 : decode cX2_turn 28 = .ok (.aload_n 0, 1) := by decide +kernel
theorem dX2_turn_29 : decode cX2_turn 29 = .ok (.lload_n 2, 1) := by decide +kernel
theorem dX2_turn_30 : decode cX2_turn 30 = .ok (.invokevirtual 46, 3) := by decide +kernel
theorem dX2_turn_33 : decode cX2_turn 33 = .ok (.aload_n 0, 1) := by decide +kernel
theorem dX2_turn_34 : decode cX2_turn 34 = .ok (.lload 4, 2) := by decide +kernel
theorem dX2_turn_36 : decode cX2_turn 36 = .ok (.invokevirtual 46, 3) := by decide +kernel
theorem dX2_turn_39 : decode cX2_turn 39 = .ok (.iload_n 1, 1) := by decide +kernel
theorem dX2_turn_40 : decode cX2_turn 40 = .ok (.bipush 9, 2) := by decide +kernel
theorem dX2_turn_42 : decode cX2_turn 42 = .ok (.if_icmp .ne 8, 3) := by decide +kernel
theorem dX2_turn_45 : decode cX2_turn 45 = .ok (.aload_n 0, 1) := by decide +kernel
theorem dX2_turn_46 : decode cX2_turn 46 = .ok (.lload_n 2, 1) := by decide +kernel
theorem dX2_turn_47 : decode cX2_turn 47 = .ok (.invokevirtual 46, 3) := by decide +kernel
theorem dX2_turn_50 : decode cX2_turn 50 = .ok (.return_, 1) := by decide +kernel
theorem dX2_setVariable_0 : decode cX2_setVariable 0 = .ok (.iload_n 1, 1) := by decide +kernel
theorem dX2_setVariable_1 : decode cX2_setVariable 1 = .ok (.invokestatic 50, 3) := by decide +kernel
theorem dX2_setVariable_4 : decode cX2_setVariable 4 = .ok (.ifCond .eq 10, 3) := by decide +kernel
theorem dX2_setVariable_7 : decode cX2_setVariable 7 = .ok (.aload_n 0, 1) := by decide +kernel
theorem dX2_setVariable_8 : decode cX2_setVariable 8 = .ok (.getfield 9, 3) := by decide +kernel
theorem dX2_setVariable_11 : decode cX2_setVariable 11 = .ok (.iload_n 1, 1) := by decide +kernel
theorem dX2_setVariable_12 : decode cX2_setVariable 12 = .ok (.lload_n 2, 1) := by decide +kernel
theorem dX2_setVariable_13 : decode cX2_setVariable 13 = .ok (.lastore, 1) := by decide +kernel
theorem dX2_setVariable_14 : decode cX2_setVariable 14 = .ok (.return_, 1) := by decide +kernel
theorem dX2_growVariable_0 : decode cX2_growVariable 0 = .ok (.iload_n 1, 1) := by decide +kernel
theorem dX2_growVariable_1 : decode cX2_growVariable 1 = .ok (.invokestatic 50, 3) := by decide +kernel
theorem dX2_growVariable_4 : decode cX2_growVariable 4 = .ok (.ifCond .eq 14, 3) := by decide +kernel
theorem dX2_growVariable_7 : decode cX2_growVariable 7 = .ok (.aload_n 0, 1) := by decide +kernel
theorem dX2_growVariable_8 : decode cX2_growVariable 8 = .ok (.getfield 9, 3) := by decide +kernel
theorem dX2_growVariable_11 : decode cX2_growVariable 11 = .ok (.iload_n 1, 1) := by decide +kernel
theorem dX2_growVariable_12 : decode cX2_growVariable 12 = .ok (.dup2, 1) := by decide +kernel
theorem dX2_growVariable_13 : decode cX2_growVariable 13 = .ok (.laload, 1) := by decide +kernel
theorem dX2_growVariable_14 : decode cX2_growVariable 14 = .ok (.iload_n 2, 1) := by decide +kernel
theorem dX2_growVariable_15 : decode cX2_growVariable 15 = .ok (.i2l, 1) := by decide +kernel
theorem dX2_growVariable_16 : decode cX2_growVariable 16 = .ok (.ladd, 1) := by decide +kernel
theorem dX2_growVariable_17 : decode cX2_growVariable 17 = .ok (.lastore, 1) := by decide +kernel
theorem dX2_growVariable_18 : decode cX2_growVariable 18 = .ok (.return_, 1) := by decide +kernel
theorem dX2_setTemporary_0 : decode cX2_setTemporary 0 = .ok (.iload_n 1, 1) := by decide +kernel
theorem dX2_setTemporary_1 : decode cX2_setTemporary 1 = .ok (.invokestatic 79, 3) := by decide +kernel
theorem dX2_setTemporary_4 : decode cX2_setTemporary 4 = .ok (.ifCond .eq 10, 3) := by decide +kernel
theorem dX2_setTemporary_7 : decode cX2_setTemporary 7 = .ok (.aload_n 0, 1) := by decide +kernel
theorem dX2_setTemporary_8 : decode cX2_setTemporary 8 = .ok (.getfield 15, 3) := by decide +kernel
theorem dX2_setTemporary_11 : decode cX2_setTemporary 11 = .ok (.iload_n 1, 1) := by decide +kernel
theorem dX2_setTemporary_12 : decode cX2_setTemporary 12 = .ok (.lload_n 2, 1) := by decide +kernel
theorem dX2_setTemporary_13 : decode cX2_setTemporary 13 = .ok (.lastore, 1) := by decide +kernel
theorem dX2_setTemporary_14 : decode cX2_setTemporary 14 = .ok (.return_, 1) := by decide +kernel
theorem dX2_isTemporary_0 : decode cX2_isTemporary 0 = .ok (.iload_n 0, 1) := by decide +kernel
theorem dX2_isTemporary_1 : decode cX2_isTemporary 1 = .ok (.ifCond .lt 13, 3) := by decide +kernel
theorem dX2_isTemporary_4 : decode cX2_isTemporary 4 = .ok (.iload_n 0, 1) := by decide +kernel
theorem dX2_isTemporary_5 : decode cX2_isTemporary 5 = .ok (.bipush 100, 2) := by decide +kernel
theorem dX2_isTemporary_7 : decode cX2_isTemporary 7 = .ok (.if_icmp .ge 7, 3) := by decide +kernel
theorem dX2_isTemporary_10 : decode cX2_isTemporary 10 = .ok (.iconst 1, 1) := by decide +kernel
theorem dX2_isTemporary_11 : decode cX2_isTemporary 11 = .ok (.goto 4, 3) := by decide +kernel
theorem dX2_isTemporary_14 : decode cX2_isTemporary 14 = .ok (.iconst 0, 1) := by decide +kernel
theorem dX2_isTemporary_15 : decode cX2_isTemporary 15 = .ok (.ireturn, 1) := by decide +kernel
theorem dX2_push_0 : decode cX2_push 0 = .ok (.aload_n 0, 1) := by decide +kernel
theorem dX2_push_1 : decode cX2_push 1 = .ok (.getfield 21, 3) := by decide +kernel
theorem dX2_push_4 : decode cX2_push 4 = .ok (.ifCond .lt 32, 3) := by decide +kernel
theorem dX2_push_7 : decode cX2_push 7 = .ok (.aload_n 0, 1) := by decide +kernel
theorem dX2_push_8 : decode cX2_push 8 = .ok (.getfield 21, 3) := by decide +kernel
theorem dX2_push_11 : decode cX2_push 11 = .ok (.bipush 20, 2) := by decide +kernel
theorem dX2_push_13 : decode cX2_push 13 = .ok (.if_icmp .ge 23, 3) := by decide +kernel
theorem dX2_push_16 : decode cX2_push 16 = .ok (.aload_n 0, 1) := by decide +kernel
theorem dX2_push_17 : decode cX2_push 17 = .ok (.getfield 18, 3) := by decide +kernel
theorem dX2_push_20 : decode cX2_push 20 = .ok (.aload_n 0, 1) := by decide +kernel
theorem dX2_push_21 : decode cX2_push 21 = .ok (.getfield 21, 3) := by decide +kernel
theorem dX2_push_24 : decode cX2_push 24 = .ok (.lload_n 1, 1) := by decide +kernel
theorem dX2_push_25 : decode cX2_push 25 = .ok (.lastore, 1) := by decide +kernel
theorem dX2_push_26 : decode cX2_push 26 = .ok (.aload_n 0, 1) := by decide +kernel
theorem dX2_push_27 : decode cX2_push 27 = .ok (.dup, 1) := by decide +kernel
theorem dX2_push_28 : decode cX2_push 28 = .ok (.getfield 21, 3) := by decide +kernel
theorem dX2_push_31 : decode cX2_push 31 = .ok (.iconst 1, 1) := by decide +kernel
theorem dX2_push_32 : decode cX2_push 32 = .ok (.iadd, 1) := by decide +kernel
theorem dX2_push_33 : decode cX2_push 33 = .ok (.putfield 21, 3) := by decide +kernel
theorem dX2_push_36 : decode cX2_push 36 = .ok (.return_, 1) := by decide +kernel
theorem dX2_pop_0 : decode cX2_pop 0 = .ok (.aload_n 0, 1) := by decide +kernel
theorem dX2_pop_1 : decode cX2_pop 1 = .ok (.getfield 21, 3) := by decide +kernel
theorem dX2_pop_4 : decode cX2_pop 4 = .ok (.ifCond .le 12, 3) := by decide +kernel
theorem dX2_pop_7 : decode cX2_pop 7 = .ok (.aload_n 0, 1) := by decide +kernel
theorem dX2_pop_8 : decode cX2_pop 8 = .ok (.getfield 21, 3) := by decide +kernel
theorem dX2_pop_11 : decode cX2_pop 11 = .ok (.bipush 20, 2) := by decide +kernel
theorem dX2_pop_13 : decode cX2_pop 13 = .ok (.if_icmp .le 5, 3) := by decide +kernel
theorem dX2_pop_16 : decode cX2_pop 16 = .ok (.lconst 0, 1) := by decide +kernel
theorem dX2_pop_17 : decode cX2_pop 17 = .ok (.lreturn, 1) := by decide +kernel
theorem dX2_pop_18 : decode cX2_pop 18 = .ok (.aload_n 0, 1) := by decide +kernel
theorem dX2_pop_19 : decode cX2_pop 19 = .ok (.dup, 1) := by decide +kernel
theorem dX2_pop_20 : decode cX2_pop 20 = .ok (.getfield 21, 3) := by decide +kernel
theorem dX2_pop_23 : decode cX2_pop 23 = .ok (.iconst 1, 1) := by decide +kernel
theorem dX2_pop_24 : decode cX2_pop 24 = .ok (.isub, 1) := by decide +kernel
theorem dX2_pop_25 : decode cX2_pop 25 = .ok (.putfield 21, 3) := by decide +kernel
theorem dX2_pop_28 : decode cX2_pop 28 = .ok (.aload_n 0, 1) := by decide +kernel
theorem dX2_pop_29 : decode cX2_pop 29 = .ok (.getfield 18, 3) := by decide +kernel
theorem dX2_pop_32 : decode cX2_pop 32 = .ok (.aload_n 0, 1) := by decide +kernel
theorem dX2_pop_33 : decode cX2_pop 33 = .ok (.getfield 21, 3) := by decide +kernel
theorem dX2_pop_36 : decode cX2_pop 36 = .ok (.laload, 1) := by decide +kernel
theorem dX2_pop_37 : decode cX2_pop 37 = .ok (.lreturn, 1) := by decide +kernel
theorem dX3_init_0 : decode cX3_init 0 = .ok (.aload_n 0, 1) := by decide +kernel
theorem dX3_init_1 : decode cX3_init 1 = .ok (.invokespecial 3, 3) := by decide +kernel
theorem dX3_init_4 : decode cX3_init 4 = .ok (.aload_n 0, 1) := by decide +kernel
theorem dX3_init_5 : decode cX3_init 5 = .ok (.sipush 800, 3) := by decide +kernel
theorem dX3_init_8 : decode cX3_init 8 = .ok (.newarray .char, 2) := by decide +kernel
theorem dX3_init_10 : decode cX3_init 10 = .ok (.putfield 9, 3) := by decide +kernel
theorem dX3_init_13 : decode cX3_init 13 = .ok (.aload_n 0, 1) := by decide +kernel
theorem dX3_init_14 : decode cX3_init 14 = .ok (.sipush 800, 3) := by decide +kernel
theorem dX3_init_17 : decode cX3_init 17 = .ok (.putfield 15, 3) := by decide +kernel
theorem dX3_init_20 : decode cX3_init 20 = .ok (.aload_n 0, 1) := by decide +kernel
theorem dX3_init_21 : decode cX3_init 21 = .ok (.sipush 800, 3) := by decide +kernel
theorem dX3_init_24 : decode cX3_init 24 = .ok (.newarray .int, 2) := by decide +kernel
theorem dX3_init_26 : decode cX3_init 26 = .ok (.putfield 19, 3) := by decide +kernel
theorem dX3_init_29 : decode cX3_init 29 = .ok (.aload_n 0, 1) := by decide +kernel
theorem dX3_init_30 : decode cX3_init 30 = .ok (.iconst 0, 1) := by decide +kernel
theorem dX3_init_31 : decode cX3_init 31 = .ok (.putfield 23, 3) := by decide +kernel
theorem dX3_init_34 : decode cX3_init 34 = .ok (.return_, 1) := by decide +kernel
theorem dX3_signAt_0 : decode cX3_signAt 0 = .ok (.iload_n 1, 1) := by decide +kernel
theorem dX3_signAt_1 : decode cX3_signAt 1 = .ok (.ifCond .lt 29, 3) := by decide +kernel
theorem dX3_signAt_4 : decode cX3_signAt 4 = .ok (.iload_n 1, 1) := by decide +kernel
theorem dX3_signAt_5 : decode cX3_signAt 5 = .ok (.sipush 800, 3) := by decide +kernel
theorem dX3_signAt_8 : decode cX3_signAt 8 = .ok (.aload_n 0, 1) := by decide +kernel
theorem dX3_signAt_9 : decode cX3_signAt 9 = .ok (.getfield 15, 3) := by decide +kernel
theorem dX3_signAt_12 : decode cX3_signAt 12 = .ok (.isub, 1) := by decide +kernel
theorem dX3_signAt_13 : decode cX3_signAt 13 = .ok (.if_icmp .ge 17, 3) := by decide +kernel
theorem dX3_signAt_16 : decode cX3_signAt 16 = .ok (.aload_n 0, 1) := by decide +kernel
theorem dX3_signAt_17 : decode cX3_signAt 17 = .ok (.getfield 9, 3) := by decide +kernel
theorem dX3_signAt_20 : decode cX3_signAt 20 = .ok (.aload_n 0, 1) := by decide +kernel
theorem dX3_signAt_21 : decode cX3_signAt 21 = .ok (.getfield 15, 3) := by decide +kernel
theorem dX3_signAt_24 : decode cX3_signAt 24 = .ok (.iload_n 1, 1) := by decide +kernel
theorem dX3_signAt_25 : decode cX3_signAt 25 = .ok (.iadd, 1) := by decide +kernel
theorem dX3_signAt_26 : decode cX3_signAt 26 = .ok (.caload, 1) := by decide +kernel
theorem dX3_signAt_27 : decode cX3_signAt 27 = .ok (.goto 4, 3) := by decide +kernel
theorem dX3_signAt_30 : decode cX3_signAt 30 = .ok (.iconst (-1), 1) := by decide +kernel
theorem dX3_signAt_31 : decode cX3_signAt 31 = .ok (.ireturn, 1) := by decide +kernel
theorem dX3_writeOnlyTerm_0 : decode cX3_writeOnlyTerm 0 = .ok (.aload_n 0, 1) := by decide +kernel
theorem dX3_writeOnlyTerm_1 : decode cX3_writeOnlyTerm 1 = .ok (.sipush 800, 3) := by decide +kernel
theorem dX3_writeOnlyTerm_4 : decode cX3_writeOnlyTerm 4 = .ok (.putfield 15, 3) := by decide +kernel
theorem dX3_writeOnlyTerm_7 : decode cX3_writeOnlyTerm 7 = .ok (.aload_n 0, 1) := by decide +kernel
theorem dX3_writeOnlyTerm_8 : decode cX3_writeOnlyTerm 8 = .ok (.aload_n 1, 1) := by decide +kernel
theorem dX3_writeOnlyTerm_9 : decode cX3_writeOnlyTerm 9 = .ok (.iload_n 2, 1) := by decide +kernel
theorem dX3_writeOnlyTerm_10 : decode cX3_writeOnlyTerm 10 = .ok (.invokevirtual 26, 3) := by decide +kernel
theorem dX3_writeOnlyTerm_13 : decode cX3_writeOnlyTerm 13 = .ok (.return_, 1) := by decide +kernel
theorem dX3_writeLine_0 : decode cX3_writeLine 0 = .ok (.aload_n 1, 1) := by decide +kernel
theorem dX3_writeLine_1 : decode cX3_writeLine 1 = .ok (.iload_n 2, 1) := by decide +kernel
theorem dX3_writeLine_2 : decode cX3_writeLine 2 = .ok (.invokevirtual 30, 3) := by decide +kernel
theorem dX3_writeLine_5 : decode cX3_writeLine 5 = .ok (.istore_n 3, 1) := by decide +kernel
theorem dX3_writeLine_6 : decode cX3_writeLine 6 = .ok (.aload_n 1, 1) := by decide +kernel
theorem dX3_writeLine_7 : decode cX3_writeLine 7 = .ok (.iload_n 2, 1) := by decide +kernel
theorem dX3_writeLine_8 : decode cX3_writeLine 8 = .ok (.invokevirtual 36, 3) := by decide +kernel
theorem dX3_writeLine_11 : decode cX3_writeLine 11 = .ok (.istore 4, 2) := by decide +kernel
theorem dX3_writeLine_13 : decode cX3_writeLine 13 = .ok (.aload_n 0, 1) := by decide +kernel
theorem dX3_writeLine_14 : decode cX3_writeLine 14 = .ok (.sipush 800, 3) := by decide +kernel
theorem dX3_writeLine_17 : decode cX3_writeLine 17 = .ok (.putfield 15, 3) := by decide +kernel
theorem dX3_writeLine_20 : decode cX3_writeLine 20 = .ok (.aload_n 0, 1) := by decide +kernel
theorem dX3_writeLine_21 : decode cX3_writeLine 21 = .ok (.bipush 59, 2) := by decide +kernel
theorem dX3_writeLine_23 : decode cX3_writeLine 23 = .ok (.invokevirtual 39, 3) := by decide +kernel
theorem dX3_writeLine_26 : decode cX3_writeLine 26 = .ok (.iload_n 3, 1) := by decide +kernel
theorem dX3_writeLine_27 : decode cX3_writeLine 27 = .ok (.tableswitch 100 2 6 #[33, 56, 100, 100, 83], 33) := by decide +kernel
theorem dX3_writeLine_60 : decode cX3_writeLine 60 = .ok (.aload_n 0, 1) := by decide +kernel
theorem dX3_writeLine_61 : decode cX3_writeLine 61 = .ok (.aload_n 1, 1) := by decide +kernel
theorem dX3_writeLine_62 : decode cX3_writeLine 62 = .ok (.iload_n 2, 1) := by decide +kernel
theorem dX3_writeLine_63 : decode cX3_writeLine 63 = .ok (.iconst 1, 1) := by decide +kernel
theorem dX3_writeLine_64 : decode cX3_writeLine 64 = .ok (.isub, 1) := by decide +kernel
theorem dX3_writeLine_65 : decode cX3_writeLine 65 = .ok (.invokevirtual 26, 3) := by decide +kernel
theorem dX3_writeLine_68 : decode cX3_writeLine 68 = .ok (.aload_n 0, 1) := by decide +kernel
theorem dX3_writeLine_69 : decode cX3_writeLine 69 = .ok (.ldc 43, 2) := by decide +kernel
theorem dX3_writeLine_71 : decode cX3_writeLine 71 = .ok (.invokevirtual 45, 3) := by decide +kernel
theorem dX3_writeLine_74 : decode cX3_writeLine 74 = .ok (.aload_n 0, 1) := by decide +kernel
theorem dX3_writeLine_75 : decode cX3_writeLine 75 = .ok (.iload 4, 2) := by decide +kernel
theorem dX3_writeLine_77 : decode cX3_writeLine 77 = .ok (.invokevirtual 49, 3) := by decide +kernel
theorem dX3_writeLine_80 : decode cX3_writeLine 80 = .ok (.goto 67, 3) := by decide +kernel
theorem dX3_writeLine_83 : decode cX3_writeLine 83 = .ok (.aload_n 0, 1) := by decide +kernel
theorem dX3_writeLine_84 : decode cX3_writeLine 84 = .ok (.iload 4, 2) := by decide +kernel
theorem dX3_writeLine_86 : decode cX3_writeLine 86 = .ok (.invokestatic 53, 3) := by decide +kernel
theorem dX3_writeLine_89 : decode cX3_writeLine 89 = .ok (.invokevirtual 56, 3) := by decide +kernel
theorem dX3_writeLine_92 : decode cX3_writeLine 92 = .ok (.aload_n 0, 1) := by decide +kernel
theorem dX3_writeLine_93 : decode cX3_writeLine 93 = .ok (.ldc 59, 2) := by decide +kernel
theorem dX3_writeLine_95 : decode cX3_writeLine 95 = .ok (.invokevirtual 45, 3) := by decide +kernel
theorem dX3_writeLine_98 : decode cX3_writeLine 98 = .ok (.aload_n 0, 1) := by decide +kernel
theorem dX3_writeLine_99 : decode cX3_writeLine 99 = .ok (.iload 4, 2) := by decide +kernel
theorem dX3_writeLine_101 : decode cX3_writeLine 101 = .ok (.invokestatic 61, 3) := by decide +kernel
theorem dX3_writeLine_104 : decode cX3_writeLine 104 = .ok (.invokevirtual 49, 3) := by decide +kernel
theorem dX3_writeLine_107 : decode cX3_writeLine 107 = .ok (.goto 40, 3) := by decide +kernel
theorem dX3_writeLine_110 : decode cX3_writeLine 110 = .ok (.aload_n 0, 1) := by decide +kernel
theorem dX3_writeLine_111 : decode cX3_writeLine 111 = .ok (.aload_n 1, 1) := by decide +kernel
theorem dX3_writeLine_112 : decode cX3_writeLine 112 = .ok (.iload_n 2, 1) := by decide +kernel
theorem dX3_writeLine_113 : decode cX3_writeLine 113 = .ok (.iconst 1, 1) := by decide +kernel
theorem dX3_writeLine_114 : decode cX3_writeLine 114 = .ok (.isub, 1) := by decide +kernel
theorem dX3_writeLine_115 : decode cX3_writeLine 115 = .ok (.invokevirtual 26, 3) := by decide +kernel
theorem dX3_writeLine_118 : decode cX3_writeLine 118 = .ok (.aload_n 0, 1) := by decide +kernel
theorem dX3_writeLine_119 : decode cX3_writeLine 119 = .ok (.ldc 64, 2) := by decide +kernel
theorem dX3_writeLine_121 : decode cX3_writeLine 121 = .ok (.invokevirtual 45, 3) := by decide +kernel
theorem dX3_writeLine_124 : decode cX3_writeLine 124 = .ok (.goto 23, 3) := by decide +kernel
theorem dX3_writeLine_127 : decode cX3_writeLine 127 = .ok (.aload_n 0, 1) := by decide +kernel
theorem dX3_writeLine_128 : decode cX3_writeLine 128 = .ok (.aload_n 1, 1) := by decide +kernel
theorem dX3_writeLine_129 : decode cX3_writeLine 129 = .ok (.iload_n 2, 1) := by decide +kernel
theorem dX3_writeLine_130 : decode cX3_writeLine 130 = .ok (.iconst 1, 1) := by decide +kernel
theorem dX3_writeLine_131 : decode cX3_writeLine 131 = .ok (.isub, 1) := by decide +kernel
theorem dX3_writeLine_132 : decode cX3_writeLine 132 = .ok (.invokevirtual 26, 3) := by decide +kernel
theorem dX3_writeLine_135 : decode cX3_writeLine 135 = .ok (.aload_n 0, 1) := by decide +kernel
theorem dX3_writeLine_136 : decode cX3_writeLine 136 = .ok (.ldc 43, 2) := by decide +kernel
theorem dX3_writeLine_138 : decode cX3_writeLine 138 = .ok (.invokevirtual 45, 3) := by decide +kernel
theorem dX3_writeLine_141 : decode cX3_writeLine 141 = .ok (.aload_n 0, 1) := by decide +kernel
theorem dX3_writeLine_142 : decode cX3_writeLine 142 = .ok (.iload 4, 2) := by decide +kernel
theorem dX3_writeLine_144 : decode cX3_writeLine 144 = .ok (.invokevirtual 66, 3) := by decide +kernel
theorem dX3_writeLine_147 : decode cX3_writeLine 147 = .ok (.return_, 1) := by decide +kernel
theorem dX3_writeTerm_0 : decode cX3_writeTerm 0 = .ok (.iload_n 2, 1) := by decide +kernel
theorem dX3_writeTerm_1 : decode cX3_writeTerm 1 = .ok (.istore_n 3, 1) := by decide +kernel
theorem dX3_writeTerm_2 : decode cX3_writeTerm 2 = .ok (.aload_n 0, 1) := by decide +kernel
theorem dX3_writeTerm_3 : decode cX3_writeTerm 3 = .ok (.iconst 0, 1) := by decide +kernel
theorem dX3_writeTerm_4 : decode cX3_writeTerm 4 = .ok (.putfield 23, 3) := by decide +kernel
theorem dX3_writeTerm_7 : decode cX3_writeTerm 7 = .ok (.aload_n 0, 1) := by decide +kernel
theorem dX3_writeTerm_8 : decode cX3_writeTerm 8 = .ok (.iconst 0, 1) := by decide +kernel
theorem dX3_writeTerm_9 : decode cX3_writeTerm 9 = .ok (.invokevirtual 69, 3) := by decide +kernel
theorem dX3_writeTerm_12 : decode cX3_writeTerm 12 = .ok (.iconst 0, 1) := by decide +kernel
theorem dX3_writeTerm_13 : decode cX3_writeTerm 13 = .ok (.istore 4, 2) := by decide +kernel
theorem dX3_writeTerm_15 : decode cX3_writeTerm 15 = .ok (.iload 4, 2) := by decide +kernel
theorem dX3_writeTerm_17 : decode cX3_writeTerm 17 = .ok (.sipush 1600, 3) := by decide +kernel
theorem dX3_writeTerm_20 : decode cX3_writeTerm 20 = .ok (.if_icmp .ge 73, 3) := by decide +kernel
theorem dX3_writeTerm_23 : decode cX3_writeTerm 23 = .ok (.aload_n 0, 1) := by decide +kernel
theorem dX3_writeTerm_24 : decode cX3_writeTerm 24 = .ok (.getfield 23, 3) := by decide +kernel
theorem dX3_writeTerm_27 : decode cX3_writeTerm 27 = .ok (.ifCond .le 66, 3) := by decide +kernel
theorem dX3_writeTerm_30 : decode cX3_writeTerm 30 = .ok (.aload_n 0, 1) := by decide +kernel
theorem dX3_writeTerm_31 : decode cX3_writeTerm 31 = .ok (.dup, 1) := by decide +kernel
theorem dX3_writeTerm_32 : decode cX3_writeTerm 32 = .ok (.getfield 23, 3) := by decide +kernel
theorem dX3_writeTerm_35 : decode cX3_writeTerm 35 = .ok (.iconst 1, 1) := by decide +kernel
theorem dX3_writeTerm_36 : decode cX3_writeTerm 36 = .ok (.isub, 1) := by decide +kernel
theorem dX3_writeTerm_37 : decode cX3_writeTerm 37 = .ok (.putfield 23, 3) := by decide +kernel
theorem dX3_writeTerm_40 : decode cX3_writeTerm 40 = .ok (.aload_n 0, 1) := by decide +kernel
theorem dX3_writeTerm_41 : decode cX3_writeTerm 41 = .ok (.getfield 19, 3) := by decide +kernel
theorem dX3_writeTerm_44 : decode cX3_writeTerm 44 = .ok (.aload_n 0, 1) := by decide +kernel
theorem dX3_writeTerm_45 : decode cX3_writeTerm 45 = .ok (.getfield 23, 3) := by decide +kernel
theorem dX3_writeTerm_48 : decode cX3_writeTerm 48 = .ok (.iaload, 1) := by decide +kernel
theorem dX3_writeTerm_49 : decode cX3_writeTerm 49 = .ok (.istore 5, 2) := by decide +kernel
theorem dX3_writeTerm_51 : decode cX3_writeTerm 51 = .ok (.iload 5, 2) := by decide +kernel
theorem dX3_writeTerm_53 : decode cX3_writeTerm 53 = .ok (.bipush 7, 2) := by decide +kernel
theorem dX3_writeTerm_55 : decode cX3_writeTerm 55 = .ok (.if_icmp .le 13, 3) := by decide +kernel
theorem dX3_writeTerm_58 : decode cX3_writeTerm 58 = .ok (.aload_n 0, 1) := by decide +kernel
theorem dX3_writeTerm_59 : decode cX3_writeTerm 59 = .ok (.iload 5, 2) := by decide +kernel
theorem dX3_writeTerm_61 : decode cX3_writeTerm 61 = .ok (.i2c, 1) := by decide +kernel
theorem dX3_writeTerm_62 : decode cX3_writeTerm 62 = .ok (.invokevirtual 39, 3) := by decide +kernel
theorem dX3_writeTerm_65 : decode cX3_writeTerm 65 = .ok (.goto 22, 3) := by decide +kernel
theorem dX3_writeTerm_68 : decode cX3_writeTerm 68 = .ok (.aload_n 0, 1) := by decide +kernel
theorem dX3_writeTerm_69 : decode cX3_writeTerm 69 = .ok (.aload_n 1, 1) := by decide +kernel
theorem dX3_writeTerm_70 : decode cX3_writeTerm 70 = .ok (.iload_n 3, 1) := by decide +kernel
theorem dX3_writeTerm_71 : decode cX3_writeTerm 71 = .ok (.invokevirtual 30, 3) := by decide +kernel
theorem dX3_writeTerm_74 : decode cX3_writeTerm 74 = .ok (.aload_n 1, 1) := by decide +kernel
theorem dX3_writeTerm_75 : decode cX3_writeTerm 75 = .ok (.iload_n 3, 1) := by decide +kernel
theorem dX3_writeTerm_76 : decode cX3_writeTerm 76 = .ok (.invokevirtual 36, 3) := by decide +kernel
theorem dX3_writeTerm_79 : decode cX3_writeTerm 79 = .ok (.iload 5, 2) := by decide +kernel
theorem dX3_writeTerm_81 : decode cX3_writeTerm 81 = .ok (.invokevirtual 72, 3) := by decide +kernel
theorem dX3_writeTerm_84 : decode cX3_writeTerm 84 = .ok (.iinc 3 (-1), 3) := by decide +kernel
theorem dX3_writeTerm_87 : decode cX3_writeTerm 87 = .ok (.iinc 4 1, 3) := by decide +kernel
theorem dX3_writeTerm_90 : decode cX3_writeTerm 90 = .ok (.goto (-75), 3) := by decide +kernel
theorem dX3_writeTerm_93 : decode cX3_writeTerm 93 = .ok (.return_, 1) := by decide +kernel
theorem dX3_writeCell_0 : decode cX3_writeCell 0 = .ok (.iload_n 1, 1) := by decide +kernel
theorem dX3_writeCell_1 : decode cX3_writeCell 1 = .ok (.iload_n 2, 1) := by decide +kernel
theorem dX3_writeCell_2 : decode cX3_writeCell 2 = .ok (.invokestatic 76, 3) := by decide +kernel
theorem dX3_writeCell_5 : decode cX3_writeCell 5 = .ok (.istore 4, 2) := by decide +kernel
theorem dX3_writeCell_7 : decode cX3_writeCell 7 = .ok (.iload 4, 2) := by decide +kernel
theorem dX3_writeCell_9 : decode cX3_writeCell 9 = .ok (.iload_n 3, 1) := by decide +kernel
theorem dX3_writeCell_10 : decode cX3_writeCell 10 = .ok (.if_icmp .ge 15, 3) := by decide +kernel
theorem dX3_writeCell_13 : decode cX3_writeCell 13 = .ok (.aload_n 0, 1) := by decide +kernel
theorem dX3_writeCell_14 : decode cX3_writeCell 14 = .ok (.bipush 41, 2) := by decide +kernel
theorem dX3_writeCell_16 : decode cX3_writeCell 16 = .ok (.invokevirtual 39, 3) := by decide +kernel
theorem dX3_writeCell_19 : decode cX3_writeCell 19 = .ok (.aload_n 0, 1) := by decide +kernel
theorem dX3_writeCell_20 : decode cX3_writeCell 20 = .ok (.bipush 40, 2) := by decide +kernel
theorem dX3_writeCell_22 : decode cX3_writeCell 22 = .ok (.invokevirtual 69, 3) := by decide +kernel
theorem dX3_writeCell_25 : decode cX3_writeCell 25 = .ok (.iload_n 1, 1) := by decide +kernel
theorem dX3_writeCell_26 : decode cX3_writeCell 26 = .ok (.tableswitch 138 0 11 #[62, 70, 138, 138, 86, 123, 138, 138, 138, 138, 138, 78], 62) := by decide +kernel
theorem dX3_writeCell_88 : decode cX3_writeCell 88 = .ok (.aload_n 0, 1) := by decide +kernel
theorem dX3_writeCell_89 : decode cX3_writeCell 89 = .ok (.iload_n 2, 1) := by decide +kernel
theorem dX3_writeCell_90 : decode cX3_writeCell 90 = .ok (.invokevirtual 56, 3) := by decide +kernel
theorem dX3_writeCell_93 : decode cX3_writeCell 93 = .ok (.goto 82, 3) := by decide +kernel
theorem dX3_writeCell_96 : decode cX3_writeCell 96 = .ok (.aload_n 0, 1) := by decide +kernel
theorem dX3_writeCell_97 : decode cX3_writeCell 97 = .ok (.iload_n 2, 1) := by decide +kernel
theorem dX3_writeCell_98 : decode cX3_writeCell 98 = .ok (.invokevirtual 49, 3) := by decide +kernel
theorem dX3_writeCell_101 : decode cX3_writeCell 101 = .ok (.goto 74, 3) := by decide +kernel
theorem dX3_writeCell_104 : decode cX3_writeCell 104 = .ok (.aload_n 0, 1) := by decide +kernel
theorem dX3_writeCell_105 : decode cX3_writeCell 105 = .ok (.iload_n 2, 1) := by decide +kernel
theorem dX3_writeCell_106 : decode cX3_writeCell 106 = .ok (.invokevirtual 66, 3) := by decide +kernel
theorem dX3_writeCell_109 : decode cX3_writeCell 109 = .ok (.goto 66, 3) := by decide +kernel
theorem dX3_writeCell_112 : decode cX3_writeCell 112 = .ok (.aload_n 0, 1) := by decide +kernel
theorem dX3_writeCell_113 : decode cX3_writeCell 113 = .ok (.iload 4, 2) := by decide +kernel
theorem dX3_writeCell_115 : decode cX3_writeCell 115 = .ok (.invokevirtual 69, 3) := by decide +kernel
theorem dX3_writeCell_118 : decode cX3_writeCell 118 = .ok (.aload_n 0, 1) := by decide +kernel
theorem dX3_writeCell_119 : decode cX3_writeCell 119 = .ok (.bipush 32, 2) := by decide +kernel
theorem dX3_writeCell_121 : decode cX3_writeCell 121 = .ok (.invokevirtual 69, 3) := by decide +kernel
theorem dX3_writeCell_124 : decode cX3_writeCell 124 = .ok (.aload_n 0, 1) := by decide +kernel
theorem dX3_writeCell_125 : decode cX3_writeCell 125 = .ok (.iload_n 2, 1) := by decide +kernel
theorem dX3_writeCell_126 : decode cX3_writeCell 126 = .ok (.invokestatic 80, 3) := by decide +kernel
theorem dX3_writeCell_129 : decode cX3_writeCell 129 = .ok (.invokevirtual 69, 3) := by decide +kernel
theorem dX3_writeCell_132 : decode cX3_writeCell 132 = .ok (.aload_n 0, 1) := by decide +kernel
theorem dX3_writeCell_133 : decode cX3_writeCell 133 = .ok (.bipush 32, 2) := by decide +kernel
theorem dX3_writeCell_135 : decode cX3_writeCell 135 = .ok (.invokevirtual 69, 3) := by decide +kernel
theorem dX3_writeCell_138 : decode cX3_writeCell 138 = .ok (.aload_n 0, 1) := by decide +kernel
theorem dX3_writeCell_139 : decode cX3_writeCell 139 = .ok (.iload 4, 2) := by decide +kernel
theorem dX3_writeCell_141 : decode cX3_writeCell 141 = .ok (.iconst 1, 1) := by decide +kernel
theorem dX3_writeCell_142 : decode cX3_writeCell 142 = .ok (.iadd, 1) := by decide +kernel
theorem dX3_writeCell_143 : decode cX3_writeCell 143 = .ok (.invokevirtual 69, 3) := by decide +kernel
theorem dX3_writeCell_146 : decode cX3_writeCell 146 = .ok (.goto 29, 3) := by decide +kernel
theorem dX3_writeCell_149 : decode cX3_writeCell 149 = .ok (.aload_n 0, 1) := by decide +kernel
theorem dX3_writeCell_150 : decode cX3_writeCell 150 = .ok (.bipush 45, 2) := by decide +kernel
theorem dX3_writeCell_152 : decode cX3_writeCell 152 = .ok (.invokevirtual 69, 3) := by decide +kernel
theorem dX3_writeCell_155 : decode cX3_writeCell 155 = .ok (.aload_n 0, 1) := by decide +kernel
theorem dX3_writeCell_156 : decode cX3_writeCell 156 = .ok (.bipush 7, 2) := by decide +kernel
theorem dX3_writeCell_158 : decode cX3_writeCell 158 = .ok (.invokevirtual 69, 3) := by decide +kernel
theorem dX3_writeCell_161 : decode cX3_writeCell 161 = .ok (.goto 14, 3) := by decide +kernel
theorem dX3_writeCell_164 : decode cX3_writeCell 164 = .ok (.aload_n 0, 1) := by decide +kernel
theorem dX3_writeCell_165 : decode cX3_writeCell 165 = .ok (.bipush 41, 2) := by decide +kernel
theorem dX3_writeCell_167 : decode cX3_writeCell 167 = .ok (.invokevirtual 39, 3) := by decide +kernel
theorem dX3_writeCell_170 : decode cX3_writeCell 170 = .ok (.aload_n 0, 1) := by decide +kernel
theorem dX3_writeCell_171 : decode cX3_writeCell 171 = .ok (.iload_n 2, 1) := by decide +kernel
theorem dX3_writeCell_172 : decode cX3_writeCell 172 = .ok (.invokevirtual 84, 3) := by decide +kernel
theorem dX3_writeCell_175 : decode cX3_writeCell 175 = .ok (.return_, 1) := by decide +kernel
theorem dX3_awaitCall_0 : decode cX3_awaitCall 0 = .ok (.aload_n 0, 1) := by decide +kernel
theorem dX3_awaitCall_1 : decode cX3_awaitCall 1 = .ok (.bipush 102, 2) := by decide +kernel
theorem dX3_awaitCall_3 : decode cX3_awaitCall 3 = .ok (.invokevirtual 69, 3) := by decide +kernel
theorem dX3_awaitCall_6 : decode cX3_awaitCall 6 = .ok (.aload_n 0, 1) := by decide +kernel
theorem dX3_awaitCall_7 : decode cX3_awaitCall 7 = .ok (.bipush 40, 2) := by decide +kernel
theorem dX3_awaitCall_9 : decode cX3_awaitCall 9 = .ok (.invokevirtual 69, 3) := by decide +kernel
theorem dX3_awaitCall_12 : decode cX3_awaitCall 12 = .ok (.iconst 0, 1) := by decide +kernel
theorem dX3_awaitCall_13 : decode cX3_awaitCall 13 = .ok (.istore_n 2, 1) := by decide +kernel
theorem dX3_awaitCall_14 : decode cX3_awaitCall 14 = .ok (.iload_n 2, 1) := by decide +kernel
theorem dX3_awaitCall_15 : decode cX3_awaitCall 15 = .ok (.iload_n 1, 1) := by decide +kernel
theorem dX3_awaitCall_16 : decode cX3_awaitCall 16 = .ok (.if_icmp .ge 30, 3) := by decide +kernel
theorem dX3_awaitCall_19 : decode cX3_awaitCall 19 = .ok (.iload_n 2, 1) := by decide +kernel
theorem dX3_awaitCall_20 : decode cX3_awaitCall 20 = .ok (.ifCond .le 15, 3) := by decide +kernel
theorem dX3_awaitCall_23 : decode cX3_awaitCall 23 = .ok (.aload_n 0, 1) := by decide +kernel
theorem dX3_awaitCall_24 : decode cX3_awaitCall 24 = .ok (.bipush 44, 2) := by decide +kernel
theorem dX3_awaitCall_26 : decode cX3_awaitCall 26 = .ok (.invokevirtual 69, 3) := by decide +kernel
theorem dX3_awaitCall_29 : decode cX3_awaitCall 29 = .ok (.aload_n 0, 1) := by decide +kernel
theorem dX3_awaitCall_30 : decode cX3_awaitCall 30 = .ok (.bipush 32, 2) := by decide +kernel
theorem dX3_awaitCall_32 : decode cX3_awaitCall 32 = .ok (.invokevirtual 69, 3) := by decide +kernel
theorem dX3_awaitCall_35 : decode cX3_awaitCall 35 = .ok (.aload_n 0, 1) := by decide +kernel
theorem dX3_awaitCall_36 : decode cX3_awaitCall 36 = .ok (.iconst 0, 1) := by decide +kernel
theorem dX3_awaitCall_37 : decode cX3_awaitCall 37 = .ok (.invokevirtual 69, 3) := by decide +kernel
theorem dX3_awaitCall_40 : decode cX3_awaitCall 40 = .ok (.iinc 2 1, 3) := by decide +kernel
theorem dX3_awaitCall_43 : decode cX3_awaitCall 43 = .ok (.goto (-29), 3) := by decide +kernel
theorem dX3_awaitCall_46 : decode cX3_awaitCall 46 = .ok (.return_, 1) := by decide +kernel
theorem dX3_rankOf_0 : decode cX3_rankOf 0 = .ok (.iload_n 0, 1) := by decide +kernel
theorem dX3_rankOf_1 : decode cX3_rankOf 1 = .ok (.lookupswitch 63 #[(0, 60), (4, 35), (5, 58)], 35) := by decide +kernel
theorem dX3_rankOf_36 : decode cX3_rankOf 36 = .ok (.iload_n 1, 1) := by decide +kernel
theorem dX3_rankOf_37 : decode cX3_rankOf 37 = .ok (.ifCond .lt 19, 3) := by decide +kernel
theorem dX3_rankOf_40 : decode cX3_rankOf 40 = .ok (.iload_n 1, 1) := by decide +kernel
theorem dX3_rankOf_41 : decode cX3_rankOf 41 = .ok (.getstatic 87, 3) := by decide +kernel
theorem dX3_rankOf_44 : decode cX3_rankOf 44 = .ok (.arraylength, 1) := by decide +kernel
theorem dX3_rankOf_45 : decode cX3_rankOf 45 = .ok (.if_icmp .ge 11, 3) := by decide +kernel
theorem dX3_rankOf_48 : decode cX3_rankOf 48 = .ok (.getstatic 87, 3) := by decide +kernel
theorem dX3_rankOf_51 : decode cX3_rankOf 51 = .ok (.iload_n 1, 1) := by decide +kernel
theorem dX3_rankOf_52 : decode cX3_rankOf 52 = .ok (.iaload, 1) := by decide +kernel
theorem dX3_rankOf_53 : decode cX3_rankOf 53 = .ok (.goto 5, 3) := by decide +kernel
theorem dX3_rankOf_56 : decode cX3_rankOf 56 = .ok (.bipush 7, 2) := by decide +kernel
theorem dX3_rankOf_58 : decode cX3_rankOf 58 = .ok (.ireturn, 1) := by decide +kernel
theorem dX3_rankOf_59 : decode cX3_rankOf 59 = .ok (.iconst 5, 1) := by decide +kernel
theorem dX3_rankOf_60 : decode cX3_rankOf 60 = .ok (.ireturn, 1) := by decide +kernel
theorem dX3_rankOf_61 : decode cX3_rankOf 61 = .ok (.bipush 6, 2) := by decide +kernel
theorem dX3_rankOf_63 : decode cX3_rankOf 63 = .ok (.ireturn, 1) := by decide +kernel
theorem dX3_rankOf_64 : decode cX3_rankOf 64 = .ok (.bipush 7, 2) := by decide +kernel
theorem dX3_rankOf_66 : decode cX3_rankOf 66 = .ok (.ireturn, 1) := by decide +kernel
theorem dX3_signOf_0 : decode cX3_signOf 0 = .ok (.iload_n 0, 1) := by decide +kernel
theorem dX3_signOf_1 : decode cX3_signOf 1 = .ok (.ifCond .lt 21, 3) := by decide +kernel
theorem dX3_signOf_4 : decode cX3_signOf 4 = .ok (.iload_n 0, 1) := by decide +kernel
theorem dX3_signOf_5 : decode cX3_signOf 5 = .ok (.ldc 90, 2) := by decide +kernel
theorem dX3_signOf_7 : decode cX3_signOf 7 = .ok (.invokevirtual 92, 3) := by decide +kernel
theorem dX3_signOf_10 : decode cX3_signOf 10 = .ok (.if_icmp .ge 12, 3) := by decide +kernel
theorem dX3_signOf_13 : decode cX3_signOf 13 = .ok (.ldc 90, 2) := by decide +kernel
theorem dX3_signOf_15 : decode cX3_signOf 15 = .ok (.iload_n 0, 1) := by decide +kernel
theorem dX3_signOf_16 : decode cX3_signOf 16 = .ok (.invokevirtual 98, 3) := by decide +kernel
theorem dX3_signOf_19 : decode cX3_signOf 19 = .ok (.goto 5, 3) := by decide +kernel
theorem dX3_signOf_22 : decode cX3_signOf 22 = .ok (.bipush 32, 2) := by decide +kernel
theorem dX3_signOf_24 : decode cX3_signOf 24 = .ok (.ireturn, 1) := by decide +kernel
theorem dX3_await_0 : decode cX3_await 0 = .ok (.aload_n 0, 1) := by decide +kernel
theorem dX3_await_1 : decode cX3_await 1 = .ok (.getfield 23, 3) := by decide +kernel
theorem dX3_await_4 : decode cX3_await 4 = .ok (.sipush 800, 3) := by decide +kernel
theorem dX3_await_7 : decode cX3_await 7 = .ok (.if_icmp .ge 23, 3) := by decide +kernel
theorem dX3_await_10 : decode cX3_await 10 = .ok (.aload_n 0, 1) := by decide +kernel
theorem dX3_await_11 : decode cX3_await 11 = .ok (.getfield 19, 3) := by decide +kernel
theorem dX3_await_14 : decode cX3_await 14 = .ok (.aload_n 0, 1) := by decide +kernel
theorem dX3_await_15 : decode cX3_await 15 = .ok (.getfield 23, 3) := by decide +kernel
theorem dX3_await_18 : decode cX3_await 18 = .ok (.iload_n 1, 1) := by decide +kernel
theorem dX3_await_19 : decode cX3_await 19 = .ok (.iastore, 1) := by decide +kernel
theorem dX3_await_20 : decode cX3_await 20 = .ok (.aload_n 0, 1) := by decide +kernel
theorem dX3_await_21 : decode cX3_await 21 = .ok (.dup, 1) := by decide +kernel
theorem dX3_await_22 : decode cX3_await 22 = .ok (.getfield 23, 3) := by decide +kernel
theorem dX3_await_25 : decode cX3_await 25 = .ok (.iconst 1, 1) := by decide +kernel
theorem dX3_await_26 : decode cX3_await 26 = .ok (.iadd, 1) := by decide +kernel
theorem dX3_await_27 : decode cX3_await 27 = .ok (.putfield 23, 3) := by decide +kernel
theorem dX3_await_30 : decode cX3_await 30 = .ok (.return_, 1) := by decide +kernel
theorem dX3_writeVariable_0 : decode cX3_writeVariable 0 = .ok (.aload_n 0, 1) := by decide +kernel
theorem dX3_writeVariable_1 : decode cX3_writeVariable 1 = .ok (.bipush 97, 2) := by decide +kernel
theorem dX3_writeVariable_3 : decode cX3_writeVariable 3 = .ok (.iload_n 1, 1) := by decide +kernel
theorem dX3_writeVariable_4 : decode cX3_writeVariable 4 = .ok (.iadd, 1) := by decide +kernel
theorem dX3_writeVariable_5 : decode cX3_writeVariable 5 = .ok (.i2c, 1) := by decide +kernel
theorem dX3_writeVariable_6 : decode cX3_writeVariable 6 = .ok (.invokevirtual 39, 3) := by decide +kernel
theorem dX3_writeVariable_9 : decode cX3_writeVariable 9 = .ok (.return_, 1) := by decide +kernel
theorem dX3_writeTemporary_0 : decode cX3_writeTemporary 0 = .ok (.aload_n 0, 1) := by decide +kernel
theorem dX3_writeTemporary_1 : decode cX3_writeTemporary 1 = .ok (.iload_n 1, 1) := by decide +kernel
theorem dX3_writeTemporary_2 : decode cX3_writeTemporary 2 = .ok (.invokevirtual 56, 3) := by decide +kernel
theorem dX3_writeTemporary_5 : decode cX3_writeTemporary 5 = .ok (.aload_n 0, 1) := by decide +kernel
theorem dX3_writeTemporary_6 : decode cX3_writeTemporary 6 = .ok (.bipush 116, 2) := by decide +kernel
theorem dX3_writeTemporary_8 : decode cX3_writeTemporary 8 = .ok (.invokevirtual 39, 3) := by decide +kernel
theorem dX3_writeTemporary_11 : decode cX3_writeTemporary 11 = .ok (.return_, 1) := by decide +kernel
theorem dX3_writeNumber_0 : decode cX3_writeNumber 0 = .ok (.iload_n 1, 1) := by decide +kernel
theorem dX3_writeNumber_1 : decode cX3_writeNumber 1 = .ok (.ifCond .ge 8, 3) := by decide +kernel
theorem dX3_writeNumber_4 : decode cX3_writeNumber 4 = .ok (.iload_n 1, 1) := by decide +kernel
theorem dX3_writeNumber_5 : decode cX3_writeNumber 5 = .ok (.ineg, 1) := by decide +kernel
theorem dX3_writeNumber_6 : decode cX3_writeNumber 6 = .ok (.goto 4, 3) := by decide +kernel
theorem dX3_writeNumber_9 : decode cX3_writeNumber 9 = .ok (.iload_n 1, 1) := by decide +kernel
theorem dX3_writeNumber_10 : decode cX3_writeNumber 10 = .ok (.istore_n 2, 1) := by decide +kernel
theorem dX3_writeNumber_11 : decode cX3_writeNumber 11 = .ok (.iconst 0, 1) := by decide +kernel
theorem dX3_writeNumber_12 : decode cX3_writeNumber 12 = .ok (.istore_n 3, 1) := by decide +kernel
theorem dX3_writeNumber_13 : decode cX3_writeNumber 13 = .ok (.iload_n 3, 1) := by decide +kernel
theorem dX3_writeNumber_14 : decode cX3_writeNumber 14 = .ok (.iconst 3, 1) := by decide +kernel
theorem dX3_writeNumber_15 : decode cX3_writeNumber 15 = .ok (.if_icmp .ge 34, 3) := by decide +kernel
theorem dX3_writeNumber_18 : decode cX3_writeNumber 18 = .ok (.iload_n 3, 1) := by decide +kernel
theorem dX3_writeNumber_19 : decode cX3_writeNumber 19 = .ok (.ifCond .eq 7, 3) := by decide +kernel
theorem dX3_writeNumber_22 : decode cX3_writeNumber 22 = .ok (.iload_n 2, 1) := by decide +kernel
theorem dX3_writeNumber_23 : decode cX3_writeNumber 23 = .ok (.ifCond .le 26, 3) := by decide +kernel
theorem dX3_writeNumber_26 : decode cX3_writeNumber 26 = .ok (.aload_n 0, 1) := by decide +kernel
theorem dX3_writeNumber_27 : decode cX3_writeNumber 27 = .ok (.bipush 48, 2) := by decide +kernel
theorem dX3_writeNumber_29 : decode cX3_writeNumber 29 = .ok (.iload_n 2, 1) := by decide +kernel
theorem dX3_writeNumber_30 : decode cX3_writeNumber 30 = .ok (.bipush 10, 2) := by decide +kernel
theorem dX3_writeNumber_32 : decode cX3_writeNumber 32 = .ok (.irem, 1) := by decide +kernel
theorem dX3_writeNumber_33 : decode cX3_writeNumber 33 = .ok (.iadd, 1) := by decide +kernel
theorem dX3_writeNumber_34 : decode cX3_writeNumber 34 = .ok (.i2c, 1) := by decide +kernel
theorem dX3_writeNumber_35 : decode cX3_writeNumber 35 = .ok (.invokevirtual 39, 3) := by decide +kernel
theorem dX3_writeNumber_38 : decode cX3_writeNumber 38 = .ok (.iload_n 2, 1) := by decide +kernel
theorem dX3_writeNumber_39 : decode cX3_writeNumber 39 = .ok (.bipush 10, 2) := by decide +kernel
theorem dX3_writeNumber_41 : decode cX3_writeNumber 41 = .ok (.idiv, 1) := by decide +kernel
theorem dX3_writeNumber_42 : decode cX3_writeNumber 42 = .ok (.istore_n 2, 1) := by decide +kernel
theorem dX3_writeNumber_43 : decode cX3_writeNumber 43 = .ok (.iinc 3 1, 3) := by decide +kernel
theorem dX3_writeNumber_46 : decode cX3_writeNumber 46 = .ok (.goto (-33), 3) := by decide +kernel
theorem dX3_writeNumber_49 : decode cX3_writeNumber 49 = .ok (.iload_n 1, 1) := by decide +kernel
theorem dX3_writeNumber_50 : decode cX3_writeNumber 50 = .ok (.ifCond .ge 9, 3) := by decide +kernel
theorem dX3_writeNumber_53 : decode cX3_writeNumber 53 = .ok (.aload_n 0, 1) := by decide +kernel
theorem dX3_writeNumber_54 : decode cX3_writeNumber 54 = .ok (.bipush 45, 2) := by decide +kernel
theorem dX3_writeNumber_56 : decode cX3_writeNumber 56 = .ok (.invokevirtual 39, 3) := by decide +kernel
theorem dX3_writeNumber_59 : decode cX3_writeNumber 59 = .ok (.return_, 1) := by decide +kernel
theorem dX3_writeText_0 : decode cX3_writeText 0 = .ok (.aload_n 1, 1) := by decide +kernel
theorem dX3_writeText_1 : decode cX3_writeText 1 = .ok (.invokevirtual 92, 3) := by decide +kernel
theorem dX3_writeText_4 : decode cX3_writeText 4 = .ok (.iconst 1, 1) := by decide +kernel
theorem dX3_writeText_5 : decode cX3_writeText 5 = .ok (.isub, 1) := by decide +kernel
theorem dX3_writeText_6 : decode cX3_writeText 6 = .ok (.istore_n 2, 1) := by decide +kernel
theorem dX3_writeText_7 : decode cX3_writeText 7 = .ok (.iload_n 2, 1) := by decide +kernel
theorem dX3_writeText_8 : decode cX3_writeText 8 = .ok (.ifCond .lt 18, 3) := by decide +kernel
theorem dX3_writeText_11 : decode cX3_writeText 11 = .ok (.aload_n 0, 1) := by decide +kernel
theorem dX3_writeText_12 : decode cX3_writeText 12 = .ok (.aload_n 1, 1) := by decide +kernel
theorem dX3_writeText_13 : decode cX3_writeText 13 = .ok (.iload_n 2, 1) := by decide +kernel
theorem dX3_writeText_14 : decode cX3_writeText 14 = .ok (.invokevirtual 98, 3) := by decide +kernel
theorem dX3_writeText_17 : decode cX3_writeText 17 = .ok (.invokevirtual 39, 3) := by decide +kernel
theorem dX3_writeText_20 : decode cX3_writeText 20 = .ok (.iinc 2 (-1), 3) := by decide +kernel
theorem dX3_writeText_23 : decode cX3_writeText 23 = .ok (.goto (-16), 3) := by decide +kernel
theorem dX3_writeText_26 : decode cX3_writeText 26 = .ok (.return_, 1) := by decide +kernel
theorem dX3_write_0 : decode cX3_write 0 = .ok (.aload_n 0, 1) := by decide +kernel
theorem dX3_write_1 : decode cX3_write 1 = .ok (.getfield 15, 3) := by decide +kernel
theorem dX3_write_4 : decode cX3_write 4 = .ok (.ifCond .le 23, 3) := by decide +kernel
theorem dX3_write_7 : decode cX3_write 7 = .ok (.aload_n 0, 1) := by decide +kernel
theorem dX3_write_8 : decode cX3_write 8 = .ok (.dup, 1) := by decide +kernel
theorem dX3_write_9 : decode cX3_write 9 = .ok (.getfield 15, 3) := by decide +kernel
theorem dX3_write_12 : decode cX3_write 12 = .ok (.iconst 1, 1) := by decide +kernel
theorem dX3_write_13 : decode cX3_write 13 = .ok (.isub, 1) := by decide +kernel
theorem dX3_write_14 : decode cX3_write 14 = .ok (.putfield 15, 3) := by decide +kernel
theorem dX3_write_17 : decode cX3_write 17 = .ok (.aload_n 0, 1) := by decide +kernel
theorem dX3_write_18 : decode cX3_write 18 = .ok (.getfield 9, 3) := by decide +kernel
theorem dX3_write_21 : decode cX3_write 21 = .ok (.aload_n 0, 1) := by decide +kernel
theorem dX3_write_22 : decode cX3_write 22 = .ok (.getfield 15, 3) := by decide +kernel
theorem dX3_write_25 : decode cX3_write 25 = .ok (.iload_n 1, 1) := by decide +kernel
theorem dX3_write_26 : decode cX3_write 26 = .ok (.castore, 1) := by decide +kernel
theorem dX3_write_27 : decode cX3_write 27 = .ok (.return_, 1) := by decide +kernel
