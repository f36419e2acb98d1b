theorem dX6_sayNumber_19 : decode cX6_sayNumber 19 = .ok (.iload_n 1, 1) := by decide +kernel
theorem dX6_sayNumber_20 : decode cX6_sayNumber 20 = .ok (.istore_n 2, 1) := by decide +kernel
theorem dX6_sayNumber_21 : decode cX6_sayNumber 21 = .ok (.iconst 1, 1) := by decide +kernel
theorem dX6_sayNumber_22 : decode cX6_sayNumber 22 = .ok (.istore_n 3, 1) := by decide +kernel
theorem dX6_sayNumber_23 : decode cX6_sayNumber 23 = .ok (.iload_n 2, 1) := by decide +kernel
theorem dX6_sayNumber_24 : decode cX6_sayNumber 24 = .ok (.iload_n 3, 1) := by decide +kernel
theorem dX6_sayNumber_25 : decode cX6_sayNumber 25 = .ok (.idiv, 1) := by decide +kernel
theorem dX6_sayNumber_26 : decode cX6_sayNumber 26 = .ok (.bipush 9, 2) := by decide +kernel
theorem dX6_sayNumber_28 : decode cX6_sayNumber 28 = .ok (.if_icmp .le 11, 3) := by decide +kernel
theorem dX6_sayNumber_31 : decode cX6_sayNumber 31 = .ok (.iload_n 3, 1) := by decide +kernel
theorem dX6_sayNumber_32 : decode cX6_sayNumber 32 = .ok (.bipush 10, 2) := by decide +kernel
theorem dX6_sayNumber_34 : decode cX6_sayNumber 34 = .ok (.imul, 1) := by decide +kernel
theorem dX6_sayNumber_35 : decode cX6_sayNumber 35 = .ok (.istore_n 3, 1) := by decide +kernel
theorem dX6_sayNumber_36 : decode cX6_sayNumber 36 = .ok (.goto (-13), 3) := by decide +kernel
theorem dX6_sayNumber_39 : decode cX6_sayNumber 39 = .ok (.iload_n 3, 1) := by decide +kernel
theorem dX6_sayNumber_40 : decode cX6_sayNumber 40 = .ok (.ifCond .le 24, 3) := by decide +kernel
theorem dX6_sayNumber_43 : decode cX6_sayNumber 43 = .ok (.aload_n 0, 1) := by decide +kernel
theorem dX6_sayNumber_44 : decode cX6_sayNumber 44 = .ok (.bipush 48, 2) := by decide +kernel
theorem dX6_sayNumber_46 : decode cX6_sayNumber 46 = .ok (.iload_n 2, 1) := by decide +kernel
theorem dX6_sayNumber_47 : decode cX6_sayNumber 47 = .ok (.iload_n 3, 1) := by decide +kernel
theorem dX6_sayNumber_48 : decode cX6_sayNumber 48 = .ok (.idiv, 1) := by decide +kernel
theorem dX6_sayNumber_49 : decode cX6_sayNumber 49 = .ok (.bipush 10, 2) := by decide +kernel
theorem dX6_sayNumber_51 : decode cX6_sayNumber 51 = .ok (.irem, 1) := by decide +kernel
theorem dX6_sayNumber_52 : decode cX6_sayNumber 52 = .ok (.iadd, 1) := by decide +kernel
theorem dX6_sayNumber_53 : decode cX6_sayNumber 53 = .ok (.invokevirtual 134, 3) := by decide +kernel
theorem dX6_sayNumber_56 : decode cX6_sayNumber 56 = .ok (.iload_n 3, 1) := by decide +kernel
theorem dX6_sayNumber_57 : decode cX6_sayNumber 57 = .ok (.bipush 10, 2) := by decide +kernel
theorem dX6_sayNumber_59 : decode cX6_sayNumber 59 = .ok (.idiv, 1) := by decide +kernel
theorem dX6_sayNumber_60 : decode cX6_sayNumber 60 = .ok (.istore_n 3, 1) := by decide +kernel
theorem dX6_sayNumber_61 : decode cX6_sayNumber 61 = .ok (.goto (-22), 3) := by decide +kernel
theorem dX6_sayNumber_64 : decode cX6_sayNumber 64 = .ok (.return_, 1) := by decide +kernel
theorem dX6_rank_0 : decode cX6_rank 0 = .ok (.aload_n 0, 1) := by decide +kernel
theorem dX6_rank_1 : decode cX6_rank 1 = .ok (.getfield 16, 3) := by decide +kernel
theorem dX6_rank_4 : decode cX6_rank 4 = .ok (.iload_n 1, 1) := by decide +kernel
theorem dX6_rank_5 : decode cX6_rank 5 = .ok (.iaload, 1) := by decide +kernel
theorem dX6_rank_6 : decode cX6_rank 6 = .ok (.iconst 4, 1) := by decide +kernel
theorem dX6_rank_7 : decode cX6_rank 7 = .ok (.if_icmp .ne 6, 3) := by decide +kernel
theorem dX6_rank_10 : decode cX6_rank 10 = .ok (.bipush 6, 2) := by decide +kernel
theorem dX6_rank_12 : decode cX6_rank 12 = .ok (.ireturn, 1) := by decide +kernel
theorem dX6_rank_13 : decode cX6_rank 13 = .ok (.aload_n 0, 1) := by decide +kernel
theorem dX6_rank_14 : decode cX6_rank 14 = .ok (.getfield 16, 3) := by decide +kernel
theorem dX6_rank_17 : decode cX6_rank 17 = .ok (.iload_n 1, 1) := by decide +kernel
theorem dX6_rank_18 : decode cX6_rank 18 = .ok (.iaload, 1) := by decide +kernel
theorem dX6_rank_19 : decode cX6_rank 19 = .ok (.iconst 3, 1) := by decide +kernel
theorem dX6_rank_20 : decode cX6_rank 20 = .ok (.if_icmp .eq 6, 3) := by decide +kernel
theorem dX6_rank_23 : decode cX6_rank 23 = .ok (.bipush 7, 2) := by decide +kernel
theorem dX6_rank_25 : decode cX6_rank 25 = .ok (.ireturn, 1) := by decide +kernel
theorem dX6_rank_26 : decode cX6_rank 26 = .ok (.aload_n 0, 1) := by decide +kernel
theorem dX6_rank_27 : decode cX6_rank 27 = .ok (.getfield 19, 3) := by decide +kernel
theorem dX6_rank_30 : decode cX6_rank 30 = .ok (.iload_n 1, 1) := by decide +kernel
theorem dX6_rank_31 : decode cX6_rank 31 = .ok (.iaload, 1) := by decide +kernel
theorem dX6_rank_32 : decode cX6_rank 32 = .ok (.istore_n 2, 1) := by decide +kernel
theorem dX6_rank_33 : decode cX6_rank 33 = .ok (.iload_n 2, 1) := by decide +kernel
theorem dX6_rank_34 : decode cX6_rank 34 = .ok (.iconst 4, 1) := by decide +kernel
theorem dX6_rank_35 : decode cX6_rank 35 = .ok (.if_icmp .ne 7, 3) := by decide +kernel
theorem dX6_rank_38 : decode cX6_rank 38 = .ok (.iconst 1, 1) := by decide +kernel
theorem dX6_rank_39 : decode cX6_rank 39 = .ok (.goto 31, 3) := by decide +kernel
theorem dX6_rank_42 : decode cX6_rank 42 = .ok (.iload_n 2, 1) := by decide +kernel
theorem dX6_rank_43 : decode cX6_rank 43 = .ok (.iconst 5, 1) := by decide +kernel
theorem dX6_rank_44 : decode cX6_rank 44 = .ok (.if_icmp .ne 7, 3) := by decide +kernel
theorem dX6_rank_47 : decode cX6_rank 47 = .ok (.iconst 2, 1) := by decide +kernel
theorem dX6_rank_48 : decode cX6_rank 48 = .ok (.goto 22, 3) := by decide +kernel
theorem dX6_rank_51 : decode cX6_rank 51 = .ok (.iload_n 2, 1) := by decide +kernel
theorem dX6_rank_52 : decode cX6_rank 52 = .ok (.iconst 3, 1) := by decide +kernel
theorem dX6_rank_53 : decode cX6_rank 53 = .ok (.if_icmp .ne 7, 3) := by decide +kernel
theorem dX6_rank_56 : decode cX6_rank 56 = .ok (.iconst 3, 1) := by decide +kernel
theorem dX6_rank_57 : decode cX6_rank 57 = .ok (.goto 13, 3) := by decide +kernel
theorem dX6_rank_60 : decode cX6_rank 60 = .ok (.iload_n 2, 1) := by decide +kernel
theorem dX6_rank_61 : decode cX6_rank 61 = .ok (.iconst 2, 1) := by decide +kernel
theorem dX6_rank_62 : decode cX6_rank 62 = .ok (.if_icmp .ge 7, 3) := by decide +kernel
theorem dX6_rank_65 : decode cX6_rank 65 = .ok (.iconst 4, 1) := by decide +kernel
theorem dX6_rank_66 : decode cX6_rank 66 = .ok (.goto 4, 3) := by decide +kernel
theorem dX6_rank_69 : decode cX6_rank 69 = .ok (.iconst 5, 1) := by decide +kernel
theorem dX6_rank_70 : decode cX6_rank 70 = .ok (.ireturn, 1) := by decide +kernel
theorem dX6_task_0 : decode cX6_task 0 = .ok (.aload_n 0, 1) := by decide +kernel
theorem dX6_task_1 : decode cX6_task 1 = .ok (.getfield 60, 3) := by decide +kernel
theorem dX6_task_4 : decode cX6_task 4 = .ok (.aload_n 0, 1) := by decide +kernel
theorem dX6_task_5 : decode cX6_task 5 = .ok (.getfield 137, 3) := by decide +kernel
theorem dX6_task_8 : decode cX6_task 8 = .ok (.iload_n 1, 1) := by decide +kernel
theorem dX6_task_9 : decode cX6_task 9 = .ok (.iastore, 1) := by decide +kernel
theorem dX6_task_10 : decode cX6_task 10 = .ok (.aload_n 0, 1) := by decide +kernel
theorem dX6_task_11 : decode cX6_task 11 = .ok (.dup, 1) := by decide +kernel
theorem dX6_task_12 : decode cX6_task 12 = .ok (.getfield 137, 3) := by decide +kernel
theorem dX6_task_15 : decode cX6_task 15 = .ok (.iconst 1, 1) := by decide +kernel
theorem dX6_task_16 : decode cX6_task 16 = .ok (.iadd, 1) := by decide +kernel
theorem dX6_task_17 : decode cX6_task 17 = .ok (.putfield 137, 3) := by decide +kernel
theorem dX6_task_20 : decode cX6_task 20 = .ok (.return_, 1) := by decide +kernel
theorem dX6_later_0 : decode cX6_later 0 = .ok (.iload_n 2, 1) := by decide +kernel
theorem dX6_later_1 : decode cX6_later 1 = .ok (.ifCond .eq 9, 3) := by decide +kernel
theorem dX6_later_4 : decode cX6_later 4 = .ok (.aload_n 0, 1) := by decide +kernel
theorem dX6_later_5 : decode cX6_later 5 = .ok (.bipush (-42), 2) := by decide +kernel
theorem dX6_later_7 : decode cX6_later 7 = .ok (.invokevirtual 140, 3) := by decide +kernel
theorem dX6_later_10 : decode cX6_later 10 = .ok (.aload_n 0, 1) := by decide +kernel
theorem dX6_later_11 : decode cX6_later 11 = .ok (.iload_n 1, 1) := by decide +kernel
theorem dX6_later_12 : decode cX6_later 12 = .ok (.invokevirtual 140, 3) := by decide +kernel
theorem dX6_later_15 : decode cX6_later 15 = .ok (.iload_n 2, 1) := by decide +kernel
theorem dX6_later_16 : decode cX6_later 16 = .ok (.ifCond .eq 9, 3) := by decide +kernel
theorem dX6_later_19 : decode cX6_later 19 = .ok (.aload_n 0, 1) := by decide +kernel
theorem dX6_later_20 : decode cX6_later 20 = .ok (.bipush (-41), 2) := by decide +kernel
theorem dX6_later_22 : decode cX6_later 22 = .ok (.invokevirtual 140, 3) := by decide +kernel
theorem dX6_later_25 : decode cX6_later 25 = .ok (.return_, 1) := by decide +kernel
theorem dX6_sayTerm_0 : decode cX6_sayTerm 0 = .ok (.aload_n 0, 1) := by decide +kernel
theorem dX6_sayTerm_1 : decode cX6_sayTerm 1 = .ok (.iconst 0, 1) := by decide +kernel
theorem dX6_sayTerm_2 : decode cX6_sayTerm 2 = .ok (.putfield 137, 3) := by decide +kernel
theorem dX6_sayTerm_5 : decode cX6_sayTerm 5 = .ok (.aload_n 0, 1) := by decide +kernel
theorem dX6_sayTerm_6 : decode cX6_sayTerm 6 = .ok (.iload_n 1, 1) := by decide +kernel
theorem dX6_sayTerm_7 : decode cX6_sayTerm 7 = .ok (.invokevirtual 140, 3) := by decide +kernel
theorem dX6_sayTerm_10 : decode cX6_sayTerm 10 = .ok (.aload_n 0, 1) := by decide +kernel
theorem dX6_sayTerm_11 : decode cX6_sayTerm 11 = .ok (.getfield 137, 3) := by decide +kernel
theorem dX6_sayTerm_14 : decode cX6_sayTerm 14 = .ok (.ifCond .le 338, 3) := by decide +kernel
theorem dX6_sayTerm_17 : decode cX6_sayTerm 17 = .ok (.aload_n 0, 1) := by decide +kernel
theorem dX6_sayTerm_18 : decode cX6_sayTerm 18 = .ok (.dup, 1) := by decide +kernel
theorem dX6_sayTerm_19 : decode cX6_sayTerm 19 = .ok (.getfield 137, 3) := by decide +kernel
theorem dX6_sayTerm_22 : decode cX6_sayTerm 22 = .ok (.iconst 1, 1) := by decide +kernel
theorem dX6_sayTerm_23 : decode cX6_sayTerm 23 = .ok (.isub, 1) := by decide +kernel
theorem dX6_sayTerm_24 : decode cX6_sayTerm 24 = .ok (.putfield 137, 3) := by decide +kernel
theorem dX6_sayTerm_27 : decode cX6_sayTerm 27 = .ok (.aload_n 0, 1) := by decide +kernel
theorem dX6_sayTerm_28 : decode cX6_sayTerm 28 = .ok (.getfield 60, 3) := by decide +kernel
theorem dX6_sayTerm_31 : decode cX6_sayTerm 31 = .ok (.aload_n 0, 1) := by decide +kernel
theorem dX6_sayTerm_32 : decode cX6_sayTerm 32 = .ok (.getfield 137, 3) := by decide +kernel
theorem dX6_sayTerm_35 : decode cX6_sayTerm 35 = .ok (.iaload, 1) := by decide +kernel
theorem dX6_sayTerm_36 : decode cX6_sayTerm 36 = .ok (.istore_n 2, 1) := by decide +kernel
theorem dX6_sayTerm_37 : decode cX6_sayTerm 37 = .ok (.iload_n 2, 1) := by decide +kernel
theorem dX6_sayTerm_38 : decode cX6_sayTerm 38 = .ok (.ifCond .ge 13, 3) := by decide +kernel
theorem dX6_sayTerm_41 : decode cX6_sayTerm 41 = .ok (.aload_n 0, 1) := by decide +kernel
theorem dX6_sayTerm_42 : decode cX6_sayTerm 42 = .ok (.iconst (-1), 1) := by decide +kernel
theorem dX6_sayTerm_43 : decode cX6_sayTerm 43 = .ok (.iload_n 2, 1) := by decide +kernel
theorem dX6_sayTerm_44 : decode cX6_sayTerm 44 = .ok (.isub, 1) := by decide +kernel
theorem dX6_sayTerm_45 : decode cX6_sayTerm 45 = .ok (.invokevirtual 134, 3) := by decide +kernel
theorem dX6_sayTerm_48 : decode cX6_sayTerm 48 = .ok (.goto (-38), 3) := by decide +kernel
theorem dX6_sayTerm_51 : decode cX6_sayTerm 51 = .ok (.aload_n 0, 1) := by decide +kernel
theorem dX6_sayTerm_52 : decode cX6_sayTerm 52 = .ok (.getfield 22, 3) := by decide +kernel
theorem dX6_sayTerm_55 : decode cX6_sayTerm 55 = .ok (.iconst 3, 1) := by decide +kernel
theorem dX6_sayTerm_56 : decode cX6_sayTerm 56 = .ok (.iload_n 2, 1) := by decide +kernel
theorem dX6_sayTerm_57 : decode cX6_sayTerm 57 = .ok (.imul, 1) := by decide +kernel
theorem dX6_sayTerm_58 : decode cX6_sayTerm 58 = .ok (.iaload, 1) := by decide +kernel
theorem dX6_sayTerm_59 : decode cX6_sayTerm 59 = .ok (.istore_n 3, 1) := by decide +kernel
theorem dX6_sayTerm_60 : decode cX6_sayTerm 60 = .ok (.aload_n 0, 1) := by decide +kernel
theorem dX6_sayTerm_61 : decode cX6_sayTerm 61 = .ok (.getfield 16, 3) := by decide +kernel
theorem dX6_sayTerm_64 : decode cX6_sayTerm 64 = .ok (.iload_n 2, 1) := by decide +kernel
theorem dX6_sayTerm_65 : decode cX6_sayTerm 65 = .ok (.iaload, 1) := by decide +kernel
theorem dX6_sayTerm_66 : decode cX6_sayTerm 66 = .ok (.tableswitch 212 0 4 #[34, 47, 63, 120, 82], 34) := by decide +kernel
theorem dX6_sayTerm_100 : decode cX6_sayTerm 100 = .ok (.aload_n 0, 1) := by decide +kernel
theorem dX6_sayTerm_101 : decode cX6_sayTerm 101 = .ok (.aload_n 0, 1) := by decide +kernel
theorem dX6_sayTerm_102 : decode cX6_sayTerm 102 = .ok (.getfield 19, 3) := by decide +kernel
theorem dX6_sayTerm_105 : decode cX6_sayTerm 105 = .ok (.iload_n 2, 1) := by decide +kernel
theorem dX6_sayTerm_106 : decode cX6_sayTerm 106 = .ok (.iaload, 1) := by decide +kernel
theorem dX6_sayTerm_107 : decode cX6_sayTerm 107 = .ok (.invokevirtual 143, 3) := by decide +kernel
theorem dX6_sayTerm_110 : decode cX6_sayTerm 110 = .ok (.goto 239, 3) := by decide +kernel
theorem dX6_sayTerm_113 : decode cX6_sayTerm 113 = .ok (.aload_n 0, 1) := by decide +kernel
theorem dX6_sayTerm_114 : decode cX6_sayTerm 114 = .ok (.bipush 97, 2) := by decide +kernel
theorem dX6_sayTerm_116 : decode cX6_sayTerm 116 = .ok (.aload_n 0, 1) := by decide +kernel
theorem dX6_sayTerm_117 : decode cX6_sayTerm 117 = .ok (.getfield 19, 3) := by decide +kernel
theorem dX6_sayTerm_120 : decode cX6_sayTerm 120 = .ok (.iload_n 2, 1) := by decide +kernel
theorem dX6_sayTerm_121 : decode cX6_sayTerm 121 = .ok (.iaload, 1) := by decide +kernel
theorem dX6_sayTerm_122 : decode cX6_sayTerm 122 = .ok (.iadd, 1) := by decide +kernel
theorem dX6_sayTerm_123 : decode cX6_sayTerm 123 = .ok (.invokevirtual 134, 3) := by decide +kernel
theorem dX6_sayTerm_126 : decode cX6_sayTerm 126 = .ok (.goto 223, 3) := by decide +kernel
theorem dX6_sayTerm_129 : decode cX6_sayTerm 129 = .ok (.aload_n 0, 1) := by decide +kernel
theorem dX6_sayTerm_130 : decode cX6_sayTerm 130 = .ok (.bipush 116, 2) := by decide +kernel
theorem dX6_sayTerm_132 : decode cX6_sayTerm 132 = .ok (.invokevirtual 134, 3) := by decide +kernel
theorem dX6_sayTerm_135 : decode cX6_sayTerm 135 = .ok (.aload_n 0, 1) := by decide +kernel
theorem dX6_sayTerm_136 : decode cX6_sayTerm 136 = .ok (.aload_n 0, 1) := by decide +kernel
theorem dX6_sayTerm_137 : decode cX6_sayTerm 137 = .ok (.getfield 19, 3) := by decide +kernel
theorem dX6_sayTerm_140 : decode cX6_sayTerm 140 = .ok (.iload_n 2, 1) := by decide +kernel
theorem dX6_sayTerm_141 : decode cX6_sayTerm 141 = .ok (.iaload, 1) := by decide +kernel
theorem dX6_sayTerm_142 : decode cX6_sayTerm 142 = .ok (.invokevirtual 143, 3) := by decide +kernel
theorem dX6_sayTerm_145 : decode cX6_sayTerm 145 = .ok (.goto 204, 3) := by decide +kernel
theorem dX6_sayTerm_148 : decode cX6_sayTerm 148 = .ok (.aload_n 0, 1) := by decide +kernel
theorem dX6_sayTerm_149 : decode cX6_sayTerm 149 = .ok (.bipush 45, 2) := by decide +kernel
theorem dX6_sayTerm_151 : decode cX6_sayTerm 151 = .ok (.invokevirtual 134, 3) := by decide +kernel
theorem dX6_sayTerm_154 : decode cX6_sayTerm 154 = .ok (.aload_n 0, 1) := by decide +kernel
theorem dX6_sayTerm_155 : decode cX6_sayTerm 155 = .ok (.iload_n 3, 1) := by decide +kernel
theorem dX6_sayTerm_156 : decode cX6_sayTerm 156 = .ok (.aload_n 0, 1) := by decide +kernel
theorem dX6_sayTerm_157 : decode cX6_sayTerm 157 = .ok (.iload_n 3, 1) := by decide +kernel
theorem dX6_sayTerm_158 : decode cX6_sayTerm 158 = .ok (.invokevirtual 146, 3) := by decide +kernel
theorem dX6_sayTerm_161 : decode cX6_sayTerm 161 = .ok (.bipush 6, 2) := by decide +kernel
theorem dX6_sayTerm_163 : decode cX6_sayTerm 163 = .ok (.if_icmp .le 12, 3) := by decide +kernel
theorem dX6_sayTerm_166 : decode cX6_sayTerm 166 = .ok (.aload_n 0, 1) := by decide +kernel
theorem dX6_sayTerm_167 : decode cX6_sayTerm 167 = .ok (.getfield 16, 3) := by decide +kernel
theorem dX6_sayTerm_170 : decode cX6_sayTerm 170 = .ok (.iload_n 3, 1) := by decide +kernel
theorem dX6_sayTerm_171 : decode cX6_sayTerm 171 = .ok (.iaload, 1) := by decide +kernel
theorem dX6_sayTerm_172 : decode cX6_sayTerm 172 = .ok (.ifCond .ne 7, 3) := by decide +kernel
theorem dX6_sayTerm_175 : decode cX6_sayTerm 175 = .ok (.iconst 1, 1) := by decide +kernel
theorem dX6_sayTerm_176 : decode cX6_sayTerm 176 = .ok (.goto 4, 3) := by decide +kernel
theorem dX6_sayTerm_179 : decode cX6_sayTerm 179 = .ok (.iconst 0, 1) := by decide +kernel
theorem dX6_sayTerm_180 : decode cX6_sayTerm 180 = .ok (.invokevirtual 149, 3) := by decide +kernel
theorem dX6_sayTerm_183 : decode cX6_sayTerm 183 = .ok (.goto 166, 3) := by decide +kernel
theorem dX6_sayTerm_186 : decode cX6_sayTerm 186 = .ok (.aload_n 0, 1) := by decide +kernel
theorem dX6_sayTerm_187 : decode cX6_sayTerm 187 = .ok (.getfield 22, 3) := by decide +kernel
theorem dX6_sayTerm_190 : decode cX6_sayTerm 190 = .ok (.iconst 3, 1) := by decide +kernel
theorem dX6_sayTerm_191 : decode cX6_sayTerm 191 = .ok (.iload_n 2, 1) := by decide +kernel
theorem dX6_sayTerm_192 : decode cX6_sayTerm 192 = .ok (.imul, 1) := by decide +kernel
theorem dX6_sayTerm_193 : decode cX6_sayTerm 193 = .ok (.iconst 1, 1) := by decide +kernel
theorem dX6_sayTerm_194 : decode cX6_sayTerm 194 = .ok (.iadd, 1) := by decide +kernel
theorem dX6_sayTerm_195 : decode cX6_sayTerm 195 = .ok (.iaload, 1) := by decide +kernel
theorem dX6_sayTerm_196 : decode cX6_sayTerm 196 = .ok (.istore 4, 2) := by decide +kernel
theorem dX6_sayTerm_198 : decode cX6_sayTerm 198 = .ok (.aload_n 0, 1) := by decide +kernel
theorem dX6_sayTerm_199 : decode cX6_sayTerm 199 = .ok (.iload 4, 2) := by decide +kernel
theorem dX6_sayTerm_201 : decode cX6_sayTerm 201 = .ok (.aload_n 0, 1) := by decide +kernel
theorem dX6_sayTerm_202 : decode cX6_sayTerm 202 = .ok (.iload 4, 2) := by decide +kernel
theorem dX6_sayTerm_204 : decode cX6_sayTerm 204 = .ok (.invokevirtual 146, 3) := by decide +kernel
theorem dX6_sayTerm_207 : decode cX6_sayTerm 207 = .ok (.aload_n 0, 1) := by decide +kernel
theorem dX6_sayTerm_208 : decode cX6_sayTerm 208 = .ok (.iload_n 2, 1) := by decide +kernel
theorem dX6_sayTerm_209 : decode cX6_sayTerm 209 = .ok (.invokevirtual 146, 3) := by decide +kernel
theorem dX6_sayTerm_212 : decode cX6_sayTerm 212 = .ok (.if_icmp .gt 7, 3) := by decide +kernel
theorem dX6_sayTerm_215 : decode cX6_sayTerm 215 = .ok (.iconst 1, 1) := by decide +kernel
theorem dX6_sayTerm_216 : decode cX6_sayTerm 216 = .ok (.goto 4, 3) := by decide +kernel
theorem dX6_sayTerm_219 : decode cX6_sayTerm 219 = .ok (.iconst 0, 1) := by decide +kernel
theorem dX6_sayTerm_220 : decode cX6_sayTerm 220 = .ok (.invokevirtual 149, 3) := by decide +kernel
theorem dX6_sayTerm_223 : decode cX6_sayTerm 223 = .ok (.aload_n 0, 1) := by decide +kernel
theorem dX6_sayTerm_224 : decode cX6_sayTerm 224 = .ok (.bipush (-33), 2) := by decide +kernel
theorem dX6_sayTerm_226 : decode cX6_sayTerm 226 = .ok (.invokevirtual 140, 3) := by decide +kernel
theorem dX6_sayTerm_229 : decode cX6_sayTerm 229 = .ok (.aload_n 0, 1) := by decide +kernel
theorem dX6_sayTerm_230 : decode cX6_sayTerm 230 = .ok (.iconst (-1), 1) := by decide +kernel
theorem dX6_sayTerm_231 : decode cX6_sayTerm 231 = .ok (.aload_n 0, 1) := by decide +kernel
theorem dX6_sayTerm_232 : decode cX6_sayTerm 232 = .ok (.getfield 63, 3) := by decide +kernel
theorem dX6_sayTerm_235 : decode cX6_sayTerm 235 = .ok (.aload_n 0, 1) := by decide +kernel
theorem dX6_sayTerm_236 : decode cX6_sayTerm 236 = .ok (.getfield 19, 3) := by decide +kernel
theorem dX6_sayTerm_239 : decode cX6_sayTerm 239 = .ok (.iload_n 2, 1) := by decide +kernel
theorem dX6_sayTerm_240 : decode cX6_sayTerm 240 = .ok (.iaload, 1) := by decide +kernel
theorem dX6_sayTerm_241 : decode cX6_sayTerm 241 = .ok (.iaload, 1) := by decide +kernel
theorem dX6_sayTerm_242 : decode cX6_sayTerm 242 = .ok (.isub, 1) := by decide +kernel
theorem dX6_sayTerm_243 : decode cX6_sayTerm 243 = .ok (.invokevirtual 140, 3) := by decide +kernel
theorem dX6_sayTerm_246 : decode cX6_sayTerm 246 = .ok (.aload_n 0, 1) := by decide +kernel
theorem dX6_sayTerm_247 : decode cX6_sayTerm 247 = .ok (.bipush (-33), 2) := by decide +kernel
theorem dX6_sayTerm_249 : decode cX6_sayTerm 249 = .ok (.invokevirtual 140, 3) := by decide +kernel
theorem dX6_sayTerm_252 : decode cX6_sayTerm 252 = .ok (.aload_n 0, 1) := by decide +kernel
theorem dX6_sayTerm_253 : decode cX6_sayTerm 253 = .ok (.iload_n 3, 1) := by decide +kernel
theorem dX6_sayTerm_254 : decode cX6_sayTerm 254 = .ok (.aload_n 0, 1) := by decide +kernel
theorem dX6_sayTerm_255 : decode cX6_sayTerm 255 = .ok (.iload_n 3, 1) := by decide +kernel
theorem dX6_sayTerm_256 : decode cX6_sayTerm 256 = .ok (.invokevirtual 146, 3) := by decide +kernel
theorem dX6_sayTerm_259 : decode cX6_sayTerm 259 = .ok (.aload_n 0, 1) := by decide +kernel
theorem dX6_sayTerm_260 : decode cX6_sayTerm 260 = .ok (.iload_n 2, 1) := by decide +kernel
theorem dX6_sayTerm_261 : decode cX6_sayTerm 261 = .ok (.invokevirtual 146, 3) := by decide +kernel
theorem dX6_sayTerm_264 : decode cX6_sayTerm 264 = .ok (.if_icmp .ge 7, 3) := by decide +kernel
theorem dX6_sayTerm_267 : decode cX6_sayTerm 267 = .ok (.iconst 1, 1) := by decide +kernel
theorem dX6_sayTerm_268 : decode cX6_sayTerm 268 = .ok (.goto 4, 3) := by decide +kernel
theorem dX6_sayTerm_271 : decode cX6_sayTerm 271 = .ok (.iconst 0, 1) := by decide +kernel
theorem dX6_sayTerm_272 : decode cX6_sayTerm 272 = .ok (.invokevirtual 149, 3) := by decide +kernel
theorem dX6_sayTerm_275 : decode cX6_sayTerm 275 = .ok (.goto 74, 3) := by decide +kernel
theorem dX6_sayTerm_278 : decode cX6_sayTerm 278 = .ok (.aload_n 0, 1) := by decide +kernel
theorem dX6_sayTerm_279 : decode cX6_sayTerm 279 = .ok (.bipush 102, 2) := by decide +kernel
theorem dX6_sayTerm_281 : decode cX6_sayTerm 281 = .ok (.invokevirtual 134, 3) := by decide +kernel
theorem dX6_sayTerm_284 : decode cX6_sayTerm 284 = .ok (.aload_n 0, 1) := by decide +kernel
theorem dX6_sayTerm_285 : decode cX6_sayTerm 285 = .ok (.bipush 40, 2) := by decide +kernel
theorem dX6_sayTerm_287 : decode cX6_sayTerm 287 = .ok (.invokevirtual 134, 3) := by decide +kernel
theorem dX6_sayTerm_290 : decode cX6_sayTerm 290 = .ok (.aload_n 0, 1) := by decide +kernel
theorem dX6_sayTerm_291 : decode cX6_sayTerm 291 = .ok (.bipush (-42), 2) := by decide +kernel
theorem dX6_sayTerm_293 : decode cX6_sayTerm 293 = .ok (.invokevirtual 140, 3) := by decide +kernel
theorem dX6_sayTerm_296 : decode cX6_sayTerm 296 = .ok (.aload_n 0, 1) := by decide +kernel
theorem dX6_sayTerm_297 : decode cX6_sayTerm 297 = .ok (.getfield 19, 3) := by decide +kernel
theorem dX6_sayTerm_300 : decode cX6_sayTerm 300 = .ok (.iload_n 2, 1) := by decide +kernel
theorem dX6_sayTerm_301 : decode cX6_sayTerm 301 = .ok (.iaload, 1) := by decide +kernel
theorem dX6_sayTerm_302 : decode cX6_sayTerm 302 = .ok (.iconst 1, 1) := by decide +kernel
theorem dX6_sayTerm_303 : decode cX6_sayTerm 303 = .ok (.isub, 1) := by decide +kernel
theorem dX6_sayTerm_304 : decode cX6_sayTerm 304 = .ok (.istore 5, 2) := by decide +kernel
theorem dX6_sayTerm_306 : decode cX6_sayTerm 306 = .ok (.iload 5, 2) := by decide +kernel
theorem dX6_sayTerm_308 : decode cX6_sayTerm 308 = .ok (.ifCond .lt 41, 3) := by decide +kernel
theorem dX6_sayTerm_311 : decode cX6_sayTerm 311 = .ok (.aload_n 0, 1) := by decide +kernel
theorem dX6_sayTerm_312 : decode cX6_sayTerm 312 = .ok (.aload_n 0, 1) := by decide +kernel
theorem dX6_sayTerm_313 : decode cX6_sayTerm 313 = .ok (.getfield 22, 3) := by decide +kernel
theorem dX6_sayTerm_316 : decode cX6_sayTerm 316 = .ok (.iconst 3, 1) := by decide +kernel
theorem dX6_sayTerm_317 : decode cX6_sayTerm 317 = .ok (.iload_n 2, 1) := by decide +kernel
theorem dX6_sayTerm_318 : decode cX6_sayTerm 318 = .ok (.imul, 1) := by decide +kernel
theorem dX6_sayTerm_319 : decode cX6_sayTerm 319 = .ok (.iload 5, 2) := by decide +kernel
theorem dX6_sayTerm_321 : decode cX6_sayTerm 321 = .ok (.iadd, 1) := by decide +kernel
theorem dX6_sayTerm_322 : decode cX6_sayTerm 322 = .ok (.iaload, 1) := by decide +kernel
theorem dX6_sayTerm_323 : decode cX6_sayTerm 323 = .ok (.invokevirtual 140, 3) := by decide +kernel
theorem dX6_sayTerm_326 : decode cX6_sayTerm 326 = .ok (.iload 5, 2) := by decide +kernel
theorem dX6_sayTerm_328 : decode cX6_sayTerm 328 = .ok (.ifCond .le 15, 3) := by decide +kernel
theorem dX6_sayTerm_331 : decode cX6_sayTerm 331 = .ok (.aload_n 0, 1) := by decide +kernel
theorem dX6_sayTerm_332 : decode cX6_sayTerm 332 = .ok (.bipush (-33), 2) := by decide +kernel
theorem dX6_sayTerm_334 : decode cX6_sayTerm 334 = .ok (.invokevirtual 140, 3) := by decide +kernel
theorem dX6_sayTerm_337 : decode cX6_sayTerm 337 = .ok (.aload_n 0, 1) := by decide +kernel
theorem dX6_sayTerm_338 : decode cX6_sayTerm 338 = .ok (.bipush (-45), 2) := by decide +kernel
theorem dX6_sayTerm_340 : decode cX6_sayTerm 340 = .ok (.invokevirtual 140, 3) := by decide +kernel
theorem dX6_sayTerm_343 : decode cX6_sayTerm 343 = .ok (.iinc 5 (-1), 3) := by decide +kernel
theorem dX6_sayTerm_346 : decode cX6_sayTerm 346 = .ok (.goto (-40), 3) := by decide +kernel
theorem dX6_sayTerm_349 : decode cX6_sayTerm 349 = .ok (.goto (-339), 3) := by decide +kernel
theorem dX6_sayTerm_352 : decode cX6_sayTerm 352 = .ok (.return_, 1) := by decide +kernel
theorem dX6_line_0 : decode cX6_line 0 = .ok (.aload_n 0, 1) := by decide +kernel
theorem dX6_line_1 : decode cX6_line 1 = .ok (.iconst 0, 1) := by decide +kernel
theorem dX6_line_2 : decode cX6_line 2 = .ok (.putfield 81, 3) := by decide +kernel
theorem dX6_line_5 : decode cX6_line 5 = .ok (.iload_n 1, 1) := by decide +kernel
theorem dX6_line_6 : decode cX6_line 6 = .ok (.ifCond .lt 15, 3) := by decide +kernel
theorem dX6_line_9 : decode cX6_line 9 = .ok (.iload_n 1, 1) := by decide +kernel
theorem dX6_line_10 : decode cX6_line 10 = .ok (.aload_n 0, 1) := by decide +kernel
theorem dX6_line_11 : decode cX6_line 11 = .ok (.getfield 110, 3) := by decide +kernel
theorem dX6_line_14 : decode cX6_line 14 = .ok (.if_icmp .ge 7, 3) := by decide +kernel
theorem dX6_line_17 : decode cX6_line 17 = .ok (.iload_n 2, 1) := by decide +kernel
theorem dX6_line_18 : decode cX6_line 18 = .ok (.ifCond .ge 5, 3) := by decide +kernel
theorem dX6_line_21 : decode cX6_line 21 = .ok (.iconst (-1), 1) := by decide +kernel
theorem dX6_line_22 : decode cX6_line 22 = .ok (.ireturn, 1) := by decide +kernel
theorem dX6_line_23 : decode cX6_line 23 = .ok (.aload_n 0, 1) := by decide +kernel
theorem dX6_line_24 : decode cX6_line 24 = .ok (.iconst 0, 1) := by decide +kernel
theorem dX6_line_25 : decode cX6_line 25 = .ok (.putfield 131, 3) := by decide +kernel
theorem dX6_line_28 : decode cX6_line 28 = .ok (.aload_n 0, 1) := by decide +kernel
theorem dX6_line_29 : decode cX6_line 29 = .ok (.getfield 28, 3) := by decide +kernel
theorem dX6_line_32 : decode cX6_line 32 = .ok (.iload_n 1, 1) := by decide +kernel
theorem dX6_line_33 : decode cX6_line 33 = .ok (.iaload, 1) := by decide +kernel
theorem dX6_line_34 : decode cX6_line 34 = .ok (.iconst 3, 1) := by decide +kernel
theorem dX6_line_35 : decode cX6_line 35 = .ok (.if_icmp .ne 30, 3) := by decide +kernel
theorem dX6_line_38 : decode cX6_line 38 = .ok (.aload_n 0, 1) := by decide +kernel
theorem dX6_line_39 : decode cX6_line 39 = .ok (.bipush 100, 2) := by decide +kernel
theorem dX6_line_41 : decode cX6_line 41 = .ok (.invokevirtual 134, 3) := by decide +kernel
theorem dX6_line_44 : decode cX6_line 44 = .ok (.aload_n 0, 1) := by decide +kernel
theorem dX6_line_45 : decode cX6_line 45 = .ok (.bipush 114, 2) := by decide +kernel
theorem dX6_line_47 : decode cX6_line 47 = .ok (.invokevirtual 134, 3) := by decide +kernel
theorem dX6_line_50 : decode cX6_line 50 = .ok (.aload_n 0, 1) := by decide +kernel
theorem dX6_line_51 : decode cX6_line 51 = .ok (.bipush 111, 2) := by decide +kernel
theorem dX6_line_53 : decode cX6_line 53 = .ok (.invokevirtual 134, 3) := by decide +kernel
theorem dX6_line_56 : decode cX6_line 56 = .ok (.aload_n 0, 1) := by decide +kernel
theorem dX6_line_57 : decode cX6_line 57 = .ok (.bipush 112, 2) := by decide +kernel
theorem dX6_line_59 : decode cX6_line 59 = .ok (.invokevirtual 134, 3) := by decide +kernel
theorem dX6_line_62 : decode cX6_line 62 = .ok (.goto 44, 3) := by decide +kernel
theorem dX6_line_65 : decode cX6_line 65 = .ok (.aload_n 0, 1) := by decide +kernel
theorem dX6_line_66 : decode cX6_line 66 = .ok (.getfield 28, 3) := by decide +kernel
theorem dX6_line_69 : decode cX6_line 69 = .ok (.iload_n 1, 1) := by decide +kernel
theorem dX6_line_70 : decode cX6_line 70 = .ok (.iaload, 1) := by decide +kernel
theorem dX6_line_71 : decode cX6_line 71 = .ok (.ifCond .ne 22, 3) := by decide +kernel
theorem dX6_line_74 : decode cX6_line 74 = .ok (.aload_n 0, 1) := by decide +kernel
theorem dX6_line_75 : decode cX6_line 75 = .ok (.bipush 116, 2) := by decide +kernel
theorem dX6_line_77 : decode cX6_line 77 = .ok (.invokevirtual 134, 3) := by decide +kernel
theorem dX6_line_80 : decode cX6_line 80 = .ok (.aload_n 0, 1) := by decide +kernel
theorem dX6_line_81 : decode cX6_line 81 = .ok (.aload_n 0, 1) := by decide +kernel
theorem dX6_line_82 : decode cX6_line 82 = .ok (.getfield 31, 3) := by decide +kernel
theorem dX6_line_85 : decode cX6_line 85 = .ok (.iload_n 1, 1) := by decide +kernel
theorem dX6_line_86 : decode cX6_line 86 = .ok (.iaload, 1) := by decide +kernel
theorem dX6_line_87 : decode cX6_line 87 = .ok (.invokevirtual 143, 3) := by decide +kernel
theorem dX6_line_90 : decode cX6_line 90 = .ok (.goto 16, 3) := by decide +kernel
theorem dX6_line_93 : decode cX6_line 93 = .ok (.aload_n 0, 1) := by decide +kernel
theorem dX6_line_94 : decode cX6_line 94 = .ok (.bipush 97, 2) := by decide +kernel
theorem dX6_line_96 : decode cX6_line 96 = .ok (.aload_n 0, 1) := by decide +kernel
theorem dX6_line_97 : decode cX6_line 97 = .ok (.getfield 31, 3) := by decide +kernel
theorem dX6_line_100 : decode cX6_line 100 = .ok (.iload_n 1, 1) := by decide +kernel
theorem dX6_line_101 : decode cX6_line 101 = .ok (.iaload, 1) := by decide +kernel
theorem dX6_line_102 : decode cX6_line 102 = .ok (.iadd, 1) := by decide +kernel
theorem dX6_line_103 : decode cX6_line 103 = .ok (.invokevirtual 134, 3) := by decide +kernel
theorem dX6_line_106 : decode cX6_line 106 = .ok (.aload_n 0, 1) := by decide +kernel
theorem dX6_line_107 : decode cX6_line 107 = .ok (.bipush 32, 2) := by decide +kernel
theorem dX6_line_109 : decode cX6_line 109 = .ok (.invokevirtual 134, 3) := by decide +kernel
theorem dX6_line_112 : decode cX6_line 112 = .ok (.aload_n 0, 1) := by decide +kernel
theorem dX6_line_113 : decode cX6_line 113 = .ok (.getfield 28, 3) := by decide +kernel
theorem dX6_line_116 : decode cX6_line 116 = .ok (.iload_n 1, 1) := by decide +kernel
theorem dX6_line_117 : decode cX6_line 117 = .ok (.iaload, 1) := by decide +kernel
theorem dX6_line_118 : decode cX6_line 118 = .ok (.iconst 3, 1) := by decide +kernel
theorem dX6_line_119 : decode cX6_line 119 = .ok (.if_icmp .ge 31, 3) := by decide +kernel
theorem dX6_line_122 : decode cX6_line 122 = .ok (.aload_n 0, 1) := by decide +kernel
theorem dX6_line_123 : decode cX6_line 123 = .ok (.getfield 28, 3) := by decide +kernel
theorem dX6_line_126 : decode cX6_line 126 = .ok (.iload_n 1, 1) := by decide +kernel
theorem dX6_line_127 : decode cX6_line 127 = .ok (.iaload, 1) := by decide +kernel
theorem dX6_line_128 : decode cX6_line 128 = .ok (.iconst 2, 1) := by decide +kernel
theorem dX6_line_129 : decode cX6_line 129 = .ok (.if_icmp .ne 9, 3) := by decide +kernel
theorem dX6_line_132 : decode cX6_line 132 = .ok (.aload_n 0, 1) := by decide +kernel
theorem dX6_line_133 : decode cX6_line 133 = .ok (.bipush 43, 2) := by decide +kernel
theorem dX6_line_135 : decode cX6_line 135 = .ok (.invokevirtual 134, 3) := by decide +kernel
theorem dX6_line_138 : decode cX6_line 138 = .ok (.aload_n 0, 1) := by decide +kernel
theorem dX6_line_139 : decode cX6_line 139 = .ok (.bipush 61, 2) := by decide +kernel
theorem dX6_line_141 : decode cX6_line 141 = .ok (.invokevirtual 134, 3) := by decide +kernel
theorem dX6_line_144 : decode cX6_line 144 = .ok (.aload_n 0, 1) := by decide +kernel
theorem dX6_line_145 : decode cX6_line 145 = .ok (.bipush 32, 2) := by decide +kernel
theorem dX6_line_147 : decode cX6_line 147 = .ok (.invokevirtual 134, 3) := by decide +kernel
theorem dX6_line_150 : decode cX6_line 150 = .ok (.aload_n 0, 1) := by decide +kernel
theorem dX6_line_151 : decode cX6_line 151 = .ok (.getfield 28, 3) := by decide +kernel
theorem dX6_line_154 : decode cX6_line 154 = .ok (.iload_n 1, 1) := by decide +kernel
theorem dX6_line_155 : decode cX6_line 155 = .ok (.iaload, 1) := by decide +kernel
theorem dX6_line_156 : decode cX6_line 156 = .ok (.iconst 2, 1) := by decide +kernel
theorem dX6_line_157 : decode cX6_line 157 = .ok (.if_icmp .ne 16, 3) := by decide +kernel
theorem dX6_line_160 : decode cX6_line 160 = .ok (.aload_n 0, 1) := by decide +kernel
theorem dX6_line_161 : decode cX6_line 161 = .ok (.aload_n 0, 1) := by decide +kernel
theorem dX6_line_162 : decode cX6_line 162 = .ok (.getfield 34, 3) := by decide +kernel
theorem dX6_line_165 : decode cX6_line 165 = .ok (.iload_n 1, 1) := by decide +kernel
theorem dX6_line_166 : decode cX6_line 166 = .ok (.iaload, 1) := by decide +kernel
theorem dX6_line_167 : decode cX6_line 167 = .ok (.invokevirtual 143, 3) := by decide +kernel
theorem dX6_line_170 : decode cX6_line 170 = .ok (.goto 13, 3) := by decide +kernel
theorem dX6_line_173 : decode cX6_line 173 = .ok (.aload_n 0, 1) := by decide +kernel
theorem dX6_line_174 : decode cX6_line 174 = .ok (.aload_n 0, 1) := by decide +kernel
theorem dX6_line_175 : decode cX6_line 175 = .ok (.getfield 34, 3) := by decide +kernel
theorem dX6_line_178 : decode cX6_line 178 = .ok (.iload_n 1, 1) := by decide +kernel
theorem dX6_line_179 : decode cX6_line 179 = .ok (.iaload, 1) := by decide +kernel
theorem dX6_line_180 : decode cX6_line 180 = .ok (.invokevirtual 153, 3) := by decide +kernel
theorem dX6_line_183 : decode cX6_line 183 = .ok (.aload_n 0, 1) := by decide +kernel
theorem dX6_line_184 : decode cX6_line 184 = .ok (.bipush 59, 2) := by decide +kernel
theorem dX6_line_186 : decode cX6_line 186 = .ok (.invokevirtual 134, 3) := by decide +kernel
theorem dX6_line_189 : decode cX6_line 189 = .ok (.iload_n 2, 1) := by decide +kernel
theorem dX6_line_190 : decode cX6_line 190 = .ok (.aload_n 0, 1) := by decide +kernel
theorem dX6_line_191 : decode cX6_line 191 = .ok (.getfield 131, 3) := by decide +kernel
theorem dX6_line_194 : decode cX6_line 194 = .ok (.if_icmp .ge 12, 3) := by decide +kernel
theorem dX6_line_197 : decode cX6_line 197 = .ok (.aload_n 0, 1) := by decide +kernel
theorem dX6_line_198 : decode cX6_line 198 = .ok (.getfield 57, 3) := by decide +kernel
theorem dX6_line_201 : decode cX6_line 201 = .ok (.iload_n 2, 1) := by decide +kernel
theorem dX6_line_202 : decode cX6_line 202 = .ok (.iaload, 1) := by decide +kernel
theorem dX6_line_203 : decode cX6_line 203 = .ok (.goto 4, 3) := by decide +kernel
theorem dX6_line_206 : decode cX6_line 206 = .ok (.iconst (-1), 1) := by decide +kernel
theorem dX6_line_207 : decode cX6_line 207 = .ok (.ireturn, 1) := by decide +kernel
theorem dX6_term_0 : decode cX6_term 0 = .ok (.aload_n 0, 1) := by decide +kernel
theorem dX6_term_1 : decode cX6_term 1 = .ok (.iconst 0, 1) := by decide +kernel
theorem dX6_term_2 : decode cX6_term 2 = .ok (.putfield 81, 3) := by decide +kernel
theorem dX6_term_5 : decode cX6_term 5 = .ok (.iload_n 1, 1) := by decide +kernel
theorem dX6_term_6 : decode cX6_term 6 = .ok (.ifCond .lt 15, 3) := by decide +kernel
theorem dX6_term_9 : decode cX6_term 9 = .ok (.iload_n 1, 1) := by decide +kernel
theorem dX6_term_10 : decode cX6_term 10 = .ok (.aload_n 0, 1) := by decide +kernel
theorem dX6_term_11 : decode cX6_term 11 = .ok (.getfield 96, 3) := by decide +kernel
theorem dX6_term_14 : decode cX6_term 14 = .ok (.if_icmp .ge 7, 3) := by decide +kernel
theorem dX6_term_17 : decode cX6_term 17 = .ok (.iload_n 2, 1) := by decide +kernel
theorem dX6_term_18 : decode cX6_term 18 = .ok (.ifCond .ge 5, 3) := by decide +kernel
theorem dX6_term_21 : decode cX6_term 21 = .ok (.iconst (-1), 1) := by decide +kernel
theorem dX6_term_22 : decode cX6_term 22 = .ok (.ireturn, 1) := by decide +kernel
theorem dX6_term_23 : decode cX6_term 23 = .ok (.aload_n 0, 1) := by decide +kernel
theorem dX6_term_24 : decode cX6_term 24 = .ok (.iconst 0, 1) := by decide +kernel
theorem dX6_term_25 : decode cX6_term 25 = .ok (.putfield 131, 3) := by decide +kernel
theorem dX6_term_28 : decode cX6_term 28 = .ok (.aload_n 0, 1) := by decide +kernel
theorem dX6_term_29 : decode cX6_term 29 = .ok (.aload_n 0, 1) := by decide +kernel
theorem dX6_term_30 : decode cX6_term 30 = .ok (.getfield 25, 3) := by decide +kernel
theorem dX6_term_33 : decode cX6_term 33 = .ok (.iload_n 1, 1) := by decide +kernel
theorem dX6_term_34 : decode cX6_term 34 = .ok (.iaload, 1) := by decide +kernel
theorem dX6_term_35 : decode cX6_term 35 = .ok (.invokevirtual 153, 3) := by decide +kernel
theorem dX6_term_38 : decode cX6_term 38 = .ok (.iload_n 2, 1) := by decide +kernel
theorem dX6_term_39 : decode cX6_term 39 = .ok (.aload_n 0, 1) := by decide +kernel
theorem dX6_term_40 : decode cX6_term 40 = .ok (.getfield 131, 3) := by decide +kernel
theorem dX6_term_43 : decode cX6_term 43 = .ok (.if_icmp .ge 12, 3) := by decide +kernel
theorem dX6_term_46 : decode cX6_term 46 = .ok (.aload_n 0, 1) := by decide +kernel
theorem dX6_term_47 : decode cX6_term 47 = .ok (.getfield 57, 3) := by decide +kernel
theorem dX6_term_50 : decode cX6_term 50 = .ok (.iload_n 2, 1) := by decide +kernel
theorem dX6_term_51 : decode cX6_term 51 = .ok (.iaload, 1) := by decide +kernel
theorem dX6_term_52 : decode cX6_term 52 = .ok (.goto 4, 3) := by decide +kernel
theorem dX6_term_55 : decode cX6_term 55 = .ok (.iconst (-1), 1) := by decide +kernel
theorem dX6_term_56 : decode cX6_term 56 = .ok (.ireturn, 1) := by decide +kernel
theorem dX6_give_0 : decode cX6_give 0 = .ok (.aload_n 0, 1) := by decide +kernel
theorem dX6_give_1 : decode cX6_give 1 = .ok (.iconst 0, 1) := by decide +kernel
theorem dX6_give_2 : decode cX6_give 2 = .ok (.putfield 81, 3) := by decide +kernel
theorem dX6_give_5 : decode cX6_give 5 = .ok (.iload_n 1, 1) := by decide +kernel
theorem dX6_give_6 : decode cX6_give 6 = .ok (.ifCond .lt 9, 3) := by decide +kernel
theorem dX6_give_9 : decode cX6_give 9 = .ok (.iload_n 1, 1) := by decide +kernel
theorem dX6_give_10 : decode cX6_give 10 = .ok (.bipush 9, 2) := by decide +kernel
theorem dX6_give_12 : decode cX6_give 12 = .ok (.if_icmp .le 5, 3) := by decide +kernel
theorem dX6_give_15 : decode cX6_give 15 = .ok (.iconst 0, 1) := by decide +kernel
theorem dX6_give_16 : decode cX6_give 16 = .ok (.ireturn, 1) := by decide +kernel
theorem dX6_give_17 : decode cX6_give 17 = .ok (.aload_n 0, 1) := by decide +kernel
theorem dX6_give_18 : decode cX6_give 18 = .ok (.getfield 37, 3) := by decide +kernel
theorem dX6_give_21 : decode cX6_give 21 = .ok (.iload_n 1, 1) := by decide +kernel
theorem dX6_give_22 : decode cX6_give 22 = .ok (.lload_n 2, 1) := by decide +kernel
theorem dX6_give_23 : decode cX6_give 23 = .ok (.lastore, 1) := by decide +kernel
theorem dX6_give_24 : decode cX6_give 24 = .ok (.iconst 1, 1) := by decide +kernel
theorem dX6_give_25 : decode cX6_give 25 = .ok (.ireturn, 1) := by decide +kernel
theorem dX6_reckoned_0 : decode cX6_reckoned 0 = .ok (.iload_n 1, 1) := by decide +kernel
theorem dX6_reckoned_1 : decode cX6_reckoned 1 = .ok (.iconst 5, 1) := by decide +kernel
theorem dX6_reckoned_2 : decode cX6_reckoned 2 = .ok (.if_icmp .le 17, 3) := by decide +kernel
theorem dX6_reckoned_5 : decode cX6_reckoned 5 = .ok (.lload 4, 2) := by decide +kernel
theorem dX6_reckoned_7 : decode cX6_reckoned 7 = .ok (.lconst 0, 1) := by decide +kernel
theorem dX6_reckoned_8 : decode cX6_reckoned 8 = .ok (.lcmp, 1) := by decide +kernel
theorem dX6_reckoned_9 : decode cX6_reckoned 9 = .ok (.ifCond .ne 10, 3) := by decide +kernel
theorem dX6_reckoned_12 : decode cX6_reckoned 12 = .ok (.aload_n 0, 1) := by decide +kernel
theorem dX6_reckoned_13 : decode cX6_reckoned 13 = .ok (.iconst 1, 1) := by decide +kernel
theorem dX6_reckoned_14 : decode cX6_reckoned 14 = .ok (.putfield 156, 3) := by decide +kernel
theorem dX6_reckoned_17 : decode cX6_reckoned 17 = .ok (.lconst 0, 1) := by decide +kernel
theorem dX6_reckoned_18 : decode cX6_reckoned 18 = .ok (.lreturn, 1) := by decide +kernel
theorem dX6_reckoned_19 : decode cX6_reckoned 19 = .ok (.iload_n 1, 1) := by decide +kernel
theorem dX6_reckoned_20 : decode cX6_reckoned 20 = .ok (.iconst 5, 1) := by decide +kernel
theorem dX6_reckoned_21 : decode cX6_reckoned 21 = .ok (.if_icmp .le 25, 3) := by decide +kernel
theorem dX6_reckoned_24 : decode cX6_reckoned 24 = .ok (.lload 4, 2) := by decide +kernel
theorem dX6_reckoned_26 : decode cX6_reckoned 26 = .ok (.ldc2_w 160, 3) := by decide +kernel
theorem dX6_reckoned_29 : decode cX6_reckoned 29 = .ok (.lcmp, 1) := by decide +kernel
theorem dX6_reckoned_30 : decode cX6_reckoned 30 = .ok (.ifCond .ne 16, 3) := by decide +kernel
theorem dX6_reckoned_33 : decode cX6_reckoned 33 = .ok (.iload_n 1, 1) := by decide +kernel
theorem dX6_reckoned_34 : decode cX6_reckoned 34 = .ok (.bipush 6, 2) := by decide +kernel
theorem dX6_reckoned_36 : decode cX6_reckoned 36 = .ok (.if_icmp .ne 8, 3) := by decide +kernel
theorem dX6_reckoned_39 : decode cX6_reckoned 39 = .ok (.lload_n 2, 1) := by decide +kernel
theorem dX6_reckoned_40 : decode cX6_reckoned 40 = .ok (.lneg, 1) := by decide +kernel
theorem dX6_reckoned_41 : decode cX6_reckoned 41 = .ok (.goto 4, 3) := by decide +kernel
theorem dX6_reckoned_44 : decode cX6_reckoned 44 = .ok (.lconst 0, 1) := by decide +kernel
theorem dX6_reckoned_45 : decode cX6_reckoned 45 = .ok (.lreturn, 1) := by decide +kernel
theorem dX6_reckoned_46 : decode cX6_reckoned 46 = .ok (.iload_n 1, 1) := by decide +kernel
theorem dX6_reckoned_47 : decode cX6_reckoned 47 = .ok (.ifCond .ne 10, 3) := by decide +kernel
theorem dX6_reckoned_50 : decode cX6_reckoned 50 = .ok (.lload_n 2, 1) := by decide +kernel
theorem dX6_reckoned_51 : decode cX6_reckoned 51 = .ok (.lload 4, 2) := by decide +kernel
theorem dX6_reckoned_53 : decode cX6_reckoned 53 = .ok (.ladd, 1) := by decide +kernel
theorem dX6_reckoned_54 : decode cX6_reckoned 54 = .ok (.goto 80, 3) := by decide +kernel
theorem dX6_reckoned_57 : decode cX6_reckoned 57 = .ok (.iload_n 1, 1) := by decide +kernel
theorem dX6_reckoned_58 : decode cX6_reckoned 58 = .ok (.iconst 1, 1) := by decide +kernel
theorem dX6_reckoned_59 : decode cX6_reckoned 59 = .ok (.if_icmp .ne 10, 3) := by decide +kernel
theorem dX6_reckoned_62 : decode cX6_reckoned 62 = .ok (.lload_n 2, 1) := by decide +kernel
theorem dX6_reckoned_63 : decode cX6_reckoned 63 = .ok (.lload 4, 2) := by decide +kernel
theorem dX6_reckoned_65 : decode cX6_reckoned 65 = .ok (.lsub, 1) := by decide +kernel
theorem dX6_reckoned_66 : decode cX6_reckoned 66 = .ok (.goto 68, 3) := by decide +kernel
theorem dX6_reckoned_69 : decode cX6_reckoned 69 = .ok (.iload_n 1, 1) := by decide +kernel
theorem dX6_reckoned_70 : decode cX6_reckoned 70 = .ok (.iconst 2, 1) := by decide +kernel
theorem dX6_reckoned_71 : decode cX6_reckoned 71 = .ok (.if_icmp .ne 10, 3) := by decide +kernel
theorem dX6_reckoned_74 : decode cX6_reckoned 74 = .ok (.lload_n 2, 1) := by decide +kernel
theorem dX6_reckoned_75 : decode cX6_reckoned 75 = .ok (.lload 4, 2) := by decide +kernel
theorem dX6_reckoned_77 : decode cX6_reckoned 77 = .ok (.lmul, 1) := by decide +kernel
theorem dX6_reckoned_78 : decode cX6_reckoned 78 = .ok (.goto 56, 3) := by decide +kernel
theorem dX6_reckoned_81 : decode cX6_reckoned 81 = .ok (.iload_n 1, 1) := by decide +kernel
theorem dX6_reckoned_82 : decode cX6_reckoned 82 = .ok (.iconst 3, 1) := by decide +kernel
theorem dX6_reckoned_83 : decode cX6_reckoned 83 = .ok (.if_icmp .ne 10, 3) := by decide +kernel
theorem dX6_reckoned_86 : decode cX6_reckoned 86 = .ok (.lload_n 2, 1) := by decide +kernel
theorem dX6_reckoned_87 : decode cX6_reckoned 87 = .ok (.lload 4, 2) := by decide +kernel
theorem dX6_reckoned_89 : decode cX6_reckoned 89 = .ok (.land, 1) := by decide +kernel
theorem dX6_reckoned_90 : decode cX6_reckoned 90 = .ok (.goto 44, 3) := by decide +kernel
theorem dX6_reckoned_93 : decode cX6_reckoned 93 = .ok (.iload_n 1, 1) := by decide +kernel
theorem dX6_reckoned_94 : decode cX6_reckoned 94 = .ok (.iconst 4, 1) := by decide +kernel
theorem dX6_reckoned_95 : decode cX6_reckoned 95 = .ok (.if_icmp .ne 10, 3) := by decide +kernel
theorem dX6_reckoned_98 : decode cX6_reckoned 98 = .ok (.lload_n 2, 1) := by decide +kernel
theorem dX6_reckoned_99 : decode cX6_reckoned 99 = .ok (.lload 4, 2) := by decide +kernel
theorem dX6_reckoned_101 : decode cX6_reckoned 101 = .ok (.lor, 1) := by decide +kernel
theorem dX6_reckoned_102 : decode cX6_reckoned 102 = .ok (.goto 32, 3) := by decide +kernel
theorem dX6_reckoned_105 : decode cX6_reckoned 105 = .ok (.iload_n 1, 1) := by decide +kernel
theorem dX6_reckoned_106 : decode cX6_reckoned 106 = .ok (.iconst 5, 1) := by decide +kernel
theorem dX6_reckoned_107 : decode cX6_reckoned 107 = .ok (.if_icmp .ne 10, 3) := by decide +kernel
theorem dX6_reckoned_110 : decode cX6_reckoned 110 = .ok (.lload_n 2, 1) := by decide +kernel
theorem dX6_reckoned_111 : decode cX6_reckoned 111 = .ok (.lload 4, 2) := by decide +kernel
theorem dX6_reckoned_113 : decode cX6_reckoned 113 = .ok (.lxor, 1) := by decide +kernel
theorem dX6_reckoned_114 : decode cX6_reckoned 114 = .ok (.goto 20, 3) := by decide +kernel
theorem dX6_reckoned_117 : decode cX6_reckoned 117 = .ok (.iload_n 1, 1) := by decide +kernel
theorem dX6_reckoned_118 : decode cX6_reckoned 118 = .ok (.bipush 6, 2) := by decide +kernel
theorem dX6_reckoned_120 : decode cX6_reckoned 120 = .ok (.if_icmp .ne 10, 3) := by decide +kernel
theorem dX6_reckoned_123 : decode cX6_reckoned 123 = .ok (.lload_n 2, 1) := by decide +kernel
theorem dX6_reckoned_124 : decode cX6_reckoned 124 = .ok (.lload 4, 2) := by decide +kernel
theorem dX6_reckoned_126 : decode cX6_reckoned 126 = .ok (.ldiv, 1) := by decide +kernel
theorem dX6_reckoned_127 : decode cX6_reckoned 127 = .ok (.goto 7, 3) := by decide +kernel
theorem dX6_reckoned_130 : decode cX6_reckoned 130 = .ok (.lload_n 2, 1) := by decide +kernel
theorem dX6_reckoned_131 : decode cX6_reckoned 131 = .ok (.lload 4, 2) := by decide +kernel
theorem dX6_reckoned_133 : decode cX6_reckoned 133 = .ok (.lrem, 1) := by decide +kernel
theorem dX6_reckoned_134 : decode cX6_reckoned 134 = .ok (.lreturn, 1) := by decide +kernel
theorem dX6_call_0 : decode cX6_call 0 = .ok (.aload_n 0, 1) := by decide +kernel
theorem dX6_call_1 : decode cX6_call 1 = .ok (.dup, 1) := by decide +kernel
theorem dX6_call_2 : decode cX6_call 2 = .ok (.getfield 162, 3) := by decide +kernel
theorem dX6_call_5 : decode cX6_call 5 = .ok (.iconst 1, 1) := by decide +kernel
theorem dX6_call_6 : decode cX6_call 6 = .ok (.iadd, 1) := by decide +kernel
theorem dX6_call_7 : decode cX6_call 7 = .ok (.putfield 162, 3) := by decide +kernel
theorem dX6_call_10 : decode cX6_call 10 = .ok (.ldc2_w 165, 3) := by decide +kernel
theorem dX6_call_13 : decode cX6_call 13 = .ok (.aload_n 0, 1) := by decide +kernel
theorem dX6_call_14 : decode cX6_call 14 = .ok (.getfield 162, 3) := by decide +kernel
theorem dX6_call_17 : decode cX6_call 17 = .ok (.i2l, 1) := by decide +kernel
theorem dX6_call_18 : decode cX6_call 18 = .ok (.lmul, 1) := by decide +kernel
theorem dX6_call_19 : decode cX6_call 19 = .ok (.lstore_n 2, 1) := by decide +kernel
theorem dX6_call_20 : decode cX6_call 20 = .ok (.lconst 1, 1) := by decide +kernel
theorem dX6_call_21 : decode cX6_call 21 = .ok (.lstore 4, 2) := by decide +kernel
theorem dX6_call_23 : decode cX6_call 23 = .ok (.aload_n 0, 1) := by decide +kernel
theorem dX6_call_24 : decode cX6_call 24 = .ok (.dup, 1) := by decide +kernel
theorem dX6_call_25 : decode cX6_call 25 = .ok (.getfield 167, 3) := by decide +kernel
theorem dX6_call_28 : decode cX6_call 28 = .ok (.iload_n 1, 1) := by decide +kernel
theorem dX6_call_29 : decode cX6_call 29 = .ok (.isub, 1) := by decide +kernel
theorem dX6_call_30 : decode cX6_call 30 = .ok (.putfield 167, 3) := by decide +kernel
theorem dX6_call_33 : decode cX6_call 33 = .ok (.iconst 0, 1) := by decide +kernel
theorem dX6_call_34 : decode cX6_call 34 = .ok (.istore 6, 2) := by decide +kernel
theorem dX6_call_36 : decode cX6_call 36 = .ok (.iload 6, 2) := by decide +kernel
theorem dX6_call_38 : decode cX6_call 38 = .ok (.iload_n 1, 1) := by decide +kernel
theorem dX6_call_39 : decode cX6_call 39 = .ok (.if_icmp .ge 35, 3) := by decide +kernel
theorem dX6_call_42 : decode cX6_call 42 = .ok (.lload_n 2, 1) := by decide +kernel
theorem dX6_call_43 : decode cX6_call 43 = .ok (.lload 4, 2) := by decide +kernel
theorem dX6_call_45 : decode cX6_call 45 = .ok (.aload_n 0, 1) := by decide +kernel
theorem dX6_call_46 : decode cX6_call 46 = .ok (.getfield 72, 3) := by decide +kernel
theorem dX6_call_49 : decode cX6_call 49 = .ok (.aload_n 0, 1) := by decide +kernel
theorem dX6_call_50 : decode cX6_call 50 = .ok (.getfield 167, 3) := by decide +kernel
theorem dX6_call_53 : decode cX6_call 53 = .ok (.iload 6, 2) := by decide +kernel
theorem dX6_call_55 : decode cX6_call 55 = .ok (.iadd, 1) := by decide +kernel
theorem dX6_call_56 : decode cX6_call 56 = .ok (.laload, 1) := by decide +kernel
theorem dX6_call_57 : decode cX6_call 57 = .ok (.lmul, 1) := by decide +kernel
theorem dX6_call_58 : decode cX6_call 58 = .ok (.ladd, 1) := by decide +kernel
theorem dX6_call_59 : decode cX6_call 59 = .ok (.lstore_n 2, 1) := by decide +kernel
theorem dX6_call_60 : decode cX6_call 60 = .ok (.lload 4, 2) := by decide +kernel
theorem dX6_call_62 : decode cX6_call 62 = .ok (.ldc2_w 170, 3) := by decide +kernel
theorem dX6_call_65 : decode cX6_call 65 = .ok (.lmul, 1) := by decide +kernel
theorem dX6_call_66 : decode cX6_call 66 = .ok (.lstore 4, 2) := by decide +kernel
theorem dX6_call_68 : decode cX6_call 68 = .ok (.iinc 6 1, 3) := by decide +kernel
theorem dX6_call_71 : decode cX6_call 71 = .ok (.goto (-35), 3) := by decide +kernel
theorem dX6_call_74 : decode cX6_call 74 = .ok (.aload_n 0, 1) := by decide +kernel
theorem dX6_call_75 : decode cX6_call 75 = .ok (.lload_n 2, 1) := by decide +kernel
theorem dX6_call_76 : decode cX6_call 76 = .ok (.invokevirtual 172, 3) := by decide +kernel
theorem dX6_call_79 : decode cX6_call 79 = .ok (.return_, 1) := by decide +kernel
theorem dX6_put_0 : decode cX6_put 0 = .ok (.aload_n 0, 1) := by decide +kernel
theorem dX6_put_1 : decode cX6_put 1 = .ok (.getfield 72, 3) := by decide +kernel
theorem dX6_put_4 : decode cX6_put 4 = .ok (.aload_n 0, 1) := by decide +kernel
theorem dX6_put_5 : decode cX6_put 5 = .ok (.getfield 167, 3) := by decide +kernel
theorem dX6_put_8 : decode cX6_put 8 = .ok (.lload_n 1, 1) := by decide +kernel
theorem dX6_put_9 : decode cX6_put 9 = .ok (.lastore, 1) := by decide +kernel
theorem dX6_put_10 : decode cX6_put 10 = .ok (.aload_n 0, 1) := by decide +kernel
theorem dX6_put_11 : decode cX6_put 11 = .ok (.dup, 1) := by decide +kernel
theorem dX6_put_12 : decode cX6_put 12 = .ok (.getfield 167, 3) := by decide +kernel
theorem dX6_put_15 : decode cX6_put 15 = .ok (.iconst 1, 1) := by decide +kernel
theorem dX6_put_16 : decode cX6_put 16 = .ok (.iadd, 1) := by decide +kernel
theorem dX6_put_17 : decode cX6_put 17 = .ok (.putfield 167, 3) := by decide +kernel
theorem dX6_put_20 : decode cX6_put 20 = .ok (.return_, 1) := by decide +kernel
theorem dX6_partsOf_0 : decode cX6_partsOf 0 = .ok (.iload_n 0, 1) := by decide +kernel
theorem dX6_partsOf_1 : decode cX6_partsOf 1 = .ok (.iconst 3, 1) := by decide +kernel
theorem dX6_partsOf_2 : decode cX6_partsOf 2 = .ok (.if_icmp .ne 7, 3) := by decide +kernel
theorem dX6_partsOf_5 : decode cX6_partsOf 5 = .ok (.iconst 2, 1) := by decide +kernel
theorem dX6_partsOf_6 : decode cX6_partsOf 6 = .ok (.goto 22, 3) := by decide +kernel
theorem dX6_partsOf_9 : decode cX6_partsOf 9 = .ok (.iload_n 0, 1) := by decide +kernel
theorem dX6_partsOf_10 : decode cX6_partsOf 10 = .ok (.iconst 4, 1) := by decide +kernel
theorem dX6_partsOf_11 : decode cX6_partsOf 11 = .ok (.if_icmp .ne 7, 3) := by decide +kernel
theorem dX6_partsOf_14 : decode cX6_partsOf 14 = .ok (.iconst 1, 1) := by decide +kernel
theorem dX6_partsOf_15 : decode cX6_partsOf 15 = .ok (.goto 13, 3) := by decide +kernel
theorem dX6_partsOf_18 : decode cX6_partsOf 18 = .ok (.iload_n 0, 1) := by decide +kernel
theorem dX6_partsOf_19 : decode cX6_partsOf 19 = .ok (.iconst 5, 1) := by decide +kernel
theorem dX6_partsOf_20 : decode cX6_partsOf 20 = .ok (.if_icmp .ne 7, 3) := by decide +kernel
theorem dX6_partsOf_23 : decode cX6_partsOf 23 = .ok (.iload_n 1, 1) := by decide +kernel
theorem dX6_partsOf_24 : decode cX6_partsOf 24 = .ok (.goto 4, 3) := by decide +kernel
theorem dX6_partsOf_27 : decode cX6_partsOf 27 = .ok (.iconst 0, 1) := by decide +kernel
theorem dX6_partsOf_28 : decode cX6_partsOf 28 = .ok (.ireturn, 1) := by decide +kernel
theorem dX6_work_0 : decode cX6_work 0 = .ok (.iconst 1, 1) := by decide +kernel
theorem dX6_work_1 : decode cX6_work 1 = .ok (.istore_n 2, 1) := by decide +kernel
theorem dX6_work_2 : decode cX6_work 2 = .ok (.aload_n 0, 1) := by decide +kernel
theorem dX6_work_3 : decode cX6_work 3 = .ok (.getfield 75, 3) := by decide +kernel
theorem dX6_work_6 : decode cX6_work 6 = .ok (.iconst 0, 1) := by decide +kernel
theorem dX6_work_7 : decode cX6_work 7 = .ok (.iload_n 1, 1) := by decide +kernel
theorem dX6_work_8 : decode cX6_work 8 = .ok (.iastore, 1) := by decide +kernel
theorem dX6_work_9 : decode cX6_work 9 = .ok (.aload_n 0, 1) := by decide +kernel
theorem dX6_work_10 : decode cX6_work 10 = .ok (.getfield 78, 3) := by decide +kernel
theorem dX6_work_13 : decode cX6_work 13 = .ok (.iconst 0, 1) := by decide +kernel
theorem dX6_work_14 : decode cX6_work 14 = .ok (.iconst 0, 1) := by decide +kernel
theorem dX6_work_15 : decode cX6_work 15 = .ok (.iastore, 1) := by decide +kernel
theorem dX6_work_16 : decode cX6_work 16 = .ok (.iload_n 2, 1) := by decide +kernel
theorem dX6_work_17 : decode cX6_work 17 = .ok (.ifCond .le 113, 3) := by decide +kernel
theorem dX6_work_20 : decode cX6_work 20 = .ok (.aload_n 0, 1) := by decide +kernel
theorem dX6_work_21 : decode cX6_work 21 = .ok (.getfield 156, 3) := by decide +kernel
theorem dX6_work_24 : decode cX6_work 24 = .ok (.ifCond .ne 106, 3) := by decide +kernel
theorem dX6_work_27 : decode cX6_work 27 = .ok (.aload_n 0, 1) := by decide +kernel
theorem dX6_work_28 : decode cX6_work 28 = .ok (.getfield 75, 3) := by decide +kernel
theorem dX6_work_31 : decode cX6_work 31 = .ok (.iload_n 2, 1) := by decide +kernel
theorem dX6_work_32 : decode cX6_work 32 = .ok (.iconst 1, 1) := by decide +kernel
theorem dX6_work_33 : decode cX6_work 33 = .ok (.isub, 1) := by decide +kernel
theorem dX6_work_34 : decode cX6_work 34 = .ok (.iaload, 1) := by decide +kernel
theorem dX6_work_35 : decode cX6_work 35 = .ok (.istore_n 3, 1) := by decide +kernel
theorem dX6_work_36 : decode cX6_work 36 = .ok (.aload_n 0, 1) := by decide +kernel
