theorem dX6_init_0 : decode cX6_init 0 = .ok (.aload_n 0, 1) := by decide +kernel
theorem dX6_init_1 : decode cX6_init 1 = .ok (.invokespecial 1, 3) := by decide +kernel
theorem dX6_init_4 : decode cX6_init 4 = .ok (.aload_n 0, 1) := by decide +kernel
theorem dX6_init_5 : decode cX6_init 5 = .ok (.bipush 100, 2) := by decide +kernel
theorem dX6_init_7 : decode cX6_init 7 = .ok (.newarray .int, 2) := by decide +kernel
theorem dX6_init_9 : decode cX6_init 9 = .ok (.putfield 7, 3) := by decide +kernel
theorem dX6_init_12 : decode cX6_init 12 = .ok (.aload_n 0, 1) := by decide +kernel
theorem dX6_init_13 : decode cX6_init 13 = .ok (.bipush 100, 2) := by decide +kernel
theorem dX6_init_15 : decode cX6_init 15 = .ok (.newarray .int, 2) := by decide +kernel
theorem dX6_init_17 : decode cX6_init 17 = .ok (.putfield 13, 3) := by decide +kernel
theorem dX6_init_20 : decode cX6_init 20 = .ok (.aload_n 0, 1) := by decide +kernel
theorem dX6_init_21 : decode cX6_init 21 = .ok (.sipush 3000, 3) := by decide +kernel
theorem dX6_init_24 : decode cX6_init 24 = .ok (.newarray .int, 2) := by decide +kernel
theorem dX6_init_26 : decode cX6_init 26 = .ok (.putfield 16, 3) := by decide +kernel
theorem dX6_init_29 : decode cX6_init 29 = .ok (.aload_n 0, 1) := by decide +kernel
theorem dX6_init_30 : decode cX6_init 30 = .ok (.sipush 3000, 3) := by decide +kernel
theorem dX6_init_33 : decode cX6_init 33 = .ok (.newarray .int, 2) := by decide +kernel
theorem dX6_init_35 : decode cX6_init 35 = .ok (.putfield 19, 3) := by decide +kernel
theorem dX6_init_38 : decode cX6_init 38 = .ok (.aload_n 0, 1) := by decide +kernel
theorem dX6_init_39 : decode cX6_init 39 = .ok (.sipush 9000, 3) := by decide +kernel
theorem dX6_init_42 : decode cX6_init 42 = .ok (.newarray .int, 2) := by decide +kernel
theorem dX6_init_44 : decode cX6_init 44 = .ok (.putfield 22, 3) := by decide +kernel
theorem dX6_init_47 : decode cX6_init 47 = .ok (.aload_n 0, 1) := by decide +kernel
theorem dX6_init_48 : decode cX6_init 48 = .ok (.bipush 24, 2) := by decide +kernel
theorem dX6_init_50 : decode cX6_init 50 = .ok (.newarray .int, 2) := by decide +kernel
theorem dX6_init_52 : decode cX6_init 52 = .ok (.putfield 25, 3) := by decide +kernel
theorem dX6_init_55 : decode cX6_init 55 = .ok (.aload_n 0, 1) := by decide +kernel
theorem dX6_init_56 : decode cX6_init 56 = .ok (.sipush 2200, 3) := by decide +kernel
theorem dX6_init_59 : decode cX6_init 59 = .ok (.newarray .int, 2) := by decide +kernel
theorem dX6_init_61 : decode cX6_init 61 = .ok (.putfield 28, 3) := by decide +kernel
theorem dX6_init_64 : decode cX6_init 64 = .ok (.aload_n 0, 1) := by decide +kernel
theorem dX6_init_65 : decode cX6_init 65 = .ok (.sipush 2200, 3) := by decide +kernel
theorem dX6_init_68 : decode cX6_init 68 = .ok (.newarray .int, 2) := by decide +kernel
theorem dX6_init_70 : decode cX6_init 70 = .ok (.putfield 31, 3) := by decide +kernel
theorem dX6_init_73 : decode cX6_init 73 = .ok (.aload_n 0, 1) := by decide +kernel
theorem dX6_init_74 : decode cX6_init 74 = .ok (.sipush 2200, 3) := by decide +kernel
theorem dX6_init_77 : decode cX6_init 77 = .ok (.newarray .int, 2) := by decide +kernel
theorem dX6_init_79 : decode cX6_init 79 = .ok (.putfield 34, 3) := by decide +kernel
theorem dX6_init_82 : decode cX6_init 82 = .ok (.aload_n 0, 1) := by decide +kernel
theorem dX6_init_83 : decode cX6_init 83 = .ok (.bipush 10, 2) := by decide +kernel
theorem dX6_init_85 : decode cX6_init 85 = .ok (.newarray .long, 2) := by decide +kernel
theorem dX6_init_87 : decode cX6_init 87 = .ok (.putfield 37, 3) := by decide +kernel
theorem dX6_init_90 : decode cX6_init 90 = .ok (.aload_n 0, 1) := by decide +kernel
theorem dX6_init_91 : decode cX6_init 91 = .ok (.iconst 2, 1) := by decide +kernel
theorem dX6_init_92 : decode cX6_init 92 = .ok (.newarray .boolean, 2) := by decide +kernel
theorem dX6_init_94 : decode cX6_init 94 = .ok (.putfield 41, 3) := by decide +kernel
theorem dX6_init_97 : decode cX6_init 97 = .ok (.aload_n 0, 1) := by decide +kernel
theorem dX6_init_98 : decode cX6_init 98 = .ok (.bipush 20, 2) := by decide +kernel
theorem dX6_init_100 : decode cX6_init 100 = .ok (.newarray .long, 2) := by decide +kernel
theorem dX6_init_102 : decode cX6_init 102 = .ok (.putfield 45, 3) := by decide +kernel
theorem dX6_init_105 : decode cX6_init 105 = .ok (.aload_n 0, 1) := by decide +kernel
theorem dX6_init_106 : decode cX6_init 106 = .ok (.iconst 2, 1) := by decide +kernel
theorem dX6_init_107 : decode cX6_init 107 = .ok (.newarray .int, 2) := by decide +kernel
theorem dX6_init_109 : decode cX6_init 109 = .ok (.putfield 48, 3) := by decide +kernel
theorem dX6_init_112 : decode cX6_init 112 = .ok (.aload_n 0, 1) := by decide +kernel
theorem dX6_init_113 : decode cX6_init 113 = .ok (.bipush 48, 2) := by decide +kernel
theorem dX6_init_115 : decode cX6_init 115 = .ok (.newarray .long, 2) := by decide +kernel
theorem dX6_init_117 : decode cX6_init 117 = .ok (.putfield 51, 3) := by decide +kernel
theorem dX6_init_120 : decode cX6_init 120 = .ok (.aload_n 0, 1) := by decide +kernel
theorem dX6_init_121 : decode cX6_init 121 = .ok (.iconst 2, 1) := by decide +kernel
theorem dX6_init_122 : decode cX6_init 122 = .ok (.newarray .int, 2) := by decide +kernel
theorem dX6_init_124 : decode cX6_init 124 = .ok (.putfield 54, 3) := by decide +kernel
theorem dX6_init_127 : decode cX6_init 127 = .ok (.aload_n 0, 1) := by decide +kernel
theorem dX6_init_128 : decode cX6_init 128 = .ok (.sipush 6000, 3) := by decide +kernel
theorem dX6_init_131 : decode cX6_init 131 = .ok (.newarray .int, 2) := by decide +kernel
theorem dX6_init_133 : decode cX6_init 133 = .ok (.putfield 57, 3) := by decide +kernel
theorem dX6_init_136 : decode cX6_init 136 = .ok (.aload_n 0, 1) := by decide +kernel
theorem dX6_init_137 : decode cX6_init 137 = .ok (.sipush 2000, 3) := by decide +kernel
theorem dX6_init_140 : decode cX6_init 140 = .ok (.newarray .int, 2) := by decide +kernel
theorem dX6_init_142 : decode cX6_init 142 = .ok (.putfield 60, 3) := by decide +kernel
theorem dX6_init_145 : decode cX6_init 145 = .ok (.aload_n 0, 1) := by decide +kernel
theorem dX6_init_146 : decode cX6_init 146 = .ok (.bipush 8, 2) := by decide +kernel
theorem dX6_init_148 : decode cX6_init 148 = .ok (.newarray .int, 2) := by decide +kernel
theorem dX6_init_150 : decode cX6_init 150 = .ok (.dup, 1) := by decide +kernel
theorem dX6_init_151 : decode cX6_init 151 = .ok (.iconst 0, 1) := by decide +kernel
theorem dX6_init_152 : decode cX6_init 152 = .ok (.bipush 43, 2) := by decide +kernel
theorem dX6_init_154 : decode cX6_init 154 = .ok (.iastore, 1) := by decide +kernel
theorem dX6_init_155 : decode cX6_init 155 = .ok (.dup, 1) := by decide +kernel
theorem dX6_init_156 : decode cX6_init 156 = .ok (.iconst 1, 1) := by decide +kernel
theorem dX6_init_157 : decode cX6_init 157 = .ok (.bipush 45, 2) := by decide +kernel
theorem dX6_init_159 : decode cX6_init 159 = .ok (.iastore, 1) := by decide +kernel
theorem dX6_init_160 : decode cX6_init 160 = .ok (.dup, 1) := by decide +kernel
theorem dX6_init_161 : decode cX6_init 161 = .ok (.iconst 2, 1) := by decide +kernel
theorem dX6_init_162 : decode cX6_init 162 = .ok (.bipush 42, 2) := by decide +kernel
theorem dX6_init_164 : decode cX6_init 164 = .ok (.iastore, 1) := by decide +kernel
theorem dX6_init_165 : decode cX6_init 165 = .ok (.dup, 1) := by decide +kernel
theorem dX6_init_166 : decode cX6_init 166 = .ok (.iconst 3, 1) := by decide +kernel
theorem dX6_init_167 : decode cX6_init 167 = .ok (.bipush 38, 2) := by decide +kernel
theorem dX6_init_169 : decode cX6_init 169 = .ok (.iastore, 1) := by decide +kernel
theorem dX6_init_170 : decode cX6_init 170 = .ok (.dup, 1) := by decide +kernel
theorem dX6_init_171 : decode cX6_init 171 = .ok (.iconst 4, 1) := by decide +kernel
theorem dX6_init_172 : decode cX6_init 172 = .ok (.bipush 124, 2) := by decide +kernel
theorem dX6_init_174 : decode cX6_init 174 = .ok (.iastore, 1) := by decide +kernel
theorem dX6_init_175 : decode cX6_init 175 = .ok (.dup, 1) := by decide +kernel
theorem dX6_init_176 : decode cX6_init 176 = .ok (.iconst 5, 1) := by decide +kernel
theorem dX6_init_177 : decode cX6_init 177 = .ok (.bipush 94, 2) := by decide +kernel
theorem dX6_init_179 : decode cX6_init 179 = .ok (.iastore, 1) := by decide +kernel
theorem dX6_init_180 : decode cX6_init 180 = .ok (.dup, 1) := by decide +kernel
theorem dX6_init_181 : decode cX6_init 181 = .ok (.bipush 6, 2) := by decide +kernel
theorem dX6_init_183 : decode cX6_init 183 = .ok (.bipush 47, 2) := by decide +kernel
theorem dX6_init_185 : decode cX6_init 185 = .ok (.iastore, 1) := by decide +kernel
theorem dX6_init_186 : decode cX6_init 186 = .ok (.dup, 1) := by decide +kernel
theorem dX6_init_187 : decode cX6_init 187 = .ok (.bipush 7, 2) := by decide +kernel
theorem dX6_init_189 : decode cX6_init 189 = .ok (.bipush 37, 2) := by decide +kernel
theorem dX6_init_191 : decode cX6_init 191 = .ok (.iastore, 1) := by decide +kernel
theorem dX6_init_192 : decode cX6_init 192 = .ok (.putfield 63, 3) := by decide +kernel
theorem dX6_init_195 : decode cX6_init 195 = .ok (.aload_n 0, 1) := by decide +kernel
theorem dX6_init_196 : decode cX6_init 196 = .ok (.bipush 10, 2) := by decide +kernel
theorem dX6_init_198 : decode cX6_init 198 = .ok (.newarray .long, 2) := by decide +kernel
theorem dX6_init_200 : decode cX6_init 200 = .ok (.putfield 66, 3) := by decide +kernel
theorem dX6_init_203 : decode cX6_init 203 = .ok (.aload_n 0, 1) := by decide +kernel
theorem dX6_init_204 : decode cX6_init 204 = .ok (.sipush 2200, 3) := by decide +kernel
theorem dX6_init_207 : decode cX6_init 207 = .ok (.newarray .long, 2) := by decide +kernel
theorem dX6_init_209 : decode cX6_init 209 = .ok (.putfield 69, 3) := by decide +kernel
theorem dX6_init_212 : decode cX6_init 212 = .ok (.aload_n 0, 1) := by decide +kernel
theorem dX6_init_213 : decode cX6_init 213 = .ok (.sipush 400, 3) := by decide +kernel
theorem dX6_init_216 : decode cX6_init 216 = .ok (.newarray .long, 2) := by decide +kernel
theorem dX6_init_218 : decode cX6_init 218 = .ok (.putfield 72, 3) := by decide +kernel
theorem dX6_init_221 : decode cX6_init 221 = .ok (.aload_n 0, 1) := by decide +kernel
theorem dX6_init_222 : decode cX6_init 222 = .ok (.sipush 400, 3) := by decide +kernel
theorem dX6_init_225 : decode cX6_init 225 = .ok (.newarray .int, 2) := by decide +kernel
theorem dX6_init_227 : decode cX6_init 227 = .ok (.putfield 75, 3) := by decide +kernel
theorem dX6_init_230 : decode cX6_init 230 = .ok (.aload_n 0, 1) := by decide +kernel
theorem dX6_init_231 : decode cX6_init 231 = .ok (.sipush 400, 3) := by decide +kernel
theorem dX6_init_234 : decode cX6_init 234 = .ok (.newarray .int, 2) := by decide +kernel
theorem dX6_init_236 : decode cX6_init 236 = .ok (.putfield 78, 3) := by decide +kernel
theorem dX6_init_239 : decode cX6_init 239 = .ok (.return_, 1) := by decide +kernel
theorem dX6_thrown_0 : decode cX6_thrown 0 = .ok (.aload_n 0, 1) := by decide +kernel
theorem dX6_thrown_1 : decode cX6_thrown 1 = .ok (.getfield 81, 3) := by decide +kernel
theorem dX6_thrown_4 : decode cX6_thrown 4 = .ok (.ireturn, 1) := by decide +kernel
theorem dX6_mayBe_0 : decode cX6_mayBe 0 = .ok (.iload_n 0, 1) := by decide +kernel
theorem dX6_mayBe_1 : decode cX6_mayBe 1 = .ok (.ifCond .ne 21, 3) := by decide +kernel
theorem dX6_mayBe_4 : decode cX6_mayBe 4 = .ok (.iload_n 1, 1) := by decide +kernel
theorem dX6_mayBe_5 : decode cX6_mayBe 5 = .ok (.bipush (-128), 2) := by decide +kernel
theorem dX6_mayBe_7 : decode cX6_mayBe 7 = .ok (.if_icmp .lt 13, 3) := by decide +kernel
theorem dX6_mayBe_10 : decode cX6_mayBe 10 = .ok (.iload_n 1, 1) := by decide +kernel
theorem dX6_mayBe_11 : decode cX6_mayBe 11 = .ok (.bipush 127, 2) := by decide +kernel
theorem dX6_mayBe_13 : decode cX6_mayBe 13 = .ok (.if_icmp .gt 7, 3) := by decide +kernel
theorem dX6_mayBe_16 : decode cX6_mayBe 16 = .ok (.iconst 1, 1) := by decide +kernel
theorem dX6_mayBe_17 : decode cX6_mayBe 17 = .ok (.goto 4, 3) := by decide +kernel
theorem dX6_mayBe_20 : decode cX6_mayBe 20 = .ok (.iconst 0, 1) := by decide +kernel
theorem dX6_mayBe_21 : decode cX6_mayBe 21 = .ok (.ireturn, 1) := by decide +kernel
theorem dX6_mayBe_22 : decode cX6_mayBe 22 = .ok (.iload_n 0, 1) := by decide +kernel
theorem dX6_mayBe_23 : decode cX6_mayBe 23 = .ok (.iconst 1, 1) := by decide +kernel
theorem dX6_mayBe_24 : decode cX6_mayBe 24 = .ok (.if_icmp .eq 8, 3) := by decide +kernel
theorem dX6_mayBe_27 : decode cX6_mayBe 27 = .ok (.iload_n 0, 1) := by decide +kernel
theorem dX6_mayBe_28 : decode cX6_mayBe 28 = .ok (.iconst 2, 1) := by decide +kernel
theorem dX6_mayBe_29 : decode cX6_mayBe 29 = .ok (.if_icmp .ne 8, 3) := by decide +kernel
theorem dX6_mayBe_32 : decode cX6_mayBe 32 = .ok (.bipush 9, 2) := by decide +kernel
theorem dX6_mayBe_34 : decode cX6_mayBe 34 = .ok (.goto 35, 3) := by decide +kernel
theorem dX6_mayBe_37 : decode cX6_mayBe 37 = .ok (.iload_n 0, 1) := by decide +kernel
theorem dX6_mayBe_38 : decode cX6_mayBe 38 = .ok (.iconst 3, 1) := by decide +kernel
theorem dX6_mayBe_39 : decode cX6_mayBe 39 = .ok (.if_icmp .ne 9, 3) := by decide +kernel
theorem dX6_mayBe_42 : decode cX6_mayBe 42 = .ok (.sipush 2559, 3) := by decide +kernel
theorem dX6_mayBe_45 : decode cX6_mayBe 45 = .ok (.goto 24, 3) := by decide +kernel
theorem dX6_mayBe_48 : decode cX6_mayBe 48 = .ok (.iload_n 0, 1) := by decide +kernel
theorem dX6_mayBe_49 : decode cX6_mayBe 49 = .ok (.iconst 4, 1) := by decide +kernel
theorem dX6_mayBe_50 : decode cX6_mayBe 50 = .ok (.if_icmp .ne 8, 3) := by decide +kernel
theorem dX6_mayBe_53 : decode cX6_mayBe 53 = .ok (.bipush 7, 2) := by decide +kernel
theorem dX6_mayBe_55 : decode cX6_mayBe 55 = .ok (.goto 14, 3) := by decide +kernel
theorem dX6_mayBe_58 : decode cX6_mayBe 58 = .ok (.iload_n 0, 1) := by decide +kernel
theorem dX6_mayBe_59 : decode cX6_mayBe 59 = .ok (.bipush 10, 2) := by decide +kernel
theorem dX6_mayBe_61 : decode cX6_mayBe 61 = .ok (.if_icmp .ne 7, 3) := by decide +kernel
theorem dX6_mayBe_64 : decode cX6_mayBe 64 = .ok (.iconst 3, 1) := by decide +kernel
theorem dX6_mayBe_65 : decode cX6_mayBe 65 = .ok (.goto 4, 3) := by decide +kernel
theorem dX6_mayBe_68 : decode cX6_mayBe 68 = .ok (.iconst 0, 1) := by decide +kernel
theorem dX6_mayBe_69 : decode cX6_mayBe 69 = .ok (.istore_n 2, 1) := by decide +kernel
theorem dX6_mayBe_70 : decode cX6_mayBe 70 = .ok (.iload_n 0, 1) := by decide +kernel
theorem dX6_mayBe_71 : decode cX6_mayBe 71 = .ok (.ifCond .le 22, 3) := by decide +kernel
theorem dX6_mayBe_74 : decode cX6_mayBe 74 = .ok (.iload_n 0, 1) := by decide +kernel
theorem dX6_mayBe_75 : decode cX6_mayBe 75 = .ok (.bipush 11, 2) := by decide +kernel
theorem dX6_mayBe_77 : decode cX6_mayBe 77 = .ok (.if_icmp .ge 16, 3) := by decide +kernel
theorem dX6_mayBe_80 : decode cX6_mayBe 80 = .ok (.iload_n 1, 1) := by decide +kernel
theorem dX6_mayBe_81 : decode cX6_mayBe 81 = .ok (.ifCond .lt 12, 3) := by decide +kernel
theorem dX6_mayBe_84 : decode cX6_mayBe 84 = .ok (.iload_n 1, 1) := by decide +kernel
theorem dX6_mayBe_85 : decode cX6_mayBe 85 = .ok (.iload_n 2, 1) := by decide +kernel
theorem dX6_mayBe_86 : decode cX6_mayBe 86 = .ok (.if_icmp .gt 7, 3) := by decide +kernel
theorem dX6_mayBe_89 : decode cX6_mayBe 89 = .ok (.iconst 1, 1) := by decide +kernel
theorem dX6_mayBe_90 : decode cX6_mayBe 90 = .ok (.goto 4, 3) := by decide +kernel
theorem dX6_mayBe_93 : decode cX6_mayBe 93 = .ok (.iconst 0, 1) := by decide +kernel
theorem dX6_mayBe_94 : decode cX6_mayBe 94 = .ok (.ireturn, 1) := by decide +kernel
theorem dX6_takes_0 : decode cX6_takes 0 = .ok (.iload_n 0, 1) := by decide +kernel
theorem dX6_takes_1 : decode cX6_takes 1 = .ok (.bipush 10, 2) := by decide +kernel
theorem dX6_takes_3 : decode cX6_takes 3 = .ok (.if_icmp .ne 7, 3) := by decide +kernel
theorem dX6_takes_6 : decode cX6_takes 6 = .ok (.iload_n 1, 1) := by decide +kernel
theorem dX6_takes_7 : decode cX6_takes 7 = .ok (.goto 45, 3) := by decide +kernel
theorem dX6_takes_10 : decode cX6_takes 10 = .ok (.iload_n 0, 1) := by decide +kernel
theorem dX6_takes_11 : decode cX6_takes 11 = .ok (.iconst 4, 1) := by decide +kernel
theorem dX6_takes_12 : decode cX6_takes 12 = .ok (.if_icmp .eq 15, 3) := by decide +kernel
theorem dX6_takes_15 : decode cX6_takes 15 = .ok (.iload_n 0, 1) := by decide +kernel
theorem dX6_takes_16 : decode cX6_takes 16 = .ok (.bipush 8, 2) := by decide +kernel
theorem dX6_takes_18 : decode cX6_takes 18 = .ok (.if_icmp .eq 9, 3) := by decide +kernel
theorem dX6_takes_21 : decode cX6_takes 21 = .ok (.iload_n 0, 1) := by decide +kernel
theorem dX6_takes_22 : decode cX6_takes 22 = .ok (.bipush 9, 2) := by decide +kernel
theorem dX6_takes_24 : decode cX6_takes 24 = .ok (.if_icmp .ne 7, 3) := by decide +kernel
theorem dX6_takes_27 : decode cX6_takes 27 = .ok (.iconst 2, 1) := by decide +kernel
theorem dX6_takes_28 : decode cX6_takes 28 = .ok (.goto 24, 3) := by decide +kernel
theorem dX6_takes_31 : decode cX6_takes 31 = .ok (.iload_n 0, 1) := by decide +kernel
theorem dX6_takes_32 : decode cX6_takes 32 = .ok (.iconst 2, 1) := by decide +kernel
theorem dX6_takes_33 : decode cX6_takes 33 = .ok (.if_icmp .eq 14, 3) := by decide +kernel
theorem dX6_takes_36 : decode cX6_takes 36 = .ok (.iload_n 0, 1) := by decide +kernel
theorem dX6_takes_37 : decode cX6_takes 37 = .ok (.iconst 5, 1) := by decide +kernel
theorem dX6_takes_38 : decode cX6_takes 38 = .ok (.if_icmp .lt 13, 3) := by decide +kernel
theorem dX6_takes_41 : decode cX6_takes 41 = .ok (.iload_n 0, 1) := by decide +kernel
theorem dX6_takes_42 : decode cX6_takes 42 = .ok (.bipush 7, 2) := by decide +kernel
theorem dX6_takes_44 : decode cX6_takes 44 = .ok (.if_icmp .gt 7, 3) := by decide +kernel
theorem dX6_takes_47 : decode cX6_takes 47 = .ok (.iconst 1, 1) := by decide +kernel
theorem dX6_takes_48 : decode cX6_takes 48 = .ok (.goto 4, 3) := by decide +kernel
theorem dX6_takes_51 : decode cX6_takes 51 = .ok (.iconst 0, 1) := by decide +kernel
theorem dX6_takes_52 : decode cX6_takes 52 = .ok (.ireturn, 1) := by decide +kernel
theorem dX6_puts_0 : decode cX6_puts 0 = .ok (.iload_n 0, 1) := by decide +kernel
theorem dX6_puts_1 : decode cX6_puts 1 = .ok (.bipush 9, 2) := by decide +kernel
theorem dX6_puts_3 : decode cX6_puts 3 = .ok (.if_icmp .ne 7, 3) := by decide +kernel
theorem dX6_puts_6 : decode cX6_puts 6 = .ok (.iconst 3, 1) := by decide +kernel
theorem dX6_puts_7 : decode cX6_puts 7 = .ok (.goto 40, 3) := by decide +kernel
theorem dX6_puts_10 : decode cX6_puts 10 = .ok (.iload_n 0, 1) := by decide +kernel
theorem dX6_puts_11 : decode cX6_puts 11 = .ok (.bipush 7, 2) := by decide +kernel
theorem dX6_puts_13 : decode cX6_puts 13 = .ok (.if_icmp .eq 9, 3) := by decide +kernel
theorem dX6_puts_16 : decode cX6_puts 16 = .ok (.iload_n 0, 1) := by decide +kernel
theorem dX6_puts_17 : decode cX6_puts 17 = .ok (.bipush 8, 2) := by decide +kernel
theorem dX6_puts_19 : decode cX6_puts 19 = .ok (.if_icmp .ne 7, 3) := by decide +kernel
theorem dX6_puts_22 : decode cX6_puts 22 = .ok (.iconst 2, 1) := by decide +kernel
theorem dX6_puts_23 : decode cX6_puts 23 = .ok (.goto 24, 3) := by decide +kernel
theorem dX6_puts_26 : decode cX6_puts 26 = .ok (.iload_n 0, 1) := by decide +kernel
theorem dX6_puts_27 : decode cX6_puts 27 = .ok (.iconst 2, 1) := by decide +kernel
theorem dX6_puts_28 : decode cX6_puts 28 = .ok (.if_icmp .eq 14, 3) := by decide +kernel
theorem dX6_puts_31 : decode cX6_puts 31 = .ok (.iload_n 0, 1) := by decide +kernel
theorem dX6_puts_32 : decode cX6_puts 32 = .ok (.iconst 3, 1) := by decide +kernel
theorem dX6_puts_33 : decode cX6_puts 33 = .ok (.if_icmp .eq 9, 3) := by decide +kernel
theorem dX6_puts_36 : decode cX6_puts 36 = .ok (.iload_n 0, 1) := by decide +kernel
theorem dX6_puts_37 : decode cX6_puts 37 = .ok (.bipush 6, 2) := by decide +kernel
theorem dX6_puts_39 : decode cX6_puts 39 = .ok (.if_icmp .ne 7, 3) := by decide +kernel
theorem dX6_puts_42 : decode cX6_puts 42 = .ok (.iconst 0, 1) := by decide +kernel
theorem dX6_puts_43 : decode cX6_puts 43 = .ok (.goto 4, 3) := by decide +kernel
theorem dX6_puts_46 : decode cX6_puts 46 = .ok (.iconst 1, 1) := by decide +kernel
theorem dX6_puts_47 : decode cX6_puts 47 = .ok (.ireturn, 1) := by decide +kernel
theorem dX6_act_0 : decode cX6_act 0 = .ok (.aload_n 0, 1) := by decide +kernel
theorem dX6_act_1 : decode cX6_act 1 = .ok (.iload_n 1, 1) := by decide +kernel
theorem dX6_act_2 : decode cX6_act 2 = .ok (.iload_n 2, 1) := by decide +kernel
theorem dX6_act_3 : decode cX6_act 3 = .ok (.invokestatic 85, 3) := by decide +kernel
theorem dX6_act_6 : decode cX6_act 6 = .ok (.ifCond .ne 7, 3) := by decide +kernel
theorem dX6_act_9 : decode cX6_act 9 = .ok (.iconst 1, 1) := by decide +kernel
theorem dX6_act_10 : decode cX6_act 10 = .ok (.goto 49, 3) := by decide +kernel
theorem dX6_act_13 : decode cX6_act 13 = .ok (.aload_n 0, 1) := by decide +kernel
theorem dX6_act_14 : decode cX6_act 14 = .ok (.getfield 89, 3) := by decide +kernel
theorem dX6_act_17 : decode cX6_act 17 = .ok (.bipush 100, 2) := by decide +kernel
theorem dX6_act_19 : decode cX6_act 19 = .ok (.if_icmp .eq 35, 3) := by decide +kernel
theorem dX6_act_22 : decode cX6_act 22 = .ok (.iload_n 1, 1) := by decide +kernel
theorem dX6_act_23 : decode cX6_act 23 = .ok (.iload_n 2, 1) := by decide +kernel
theorem dX6_act_24 : decode cX6_act 24 = .ok (.invokestatic 92, 3) := by decide +kernel
theorem dX6_act_27 : decode cX6_act 27 = .ok (.aload_n 0, 1) := by decide +kernel
theorem dX6_act_28 : decode cX6_act 28 = .ok (.getfield 96, 3) := by decide +kernel
theorem dX6_act_31 : decode cX6_act 31 = .ok (.if_icmp .gt 23, 3) := by decide +kernel
theorem dX6_act_34 : decode cX6_act 34 = .ok (.aload_n 0, 1) := by decide +kernel
theorem dX6_act_35 : decode cX6_act 35 = .ok (.getfield 96, 3) := by decide +kernel
theorem dX6_act_38 : decode cX6_act 38 = .ok (.iload_n 1, 1) := by decide +kernel
theorem dX6_act_39 : decode cX6_act 39 = .ok (.iload_n 2, 1) := by decide +kernel
theorem dX6_act_40 : decode cX6_act 40 = .ok (.invokestatic 92, 3) := by decide +kernel
theorem dX6_act_43 : decode cX6_act 43 = .ok (.isub, 1) := by decide +kernel
theorem dX6_act_44 : decode cX6_act 44 = .ok (.iload_n 1, 1) := by decide +kernel
theorem dX6_act_45 : decode cX6_act 45 = .ok (.invokestatic 99, 3) := by decide +kernel
theorem dX6_act_48 : decode cX6_act 48 = .ok (.iadd, 1) := by decide +kernel
theorem dX6_act_49 : decode cX6_act 49 = .ok (.bipush 20, 2) := by decide +kernel
theorem dX6_act_51 : decode cX6_act 51 = .ok (.if_icmp .le 7, 3) := by decide +kernel
theorem dX6_act_54 : decode cX6_act 54 = .ok (.iconst 2, 1) := by decide +kernel
theorem dX6_act_55 : decode cX6_act 55 = .ok (.goto 4, 3) := by decide +kernel
theorem dX6_act_58 : decode cX6_act 58 = .ok (.iconst 0, 1) := by decide +kernel
theorem dX6_act_59 : decode cX6_act 59 = .ok (.putfield 81, 3) := by decide +kernel
theorem dX6_act_62 : decode cX6_act 62 = .ok (.aload_n 0, 1) := by decide +kernel
theorem dX6_act_63 : decode cX6_act 63 = .ok (.getfield 81, 3) := by decide +kernel
theorem dX6_act_66 : decode cX6_act 66 = .ok (.ifCond .le 5, 3) := by decide +kernel
theorem dX6_act_69 : decode cX6_act 69 = .ok (.iconst 0, 1) := by decide +kernel
theorem dX6_act_70 : decode cX6_act 70 = .ok (.ireturn, 1) := by decide +kernel
theorem dX6_act_71 : decode cX6_act 71 = .ok (.aload_n 0, 1) := by decide +kernel
theorem dX6_act_72 : decode cX6_act 72 = .ok (.getfield 7, 3) := by decide +kernel
theorem dX6_act_75 : decode cX6_act 75 = .ok (.aload_n 0, 1) := by decide +kernel
theorem dX6_act_76 : decode cX6_act 76 = .ok (.getfield 89, 3) := by decide +kernel
theorem dX6_act_79 : decode cX6_act 79 = .ok (.iload_n 1, 1) := by decide +kernel
theorem dX6_act_80 : decode cX6_act 80 = .ok (.iastore, 1) := by decide +kernel
theorem dX6_act_81 : decode cX6_act 81 = .ok (.aload_n 0, 1) := by decide +kernel
theorem dX6_act_82 : decode cX6_act 82 = .ok (.getfield 13, 3) := by decide +kernel
theorem dX6_act_85 : decode cX6_act 85 = .ok (.aload_n 0, 1) := by decide +kernel
theorem dX6_act_86 : decode cX6_act 86 = .ok (.getfield 89, 3) := by decide +kernel
theorem dX6_act_89 : decode cX6_act 89 = .ok (.iload_n 2, 1) := by decide +kernel
theorem dX6_act_90 : decode cX6_act 90 = .ok (.iastore, 1) := by decide +kernel
theorem dX6_act_91 : decode cX6_act 91 = .ok (.aload_n 0, 1) := by decide +kernel
theorem dX6_act_92 : decode cX6_act 92 = .ok (.dup, 1) := by decide +kernel
theorem dX6_act_93 : decode cX6_act 93 = .ok (.getfield 89, 3) := by decide +kernel
theorem dX6_act_96 : decode cX6_act 96 = .ok (.iconst 1, 1) := by decide +kernel
theorem dX6_act_97 : decode cX6_act 97 = .ok (.iadd, 1) := by decide +kernel
theorem dX6_act_98 : decode cX6_act 98 = .ok (.putfield 89, 3) := by decide +kernel
theorem dX6_act_101 : decode cX6_act 101 = .ok (.aload_n 0, 1) := by decide +kernel
theorem dX6_act_102 : decode cX6_act 102 = .ok (.iload_n 1, 1) := by decide +kernel
theorem dX6_act_103 : decode cX6_act 103 = .ok (.iload_n 2, 1) := by decide +kernel
theorem dX6_act_104 : decode cX6_act 104 = .ok (.invokevirtual 103, 3) := by decide +kernel
theorem dX6_act_107 : decode cX6_act 107 = .ok (.aload_n 0, 1) := by decide +kernel
theorem dX6_act_108 : decode cX6_act 108 = .ok (.getfield 89, 3) := by decide +kernel
theorem dX6_act_111 : decode cX6_act 111 = .ok (.ireturn, 1) := by decide +kernel
theorem dX6_made_0 : decode cX6_made 0 = .ok (.aload_n 0, 1) := by decide +kernel
theorem dX6_made_1 : decode cX6_made 1 = .ok (.getfield 16, 3) := by decide +kernel
theorem dX6_made_4 : decode cX6_made 4 = .ok (.aload_n 0, 1) := by decide +kernel
theorem dX6_made_5 : decode cX6_made 5 = .ok (.getfield 107, 3) := by decide +kernel
theorem dX6_made_8 : decode cX6_made 8 = .ok (.iload_n 1, 1) := by decide +kernel
theorem dX6_made_9 : decode cX6_made 9 = .ok (.iastore, 1) := by decide +kernel
theorem dX6_made_10 : decode cX6_made 10 = .ok (.aload_n 0, 1) := by decide +kernel
theorem dX6_made_11 : decode cX6_made 11 = .ok (.getfield 19, 3) := by decide +kernel
theorem dX6_made_14 : decode cX6_made 14 = .ok (.aload_n 0, 1) := by decide +kernel
theorem dX6_made_15 : decode cX6_made 15 = .ok (.getfield 107, 3) := by decide +kernel
theorem dX6_made_18 : decode cX6_made 18 = .ok (.iload_n 2, 1) := by decide +kernel
theorem dX6_made_19 : decode cX6_made 19 = .ok (.iastore, 1) := by decide +kernel
theorem dX6_made_20 : decode cX6_made 20 = .ok (.aload_n 0, 1) := by decide +kernel
theorem dX6_made_21 : decode cX6_made 21 = .ok (.getfield 22, 3) := by decide +kernel
theorem dX6_made_24 : decode cX6_made 24 = .ok (.iconst 3, 1) := by decide +kernel
theorem dX6_made_25 : decode cX6_made 25 = .ok (.aload_n 0, 1) := by decide +kernel
theorem dX6_made_26 : decode cX6_made 26 = .ok (.getfield 107, 3) := by decide +kernel
theorem dX6_made_29 : decode cX6_made 29 = .ok (.imul, 1) := by decide +kernel
theorem dX6_made_30 : decode cX6_made 30 = .ok (.iload_n 3, 1) := by decide +kernel
theorem dX6_made_31 : decode cX6_made 31 = .ok (.iastore, 1) := by decide +kernel
theorem dX6_made_32 : decode cX6_made 32 = .ok (.aload_n 0, 1) := by decide +kernel
theorem dX6_made_33 : decode cX6_made 33 = .ok (.getfield 22, 3) := by decide +kernel
theorem dX6_made_36 : decode cX6_made 36 = .ok (.iconst 3, 1) := by decide +kernel
theorem dX6_made_37 : decode cX6_made 37 = .ok (.aload_n 0, 1) := by decide +kernel
theorem dX6_made_38 : decode cX6_made 38 = .ok (.getfield 107, 3) := by decide +kernel
theorem dX6_made_41 : decode cX6_made 41 = .ok (.imul, 1) := by decide +kernel
theorem dX6_made_42 : decode cX6_made 42 = .ok (.iconst 1, 1) := by decide +kernel
theorem dX6_made_43 : decode cX6_made 43 = .ok (.iadd, 1) := by decide +kernel
theorem dX6_made_44 : decode cX6_made 44 = .ok (.iload 4, 2) := by decide +kernel
theorem dX6_made_46 : decode cX6_made 46 = .ok (.iastore, 1) := by decide +kernel
theorem dX6_made_47 : decode cX6_made 47 = .ok (.aload_n 0, 1) := by decide +kernel
theorem dX6_made_48 : decode cX6_made 48 = .ok (.getfield 22, 3) := by decide +kernel
theorem dX6_made_51 : decode cX6_made 51 = .ok (.iconst 3, 1) := by decide +kernel
theorem dX6_made_52 : decode cX6_made 52 = .ok (.aload_n 0, 1) := by decide +kernel
theorem dX6_made_53 : decode cX6_made 53 = .ok (.getfield 107, 3) := by decide +kernel
theorem dX6_made_56 : decode cX6_made 56 = .ok (.imul, 1) := by decide +kernel
theorem dX6_made_57 : decode cX6_made 57 = .ok (.iconst 2, 1) := by decide +kernel
theorem dX6_made_58 : decode cX6_made 58 = .ok (.iadd, 1) := by decide +kernel
theorem dX6_made_59 : decode cX6_made 59 = .ok (.iload 5, 2) := by decide +kernel
theorem dX6_made_61 : decode cX6_made 61 = .ok (.iastore, 1) := by decide +kernel
theorem dX6_made_62 : decode cX6_made 62 = .ok (.aload_n 0, 1) := by decide +kernel
theorem dX6_made_63 : decode cX6_made 63 = .ok (.dup, 1) := by decide +kernel
theorem dX6_made_64 : decode cX6_made 64 = .ok (.getfield 107, 3) := by decide +kernel
theorem dX6_made_67 : decode cX6_made 67 = .ok (.iconst 1, 1) := by decide +kernel
theorem dX6_made_68 : decode cX6_made 68 = .ok (.iadd, 1) := by decide +kernel
theorem dX6_made_69 : decode cX6_made 69 = .ok (.putfield 107, 3) := by decide +kernel
theorem dX6_made_72 : decode cX6_made 72 = .ok (.aload_n 0, 1) := by decide +kernel
theorem dX6_made_73 : decode cX6_made 73 = .ok (.getfield 107, 3) := by decide +kernel
theorem dX6_made_76 : decode cX6_made 76 = .ok (.iconst 1, 1) := by decide +kernel
theorem dX6_made_77 : decode cX6_made 77 = .ok (.isub, 1) := by decide +kernel
theorem dX6_made_78 : decode cX6_made 78 = .ok (.ireturn, 1) := by decide +kernel
theorem dX6_push_0 : decode cX6_push 0 = .ok (.aload_n 0, 1) := by decide +kernel
theorem dX6_push_1 : decode cX6_push 1 = .ok (.getfield 25, 3) := by decide +kernel
theorem dX6_push_4 : decode cX6_push 4 = .ok (.aload_n 0, 1) := by decide +kernel
theorem dX6_push_5 : decode cX6_push 5 = .ok (.getfield 96, 3) := by decide +kernel
theorem dX6_push_8 : decode cX6_push 8 = .ok (.iload_n 1, 1) := by decide +kernel
theorem dX6_push_9 : decode cX6_push 9 = .ok (.iastore, 1) := by decide +kernel
theorem dX6_push_10 : decode cX6_push 10 = .ok (.aload_n 0, 1) := by decide +kernel
theorem dX6_push_11 : decode cX6_push 11 = .ok (.dup, 1) := by decide +kernel
theorem dX6_push_12 : decode cX6_push 12 = .ok (.getfield 96, 3) := by decide +kernel
theorem dX6_push_15 : decode cX6_push 15 = .ok (.iconst 1, 1) := by decide +kernel
theorem dX6_push_16 : decode cX6_push 16 = .ok (.iadd, 1) := by decide +kernel
theorem dX6_push_17 : decode cX6_push 17 = .ok (.putfield 96, 3) := by decide +kernel
theorem dX6_push_20 : decode cX6_push 20 = .ok (.return_, 1) := by decide +kernel
theorem dX6_lineOut_0 : decode cX6_lineOut 0 = .ok (.aload_n 0, 1) := by decide +kernel
theorem dX6_lineOut_1 : decode cX6_lineOut 1 = .ok (.getfield 28, 3) := by decide +kernel
theorem dX6_lineOut_4 : decode cX6_lineOut 4 = .ok (.aload_n 0, 1) := by decide +kernel
theorem dX6_lineOut_5 : decode cX6_lineOut 5 = .ok (.getfield 110, 3) := by decide +kernel
theorem dX6_lineOut_8 : decode cX6_lineOut 8 = .ok (.iload_n 1, 1) := by decide +kernel
theorem dX6_lineOut_9 : decode cX6_lineOut 9 = .ok (.iastore, 1) := by decide +kernel
theorem dX6_lineOut_10 : decode cX6_lineOut 10 = .ok (.aload_n 0, 1) := by decide +kernel
theorem dX6_lineOut_11 : decode cX6_lineOut 11 = .ok (.getfield 31, 3) := by decide +kernel
theorem dX6_lineOut_14 : decode cX6_lineOut 14 = .ok (.aload_n 0, 1) := by decide +kernel
theorem dX6_lineOut_15 : decode cX6_lineOut 15 = .ok (.getfield 110, 3) := by decide +kernel
theorem dX6_lineOut_18 : decode cX6_lineOut 18 = .ok (.iload_n 2, 1) := by decide +kernel
theorem dX6_lineOut_19 : decode cX6_lineOut 19 = .ok (.iastore, 1) := by decide +kernel
theorem dX6_lineOut_20 : decode cX6_lineOut 20 = .ok (.aload_n 0, 1) := by decide +kernel
theorem dX6_lineOut_21 : decode cX6_lineOut 21 = .ok (.getfield 34, 3) := by decide +kernel
theorem dX6_lineOut_24 : decode cX6_lineOut 24 = .ok (.aload_n 0, 1) := by decide +kernel
theorem dX6_lineOut_25 : decode cX6_lineOut 25 = .ok (.getfield 110, 3) := by decide +kernel
theorem dX6_lineOut_28 : decode cX6_lineOut 28 = .ok (.iload_n 3, 1) := by decide +kernel
theorem dX6_lineOut_29 : decode cX6_lineOut 29 = .ok (.iastore, 1) := by decide +kernel
theorem dX6_lineOut_30 : decode cX6_lineOut 30 = .ok (.aload_n 0, 1) := by decide +kernel
theorem dX6_lineOut_31 : decode cX6_lineOut 31 = .ok (.dup, 1) := by decide +kernel
theorem dX6_lineOut_32 : decode cX6_lineOut 32 = .ok (.getfield 110, 3) := by decide +kernel
theorem dX6_lineOut_35 : decode cX6_lineOut 35 = .ok (.iconst 1, 1) := by decide +kernel
theorem dX6_lineOut_36 : decode cX6_lineOut 36 = .ok (.iadd, 1) := by decide +kernel
theorem dX6_lineOut_37 : decode cX6_lineOut 37 = .ok (.putfield 110, 3) := by decide +kernel
theorem dX6_lineOut_40 : decode cX6_lineOut 40 = .ok (.return_, 1) := by decide +kernel
theorem dX6_putOut_0 : decode cX6_putOut 0 = .ok (.iconst 0, 1) := by decide +kernel
theorem dX6_putOut_1 : decode cX6_putOut 1 = .ok (.istore_n 2, 1) := by decide +kernel
theorem dX6_putOut_2 : decode cX6_putOut 2 = .ok (.iload_n 2, 1) := by decide +kernel
theorem dX6_putOut_3 : decode cX6_putOut 3 = .ok (.iload_n 1, 1) := by decide +kernel
theorem dX6_putOut_4 : decode cX6_putOut 4 = .ok (.if_icmp .ge 84, 3) := by decide +kernel
theorem dX6_putOut_7 : decode cX6_putOut 7 = .ok (.aload_n 0, 1) := by decide +kernel
theorem dX6_putOut_8 : decode cX6_putOut 8 = .ok (.getfield 16, 3) := by decide +kernel
theorem dX6_putOut_11 : decode cX6_putOut 11 = .ok (.aload_n 0, 1) := by decide +kernel
theorem dX6_putOut_12 : decode cX6_putOut 12 = .ok (.getfield 25, 3) := by decide +kernel
theorem dX6_putOut_15 : decode cX6_putOut 15 = .ok (.iload_n 2, 1) := by decide +kernel
theorem dX6_putOut_16 : decode cX6_putOut 16 = .ok (.iaload, 1) := by decide +kernel
theorem dX6_putOut_17 : decode cX6_putOut 17 = .ok (.iaload, 1) := by decide +kernel
theorem dX6_putOut_18 : decode cX6_putOut 18 = .ok (.ifCond .eq 64, 3) := by decide +kernel
theorem dX6_putOut_21 : decode cX6_putOut 21 = .ok (.aload_n 0, 1) := by decide +kernel
theorem dX6_putOut_22 : decode cX6_putOut 22 = .ok (.getfield 16, 3) := by decide +kernel
theorem dX6_putOut_25 : decode cX6_putOut 25 = .ok (.aload_n 0, 1) := by decide +kernel
theorem dX6_putOut_26 : decode cX6_putOut 26 = .ok (.getfield 25, 3) := by decide +kernel
theorem dX6_putOut_29 : decode cX6_putOut 29 = .ok (.iload_n 2, 1) := by decide +kernel
theorem dX6_putOut_30 : decode cX6_putOut 30 = .ok (.iaload, 1) := by decide +kernel
theorem dX6_putOut_31 : decode cX6_putOut 31 = .ok (.iaload, 1) := by decide +kernel
theorem dX6_putOut_32 : decode cX6_putOut 32 = .ok (.iconst 2, 1) := by decide +kernel
theorem dX6_putOut_33 : decode cX6_putOut 33 = .ok (.if_icmp .ne 6, 3) := by decide +kernel
theorem dX6_putOut_36 : decode cX6_putOut 36 = .ok (.goto 46, 3) := by decide +kernel
theorem dX6_putOut_39 : decode cX6_putOut 39 = .ok (.aload_n 0, 1) := by decide +kernel
theorem dX6_putOut_40 : decode cX6_putOut 40 = .ok (.iconst 0, 1) := by decide +kernel
theorem dX6_putOut_41 : decode cX6_putOut 41 = .ok (.aload_n 0, 1) := by decide +kernel
theorem dX6_putOut_42 : decode cX6_putOut 42 = .ok (.getfield 113, 3) := by decide +kernel
theorem dX6_putOut_45 : decode cX6_putOut 45 = .ok (.aload_n 0, 1) := by decide +kernel
theorem dX6_putOut_46 : decode cX6_putOut 46 = .ok (.getfield 25, 3) := by decide +kernel
theorem dX6_putOut_49 : decode cX6_putOut 49 = .ok (.iload_n 2, 1) := by decide +kernel
theorem dX6_putOut_50 : decode cX6_putOut 50 = .ok (.iaload, 1) := by decide +kernel
theorem dX6_putOut_51 : decode cX6_putOut 51 = .ok (.invokevirtual 116, 3) := by decide +kernel
theorem dX6_putOut_54 : decode cX6_putOut 54 = .ok (.aload_n 0, 1) := by decide +kernel
theorem dX6_putOut_55 : decode cX6_putOut 55 = .ok (.getfield 25, 3) := by decide +kernel
theorem dX6_putOut_58 : decode cX6_putOut 58 = .ok (.iload_n 2, 1) := by decide +kernel
theorem dX6_putOut_59 : decode cX6_putOut 59 = .ok (.aload_n 0, 1) := by decide +kernel
theorem dX6_putOut_60 : decode cX6_putOut 60 = .ok (.iconst 2, 1) := by decide +kernel
theorem dX6_putOut_61 : decode cX6_putOut 61 = .ok (.aload_n 0, 1) := by decide +kernel
theorem dX6_putOut_62 : decode cX6_putOut 62 = .ok (.getfield 113, 3) := by decide +kernel
theorem dX6_putOut_65 : decode cX6_putOut 65 = .ok (.iconst (-1), 1) := by decide +kernel
theorem dX6_putOut_66 : decode cX6_putOut 66 = .ok (.iconst (-1), 1) := by decide +kernel
theorem dX6_putOut_67 : decode cX6_putOut 67 = .ok (.iconst (-1), 1) := by decide +kernel
theorem dX6_putOut_68 : decode cX6_putOut 68 = .ok (.invokevirtual 120, 3) := by decide +kernel
theorem dX6_putOut_71 : decode cX6_putOut 71 = .ok (.iastore, 1) := by decide +kernel
theorem dX6_putOut_72 : decode cX6_putOut 72 = .ok (.aload_n 0, 1) := by decide +kernel
theorem dX6_putOut_73 : decode cX6_putOut 73 = .ok (.dup, 1) := by decide +kernel
theorem dX6_putOut_74 : decode cX6_putOut 74 = .ok (.getfield 113, 3) := by decide +kernel
theorem dX6_putOut_77 : decode cX6_putOut 77 = .ok (.iconst 1, 1) := by decide +kernel
theorem dX6_putOut_78 : decode cX6_putOut 78 = .ok (.iadd, 1) := by decide +kernel
theorem dX6_putOut_79 : decode cX6_putOut 79 = .ok (.putfield 113, 3) := by decide +kernel
theorem dX6_putOut_82 : decode cX6_putOut 82 = .ok (.iinc 2 1, 3) := by decide +kernel
theorem dX6_putOut_85 : decode cX6_putOut 85 = .ok (.goto (-83), 3) := by decide +kernel
theorem dX6_putOut_88 : decode cX6_putOut 88 = .ok (.return_, 1) := by decide +kernel
theorem dX6_turn_0 : decode cX6_turn 0 = .ok (.iload_n 1, 1) := by decide +kernel
theorem dX6_turn_1 : decode cX6_turn 1 = .ok (.iload_n 2, 1) := by decide +kernel
theorem dX6_turn_2 : decode cX6_turn 2 = .ok (.invokestatic 92, 3) := by decide +kernel
theorem dX6_turn_5 : decode cX6_turn 5 = .ok (.istore_n 3, 1) := by decide +kernel
theorem dX6_turn_6 : decode cX6_turn 6 = .ok (.iload_n 1, 1) := by decide +kernel
theorem dX6_turn_7 : decode cX6_turn 7 = .ok (.iconst 2, 1) := by decide +kernel
theorem dX6_turn_8 : decode cX6_turn 8 = .ok (.if_icmp .eq 20, 3) := by decide +kernel
theorem dX6_turn_11 : decode cX6_turn 11 = .ok (.iload_n 1, 1) := by decide +kernel
theorem dX6_turn_12 : decode cX6_turn 12 = .ok (.iconst 3, 1) := by decide +kernel
theorem dX6_turn_13 : decode cX6_turn 13 = .ok (.if_icmp .eq 15, 3) := by decide +kernel
theorem dX6_turn_16 : decode cX6_turn 16 = .ok (.iload_n 1, 1) := by decide +kernel
theorem dX6_turn_17 : decode cX6_turn 17 = .ok (.bipush 6, 2) := by decide +kernel
theorem dX6_turn_19 : decode cX6_turn 19 = .ok (.if_icmp .eq 9, 3) := by decide +kernel
theorem dX6_turn_22 : decode cX6_turn 22 = .ok (.iload_n 1, 1) := by decide +kernel
theorem dX6_turn_23 : decode cX6_turn 23 = .ok (.bipush 10, 2) := by decide +kernel
theorem dX6_turn_25 : decode cX6_turn 25 = .ok (.if_icmp .ne 13, 3) := by decide +kernel
theorem dX6_turn_28 : decode cX6_turn 28 = .ok (.aload_n 0, 1) := by decide +kernel
theorem dX6_turn_29 : decode cX6_turn 29 = .ok (.aload_n 0, 1) := by decide +kernel
theorem dX6_turn_30 : decode cX6_turn 30 = .ok (.getfield 96, 3) := by decide +kernel
theorem dX6_turn_33 : decode cX6_turn 33 = .ok (.iload_n 3, 1) := by decide +kernel
theorem dX6_turn_34 : decode cX6_turn 34 = .ok (.isub, 1) := by decide +kernel
theorem dX6_turn_35 : decode cX6_turn 35 = .ok (.invokevirtual 124, 3) := by decide +kernel
theorem dX6_turn_38 : decode cX6_turn 38 = .ok (.iload_n 1, 1) := by decide +kernel
theorem dX6_turn_39 : decode cX6_turn 39 = .ok (.bipush 7, 2) := by decide +kernel
theorem dX6_turn_41 : decode cX6_turn 41 = .ok (.if_icmp .lt 17, 3) := by decide +kernel
theorem dX6_turn_44 : decode cX6_turn 44 = .ok (.iload_n 1, 1) := by decide +kernel
theorem dX6_turn_45 : decode cX6_turn 45 = .ok (.bipush 9, 2) := by decide +kernel
theorem dX6_turn_47 : decode cX6_turn 47 = .ok (.if_icmp .gt 11, 3) := by decide +kernel
theorem dX6_turn_50 : decode cX6_turn 50 = .ok (.aload_n 0, 1) := by decide +kernel
theorem dX6_turn_51 : decode cX6_turn 51 = .ok (.aload_n 0, 1) := by decide +kernel
theorem dX6_turn_52 : decode cX6_turn 52 = .ok (.getfield 96, 3) := by decide +kernel
theorem dX6_turn_55 : decode cX6_turn 55 = .ok (.invokevirtual 124, 3) := by decide +kernel
theorem dX6_turn_58 : decode cX6_turn 58 = .ok (.aload_n 0, 1) := by decide +kernel
theorem dX6_turn_59 : decode cX6_turn 59 = .ok (.dup, 1) := by decide +kernel
theorem dX6_turn_60 : decode cX6_turn 60 = .ok (.getfield 96, 3) := by decide +kernel
theorem dX6_turn_63 : decode cX6_turn 63 = .ok (.iload_n 3, 1) := by decide +kernel
theorem dX6_turn_64 : decode cX6_turn 64 = .ok (.isub, 1) := by decide +kernel
theorem dX6_turn_65 : decode cX6_turn 65 = .ok (.putfield 96, 3) := by decide +kernel
theorem dX6_turn_68 : decode cX6_turn 68 = .ok (.aload_n 0, 1) := by decide +kernel
theorem dX6_turn_69 : decode cX6_turn 69 = .ok (.getfield 25, 3) := by decide +kernel
theorem dX6_turn_72 : decode cX6_turn 72 = .ok (.aload_n 0, 1) := by decide +kernel
theorem dX6_turn_73 : decode cX6_turn 73 = .ok (.getfield 96, 3) := by decide +kernel
theorem dX6_turn_76 : decode cX6_turn 76 = .ok (.iaload, 1) := by decide +kernel
theorem dX6_turn_77 : decode cX6_turn 77 = .ok (.istore 4, 2) := by decide +kernel
theorem dX6_turn_79 : decode cX6_turn 79 = .ok (.aload_n 0, 1) := by decide +kernel
theorem dX6_turn_80 : decode cX6_turn 80 = .ok (.getfield 25, 3) := by decide +kernel
theorem dX6_turn_83 : decode cX6_turn 83 = .ok (.aload_n 0, 1) := by decide +kernel
theorem dX6_turn_84 : decode cX6_turn 84 = .ok (.getfield 96, 3) := by decide +kernel
theorem dX6_turn_87 : decode cX6_turn 87 = .ok (.iconst 1, 1) := by decide +kernel
theorem dX6_turn_88 : decode cX6_turn 88 = .ok (.iadd, 1) := by decide +kernel
theorem dX6_turn_89 : decode cX6_turn 89 = .ok (.iaload, 1) := by decide +kernel
theorem dX6_turn_90 : decode cX6_turn 90 = .ok (.istore 5, 2) := by decide +kernel
theorem dX6_turn_92 : decode cX6_turn 92 = .ok (.iload_n 1, 1) := by decide +kernel
theorem dX6_turn_93 : decode cX6_turn 93 = .ok (.tableswitch 208 0 9 #[55, 71, 87, 98, 120, 138, 155, 166, 181, 181], 55) := by decide +kernel
theorem dX6_turn_148 : decode cX6_turn 148 = .ok (.aload_n 0, 1) := by decide +kernel
theorem dX6_turn_149 : decode cX6_turn 149 = .ok (.aload_n 0, 1) := by decide +kernel
theorem dX6_turn_150 : decode cX6_turn 150 = .ok (.iconst 0, 1) := by decide +kernel
theorem dX6_turn_151 : decode cX6_turn 151 = .ok (.iload_n 2, 1) := by decide +kernel
theorem dX6_turn_152 : decode cX6_turn 152 = .ok (.iconst (-1), 1) := by decide +kernel
theorem dX6_turn_153 : decode cX6_turn 153 = .ok (.iconst (-1), 1) := by decide +kernel
theorem dX6_turn_154 : decode cX6_turn 154 = .ok (.iconst (-1), 1) := by decide +kernel
theorem dX6_turn_155 : decode cX6_turn 155 = .ok (.invokevirtual 120, 3) := by decide +kernel
theorem dX6_turn_158 : decode cX6_turn 158 = .ok (.invokevirtual 128, 3) := by decide +kernel
theorem dX6_turn_161 : decode cX6_turn 161 = .ok (.goto 181, 3) := by decide +kernel
theorem dX6_turn_164 : decode cX6_turn 164 = .ok (.aload_n 0, 1) := by decide +kernel
theorem dX6_turn_165 : decode cX6_turn 165 = .ok (.aload_n 0, 1) := by decide +kernel
theorem dX6_turn_166 : decode cX6_turn 166 = .ok (.iconst 1, 1) := by decide +kernel
theorem dX6_turn_167 : decode cX6_turn 167 = .ok (.iload_n 2, 1) := by decide +kernel
theorem dX6_turn_168 : decode cX6_turn 168 = .ok (.iconst (-1), 1) := by decide +kernel
theorem dX6_turn_169 : decode cX6_turn 169 = .ok (.iconst (-1), 1) := by decide +kernel
theorem dX6_turn_170 : decode cX6_turn 170 = .ok (.iconst (-1), 1) := by decide +kernel
theorem dX6_turn_171 : decode cX6_turn 171 = .ok (.invokevirtual 120, 3) := by decide +kernel
theorem dX6_turn_174 : decode cX6_turn 174 = .ok (.invokevirtual 128, 3) := by decide +kernel
theorem dX6_turn_177 : decode cX6_turn 177 = .ok (.goto 165, 3) := by decide +kernel
theorem dX6_turn_180 : decode cX6_turn 180 = .ok (.aload_n 0, 1) := by decide +kernel
theorem dX6_turn_181 : decode cX6_turn 181 = .ok (.iconst 1, 1) := by decide +kernel
theorem dX6_turn_182 : decode cX6_turn 182 = .ok (.iload_n 2, 1) := by decide +kernel
theorem dX6_turn_183 : decode cX6_turn 183 = .ok (.iload 4, 2) := by decide +kernel
theorem dX6_turn_185 : decode cX6_turn 185 = .ok (.invokevirtual 116, 3) := by decide +kernel
theorem dX6_turn_188 : decode cX6_turn 188 = .ok (.goto 154, 3) := by decide +kernel
theorem dX6_turn_191 : decode cX6_turn 191 = .ok (.aload_n 0, 1) := by decide +kernel
theorem dX6_turn_192 : decode cX6_turn 192 = .ok (.iconst 2, 1) := by decide +kernel
theorem dX6_turn_193 : decode cX6_turn 193 = .ok (.iload_n 2, 1) := by decide +kernel
theorem dX6_turn_194 : decode cX6_turn 194 = .ok (.sipush 256, 3) := by decide +kernel
theorem dX6_turn_197 : decode cX6_turn 197 = .ok (.idiv, 1) := by decide +kernel
theorem dX6_turn_198 : decode cX6_turn 198 = .ok (.iload_n 2, 1) := by decide +kernel
theorem dX6_turn_199 : decode cX6_turn 199 = .ok (.sipush 256, 3) := by decide +kernel
theorem dX6_turn_202 : decode cX6_turn 202 = .ok (.irem, 1) := by decide +kernel
theorem dX6_turn_203 : decode cX6_turn 203 = .ok (.sipush 128, 3) := by decide +kernel
theorem dX6_turn_206 : decode cX6_turn 206 = .ok (.isub, 1) := by decide +kernel
theorem dX6_turn_207 : decode cX6_turn 207 = .ok (.invokevirtual 116, 3) := by decide +kernel
theorem dX6_turn_210 : decode cX6_turn 210 = .ok (.goto 132, 3) := by decide +kernel
theorem dX6_turn_213 : decode cX6_turn 213 = .ok (.aload_n 0, 1) := by decide +kernel
theorem dX6_turn_214 : decode cX6_turn 214 = .ok (.aload_n 0, 1) := by decide +kernel
theorem dX6_turn_215 : decode cX6_turn 215 = .ok (.iconst 3, 1) := by decide +kernel
theorem dX6_turn_216 : decode cX6_turn 216 = .ok (.iload_n 2, 1) := by decide +kernel
theorem dX6_turn_217 : decode cX6_turn 217 = .ok (.iload 4, 2) := by decide +kernel
theorem dX6_turn_219 : decode cX6_turn 219 = .ok (.iload 5, 2) := by decide +kernel
theorem dX6_turn_221 : decode cX6_turn 221 = .ok (.iconst (-1), 1) := by decide +kernel
theorem dX6_turn_222 : decode cX6_turn 222 = .ok (.invokevirtual 120, 3) := by decide +kernel
theorem dX6_turn_225 : decode cX6_turn 225 = .ok (.invokevirtual 128, 3) := by decide +kernel
theorem dX6_turn_228 : decode cX6_turn 228 = .ok (.goto 114, 3) := by decide +kernel
theorem dX6_turn_231 : decode cX6_turn 231 = .ok (.aload_n 0, 1) := by decide +kernel
theorem dX6_turn_232 : decode cX6_turn 232 = .ok (.aload_n 0, 1) := by decide +kernel
theorem dX6_turn_233 : decode cX6_turn 233 = .ok (.iconst 4, 1) := by decide +kernel
theorem dX6_turn_234 : decode cX6_turn 234 = .ok (.iconst 0, 1) := by decide +kernel
theorem dX6_turn_235 : decode cX6_turn 235 = .ok (.iload 4, 2) := by decide +kernel
theorem dX6_turn_237 : decode cX6_turn 237 = .ok (.iconst (-1), 1) := by decide +kernel
theorem dX6_turn_238 : decode cX6_turn 238 = .ok (.iconst (-1), 1) := by decide +kernel
theorem dX6_turn_239 : decode cX6_turn 239 = .ok (.invokevirtual 120, 3) := by decide +kernel
theorem dX6_turn_242 : decode cX6_turn 242 = .ok (.invokevirtual 128, 3) := by decide +kernel
theorem dX6_turn_245 : decode cX6_turn 245 = .ok (.goto 97, 3) := by decide +kernel
theorem dX6_turn_248 : decode cX6_turn 248 = .ok (.aload_n 0, 1) := by decide +kernel
theorem dX6_turn_249 : decode cX6_turn 249 = .ok (.iconst 3, 1) := by decide +kernel
theorem dX6_turn_250 : decode cX6_turn 250 = .ok (.iconst 0, 1) := by decide +kernel
theorem dX6_turn_251 : decode cX6_turn 251 = .ok (.iload 4, 2) := by decide +kernel
theorem dX6_turn_253 : decode cX6_turn 253 = .ok (.invokevirtual 116, 3) := by decide +kernel
theorem dX6_turn_256 : decode cX6_turn 256 = .ok (.goto 86, 3) := by decide +kernel
theorem dX6_turn_259 : decode cX6_turn 259 = .ok (.aload_n 0, 1) := by decide +kernel
theorem dX6_turn_260 : decode cX6_turn 260 = .ok (.iload 4, 2) := by decide +kernel
theorem dX6_turn_262 : decode cX6_turn 262 = .ok (.invokevirtual 128, 3) := by decide +kernel
theorem dX6_turn_265 : decode cX6_turn 265 = .ok (.aload_n 0, 1) := by decide +kernel
theorem dX6_turn_266 : decode cX6_turn 266 = .ok (.iload 4, 2) := by decide +kernel
theorem dX6_turn_268 : decode cX6_turn 268 = .ok (.invokevirtual 128, 3) := by decide +kernel
theorem dX6_turn_271 : decode cX6_turn 271 = .ok (.goto 71, 3) := by decide +kernel
theorem dX6_turn_274 : decode cX6_turn 274 = .ok (.aload_n 0, 1) := by decide +kernel
theorem dX6_turn_275 : decode cX6_turn 275 = .ok (.iload 5, 2) := by decide +kernel
theorem dX6_turn_277 : decode cX6_turn 277 = .ok (.invokevirtual 128, 3) := by decide +kernel
theorem dX6_turn_280 : decode cX6_turn 280 = .ok (.aload_n 0, 1) := by decide +kernel
theorem dX6_turn_281 : decode cX6_turn 281 = .ok (.iload 4, 2) := by decide +kernel
theorem dX6_turn_283 : decode cX6_turn 283 = .ok (.invokevirtual 128, 3) := by decide +kernel
theorem dX6_turn_286 : decode cX6_turn 286 = .ok (.iload_n 1, 1) := by decide +kernel
theorem dX6_turn_287 : decode cX6_turn 287 = .ok (.bipush 9, 2) := by decide +kernel
theorem dX6_turn_289 : decode cX6_turn 289 = .ok (.if_icmp .ne 53, 3) := by decide +kernel
theorem dX6_turn_292 : decode cX6_turn 292 = .ok (.aload_n 0, 1) := by decide +kernel
theorem dX6_turn_293 : decode cX6_turn 293 = .ok (.iload 5, 2) := by decide +kernel
theorem dX6_turn_295 : decode cX6_turn 295 = .ok (.invokevirtual 128, 3) := by decide +kernel
theorem dX6_turn_298 : decode cX6_turn 298 = .ok (.goto 44, 3) := by decide +kernel
theorem dX6_turn_301 : decode cX6_turn 301 = .ok (.aload_n 0, 1) := by decide +kernel
theorem dX6_turn_302 : decode cX6_turn 302 = .ok (.aload_n 0, 1) := by decide +kernel
theorem dX6_turn_303 : decode cX6_turn 303 = .ok (.iconst 5, 1) := by decide +kernel
theorem dX6_turn_304 : decode cX6_turn 304 = .ok (.iload_n 2, 1) := by decide +kernel
theorem dX6_turn_305 : decode cX6_turn 305 = .ok (.aload_n 0, 1) := by decide +kernel
theorem dX6_turn_306 : decode cX6_turn 306 = .ok (.getfield 25, 3) := by decide +kernel
theorem dX6_turn_309 : decode cX6_turn 309 = .ok (.aload_n 0, 1) := by decide +kernel
theorem dX6_turn_310 : decode cX6_turn 310 = .ok (.getfield 96, 3) := by decide +kernel
theorem dX6_turn_313 : decode cX6_turn 313 = .ok (.iaload, 1) := by decide +kernel
theorem dX6_turn_314 : decode cX6_turn 314 = .ok (.aload_n 0, 1) := by decide +kernel
theorem dX6_turn_315 : decode cX6_turn 315 = .ok (.getfield 25, 3) := by decide +kernel
theorem dX6_turn_318 : decode cX6_turn 318 = .ok (.aload_n 0, 1) := by decide +kernel
theorem dX6_turn_319 : decode cX6_turn 319 = .ok (.getfield 96, 3) := by decide +kernel
theorem dX6_turn_322 : decode cX6_turn 322 = .ok (.iconst 1, 1) := by decide +kernel
theorem dX6_turn_323 : decode cX6_turn 323 = .ok (.iadd, 1) := by decide +kernel
theorem dX6_turn_324 : decode cX6_turn 324 = .ok (.iaload, 1) := by decide +kernel
theorem dX6_turn_325 : decode cX6_turn 325 = .ok (.aload_n 0, 1) := by decide +kernel
theorem dX6_turn_326 : decode cX6_turn 326 = .ok (.getfield 25, 3) := by decide +kernel
theorem dX6_turn_329 : decode cX6_turn 329 = .ok (.aload_n 0, 1) := by decide +kernel
theorem dX6_turn_330 : decode cX6_turn 330 = .ok (.getfield 96, 3) := by decide +kernel
theorem dX6_turn_333 : decode cX6_turn 333 = .ok (.iconst 2, 1) := by decide +kernel
theorem dX6_turn_334 : decode cX6_turn 334 = .ok (.iadd, 1) := by decide +kernel
theorem dX6_turn_335 : decode cX6_turn 335 = .ok (.iaload, 1) := by decide +kernel
theorem dX6_turn_336 : decode cX6_turn 336 = .ok (.invokevirtual 120, 3) := by decide +kernel
theorem dX6_turn_339 : decode cX6_turn 339 = .ok (.invokevirtual 128, 3) := by decide +kernel
theorem dX6_turn_342 : decode cX6_turn 342 = .ok (.return_, 1) := by decide +kernel
theorem dX6_say_0 : decode cX6_say 0 = .ok (.aload_n 0, 1) := by decide +kernel
theorem dX6_say_1 : decode cX6_say 1 = .ok (.getfield 57, 3) := by decide +kernel
theorem dX6_say_4 : decode cX6_say 4 = .ok (.aload_n 0, 1) := by decide +kernel
theorem dX6_say_5 : decode cX6_say 5 = .ok (.getfield 131, 3) := by decide +kernel
theorem dX6_say_8 : decode cX6_say 8 = .ok (.iload_n 1, 1) := by decide +kernel
theorem dX6_say_9 : decode cX6_say 9 = .ok (.iastore, 1) := by decide +kernel
theorem dX6_say_10 : decode cX6_say 10 = .ok (.aload_n 0, 1) := by decide +kernel
theorem dX6_say_11 : decode cX6_say 11 = .ok (.dup, 1) := by decide +kernel
theorem dX6_say_12 : decode cX6_say 12 = .ok (.getfield 131, 3) := by decide +kernel
theorem dX6_say_15 : decode cX6_say 15 = .ok (.iconst 1, 1) := by decide +kernel
theorem dX6_say_16 : decode cX6_say 16 = .ok (.iadd, 1) := by decide +kernel
theorem dX6_say_17 : decode cX6_say 17 = .ok (.putfield 131, 3) := by decide +kernel
theorem dX6_say_20 : decode cX6_say 20 = .ok (.return_, 1) := by decide +kernel
theorem dX6_sayNumber_0 : decode cX6_sayNumber 0 = .ok (.iload_n 1, 1) := by decide +kernel
theorem dX6_sayNumber_1 : decode cX6_sayNumber 1 = .ok (.ifCond .ge 9, 3) := by decide +kernel
theorem dX6_sayNumber_4 : decode cX6_sayNumber 4 = .ok (.aload_n 0, 1) := by decide +kernel
theorem dX6_sayNumber_5 : decode cX6_sayNumber 5 = .ok (.bipush 45, 2) := by decide +kernel
theorem dX6_sayNumber_7 : decode cX6_sayNumber 7 = .ok (.invokevirtual 134, 3) := by decide +kernel
theorem dX6_sayNumber_10 : decode cX6_sayNumber 10 = .ok (.iload_n 1, 1) := by decide +kernel
theorem dX6_sayNumber_11 : decode cX6_sayNumber 11 = .ok (.ifCond .ge 8, 3) := by decide +kernel
theorem dX6_sayNumber_14 : decode cX6_sayNumber 14 = .ok (.iload_n 1, 1) := by decide +kernel
theorem dX6_sayNumber_15 : decode cX6_sayNumber 15 = .ok (.ineg, 1) := by decide +kernel
theorem dX6_sayNumber_16 : decode cX6_sayNumber 16 = .ok (.goto 4, 3) := by decide +kernel
