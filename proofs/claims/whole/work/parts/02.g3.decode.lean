theorem dX6_work_37 : decode cX6_work 37 = .ok (.getfield 78, 3) := by decide +kernel
theorem dX6_work_40 : decode cX6_work 40 = .ok (.iload_n 2, 1) := by decide +kernel
theorem dX6_work_41 : decode cX6_work 41 = .ok (.iconst 1, 1) := by decide +kernel
theorem dX6_work_42 : decode cX6_work 42 = .ok (.isub, 1) := by decide +kernel
theorem dX6_work_43 : decode cX6_work 43 = .ok (.iaload, 1) := by decide +kernel
theorem dX6_work_44 : decode cX6_work 44 = .ok (.istore 4, 2) := by decide +kernel
theorem dX6_work_46 : decode cX6_work 46 = .ok (.iload 4, 2) := by decide +kernel
theorem dX6_work_48 : decode cX6_work 48 = .ok (.aload_n 0, 1) := by decide +kernel
theorem dX6_work_49 : decode cX6_work 49 = .ok (.getfield 16, 3) := by decide +kernel
theorem dX6_work_52 : decode cX6_work 52 = .ok (.iload_n 3, 1) := by decide +kernel
theorem dX6_work_53 : decode cX6_work 53 = .ok (.iaload, 1) := by decide +kernel
theorem dX6_work_54 : decode cX6_work 54 = .ok (.aload_n 0, 1) := by decide +kernel
theorem dX6_work_55 : decode cX6_work 55 = .ok (.getfield 19, 3) := by decide +kernel
theorem dX6_work_58 : decode cX6_work 58 = .ok (.iload_n 3, 1) := by decide +kernel
theorem dX6_work_59 : decode cX6_work 59 = .ok (.iaload, 1) := by decide +kernel
theorem dX6_work_60 : decode cX6_work 60 = .ok (.invokestatic 176, 3) := by decide +kernel
theorem dX6_work_63 : decode cX6_work 63 = .ok (.if_icmp .ge 45, 3) := by decide +kernel
theorem dX6_work_66 : decode cX6_work 66 = .ok (.aload_n 0, 1) := by decide +kernel
theorem dX6_work_67 : decode cX6_work 67 = .ok (.getfield 78, 3) := by decide +kernel
theorem dX6_work_70 : decode cX6_work 70 = .ok (.iload_n 2, 1) := by decide +kernel
theorem dX6_work_71 : decode cX6_work 71 = .ok (.iconst 1, 1) := by decide +kernel
theorem dX6_work_72 : decode cX6_work 72 = .ok (.isub, 1) := by decide +kernel
theorem dX6_work_73 : decode cX6_work 73 = .ok (.dup2, 1) := by decide +kernel
theorem dX6_work_74 : decode cX6_work 74 = .ok (.iaload, 1) := by decide +kernel
theorem dX6_work_75 : decode cX6_work 75 = .ok (.iconst 1, 1) := by decide +kernel
theorem dX6_work_76 : decode cX6_work 76 = .ok (.iadd, 1) := by decide +kernel
theorem dX6_work_77 : decode cX6_work 77 = .ok (.iastore, 1) := by decide +kernel
theorem dX6_work_78 : decode cX6_work 78 = .ok (.aload_n 0, 1) := by decide +kernel
theorem dX6_work_79 : decode cX6_work 79 = .ok (.getfield 75, 3) := by decide +kernel
theorem dX6_work_82 : decode cX6_work 82 = .ok (.iload_n 2, 1) := by decide +kernel
theorem dX6_work_83 : decode cX6_work 83 = .ok (.aload_n 0, 1) := by decide +kernel
theorem dX6_work_84 : decode cX6_work 84 = .ok (.getfield 22, 3) := by decide +kernel
theorem dX6_work_87 : decode cX6_work 87 = .ok (.iconst 3, 1) := by decide +kernel
theorem dX6_work_88 : decode cX6_work 88 = .ok (.iload_n 3, 1) := by decide +kernel
theorem dX6_work_89 : decode cX6_work 89 = .ok (.imul, 1) := by decide +kernel
theorem dX6_work_90 : decode cX6_work 90 = .ok (.iload 4, 2) := by decide +kernel
theorem dX6_work_92 : decode cX6_work 92 = .ok (.iadd, 1) := by decide +kernel
theorem dX6_work_93 : decode cX6_work 93 = .ok (.iaload, 1) := by decide +kernel
theorem dX6_work_94 : decode cX6_work 94 = .ok (.iastore, 1) := by decide +kernel
theorem dX6_work_95 : decode cX6_work 95 = .ok (.aload_n 0, 1) := by decide +kernel
theorem dX6_work_96 : decode cX6_work 96 = .ok (.getfield 78, 3) := by decide +kernel
theorem dX6_work_99 : decode cX6_work 99 = .ok (.iload_n 2, 1) := by decide +kernel
theorem dX6_work_100 : decode cX6_work 100 = .ok (.iconst 0, 1) := by decide +kernel
theorem dX6_work_101 : decode cX6_work 101 = .ok (.iastore, 1) := by decide +kernel
theorem dX6_work_102 : decode cX6_work 102 = .ok (.iinc 2 1, 3) := by decide +kernel
theorem dX6_work_105 : decode cX6_work 105 = .ok (.goto (-89), 3) := by decide +kernel
theorem dX6_work_108 : decode cX6_work 108 = .ok (.iinc 2 (-1), 3) := by decide +kernel
theorem dX6_work_111 : decode cX6_work 111 = .ok (.aload_n 0, 1) := by decide +kernel
theorem dX6_work_112 : decode cX6_work 112 = .ok (.aload_n 0, 1) := by decide +kernel
theorem dX6_work_113 : decode cX6_work 113 = .ok (.getfield 16, 3) := by decide +kernel
theorem dX6_work_116 : decode cX6_work 116 = .ok (.iload_n 3, 1) := by decide +kernel
theorem dX6_work_117 : decode cX6_work 117 = .ok (.iaload, 1) := by decide +kernel
theorem dX6_work_118 : decode cX6_work 118 = .ok (.aload_n 0, 1) := by decide +kernel
theorem dX6_work_119 : decode cX6_work 119 = .ok (.getfield 19, 3) := by decide +kernel
theorem dX6_work_122 : decode cX6_work 122 = .ok (.iload_n 3, 1) := by decide +kernel
theorem dX6_work_123 : decode cX6_work 123 = .ok (.iaload, 1) := by decide +kernel
theorem dX6_work_124 : decode cX6_work 124 = .ok (.invokevirtual 179, 3) := by decide +kernel
theorem dX6_work_127 : decode cX6_work 127 = .ok (.goto (-111), 3) := by decide +kernel
theorem dX6_work_130 : decode cX6_work 130 = .ok (.return_, 1) := by decide +kernel
theorem dX6_worked_0 : decode cX6_worked 0 = .ok (.iload_n 1, 1) := by decide +kernel
theorem dX6_worked_1 : decode cX6_worked 1 = .ok (.tableswitch 145 0 4 #[35, 44, 57, 96, 70], 35) := by decide +kernel
theorem dX6_worked_36 : decode cX6_worked 36 = .ok (.aload_n 0, 1) := by decide +kernel
theorem dX6_worked_37 : decode cX6_worked 37 = .ok (.iload_n 2, 1) := by decide +kernel
theorem dX6_worked_38 : decode cX6_worked 38 = .ok (.i2l, 1) := by decide +kernel
theorem dX6_worked_39 : decode cX6_worked 39 = .ok (.invokevirtual 172, 3) := by decide +kernel
theorem dX6_worked_42 : decode cX6_worked 42 = .ok (.goto 109, 3) := by decide +kernel
theorem dX6_worked_45 : decode cX6_worked 45 = .ok (.aload_n 0, 1) := by decide +kernel
theorem dX6_worked_46 : decode cX6_worked 46 = .ok (.aload_n 0, 1) := by decide +kernel
theorem dX6_worked_47 : decode cX6_worked 47 = .ok (.getfield 66, 3) := by decide +kernel
theorem dX6_worked_50 : decode cX6_worked 50 = .ok (.iload_n 2, 1) := by decide +kernel
theorem dX6_worked_51 : decode cX6_worked 51 = .ok (.laload, 1) := by decide +kernel
theorem dX6_worked_52 : decode cX6_worked 52 = .ok (.invokevirtual 172, 3) := by decide +kernel
theorem dX6_worked_55 : decode cX6_worked 55 = .ok (.goto 96, 3) := by decide +kernel
theorem dX6_worked_58 : decode cX6_worked 58 = .ok (.aload_n 0, 1) := by decide +kernel
theorem dX6_worked_59 : decode cX6_worked 59 = .ok (.aload_n 0, 1) := by decide +kernel
theorem dX6_worked_60 : decode cX6_worked 60 = .ok (.getfield 69, 3) := by decide +kernel
theorem dX6_worked_63 : decode cX6_worked 63 = .ok (.iload_n 2, 1) := by decide +kernel
theorem dX6_worked_64 : decode cX6_worked 64 = .ok (.laload, 1) := by decide +kernel
theorem dX6_worked_65 : decode cX6_worked 65 = .ok (.invokevirtual 172, 3) := by decide +kernel
theorem dX6_worked_68 : decode cX6_worked 68 = .ok (.goto 83, 3) := by decide +kernel
theorem dX6_worked_71 : decode cX6_worked 71 = .ok (.aload_n 0, 1) := by decide +kernel
theorem dX6_worked_72 : decode cX6_worked 72 = .ok (.getfield 72, 3) := by decide +kernel
theorem dX6_worked_75 : decode cX6_worked 75 = .ok (.aload_n 0, 1) := by decide +kernel
theorem dX6_worked_76 : decode cX6_worked 76 = .ok (.getfield 167, 3) := by decide +kernel
theorem dX6_worked_79 : decode cX6_worked 79 = .ok (.iconst 1, 1) := by decide +kernel
theorem dX6_worked_80 : decode cX6_worked 80 = .ok (.isub, 1) := by decide +kernel
theorem dX6_worked_81 : decode cX6_worked 81 = .ok (.aload_n 0, 1) := by decide +kernel
theorem dX6_worked_82 : decode cX6_worked 82 = .ok (.getfield 72, 3) := by decide +kernel
theorem dX6_worked_85 : decode cX6_worked 85 = .ok (.aload_n 0, 1) := by decide +kernel
theorem dX6_worked_86 : decode cX6_worked 86 = .ok (.getfield 167, 3) := by decide +kernel
theorem dX6_worked_89 : decode cX6_worked 89 = .ok (.iconst 1, 1) := by decide +kernel
theorem dX6_worked_90 : decode cX6_worked 90 = .ok (.isub, 1) := by decide +kernel
theorem dX6_worked_91 : decode cX6_worked 91 = .ok (.laload, 1) := by decide +kernel
theorem dX6_worked_92 : decode cX6_worked 92 = .ok (.lneg, 1) := by decide +kernel
theorem dX6_worked_93 : decode cX6_worked 93 = .ok (.lastore, 1) := by decide +kernel
theorem dX6_worked_94 : decode cX6_worked 94 = .ok (.goto 57, 3) := by decide +kernel
theorem dX6_worked_97 : decode cX6_worked 97 = .ok (.aload_n 0, 1) := by decide +kernel
theorem dX6_worked_98 : decode cX6_worked 98 = .ok (.dup, 1) := by decide +kernel
theorem dX6_worked_99 : decode cX6_worked 99 = .ok (.getfield 167, 3) := by decide +kernel
theorem dX6_worked_102 : decode cX6_worked 102 = .ok (.iconst 1, 1) := by decide +kernel
theorem dX6_worked_103 : decode cX6_worked 103 = .ok (.isub, 1) := by decide +kernel
theorem dX6_worked_104 : decode cX6_worked 104 = .ok (.putfield 167, 3) := by decide +kernel
theorem dX6_worked_107 : decode cX6_worked 107 = .ok (.aload_n 0, 1) := by decide +kernel
theorem dX6_worked_108 : decode cX6_worked 108 = .ok (.getfield 72, 3) := by decide +kernel
theorem dX6_worked_111 : decode cX6_worked 111 = .ok (.aload_n 0, 1) := by decide +kernel
theorem dX6_worked_112 : decode cX6_worked 112 = .ok (.getfield 167, 3) := by decide +kernel
theorem dX6_worked_115 : decode cX6_worked 115 = .ok (.iconst 1, 1) := by decide +kernel
theorem dX6_worked_116 : decode cX6_worked 116 = .ok (.isub, 1) := by decide +kernel
theorem dX6_worked_117 : decode cX6_worked 117 = .ok (.aload_n 0, 1) := by decide +kernel
theorem dX6_worked_118 : decode cX6_worked 118 = .ok (.iload_n 2, 1) := by decide +kernel
theorem dX6_worked_119 : decode cX6_worked 119 = .ok (.aload_n 0, 1) := by decide +kernel
theorem dX6_worked_120 : decode cX6_worked 120 = .ok (.getfield 72, 3) := by decide +kernel
theorem dX6_worked_123 : decode cX6_worked 123 = .ok (.aload_n 0, 1) := by decide +kernel
theorem dX6_worked_124 : decode cX6_worked 124 = .ok (.getfield 167, 3) := by decide +kernel
theorem dX6_worked_127 : decode cX6_worked 127 = .ok (.iconst 1, 1) := by decide +kernel
theorem dX6_worked_128 : decode cX6_worked 128 = .ok (.isub, 1) := by decide +kernel
theorem dX6_worked_129 : decode cX6_worked 129 = .ok (.laload, 1) := by decide +kernel
theorem dX6_worked_130 : decode cX6_worked 130 = .ok (.aload_n 0, 1) := by decide +kernel
theorem dX6_worked_131 : decode cX6_worked 131 = .ok (.getfield 72, 3) := by decide +kernel
theorem dX6_worked_134 : decode cX6_worked 134 = .ok (.aload_n 0, 1) := by decide +kernel
theorem dX6_worked_135 : decode cX6_worked 135 = .ok (.getfield 167, 3) := by decide +kernel
theorem dX6_worked_138 : decode cX6_worked 138 = .ok (.laload, 1) := by decide +kernel
theorem dX6_worked_139 : decode cX6_worked 139 = .ok (.invokevirtual 182, 3) := by decide +kernel
theorem dX6_worked_142 : decode cX6_worked 142 = .ok (.lastore, 1) := by decide +kernel
theorem dX6_worked_143 : decode cX6_worked 143 = .ok (.goto 8, 3) := by decide +kernel
theorem dX6_worked_146 : decode cX6_worked 146 = .ok (.aload_n 0, 1) := by decide +kernel
theorem dX6_worked_147 : decode cX6_worked 147 = .ok (.iload_n 2, 1) := by decide +kernel
theorem dX6_worked_148 : decode cX6_worked 148 = .ok (.invokevirtual 186, 3) := by decide +kernel
theorem dX6_worked_151 : decode cX6_worked 151 = .ok (.return_, 1) := by decide +kernel
theorem dX6_runLines_0 : decode cX6_runLines 0 = .ok (.iconst 0, 1) := by decide +kernel
theorem dX6_runLines_1 : decode cX6_runLines 1 = .ok (.istore_n 1, 1) := by decide +kernel
theorem dX6_runLines_2 : decode cX6_runLines 2 = .ok (.iload_n 1, 1) := by decide +kernel
theorem dX6_runLines_3 : decode cX6_runLines 3 = .ok (.aload_n 0, 1) := by decide +kernel
theorem dX6_runLines_4 : decode cX6_runLines 4 = .ok (.getfield 110, 3) := by decide +kernel
theorem dX6_runLines_7 : decode cX6_runLines 7 = .ok (.if_icmp .ge 131, 3) := by decide +kernel
theorem dX6_runLines_10 : decode cX6_runLines 10 = .ok (.aload_n 0, 1) := by decide +kernel
theorem dX6_runLines_11 : decode cX6_runLines 11 = .ok (.getfield 156, 3) := by decide +kernel
theorem dX6_runLines_14 : decode cX6_runLines 14 = .ok (.ifCond .ne 124, 3) := by decide +kernel
theorem dX6_runLines_17 : decode cX6_runLines 17 = .ok (.aload_n 0, 1) := by decide +kernel
theorem dX6_runLines_18 : decode cX6_runLines 18 = .ok (.iconst 0, 1) := by decide +kernel
theorem dX6_runLines_19 : decode cX6_runLines 19 = .ok (.putfield 167, 3) := by decide +kernel
theorem dX6_runLines_22 : decode cX6_runLines 22 = .ok (.aload_n 0, 1) := by decide +kernel
theorem dX6_runLines_23 : decode cX6_runLines 23 = .ok (.getfield 28, 3) := by decide +kernel
theorem dX6_runLines_26 : decode cX6_runLines 26 = .ok (.iload_n 1, 1) := by decide +kernel
theorem dX6_runLines_27 : decode cX6_runLines 27 = .ok (.iaload, 1) := by decide +kernel
theorem dX6_runLines_28 : decode cX6_runLines 28 = .ok (.iconst 2, 1) := by decide +kernel
theorem dX6_runLines_29 : decode cX6_runLines 29 = .ok (.if_icmp .ne 27, 3) := by decide +kernel
theorem dX6_runLines_32 : decode cX6_runLines 32 = .ok (.aload_n 0, 1) := by decide +kernel
theorem dX6_runLines_33 : decode cX6_runLines 33 = .ok (.getfield 66, 3) := by decide +kernel
theorem dX6_runLines_36 : decode cX6_runLines 36 = .ok (.aload_n 0, 1) := by decide +kernel
theorem dX6_runLines_37 : decode cX6_runLines 37 = .ok (.getfield 31, 3) := by decide +kernel
theorem dX6_runLines_40 : decode cX6_runLines 40 = .ok (.iload_n 1, 1) := by decide +kernel
theorem dX6_runLines_41 : decode cX6_runLines 41 = .ok (.iaload, 1) := by decide +kernel
theorem dX6_runLines_42 : decode cX6_runLines 42 = .ok (.dup2, 1) := by decide +kernel
theorem dX6_runLines_43 : decode cX6_runLines 43 = .ok (.laload, 1) := by decide +kernel
theorem dX6_runLines_44 : decode cX6_runLines 44 = .ok (.aload_n 0, 1) := by decide +kernel
theorem dX6_runLines_45 : decode cX6_runLines 45 = .ok (.getfield 34, 3) := by decide +kernel
theorem dX6_runLines_48 : decode cX6_runLines 48 = .ok (.iload_n 1, 1) := by decide +kernel
theorem dX6_runLines_49 : decode cX6_runLines 49 = .ok (.iaload, 1) := by decide +kernel
theorem dX6_runLines_50 : decode cX6_runLines 50 = .ok (.i2l, 1) := by decide +kernel
theorem dX6_runLines_51 : decode cX6_runLines 51 = .ok (.ladd, 1) := by decide +kernel
theorem dX6_runLines_52 : decode cX6_runLines 52 = .ok (.lastore, 1) := by decide +kernel
theorem dX6_runLines_53 : decode cX6_runLines 53 = .ok (.goto 79, 3) := by decide +kernel
theorem dX6_runLines_56 : decode cX6_runLines 56 = .ok (.aload_n 0, 1) := by decide +kernel
theorem dX6_runLines_57 : decode cX6_runLines 57 = .ok (.aload_n 0, 1) := by decide +kernel
theorem dX6_runLines_58 : decode cX6_runLines 58 = .ok (.getfield 34, 3) := by decide +kernel
theorem dX6_runLines_61 : decode cX6_runLines 61 = .ok (.iload_n 1, 1) := by decide +kernel
theorem dX6_runLines_62 : decode cX6_runLines 62 = .ok (.iaload, 1) := by decide +kernel
theorem dX6_runLines_63 : decode cX6_runLines 63 = .ok (.invokevirtual 189, 3) := by decide +kernel
theorem dX6_runLines_66 : decode cX6_runLines 66 = .ok (.aload_n 0, 1) := by decide +kernel
theorem dX6_runLines_67 : decode cX6_runLines 67 = .ok (.getfield 156, 3) := by decide +kernel
theorem dX6_runLines_70 : decode cX6_runLines 70 = .ok (.ifCond .ne 62, 3) := by decide +kernel
theorem dX6_runLines_73 : decode cX6_runLines 73 = .ok (.aload_n 0, 1) := by decide +kernel
theorem dX6_runLines_74 : decode cX6_runLines 74 = .ok (.getfield 28, 3) := by decide +kernel
theorem dX6_runLines_77 : decode cX6_runLines 77 = .ok (.iload_n 1, 1) := by decide +kernel
theorem dX6_runLines_78 : decode cX6_runLines 78 = .ok (.iaload, 1) := by decide +kernel
theorem dX6_runLines_79 : decode cX6_runLines 79 = .ok (.iconst 3, 1) := by decide +kernel
theorem dX6_runLines_80 : decode cX6_runLines 80 = .ok (.if_icmp .ne 6, 3) := by decide +kernel
theorem dX6_runLines_83 : decode cX6_runLines 83 = .ok (.goto 49, 3) := by decide +kernel
theorem dX6_runLines_86 : decode cX6_runLines 86 = .ok (.aload_n 0, 1) := by decide +kernel
theorem dX6_runLines_87 : decode cX6_runLines 87 = .ok (.getfield 28, 3) := by decide +kernel
theorem dX6_runLines_90 : decode cX6_runLines 90 = .ok (.iload_n 1, 1) := by decide +kernel
theorem dX6_runLines_91 : decode cX6_runLines 91 = .ok (.iaload, 1) := by decide +kernel
theorem dX6_runLines_92 : decode cX6_runLines 92 = .ok (.ifCond .ne 23, 3) := by decide +kernel
theorem dX6_runLines_95 : decode cX6_runLines 95 = .ok (.aload_n 0, 1) := by decide +kernel
theorem dX6_runLines_96 : decode cX6_runLines 96 = .ok (.getfield 69, 3) := by decide +kernel
theorem dX6_runLines_99 : decode cX6_runLines 99 = .ok (.aload_n 0, 1) := by decide +kernel
theorem dX6_runLines_100 : decode cX6_runLines 100 = .ok (.getfield 31, 3) := by decide +kernel
theorem dX6_runLines_103 : decode cX6_runLines 103 = .ok (.iload_n 1, 1) := by decide +kernel
theorem dX6_runLines_104 : decode cX6_runLines 104 = .ok (.iaload, 1) := by decide +kernel
theorem dX6_runLines_105 : decode cX6_runLines 105 = .ok (.aload_n 0, 1) := by decide +kernel
theorem dX6_runLines_106 : decode cX6_runLines 106 = .ok (.getfield 72, 3) := by decide +kernel
theorem dX6_runLines_109 : decode cX6_runLines 109 = .ok (.iconst 0, 1) := by decide +kernel
theorem dX6_runLines_110 : decode cX6_runLines 110 = .ok (.laload, 1) := by decide +kernel
theorem dX6_runLines_111 : decode cX6_runLines 111 = .ok (.lastore, 1) := by decide +kernel
theorem dX6_runLines_112 : decode cX6_runLines 112 = .ok (.goto 20, 3) := by decide +kernel
theorem dX6_runLines_115 : decode cX6_runLines 115 = .ok (.aload_n 0, 1) := by decide +kernel
theorem dX6_runLines_116 : decode cX6_runLines 116 = .ok (.getfield 66, 3) := by decide +kernel
theorem dX6_runLines_119 : decode cX6_runLines 119 = .ok (.aload_n 0, 1) := by decide +kernel
theorem dX6_runLines_120 : decode cX6_runLines 120 = .ok (.getfield 31, 3) := by decide +kernel
theorem dX6_runLines_123 : decode cX6_runLines 123 = .ok (.iload_n 1, 1) := by decide +kernel
theorem dX6_runLines_124 : decode cX6_runLines 124 = .ok (.iaload, 1) := by decide +kernel
theorem dX6_runLines_125 : decode cX6_runLines 125 = .ok (.aload_n 0, 1) := by decide +kernel
theorem dX6_runLines_126 : decode cX6_runLines 126 = .ok (.getfield 72, 3) := by decide +kernel
theorem dX6_runLines_129 : decode cX6_runLines 129 = .ok (.iconst 0, 1) := by decide +kernel
theorem dX6_runLines_130 : decode cX6_runLines 130 = .ok (.laload, 1) := by decide +kernel
theorem dX6_runLines_131 : decode cX6_runLines 131 = .ok (.lastore, 1) := by decide +kernel
theorem dX6_runLines_132 : decode cX6_runLines 132 = .ok (.iinc 1 1, 3) := by decide +kernel
theorem dX6_runLines_135 : decode cX6_runLines 135 = .ok (.goto (-133), 3) := by decide +kernel
theorem dX6_runLines_138 : decode cX6_runLines 138 = .ok (.aload_n 0, 1) := by decide +kernel
theorem dX6_runLines_139 : decode cX6_runLines 139 = .ok (.iconst 0, 1) := by decide +kernel
theorem dX6_runLines_140 : decode cX6_runLines 140 = .ok (.putfield 167, 3) := by decide +kernel
theorem dX6_runLines_143 : decode cX6_runLines 143 = .ok (.iconst 0, 1) := by decide +kernel
theorem dX6_runLines_144 : decode cX6_runLines 144 = .ok (.istore_n 1, 1) := by decide +kernel
theorem dX6_runLines_145 : decode cX6_runLines 145 = .ok (.iload_n 1, 1) := by decide +kernel
theorem dX6_runLines_146 : decode cX6_runLines 146 = .ok (.aload_n 0, 1) := by decide +kernel
theorem dX6_runLines_147 : decode cX6_runLines 147 = .ok (.getfield 96, 3) := by decide +kernel
theorem dX6_runLines_150 : decode cX6_runLines 150 = .ok (.if_icmp .ge 26, 3) := by decide +kernel
theorem dX6_runLines_153 : decode cX6_runLines 153 = .ok (.aload_n 0, 1) := by decide +kernel
theorem dX6_runLines_154 : decode cX6_runLines 154 = .ok (.getfield 156, 3) := by decide +kernel
theorem dX6_runLines_157 : decode cX6_runLines 157 = .ok (.ifCond .ne 19, 3) := by decide +kernel
theorem dX6_runLines_160 : decode cX6_runLines 160 = .ok (.aload_n 0, 1) := by decide +kernel
theorem dX6_runLines_161 : decode cX6_runLines 161 = .ok (.aload_n 0, 1) := by decide +kernel
theorem dX6_runLines_162 : decode cX6_runLines 162 = .ok (.getfield 25, 3) := by decide +kernel
theorem dX6_runLines_165 : decode cX6_runLines 165 = .ok (.iload_n 1, 1) := by decide +kernel
theorem dX6_runLines_166 : decode cX6_runLines 166 = .ok (.iaload, 1) := by decide +kernel
theorem dX6_runLines_167 : decode cX6_runLines 167 = .ok (.invokevirtual 189, 3) := by decide +kernel
theorem dX6_runLines_170 : decode cX6_runLines 170 = .ok (.iinc 1 1, 3) := by decide +kernel
theorem dX6_runLines_173 : decode cX6_runLines 173 = .ok (.goto (-28), 3) := by decide +kernel
theorem dX6_runLines_176 : decode cX6_runLines 176 = .ok (.return_, 1) := by decide +kernel
theorem dX6_runActs_0 : decode cX6_runActs 0 = .ok (.aload_n 0, 1) := by decide +kernel
theorem dX6_runActs_1 : decode cX6_runActs 1 = .ok (.iconst 0, 1) := by decide +kernel
theorem dX6_runActs_2 : decode cX6_runActs 2 = .ok (.putfield 167, 3) := by decide +kernel
theorem dX6_runActs_5 : decode cX6_runActs 5 = .ok (.iconst 0, 1) := by decide +kernel
theorem dX6_runActs_6 : decode cX6_runActs 6 = .ok (.istore_n 1, 1) := by decide +kernel
theorem dX6_runActs_7 : decode cX6_runActs 7 = .ok (.iload_n 1, 1) := by decide +kernel
theorem dX6_runActs_8 : decode cX6_runActs 8 = .ok (.aload_n 0, 1) := by decide +kernel
theorem dX6_runActs_9 : decode cX6_runActs 9 = .ok (.getfield 89, 3) := by decide +kernel
theorem dX6_runActs_12 : decode cX6_runActs 12 = .ok (.if_icmp .ge 316, 3) := by decide +kernel
theorem dX6_runActs_15 : decode cX6_runActs 15 = .ok (.aload_n 0, 1) := by decide +kernel
theorem dX6_runActs_16 : decode cX6_runActs 16 = .ok (.getfield 156, 3) := by decide +kernel
theorem dX6_runActs_19 : decode cX6_runActs 19 = .ok (.ifCond .ne 309, 3) := by decide +kernel
theorem dX6_runActs_22 : decode cX6_runActs 22 = .ok (.aload_n 0, 1) := by decide +kernel
theorem dX6_runActs_23 : decode cX6_runActs 23 = .ok (.getfield 13, 3) := by decide +kernel
theorem dX6_runActs_26 : decode cX6_runActs 26 = .ok (.iload_n 1, 1) := by decide +kernel
theorem dX6_runActs_27 : decode cX6_runActs 27 = .ok (.iaload, 1) := by decide +kernel
theorem dX6_runActs_28 : decode cX6_runActs 28 = .ok (.istore_n 2, 1) := by decide +kernel
theorem dX6_runActs_29 : decode cX6_runActs 29 = .ok (.aload_n 0, 1) := by decide +kernel
theorem dX6_runActs_30 : decode cX6_runActs 30 = .ok (.getfield 167, 3) := by decide +kernel
theorem dX6_runActs_33 : decode cX6_runActs 33 = .ok (.ifCond .le 17, 3) := by decide +kernel
theorem dX6_runActs_36 : decode cX6_runActs 36 = .ok (.aload_n 0, 1) := by decide +kernel
theorem dX6_runActs_37 : decode cX6_runActs 37 = .ok (.getfield 72, 3) := by decide +kernel
theorem dX6_runActs_40 : decode cX6_runActs 40 = .ok (.aload_n 0, 1) := by decide +kernel
theorem dX6_runActs_41 : decode cX6_runActs 41 = .ok (.getfield 167, 3) := by decide +kernel
theorem dX6_runActs_44 : decode cX6_runActs 44 = .ok (.iconst 1, 1) := by decide +kernel
theorem dX6_runActs_45 : decode cX6_runActs 45 = .ok (.isub, 1) := by decide +kernel
theorem dX6_runActs_46 : decode cX6_runActs 46 = .ok (.laload, 1) := by decide +kernel
theorem dX6_runActs_47 : decode cX6_runActs 47 = .ok (.goto 4, 3) := by decide +kernel
theorem dX6_runActs_50 : decode cX6_runActs 50 = .ok (.lconst 0, 1) := by decide +kernel
theorem dX6_runActs_51 : decode cX6_runActs 51 = .ok (.lstore_n 3, 1) := by decide +kernel
theorem dX6_runActs_52 : decode cX6_runActs 52 = .ok (.aload_n 0, 1) := by decide +kernel
theorem dX6_runActs_53 : decode cX6_runActs 53 = .ok (.getfield 167, 3) := by decide +kernel
theorem dX6_runActs_56 : decode cX6_runActs 56 = .ok (.iconst 1, 1) := by decide +kernel
theorem dX6_runActs_57 : decode cX6_runActs 57 = .ok (.if_icmp .le 17, 3) := by decide +kernel
theorem dX6_runActs_60 : decode cX6_runActs 60 = .ok (.aload_n 0, 1) := by decide +kernel
theorem dX6_runActs_61 : decode cX6_runActs 61 = .ok (.getfield 72, 3) := by decide +kernel
theorem dX6_runActs_64 : decode cX6_runActs 64 = .ok (.aload_n 0, 1) := by decide +kernel
theorem dX6_runActs_65 : decode cX6_runActs 65 = .ok (.getfield 167, 3) := by decide +kernel
theorem dX6_runActs_68 : decode cX6_runActs 68 = .ok (.iconst 2, 1) := by decide +kernel
theorem dX6_runActs_69 : decode cX6_runActs 69 = .ok (.isub, 1) := by decide +kernel
theorem dX6_runActs_70 : decode cX6_runActs 70 = .ok (.laload, 1) := by decide +kernel
theorem dX6_runActs_71 : decode cX6_runActs 71 = .ok (.goto 4, 3) := by decide +kernel
theorem dX6_runActs_74 : decode cX6_runActs 74 = .ok (.lconst 0, 1) := by decide +kernel
theorem dX6_runActs_75 : decode cX6_runActs 75 = .ok (.lstore 5, 2) := by decide +kernel
theorem dX6_runActs_77 : decode cX6_runActs 77 = .ok (.aload_n 0, 1) := by decide +kernel
theorem dX6_runActs_78 : decode cX6_runActs 78 = .ok (.getfield 7, 3) := by decide +kernel
theorem dX6_runActs_81 : decode cX6_runActs 81 = .ok (.iload_n 1, 1) := by decide +kernel
theorem dX6_runActs_82 : decode cX6_runActs 82 = .ok (.iaload, 1) := by decide +kernel
theorem dX6_runActs_83 : decode cX6_runActs 83 = .ok (.tableswitch 234 0 9 #[53, 62, 75, 95, 121, 153, 169, 182, 190, 190], 53) := by decide +kernel
theorem dX6_runActs_136 : decode cX6_runActs 136 = .ok (.aload_n 0, 1) := by decide +kernel
theorem dX6_runActs_137 : decode cX6_runActs 137 = .ok (.iload_n 2, 1) := by decide +kernel
theorem dX6_runActs_138 : decode cX6_runActs 138 = .ok (.i2l, 1) := by decide +kernel
theorem dX6_runActs_139 : decode cX6_runActs 139 = .ok (.invokevirtual 172, 3) := by decide +kernel
theorem dX6_runActs_142 : decode cX6_runActs 142 = .ok (.goto 180, 3) := by decide +kernel
theorem dX6_runActs_145 : decode cX6_runActs 145 = .ok (.aload_n 0, 1) := by decide +kernel
theorem dX6_runActs_146 : decode cX6_runActs 146 = .ok (.aload_n 0, 1) := by decide +kernel
theorem dX6_runActs_147 : decode cX6_runActs 147 = .ok (.getfield 66, 3) := by decide +kernel
theorem dX6_runActs_150 : decode cX6_runActs 150 = .ok (.iload_n 2, 1) := by decide +kernel
theorem dX6_runActs_151 : decode cX6_runActs 151 = .ok (.laload, 1) := by decide +kernel
theorem dX6_runActs_152 : decode cX6_runActs 152 = .ok (.invokevirtual 172, 3) := by decide +kernel
theorem dX6_runActs_155 : decode cX6_runActs 155 = .ok (.goto 167, 3) := by decide +kernel
theorem dX6_runActs_158 : decode cX6_runActs 158 = .ok (.aload_n 0, 1) := by decide +kernel
theorem dX6_runActs_159 : decode cX6_runActs 159 = .ok (.getfield 66, 3) := by decide +kernel
theorem dX6_runActs_162 : decode cX6_runActs 162 = .ok (.iload_n 2, 1) := by decide +kernel
theorem dX6_runActs_163 : decode cX6_runActs 163 = .ok (.lload_n 3, 1) := by decide +kernel
theorem dX6_runActs_164 : decode cX6_runActs 164 = .ok (.lastore, 1) := by decide +kernel
theorem dX6_runActs_165 : decode cX6_runActs 165 = .ok (.aload_n 0, 1) := by decide +kernel
theorem dX6_runActs_166 : decode cX6_runActs 166 = .ok (.dup, 1) := by decide +kernel
theorem dX6_runActs_167 : decode cX6_runActs 167 = .ok (.getfield 167, 3) := by decide +kernel
theorem dX6_runActs_170 : decode cX6_runActs 170 = .ok (.iconst 1, 1) := by decide +kernel
theorem dX6_runActs_171 : decode cX6_runActs 171 = .ok (.isub, 1) := by decide +kernel
theorem dX6_runActs_172 : decode cX6_runActs 172 = .ok (.putfield 167, 3) := by decide +kernel
theorem dX6_runActs_175 : decode cX6_runActs 175 = .ok (.goto 147, 3) := by decide +kernel
theorem dX6_runActs_178 : decode cX6_runActs 178 = .ok (.aload_n 0, 1) := by decide +kernel
theorem dX6_runActs_179 : decode cX6_runActs 179 = .ok (.getfield 66, 3) := by decide +kernel
theorem dX6_runActs_182 : decode cX6_runActs 182 = .ok (.iload_n 2, 1) := by decide +kernel
theorem dX6_runActs_183 : decode cX6_runActs 183 = .ok (.sipush 256, 3) := by decide +kernel
theorem dX6_runActs_186 : decode cX6_runActs 186 = .ok (.idiv, 1) := by decide +kernel
theorem dX6_runActs_187 : decode cX6_runActs 187 = .ok (.dup2, 1) := by decide +kernel
theorem dX6_runActs_188 : decode cX6_runActs 188 = .ok (.laload, 1) := by decide +kernel
theorem dX6_runActs_189 : decode cX6_runActs 189 = .ok (.iload_n 2, 1) := by decide +kernel
theorem dX6_runActs_190 : decode cX6_runActs 190 = .ok (.sipush 256, 3) := by decide +kernel
theorem dX6_runActs_193 : decode cX6_runActs 193 = .ok (.irem, 1) := by decide +kernel
theorem dX6_runActs_194 : decode cX6_runActs 194 = .ok (.sipush 128, 3) := by decide +kernel
theorem dX6_runActs_197 : decode cX6_runActs 197 = .ok (.isub, 1) := by decide +kernel
theorem dX6_runActs_198 : decode cX6_runActs 198 = .ok (.i2l, 1) := by decide +kernel
theorem dX6_runActs_199 : decode cX6_runActs 199 = .ok (.ladd, 1) := by decide +kernel
theorem dX6_runActs_200 : decode cX6_runActs 200 = .ok (.lastore, 1) := by decide +kernel
theorem dX6_runActs_201 : decode cX6_runActs 201 = .ok (.goto 121, 3) := by decide +kernel
theorem dX6_runActs_204 : decode cX6_runActs 204 = .ok (.aload_n 0, 1) := by decide +kernel
theorem dX6_runActs_205 : decode cX6_runActs 205 = .ok (.dup, 1) := by decide +kernel
theorem dX6_runActs_206 : decode cX6_runActs 206 = .ok (.getfield 167, 3) := by decide +kernel
theorem dX6_runActs_209 : decode cX6_runActs 209 = .ok (.iconst 1, 1) := by decide +kernel
theorem dX6_runActs_210 : decode cX6_runActs 210 = .ok (.isub, 1) := by decide +kernel
theorem dX6_runActs_211 : decode cX6_runActs 211 = .ok (.putfield 167, 3) := by decide +kernel
theorem dX6_runActs_214 : decode cX6_runActs 214 = .ok (.aload_n 0, 1) := by decide +kernel
theorem dX6_runActs_215 : decode cX6_runActs 215 = .ok (.getfield 72, 3) := by decide +kernel
theorem dX6_runActs_218 : decode cX6_runActs 218 = .ok (.aload_n 0, 1) := by decide +kernel
theorem dX6_runActs_219 : decode cX6_runActs 219 = .ok (.getfield 167, 3) := by decide +kernel
theorem dX6_runActs_222 : decode cX6_runActs 222 = .ok (.iconst 1, 1) := by decide +kernel
theorem dX6_runActs_223 : decode cX6_runActs 223 = .ok (.isub, 1) := by decide +kernel
theorem dX6_runActs_224 : decode cX6_runActs 224 = .ok (.aload_n 0, 1) := by decide +kernel
theorem dX6_runActs_225 : decode cX6_runActs 225 = .ok (.iload_n 2, 1) := by decide +kernel
theorem dX6_runActs_226 : decode cX6_runActs 226 = .ok (.lload 5, 2) := by decide +kernel
theorem dX6_runActs_228 : decode cX6_runActs 228 = .ok (.lload_n 3, 1) := by decide +kernel
theorem dX6_runActs_229 : decode cX6_runActs 229 = .ok (.invokevirtual 182, 3) := by decide +kernel
theorem dX6_runActs_232 : decode cX6_runActs 232 = .ok (.lastore, 1) := by decide +kernel
theorem dX6_runActs_233 : decode cX6_runActs 233 = .ok (.goto 89, 3) := by decide +kernel
theorem dX6_runActs_236 : decode cX6_runActs 236 = .ok (.aload_n 0, 1) := by decide +kernel
theorem dX6_runActs_237 : decode cX6_runActs 237 = .ok (.getfield 72, 3) := by decide +kernel
theorem dX6_runActs_240 : decode cX6_runActs 240 = .ok (.aload_n 0, 1) := by decide +kernel
theorem dX6_runActs_241 : decode cX6_runActs 241 = .ok (.getfield 167, 3) := by decide +kernel
theorem dX6_runActs_244 : decode cX6_runActs 244 = .ok (.iconst 1, 1) := by decide +kernel
theorem dX6_runActs_245 : decode cX6_runActs 245 = .ok (.isub, 1) := by decide +kernel
theorem dX6_runActs_246 : decode cX6_runActs 246 = .ok (.lload_n 3, 1) := by decide +kernel
theorem dX6_runActs_247 : decode cX6_runActs 247 = .ok (.lneg, 1) := by decide +kernel
theorem dX6_runActs_248 : decode cX6_runActs 248 = .ok (.lastore, 1) := by decide +kernel
theorem dX6_runActs_249 : decode cX6_runActs 249 = .ok (.goto 73, 3) := by decide +kernel
theorem dX6_runActs_252 : decode cX6_runActs 252 = .ok (.aload_n 0, 1) := by decide +kernel
theorem dX6_runActs_253 : decode cX6_runActs 253 = .ok (.dup, 1) := by decide +kernel
theorem dX6_runActs_254 : decode cX6_runActs 254 = .ok (.getfield 167, 3) := by decide +kernel
theorem dX6_runActs_257 : decode cX6_runActs 257 = .ok (.iconst 1, 1) := by decide +kernel
theorem dX6_runActs_258 : decode cX6_runActs 258 = .ok (.isub, 1) := by decide +kernel
theorem dX6_runActs_259 : decode cX6_runActs 259 = .ok (.putfield 167, 3) := by decide +kernel
theorem dX6_runActs_262 : decode cX6_runActs 262 = .ok (.goto 60, 3) := by decide +kernel
theorem dX6_runActs_265 : decode cX6_runActs 265 = .ok (.aload_n 0, 1) := by decide +kernel
theorem dX6_runActs_266 : decode cX6_runActs 266 = .ok (.lload_n 3, 1) := by decide +kernel
theorem dX6_runActs_267 : decode cX6_runActs 267 = .ok (.invokevirtual 172, 3) := by decide +kernel
theorem dX6_runActs_270 : decode cX6_runActs 270 = .ok (.goto 52, 3) := by decide +kernel
theorem dX6_runActs_273 : decode cX6_runActs 273 = .ok (.aload_n 0, 1) := by decide +kernel
theorem dX6_runActs_274 : decode cX6_runActs 274 = .ok (.getfield 72, 3) := by decide +kernel
theorem dX6_runActs_277 : decode cX6_runActs 277 = .ok (.aload_n 0, 1) := by decide +kernel
theorem dX6_runActs_278 : decode cX6_runActs 278 = .ok (.getfield 167, 3) := by decide +kernel
theorem dX6_runActs_281 : decode cX6_runActs 281 = .ok (.iconst 2, 1) := by decide +kernel
theorem dX6_runActs_282 : decode cX6_runActs 282 = .ok (.isub, 1) := by decide +kernel
theorem dX6_runActs_283 : decode cX6_runActs 283 = .ok (.lload_n 3, 1) := by decide +kernel
theorem dX6_runActs_284 : decode cX6_runActs 284 = .ok (.lastore, 1) := by decide +kernel
theorem dX6_runActs_285 : decode cX6_runActs 285 = .ok (.aload_n 0, 1) := by decide +kernel
theorem dX6_runActs_286 : decode cX6_runActs 286 = .ok (.getfield 72, 3) := by decide +kernel
theorem dX6_runActs_289 : decode cX6_runActs 289 = .ok (.aload_n 0, 1) := by decide +kernel
theorem dX6_runActs_290 : decode cX6_runActs 290 = .ok (.getfield 167, 3) := by decide +kernel
theorem dX6_runActs_293 : decode cX6_runActs 293 = .ok (.iconst 1, 1) := by decide +kernel
theorem dX6_runActs_294 : decode cX6_runActs 294 = .ok (.isub, 1) := by decide +kernel
theorem dX6_runActs_295 : decode cX6_runActs 295 = .ok (.lload 5, 2) := by decide +kernel
theorem dX6_runActs_297 : decode cX6_runActs 297 = .ok (.lastore, 1) := by decide +kernel
theorem dX6_runActs_298 : decode cX6_runActs 298 = .ok (.aload_n 0, 1) := by decide +kernel
theorem dX6_runActs_299 : decode cX6_runActs 299 = .ok (.getfield 7, 3) := by decide +kernel
theorem dX6_runActs_302 : decode cX6_runActs 302 = .ok (.iload_n 1, 1) := by decide +kernel
theorem dX6_runActs_303 : decode cX6_runActs 303 = .ok (.iaload, 1) := by decide +kernel
theorem dX6_runActs_304 : decode cX6_runActs 304 = .ok (.bipush 9, 2) := by decide +kernel
theorem dX6_runActs_306 : decode cX6_runActs 306 = .ok (.if_icmp .ne 16, 3) := by decide +kernel
theorem dX6_runActs_309 : decode cX6_runActs 309 = .ok (.aload_n 0, 1) := by decide +kernel
theorem dX6_runActs_310 : decode cX6_runActs 310 = .ok (.lload_n 3, 1) := by decide +kernel
theorem dX6_runActs_311 : decode cX6_runActs 311 = .ok (.invokevirtual 172, 3) := by decide +kernel
theorem dX6_runActs_314 : decode cX6_runActs 314 = .ok (.goto 8, 3) := by decide +kernel
theorem dX6_runActs_317 : decode cX6_runActs 317 = .ok (.aload_n 0, 1) := by decide +kernel
theorem dX6_runActs_318 : decode cX6_runActs 318 = .ok (.iload_n 2, 1) := by decide +kernel
theorem dX6_runActs_319 : decode cX6_runActs 319 = .ok (.invokevirtual 186, 3) := by decide +kernel
theorem dX6_runActs_322 : decode cX6_runActs 322 = .ok (.iinc 1 1, 3) := by decide +kernel
theorem dX6_runActs_325 : decode cX6_runActs 325 = .ok (.goto (-318), 3) := by decide +kernel
theorem dX6_runActs_328 : decode cX6_runActs 328 = .ok (.return_, 1) := by decide +kernel
theorem dX6_run_0 : decode cX6_run 0 = .ok (.aload_n 0, 1) := by decide +kernel
theorem dX6_run_1 : decode cX6_run 1 = .ok (.iload_n 1, 1) := by decide +kernel
theorem dX6_run_2 : decode cX6_run 2 = .ok (.ifCond .lt 8, 3) := by decide +kernel
theorem dX6_run_5 : decode cX6_run 5 = .ok (.iload_n 1, 1) := by decide +kernel
theorem dX6_run_6 : decode cX6_run 6 = .ok (.iconst 1, 1) := by decide +kernel
theorem dX6_run_7 : decode cX6_run 7 = .ok (.if_icmp .le 7, 3) := by decide +kernel
theorem dX6_run_10 : decode cX6_run 10 = .ok (.iconst 1, 1) := by decide +kernel
theorem dX6_run_11 : decode cX6_run 11 = .ok (.goto 4, 3) := by decide +kernel
theorem dX6_run_14 : decode cX6_run 14 = .ok (.iconst 0, 1) := by decide +kernel
theorem dX6_run_15 : decode cX6_run 15 = .ok (.putfield 81, 3) := by decide +kernel
theorem dX6_run_18 : decode cX6_run 18 = .ok (.aload_n 0, 1) := by decide +kernel
theorem dX6_run_19 : decode cX6_run 19 = .ok (.getfield 81, 3) := by decide +kernel
theorem dX6_run_22 : decode cX6_run 22 = .ok (.ifCond .le 5, 3) := by decide +kernel
theorem dX6_run_25 : decode cX6_run 25 = .ok (.iconst 0, 1) := by decide +kernel
theorem dX6_run_26 : decode cX6_run 26 = .ok (.ireturn, 1) := by decide +kernel
theorem dX6_run_27 : decode cX6_run 27 = .ok (.iconst 0, 1) := by decide +kernel
theorem dX6_run_28 : decode cX6_run 28 = .ok (.istore_n 2, 1) := by decide +kernel
theorem dX6_run_29 : decode cX6_run 29 = .ok (.iload_n 2, 1) := by decide +kernel
theorem dX6_run_30 : decode cX6_run 30 = .ok (.bipush 10, 2) := by decide +kernel
theorem dX6_run_32 : decode cX6_run 32 = .ok (.if_icmp .ge 21, 3) := by decide +kernel
theorem dX6_run_35 : decode cX6_run 35 = .ok (.aload_n 0, 1) := by decide +kernel
theorem dX6_run_36 : decode cX6_run 36 = .ok (.getfield 66, 3) := by decide +kernel
theorem dX6_run_39 : decode cX6_run 39 = .ok (.iload_n 2, 1) := by decide +kernel
theorem dX6_run_40 : decode cX6_run 40 = .ok (.aload_n 0, 1) := by decide +kernel
theorem dX6_run_41 : decode cX6_run 41 = .ok (.getfield 37, 3) := by decide +kernel
theorem dX6_run_44 : decode cX6_run 44 = .ok (.iload_n 2, 1) := by decide +kernel
theorem dX6_run_45 : decode cX6_run 45 = .ok (.laload, 1) := by decide +kernel
theorem dX6_run_46 : decode cX6_run 46 = .ok (.lastore, 1) := by decide +kernel
theorem dX6_run_47 : decode cX6_run 47 = .ok (.iinc 2 1, 3) := by decide +kernel
theorem dX6_run_50 : decode cX6_run 50 = .ok (.goto (-21), 3) := by decide +kernel
theorem dX6_run_53 : decode cX6_run 53 = .ok (.aload_n 0, 1) := by decide +kernel
theorem dX6_run_54 : decode cX6_run 54 = .ok (.iconst 0, 1) := by decide +kernel
theorem dX6_run_55 : decode cX6_run 55 = .ok (.putfield 162, 3) := by decide +kernel
theorem dX6_run_58 : decode cX6_run 58 = .ok (.aload_n 0, 1) := by decide +kernel
theorem dX6_run_59 : decode cX6_run 59 = .ok (.iconst 0, 1) := by decide +kernel
theorem dX6_run_60 : decode cX6_run 60 = .ok (.putfield 156, 3) := by decide +kernel
theorem dX6_run_63 : decode cX6_run 63 = .ok (.iload_n 1, 1) := by decide +kernel
theorem dX6_run_64 : decode cX6_run 64 = .ok (.ifCond .ne 10, 3) := by decide +kernel
theorem dX6_run_67 : decode cX6_run 67 = .ok (.aload_n 0, 1) := by decide +kernel
theorem dX6_run_68 : decode cX6_run 68 = .ok (.invokevirtual 192, 3) := by decide +kernel
theorem dX6_run_71 : decode cX6_run 71 = .ok (.goto 7, 3) := by decide +kernel
theorem dX6_run_74 : decode cX6_run 74 = .ok (.aload_n 0, 1) := by decide +kernel
theorem dX6_run_75 : decode cX6_run 75 = .ok (.invokevirtual 195, 3) := by decide +kernel
theorem dX6_run_78 : decode cX6_run 78 = .ok (.aload_n 0, 1) := by decide +kernel
theorem dX6_run_79 : decode cX6_run 79 = .ok (.getfield 41, 3) := by decide +kernel
theorem dX6_run_82 : decode cX6_run 82 = .ok (.iload_n 1, 1) := by decide +kernel
theorem dX6_run_83 : decode cX6_run 83 = .ok (.iconst 1, 1) := by decide +kernel
theorem dX6_run_84 : decode cX6_run 84 = .ok (.bastore, 1) := by decide +kernel
theorem dX6_run_85 : decode cX6_run 85 = .ok (.aload_n 0, 1) := by decide +kernel
theorem dX6_run_86 : decode cX6_run 86 = .ok (.getfield 54, 3) := by decide +kernel
theorem dX6_run_89 : decode cX6_run 89 = .ok (.iload_n 1, 1) := by decide +kernel
theorem dX6_run_90 : decode cX6_run 90 = .ok (.aload_n 0, 1) := by decide +kernel
theorem dX6_run_91 : decode cX6_run 91 = .ok (.getfield 162, 3) := by decide +kernel
theorem dX6_run_94 : decode cX6_run 94 = .ok (.iastore, 1) := by decide +kernel
theorem dX6_run_95 : decode cX6_run 95 = .ok (.iconst 0, 1) := by decide +kernel
theorem dX6_run_96 : decode cX6_run 96 = .ok (.istore_n 2, 1) := by decide +kernel
theorem dX6_run_97 : decode cX6_run 97 = .ok (.iload_n 2, 1) := by decide +kernel
theorem dX6_run_98 : decode cX6_run 98 = .ok (.bipush 10, 2) := by decide +kernel
theorem dX6_run_100 : decode cX6_run 100 = .ok (.if_icmp .ge 26, 3) := by decide +kernel
theorem dX6_run_103 : decode cX6_run 103 = .ok (.aload_n 0, 1) := by decide +kernel
theorem dX6_run_104 : decode cX6_run 104 = .ok (.getfield 45, 3) := by decide +kernel
theorem dX6_run_107 : decode cX6_run 107 = .ok (.bipush 10, 2) := by decide +kernel
theorem dX6_run_109 : decode cX6_run 109 = .ok (.iload_n 1, 1) := by decide +kernel
theorem dX6_run_110 : decode cX6_run 110 = .ok (.imul, 1) := by decide +kernel
theorem dX6_run_111 : decode cX6_run 111 = .ok (.iload_n 2, 1) := by decide +kernel
theorem dX6_run_112 : decode cX6_run 112 = .ok (.iadd, 1) := by decide +kernel
theorem dX6_run_113 : decode cX6_run 113 = .ok (.aload_n 0, 1) := by decide +kernel
theorem dX6_run_114 : decode cX6_run 114 = .ok (.getfield 66, 3) := by decide +kernel
theorem dX6_run_117 : decode cX6_run 117 = .ok (.iload_n 2, 1) := by decide +kernel
theorem dX6_run_118 : decode cX6_run 118 = .ok (.laload, 1) := by decide +kernel
theorem dX6_run_119 : decode cX6_run 119 = .ok (.lastore, 1) := by decide +kernel
theorem dX6_run_120 : decode cX6_run 120 = .ok (.iinc 2 1, 3) := by decide +kernel
theorem dX6_run_123 : decode cX6_run 123 = .ok (.goto (-26), 3) := by decide +kernel
theorem dX6_run_126 : decode cX6_run 126 = .ok (.aload_n 0, 1) := by decide +kernel
theorem dX6_run_127 : decode cX6_run 127 = .ok (.getfield 48, 3) := by decide +kernel
theorem dX6_run_130 : decode cX6_run 130 = .ok (.iload_n 1, 1) := by decide +kernel
theorem dX6_run_131 : decode cX6_run 131 = .ok (.aload_n 0, 1) := by decide +kernel
theorem dX6_run_132 : decode cX6_run 132 = .ok (.getfield 156, 3) := by decide +kernel
theorem dX6_run_135 : decode cX6_run 135 = .ok (.ifCond .eq 7, 3) := by decide +kernel
theorem dX6_run_138 : decode cX6_run 138 = .ok (.iconst 0, 1) := by decide +kernel
theorem dX6_run_139 : decode cX6_run 139 = .ok (.goto 7, 3) := by decide +kernel
theorem dX6_run_142 : decode cX6_run 142 = .ok (.aload_n 0, 1) := by decide +kernel
theorem dX6_run_143 : decode cX6_run 143 = .ok (.getfield 167, 3) := by decide +kernel
theorem dX6_run_146 : decode cX6_run 146 = .ok (.iastore, 1) := by decide +kernel
theorem dX6_run_147 : decode cX6_run 147 = .ok (.iconst 0, 1) := by decide +kernel
theorem dX6_run_148 : decode cX6_run 148 = .ok (.istore_n 2, 1) := by decide +kernel
theorem dX6_run_149 : decode cX6_run 149 = .ok (.iload_n 2, 1) := by decide +kernel
theorem dX6_run_150 : decode cX6_run 150 = .ok (.aload_n 0, 1) := by decide +kernel
theorem dX6_run_151 : decode cX6_run 151 = .ok (.getfield 48, 3) := by decide +kernel
theorem dX6_run_154 : decode cX6_run 154 = .ok (.iload_n 1, 1) := by decide +kernel
theorem dX6_run_155 : decode cX6_run 155 = .ok (.iaload, 1) := by decide +kernel
theorem dX6_run_156 : decode cX6_run 156 = .ok (.if_icmp .ge 26, 3) := by decide +kernel
theorem dX6_run_159 : decode cX6_run 159 = .ok (.aload_n 0, 1) := by decide +kernel
theorem dX6_run_160 : decode cX6_run 160 = .ok (.getfield 51, 3) := by decide +kernel
theorem dX6_run_163 : decode cX6_run 163 = .ok (.bipush 24, 2) := by decide +kernel
theorem dX6_run_165 : decode cX6_run 165 = .ok (.iload_n 1, 1) := by decide +kernel
theorem dX6_run_166 : decode cX6_run 166 = .ok (.imul, 1) := by decide +kernel
theorem dX6_run_167 : decode cX6_run 167 = .ok (.iload_n 2, 1) := by decide +kernel
theorem dX6_run_168 : decode cX6_run 168 = .ok (.iadd, 1) := by decide +kernel
theorem dX6_run_169 : decode cX6_run 169 = .ok (.aload_n 0, 1) := by decide +kernel
theorem dX6_run_170 : decode cX6_run 170 = .ok (.getfield 72, 3) := by decide +kernel
theorem dX6_run_173 : decode cX6_run 173 = .ok (.iload_n 2, 1) := by decide +kernel
theorem dX6_run_174 : decode cX6_run 174 = .ok (.laload, 1) := by decide +kernel
theorem dX6_run_175 : decode cX6_run 175 = .ok (.lastore, 1) := by decide +kernel
theorem dX6_run_176 : decode cX6_run 176 = .ok (.iinc 2 1, 3) := by decide +kernel
theorem dX6_run_179 : decode cX6_run 179 = .ok (.goto (-30), 3) := by decide +kernel
theorem dX6_run_182 : decode cX6_run 182 = .ok (.aload_n 0, 1) := by decide +kernel
theorem dX6_run_183 : decode cX6_run 183 = .ok (.getfield 156, 3) := by decide +kernel
theorem dX6_run_186 : decode cX6_run 186 = .ok (.ifCond .eq 12, 3) := by decide +kernel
theorem dX6_run_189 : decode cX6_run 189 = .ok (.aload_n 0, 1) := by decide +kernel
theorem dX6_run_190 : decode cX6_run 190 = .ok (.getfield 162, 3) := by decide +kernel
theorem dX6_run_193 : decode cX6_run 193 = .ok (.iconst 1, 1) := by decide +kernel
theorem dX6_run_194 : decode cX6_run 194 = .ok (.iadd, 1) := by decide +kernel
theorem dX6_run_195 : decode cX6_run 195 = .ok (.goto 4, 3) := by decide +kernel
theorem dX6_run_198 : decode cX6_run 198 = .ok (.iconst 0, 1) := by decide +kernel
theorem dX6_run_199 : decode cX6_run 199 = .ok (.ireturn, 1) := by decide +kernel
theorem dX6_value_0 : decode cX6_value 0 = .ok (.aload_n 0, 1) := by decide +kernel
theorem dX6_value_1 : decode cX6_value 1 = .ok (.iload_n 1, 1) := by decide +kernel
theorem dX6_value_2 : decode cX6_value 2 = .ok (.ifCond .lt 18, 3) := by decide +kernel
theorem dX6_value_5 : decode cX6_value 5 = .ok (.iload_n 1, 1) := by decide +kernel
theorem dX6_value_6 : decode cX6_value 6 = .ok (.iconst 1, 1) := by decide +kernel
theorem dX6_value_7 : decode cX6_value 7 = .ok (.if_icmp .gt 13, 3) := by decide +kernel
theorem dX6_value_10 : decode cX6_value 10 = .ok (.iload_n 2, 1) := by decide +kernel
theorem dX6_value_11 : decode cX6_value 11 = .ok (.ifCond .lt 9, 3) := by decide +kernel
theorem dX6_value_14 : decode cX6_value 14 = .ok (.iload_n 2, 1) := by decide +kernel
theorem dX6_value_15 : decode cX6_value 15 = .ok (.bipush 9, 2) := by decide +kernel
theorem dX6_value_17 : decode cX6_value 17 = .ok (.if_icmp .le 7, 3) := by decide +kernel
theorem dX6_value_20 : decode cX6_value 20 = .ok (.iconst 1, 1) := by decide +kernel
theorem dX6_value_21 : decode cX6_value 21 = .ok (.goto 4, 3) := by decide +kernel
theorem dX6_value_24 : decode cX6_value 24 = .ok (.iconst 0, 1) := by decide +kernel
theorem dX6_value_25 : decode cX6_value 25 = .ok (.putfield 81, 3) := by decide +kernel
theorem dX6_value_28 : decode cX6_value 28 = .ok (.aload_n 0, 1) := by decide +kernel
theorem dX6_value_29 : decode cX6_value 29 = .ok (.getfield 81, 3) := by decide +kernel
theorem dX6_value_32 : decode cX6_value 32 = .ok (.ifCond .le 7, 3) := by decide +kernel
theorem dX6_value_35 : decode cX6_value 35 = .ok (.lconst 0, 1) := by decide +kernel
theorem dX6_value_36 : decode cX6_value 36 = .ok (.goto 32, 3) := by decide +kernel
theorem dX6_value_39 : decode cX6_value 39 = .ok (.aload_n 0, 1) := by decide +kernel
theorem dX6_value_40 : decode cX6_value 40 = .ok (.getfield 41, 3) := by decide +kernel
theorem dX6_value_43 : decode cX6_value 43 = .ok (.iload_n 1, 1) := by decide +kernel
theorem dX6_value_44 : decode cX6_value 44 = .ok (.baload, 1) := by decide +kernel
theorem dX6_value_45 : decode cX6_value 45 = .ok (.ifCond .eq 17, 3) := by decide +kernel
theorem dX6_value_48 : decode cX6_value 48 = .ok (.aload_n 0, 1) := by decide +kernel
theorem dX6_value_49 : decode cX6_value 49 = .ok (.getfield 45, 3) := by decide +kernel
theorem dX6_value_52 : decode cX6_value 52 = .ok (.bipush 10, 2) := by decide +kernel
theorem dX6_value_54 : decode cX6_value 54 = .ok (.iload_n 1, 1) := by decide +kernel
theorem dX6_value_55 : decode cX6_value 55 = .ok (.imul, 1) := by decide +kernel
theorem dX6_value_56 : decode cX6_value 56 = .ok (.iload_n 2, 1) := by decide +kernel
theorem dX6_value_57 : decode cX6_value 57 = .ok (.iadd, 1) := by decide +kernel
theorem dX6_value_58 : decode cX6_value 58 = .ok (.laload, 1) := by decide +kernel
theorem dX6_value_59 : decode cX6_value 59 = .ok (.goto 9, 3) := by decide +kernel
theorem dX6_value_62 : decode cX6_value 62 = .ok (.aload_n 0, 1) := by decide +kernel
theorem dX6_value_63 : decode cX6_value 63 = .ok (.getfield 37, 3) := by decide +kernel
theorem dX6_value_66 : decode cX6_value 66 = .ok (.iload_n 2, 1) := by decide +kernel
theorem dX6_value_67 : decode cX6_value 67 = .ok (.laload, 1) := by decide +kernel
theorem dX6_value_68 : decode cX6_value 68 = .ok (.lreturn, 1) := by decide +kernel
theorem dX6_left_0 : decode cX6_left 0 = .ok (.aload_n 0, 1) := by decide +kernel
theorem dX6_left_1 : decode cX6_left 1 = .ok (.iload_n 1, 1) := by decide +kernel
theorem dX6_left_2 : decode cX6_left 2 = .ok (.ifCond .lt 35, 3) := by decide +kernel
theorem dX6_left_5 : decode cX6_left 5 = .ok (.iload_n 1, 1) := by decide +kernel
theorem dX6_left_6 : decode cX6_left 6 = .ok (.iconst 1, 1) := by decide +kernel
theorem dX6_left_7 : decode cX6_left 7 = .ok (.if_icmp .gt 30, 3) := by decide +kernel
theorem dX6_left_10 : decode cX6_left 10 = .ok (.iload_n 2, 1) := by decide +kernel
theorem dX6_left_11 : decode cX6_left 11 = .ok (.ifCond .lt 26, 3) := by decide +kernel
theorem dX6_left_14 : decode cX6_left 14 = .ok (.iload_n 2, 1) := by decide +kernel
theorem dX6_left_15 : decode cX6_left 15 = .ok (.aload_n 0, 1) := by decide +kernel
theorem dX6_left_16 : decode cX6_left 16 = .ok (.getfield 48, 3) := by decide +kernel
theorem dX6_left_19 : decode cX6_left 19 = .ok (.iload_n 1, 1) := by decide +kernel
theorem dX6_left_20 : decode cX6_left 20 = .ok (.ifCond .lt 8, 3) := by decide +kernel
theorem dX6_left_23 : decode cX6_left 23 = .ok (.iload_n 1, 1) := by decide +kernel
theorem dX6_left_24 : decode cX6_left 24 = .ok (.iconst 1, 1) := by decide +kernel
theorem dX6_left_25 : decode cX6_left 25 = .ok (.if_icmp .le 7, 3) := by decide +kernel
theorem dX6_left_28 : decode cX6_left 28 = .ok (.iconst 0, 1) := by decide +kernel
theorem dX6_left_29 : decode cX6_left 29 = .ok (.goto 4, 3) := by decide +kernel
theorem dX6_left_32 : decode cX6_left 32 = .ok (.iload_n 1, 1) := by decide +kernel
theorem dX6_left_33 : decode cX6_left 33 = .ok (.iaload, 1) := by decide +kernel
theorem dX6_left_34 : decode cX6_left 34 = .ok (.if_icmp .lt 7, 3) := by decide +kernel
theorem dX6_left_37 : decode cX6_left 37 = .ok (.iconst 1, 1) := by decide +kernel
theorem dX6_left_38 : decode cX6_left 38 = .ok (.goto 4, 3) := by decide +kernel
theorem dX6_left_41 : decode cX6_left 41 = .ok (.iconst 0, 1) := by decide +kernel
theorem dX6_left_42 : decode cX6_left 42 = .ok (.putfield 81, 3) := by decide +kernel
theorem dX6_left_45 : decode cX6_left 45 = .ok (.aload_n 0, 1) := by decide +kernel
theorem dX6_left_46 : decode cX6_left 46 = .ok (.getfield 81, 3) := by decide +kernel
theorem dX6_left_49 : decode cX6_left 49 = .ok (.ifCond .le 7, 3) := by decide +kernel
theorem dX6_left_52 : decode cX6_left 52 = .ok (.lconst 0, 1) := by decide +kernel
theorem dX6_left_53 : decode cX6_left 53 = .ok (.goto 14, 3) := by decide +kernel
theorem dX6_left_56 : decode cX6_left 56 = .ok (.aload_n 0, 1) := by decide +kernel
theorem dX6_left_57 : decode cX6_left 57 = .ok (.getfield 51, 3) := by decide +kernel
theorem dX6_left_60 : decode cX6_left 60 = .ok (.bipush 24, 2) := by decide +kernel
theorem dX6_left_62 : decode cX6_left 62 = .ok (.iload_n 1, 1) := by decide +kernel
theorem dX6_left_63 : decode cX6_left 63 = .ok (.imul, 1) := by decide +kernel
theorem dX6_left_64 : decode cX6_left 64 = .ok (.iload_n 2, 1) := by decide +kernel
theorem dX6_left_65 : decode cX6_left 65 = .ok (.iadd, 1) := by decide +kernel
theorem dX6_left_66 : decode cX6_left 66 = .ok (.laload, 1) := by decide +kernel
theorem dX6_left_67 : decode cX6_left 67 = .ok (.lreturn, 1) := by decide +kernel
theorem dX6_count_0 : decode cX6_count 0 = .ok (.aload_n 0, 1) := by decide +kernel
theorem dX6_count_1 : decode cX6_count 1 = .ok (.iconst 0, 1) := by decide +kernel
theorem dX6_count_2 : decode cX6_count 2 = .ok (.putfield 81, 3) := by decide +kernel
theorem dX6_count_5 : decode cX6_count 5 = .ok (.iload_n 1, 1) := by decide +kernel
theorem dX6_count_6 : decode cX6_count 6 = .ok (.ifCond .ne 10, 3) := by decide +kernel
theorem dX6_count_9 : decode cX6_count 9 = .ok (.aload_n 0, 1) := by decide +kernel
theorem dX6_count_10 : decode cX6_count 10 = .ok (.getfield 89, 3) := by decide +kernel
theorem dX6_count_13 : decode cX6_count 13 = .ok (.goto 68, 3) := by decide +kernel
theorem dX6_count_16 : decode cX6_count 16 = .ok (.iload_n 1, 1) := by decide +kernel
theorem dX6_count_17 : decode cX6_count 17 = .ok (.iconst 1, 1) := by decide +kernel
theorem dX6_count_18 : decode cX6_count 18 = .ok (.if_icmp .ne 10, 3) := by decide +kernel
theorem dX6_count_21 : decode cX6_count 21 = .ok (.aload_n 0, 1) := by decide +kernel
theorem dX6_count_22 : decode cX6_count 22 = .ok (.getfield 110, 3) := by decide +kernel
theorem dX6_count_25 : decode cX6_count 25 = .ok (.goto 56, 3) := by decide +kernel
theorem dX6_count_28 : decode cX6_count 28 = .ok (.iload_n 1, 1) := by decide +kernel
theorem dX6_count_29 : decode cX6_count 29 = .ok (.iconst 2, 1) := by decide +kernel
theorem dX6_count_30 : decode cX6_count 30 = .ok (.if_icmp .ne 10, 3) := by decide +kernel
theorem dX6_count_33 : decode cX6_count 33 = .ok (.aload_n 0, 1) := by decide +kernel
theorem dX6_count_34 : decode cX6_count 34 = .ok (.getfield 113, 3) := by decide +kernel
theorem dX6_count_37 : decode cX6_count 37 = .ok (.goto 44, 3) := by decide +kernel
theorem dX6_count_40 : decode cX6_count 40 = .ok (.iload_n 1, 1) := by decide +kernel
theorem dX6_count_41 : decode cX6_count 41 = .ok (.iconst 3, 1) := by decide +kernel
theorem dX6_count_42 : decode cX6_count 42 = .ok (.if_icmp .ne 10, 3) := by decide +kernel
theorem dX6_count_45 : decode cX6_count 45 = .ok (.aload_n 0, 1) := by decide +kernel
theorem dX6_count_46 : decode cX6_count 46 = .ok (.getfield 96, 3) := by decide +kernel
theorem dX6_count_49 : decode cX6_count 49 = .ok (.goto 32, 3) := by decide +kernel
theorem dX6_count_52 : decode cX6_count 52 = .ok (.iload_n 1, 1) := by decide +kernel
theorem dX6_count_53 : decode cX6_count 53 = .ok (.iconst 4, 1) := by decide +kernel
theorem dX6_count_54 : decode cX6_count 54 = .ok (.if_icmp .ne 12, 3) := by decide +kernel
theorem dX6_count_57 : decode cX6_count 57 = .ok (.aload_n 0, 1) := by decide +kernel
theorem dX6_count_58 : decode cX6_count 58 = .ok (.getfield 54, 3) := by decide +kernel
theorem dX6_count_61 : decode cX6_count 61 = .ok (.iconst 0, 1) := by decide +kernel
theorem dX6_count_62 : decode cX6_count 62 = .ok (.iaload, 1) := by decide +kernel
theorem dX6_count_63 : decode cX6_count 63 = .ok (.goto 18, 3) := by decide +kernel
theorem dX6_count_66 : decode cX6_count 66 = .ok (.iload_n 1, 1) := by decide +kernel
theorem dX6_count_67 : decode cX6_count 67 = .ok (.iconst 5, 1) := by decide +kernel
theorem dX6_count_68 : decode cX6_count 68 = .ok (.if_icmp .ne 12, 3) := by decide +kernel
theorem dX6_count_71 : decode cX6_count 71 = .ok (.aload_n 0, 1) := by decide +kernel
theorem dX6_count_72 : decode cX6_count 72 = .ok (.getfield 54, 3) := by decide +kernel
theorem dX6_count_75 : decode cX6_count 75 = .ok (.iconst 1, 1) := by decide +kernel
theorem dX6_count_76 : decode cX6_count 76 = .ok (.iaload, 1) := by decide +kernel
theorem dX6_count_77 : decode cX6_count 77 = .ok (.goto 4, 3) := by decide +kernel
theorem dX6_count_80 : decode cX6_count 80 = .ok (.iconst (-1), 1) := by decide +kernel
theorem dX6_count_81 : decode cX6_count 81 = .ok (.ireturn, 1) := by decide +kernel
