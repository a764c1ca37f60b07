theorem dX6_moveFixed_0 : decode cX6_moveFixed 0 = .ok (.aload_n 2, 1) := by decide +kernel
theorem dX6_moveFixed_1 : decode cX6_moveFixed 1 = .ok (.getfield 225, 3) := by decide +kernel
theorem dX6_moveFixed_4 : decode cX6_moveFixed 4 = .ok (.ifCond .eq 10, 3) := by decide +kernel
theorem dX6_moveFixed_7 : decode cX6_moveFixed 7 = .ok (.aload_n 2, 1) := by decide +kernel
theorem dX6_moveFixed_8 : decode cX6_moveFixed 8 = .ok (.getfield 148, 3) := by decide +kernel
theorem dX6_moveFixed_11 : decode cX6_moveFixed 11 = .ok (.ifCond .ne 4, 3) := by decide +kernel
theorem dX6_moveFixed_14 : decode cX6_moveFixed 14 = .ok (.return_, 1) := by decide +kernel
theorem dX6_moveFixed_15 : decode cX6_moveFixed 15 = .ok (.iconst 0, 1) := by decide +kernel
theorem dX6_moveFixed_16 : decode cX6_moveFixed 16 = .ok (.istore_n 3, 1) := by decide +kernel
theorem dX6_moveFixed_17 : decode cX6_moveFixed 17 = .ok (.iload_n 3, 1) := by decide +kernel
theorem dX6_moveFixed_18 : decode cX6_moveFixed 18 = .ok (.iconst 2, 1) := by decide +kernel
theorem dX6_moveFixed_19 : decode cX6_moveFixed 19 = .ok (.if_icmp .ge 56, 3) := by decide +kernel
theorem dX6_moveFixed_22 : decode cX6_moveFixed 22 = .ok (.aload_n 0, 1) := by decide +kernel
theorem dX6_moveFixed_23 : decode cX6_moveFixed 23 = .ok (.aload_n 1, 1) := by decide +kernel
theorem dX6_moveFixed_24 : decode cX6_moveFixed 24 = .ok (.aload_n 2, 1) := by decide +kernel
theorem dX6_moveFixed_25 : decode cX6_moveFixed 25 = .ok (.iload_n 3, 1) := by decide +kernel
theorem dX6_moveFixed_26 : decode cX6_moveFixed 26 = .ok (.invokevirtual 234, 3) := by decide +kernel
theorem dX6_moveFixed_29 : decode cX6_moveFixed 29 = .ok (.pop, 1) := by decide +kernel
theorem dX6_moveFixed_30 : decode cX6_moveFixed 30 = .ok (.aload_n 2, 1) := by decide +kernel
theorem dX6_moveFixed_31 : decode cX6_moveFixed 31 = .ok (.getfield 189, 3) := by decide +kernel
theorem dX6_moveFixed_34 : decode cX6_moveFixed 34 = .ok (.iconst 2, 1) := by decide +kernel
theorem dX6_moveFixed_35 : decode cX6_moveFixed 35 = .ok (.isub, 1) := by decide +kernel
theorem dX6_moveFixed_36 : decode cX6_moveFixed 36 = .ok (.istore 4, 2) := by decide +kernel
theorem dX6_moveFixed_38 : decode cX6_moveFixed 38 = .ok (.iload 4, 2) := by decide +kernel
theorem dX6_moveFixed_40 : decode cX6_moveFixed 40 = .ok (.ifCond .lt 29, 3) := by decide +kernel
theorem dX6_moveFixed_43 : decode cX6_moveFixed 43 = .ok (.aload_n 2, 1) := by decide +kernel
theorem dX6_moveFixed_44 : decode cX6_moveFixed 44 = .ok (.iload_n 3, 1) := by decide +kernel
theorem dX6_moveFixed_45 : decode cX6_moveFixed 45 = .ok (.iload 4, 2) := by decide +kernel
theorem dX6_moveFixed_47 : decode cX6_moveFixed 47 = .ok (.iconst 1, 1) := by decide +kernel
theorem dX6_moveFixed_48 : decode cX6_moveFixed 48 = .ok (.iadd, 1) := by decide +kernel
theorem dX6_moveFixed_49 : decode cX6_moveFixed 49 = .ok (.invokevirtual 241, 3) := by decide +kernel
theorem dX6_moveFixed_52 : decode cX6_moveFixed 52 = .ok (.iconst (-1), 1) := by decide +kernel
theorem dX6_moveFixed_53 : decode cX6_moveFixed 53 = .ok (.if_icmp .ne 10, 3) := by decide +kernel
theorem dX6_moveFixed_56 : decode cX6_moveFixed 56 = .ok (.aload_n 2, 1) := by decide +kernel
theorem dX6_moveFixed_57 : decode cX6_moveFixed 57 = .ok (.iload_n 3, 1) := by decide +kernel
theorem dX6_moveFixed_58 : decode cX6_moveFixed 58 = .ok (.iload 4, 2) := by decide +kernel
theorem dX6_moveFixed_60 : decode cX6_moveFixed 60 = .ok (.invokevirtual 250, 3) := by decide +kernel
theorem dX6_moveFixed_63 : decode cX6_moveFixed 63 = .ok (.iinc 4 (-1), 3) := by decide +kernel
theorem dX6_moveFixed_66 : decode cX6_moveFixed 66 = .ok (.goto (-28), 3) := by decide +kernel
theorem dX6_moveFixed_69 : decode cX6_moveFixed 69 = .ok (.iinc 3 1, 3) := by decide +kernel
theorem dX6_moveFixed_72 : decode cX6_moveFixed 72 = .ok (.goto (-55), 3) := by decide +kernel
theorem dX6_moveFixed_75 : decode cX6_moveFixed 75 = .ok (.return_, 1) := by decide +kernel
theorem dX3_sideFor_0 : decode cX3_sideFor 0 = .ok (.iload_n 2, 1) := by decide +kernel
theorem dX3_sideFor_1 : decode cX3_sideFor 1 = .ok (.ifCond .eq 29, 3) := by decide +kernel
theorem dX3_sideFor_4 : decode cX3_sideFor 4 = .ok (.iload_n 1, 1) := by decide +kernel
theorem dX3_sideFor_5 : decode cX3_sideFor 5 = .ok (.ifCond .eq 7, 3) := by decide +kernel
theorem dX3_sideFor_8 : decode cX3_sideFor 8 = .ok (.iconst 1, 1) := by decide +kernel
theorem dX3_sideFor_9 : decode cX3_sideFor 9 = .ok (.goto 4, 3) := by decide +kernel
theorem dX3_sideFor_12 : decode cX3_sideFor 12 = .ok (.iconst 0, 1) := by decide +kernel
theorem dX3_sideFor_13 : decode cX3_sideFor 13 = .ok (.istore_n 3, 1) := by decide +kernel
theorem dX3_sideFor_14 : decode cX3_sideFor 14 = .ok (.aload_n 0, 1) := by decide +kernel
theorem dX3_sideFor_15 : decode cX3_sideFor 15 = .ok (.iload_n 3, 1) := by decide +kernel
theorem dX3_sideFor_16 : decode cX3_sideFor 16 = .ok (.iconst 0, 1) := by decide +kernel
theorem dX3_sideFor_17 : decode cX3_sideFor 17 = .ok (.invokevirtual 68, 3) := by decide +kernel
theorem dX3_sideFor_20 : decode cX3_sideFor 20 = .ok (.iconst (-1), 1) := by decide +kernel
theorem dX3_sideFor_21 : decode cX3_sideFor 21 = .ok (.if_icmp .ne 7, 3) := by decide +kernel
theorem dX3_sideFor_24 : decode cX3_sideFor 24 = .ok (.iload_n 3, 1) := by decide +kernel
theorem dX3_sideFor_25 : decode cX3_sideFor 25 = .ok (.goto 4, 3) := by decide +kernel
theorem dX3_sideFor_28 : decode cX3_sideFor 28 = .ok (.iconst (-1), 1) := by decide +kernel
theorem dX3_sideFor_29 : decode cX3_sideFor 29 = .ok (.ireturn, 1) := by decide +kernel
theorem dX3_sideFor_30 : decode cX3_sideFor 30 = .ok (.aload_n 0, 1) := by decide +kernel
theorem dX3_sideFor_31 : decode cX3_sideFor 31 = .ok (.iconst 0, 1) := by decide +kernel
theorem dX3_sideFor_32 : decode cX3_sideFor 32 = .ok (.iconst 0, 1) := by decide +kernel
theorem dX3_sideFor_33 : decode cX3_sideFor 33 = .ok (.invokevirtual 68, 3) := by decide +kernel
theorem dX3_sideFor_36 : decode cX3_sideFor 36 = .ok (.iconst (-1), 1) := by decide +kernel
theorem dX3_sideFor_37 : decode cX3_sideFor 37 = .ok (.if_icmp .ne 5, 3) := by decide +kernel
theorem dX3_sideFor_40 : decode cX3_sideFor 40 = .ok (.iconst 0, 1) := by decide +kernel
theorem dX3_sideFor_41 : decode cX3_sideFor 41 = .ok (.ireturn, 1) := by decide +kernel
theorem dX3_sideFor_42 : decode cX3_sideFor 42 = .ok (.aload_n 0, 1) := by decide +kernel
theorem dX3_sideFor_43 : decode cX3_sideFor 43 = .ok (.iconst 1, 1) := by decide +kernel
theorem dX3_sideFor_44 : decode cX3_sideFor 44 = .ok (.iconst 0, 1) := by decide +kernel
theorem dX3_sideFor_45 : decode cX3_sideFor 45 = .ok (.invokevirtual 68, 3) := by decide +kernel
theorem dX3_sideFor_48 : decode cX3_sideFor 48 = .ok (.iconst (-1), 1) := by decide +kernel
theorem dX3_sideFor_49 : decode cX3_sideFor 49 = .ok (.if_icmp .ne 7, 3) := by decide +kernel
theorem dX3_sideFor_52 : decode cX3_sideFor 52 = .ok (.iconst 1, 1) := by decide +kernel
theorem dX3_sideFor_53 : decode cX3_sideFor 53 = .ok (.goto 4, 3) := by decide +kernel
theorem dX3_sideFor_56 : decode cX3_sideFor 56 = .ok (.iconst (-1), 1) := by decide +kernel
theorem dX3_sideFor_57 : decode cX3_sideFor 57 = .ok (.ireturn, 1) := by decide +kernel
theorem dX6_takeUpToTwo_0 : decode cX6_takeUpToTwo 0 = .ok (.aload_n 1, 1) := by decide +kernel
theorem dX6_takeUpToTwo_1 : decode cX6_takeUpToTwo 1 = .ok (.iload_n 2, 1) := by decide +kernel
theorem dX6_takeUpToTwo_2 : decode cX6_takeUpToTwo 2 = .ok (.invokevirtual 254, 3) := by decide +kernel
theorem dX6_takeUpToTwo_5 : decode cX6_takeUpToTwo 5 = .ok (.ifCond .eq 31, 3) := by decide +kernel
theorem dX6_takeUpToTwo_8 : decode cX6_takeUpToTwo 8 = .ok (.aload_n 1, 1) := by decide +kernel
theorem dX6_takeUpToTwo_9 : decode cX6_takeUpToTwo 9 = .ok (.getfield 144, 3) := by decide +kernel
theorem dX6_takeUpToTwo_12 : decode cX6_takeUpToTwo 12 = .ok (.iload_n 2, 1) := by decide +kernel
theorem dX6_takeUpToTwo_13 : decode cX6_takeUpToTwo 13 = .ok (.aaload, 1) := by decide +kernel
theorem dX6_takeUpToTwo_14 : decode cX6_takeUpToTwo 14 = .ok (.invokevirtual 257, 3) := by decide +kernel
theorem dX6_takeUpToTwo_17 : decode cX6_takeUpToTwo 17 = .ok (.ifCond .eq 19, 3) := by decide +kernel
theorem dX6_takeUpToTwo_20 : decode cX6_takeUpToTwo 20 = .ok (.aload_n 1, 1) := by decide +kernel
theorem dX6_takeUpToTwo_21 : decode cX6_takeUpToTwo 21 = .ok (.aload_n 1, 1) := by decide +kernel
theorem dX6_takeUpToTwo_22 : decode cX6_takeUpToTwo 22 = .ok (.getfield 144, 3) := by decide +kernel
theorem dX6_takeUpToTwo_25 : decode cX6_takeUpToTwo 25 = .ok (.iload_n 2, 1) := by decide +kernel
theorem dX6_takeUpToTwo_26 : decode cX6_takeUpToTwo 26 = .ok (.aaload, 1) := by decide +kernel
theorem dX6_takeUpToTwo_27 : decode cX6_takeUpToTwo 27 = .ok (.invokevirtual 217, 3) := by decide +kernel
theorem dX6_takeUpToTwo_30 : decode cX6_takeUpToTwo 30 = .ok (.invokevirtual 69, 3) := by decide +kernel
theorem dX6_takeUpToTwo_33 : decode cX6_takeUpToTwo 33 = .ok (.ifCond .ne 4, 3) := by decide +kernel
theorem dX6_takeUpToTwo_36 : decode cX6_takeUpToTwo 36 = .ok (.return_, 1) := by decide +kernel
theorem dX6_takeUpToTwo_37 : decode cX6_takeUpToTwo 37 = .ok (.aload_n 1, 1) := by decide +kernel
theorem dX6_takeUpToTwo_38 : decode cX6_takeUpToTwo 38 = .ok (.getfield 144, 3) := by decide +kernel
theorem dX6_takeUpToTwo_41 : decode cX6_takeUpToTwo 41 = .ok (.iload_n 2, 1) := by decide +kernel
theorem dX6_takeUpToTwo_42 : decode cX6_takeUpToTwo 42 = .ok (.aaload, 1) := by decide +kernel
theorem dX6_takeUpToTwo_43 : decode cX6_takeUpToTwo 43 = .ok (.astore 4, 2) := by decide +kernel
theorem dX6_takeUpToTwo_45 : decode cX6_takeUpToTwo 45 = .ok (.aload 4, 2) := by decide +kernel
theorem dX6_takeUpToTwo_47 : decode cX6_takeUpToTwo 47 = .ok (.getfield 157, 3) := by decide +kernel
theorem dX6_takeUpToTwo_50 : decode cX6_takeUpToTwo 50 = .ok (.ifCond .ne 15, 3) := by decide +kernel
theorem dX6_takeUpToTwo_53 : decode cX6_takeUpToTwo 53 = .ok (.aload 4, 2) := by decide +kernel
theorem dX6_takeUpToTwo_55 : decode cX6_takeUpToTwo 55 = .ok (.getfield 214, 3) := by decide +kernel
theorem dX6_takeUpToTwo_58 : decode cX6_takeUpToTwo 58 = .ok (.ifCond .ne 7, 3) := by decide +kernel
theorem dX6_takeUpToTwo_61 : decode cX6_takeUpToTwo 61 = .ok (.iconst 1, 1) := by decide +kernel
theorem dX6_takeUpToTwo_62 : decode cX6_takeUpToTwo 62 = .ok (.goto 4, 3) := by decide +kernel
theorem dX6_takeUpToTwo_65 : decode cX6_takeUpToTwo 65 = .ok (.iconst 0, 1) := by decide +kernel
theorem dX6_takeUpToTwo_66 : decode cX6_takeUpToTwo 66 = .ok (.istore 5, 2) := by decide +kernel
theorem dX6_takeUpToTwo_68 : decode cX6_takeUpToTwo 68 = .ok (.iconst 0, 1) := by decide +kernel
theorem dX6_takeUpToTwo_69 : decode cX6_takeUpToTwo 69 = .ok (.istore 6, 2) := by decide +kernel
theorem dX6_takeUpToTwo_71 : decode cX6_takeUpToTwo 71 = .ok (.iload 6, 2) := by decide +kernel
theorem dX6_takeUpToTwo_73 : decode cX6_takeUpToTwo 73 = .ok (.iconst 2, 1) := by decide +kernel
theorem dX6_takeUpToTwo_74 : decode cX6_takeUpToTwo 74 = .ok (.if_icmp .ge 147, 3) := by decide +kernel
theorem dX6_takeUpToTwo_77 : decode cX6_takeUpToTwo 77 = .ok (.aload_n 0, 1) := by decide +kernel
theorem dX6_takeUpToTwo_78 : decode cX6_takeUpToTwo 78 = .ok (.aload_n 1, 1) := by decide +kernel
theorem dX6_takeUpToTwo_79 : decode cX6_takeUpToTwo 79 = .ok (.iload_n 2, 1) := by decide +kernel
theorem dX6_takeUpToTwo_80 : decode cX6_takeUpToTwo 80 = .ok (.aload 4, 2) := by decide +kernel
theorem dX6_takeUpToTwo_82 : decode cX6_takeUpToTwo 82 = .ok (.invokevirtual 217, 3) := by decide +kernel
theorem dX6_takeUpToTwo_85 : decode cX6_takeUpToTwo 85 = .ok (.iconst 0, 1) := by decide +kernel
theorem dX6_takeUpToTwo_86 : decode cX6_takeUpToTwo 86 = .ok (.invokevirtual 190, 3) := by decide +kernel
theorem dX6_takeUpToTwo_89 : decode cX6_takeUpToTwo 89 = .ok (.istore 7, 2) := by decide +kernel
theorem dX6_takeUpToTwo_91 : decode cX6_takeUpToTwo 91 = .ok (.aload 4, 2) := by decide +kernel
theorem dX6_takeUpToTwo_93 : decode cX6_takeUpToTwo 93 = .ok (.getfield 201, 3) := by decide +kernel
theorem dX6_takeUpToTwo_96 : decode cX6_takeUpToTwo 96 = .ok (.istore 8, 2) := by decide +kernel
theorem dX6_takeUpToTwo_98 : decode cX6_takeUpToTwo 98 = .ok (.iload 5, 2) := by decide +kernel
theorem dX6_takeUpToTwo_100 : decode cX6_takeUpToTwo 100 = .ok (.ifCond .eq 26, 3) := by decide +kernel
theorem dX6_takeUpToTwo_103 : decode cX6_takeUpToTwo 103 = .ok (.iload_n 3, 1) := by decide +kernel
theorem dX6_takeUpToTwo_104 : decode cX6_takeUpToTwo 104 = .ok (.iload 8, 2) := by decide +kernel
theorem dX6_takeUpToTwo_106 : decode cX6_takeUpToTwo 106 = .ok (.iconst 1, 1) := by decide +kernel
theorem dX6_takeUpToTwo_107 : decode cX6_takeUpToTwo 107 = .ok (.iadd, 1) := by decide +kernel
theorem dX6_takeUpToTwo_108 : decode cX6_takeUpToTwo 108 = .ok (.imul, 1) := by decide +kernel
theorem dX6_takeUpToTwo_109 : decode cX6_takeUpToTwo 109 = .ok (.bipush 10, 2) := by decide +kernel
theorem dX6_takeUpToTwo_111 : decode cX6_takeUpToTwo 111 = .ok (.idiv, 1) := by decide +kernel
theorem dX6_takeUpToTwo_112 : decode cX6_takeUpToTwo 112 = .ok (.iload_n 3, 1) := by decide +kernel
theorem dX6_takeUpToTwo_113 : decode cX6_takeUpToTwo 113 = .ok (.iload 8, 2) := by decide +kernel
theorem dX6_takeUpToTwo_115 : decode cX6_takeUpToTwo 115 = .ok (.imul, 1) := by decide +kernel
theorem dX6_takeUpToTwo_116 : decode cX6_takeUpToTwo 116 = .ok (.bipush 10, 2) := by decide +kernel
theorem dX6_takeUpToTwo_118 : decode cX6_takeUpToTwo 118 = .ok (.idiv, 1) := by decide +kernel
theorem dX6_takeUpToTwo_119 : decode cX6_takeUpToTwo 119 = .ok (.if_icmp .le 7, 3) := by decide +kernel
theorem dX6_takeUpToTwo_122 : decode cX6_takeUpToTwo 122 = .ok (.iconst 1, 1) := by decide +kernel
theorem dX6_takeUpToTwo_123 : decode cX6_takeUpToTwo 123 = .ok (.goto 4, 3) := by decide +kernel
theorem dX6_takeUpToTwo_126 : decode cX6_takeUpToTwo 126 = .ok (.iconst 0, 1) := by decide +kernel
theorem dX6_takeUpToTwo_127 : decode cX6_takeUpToTwo 127 = .ok (.istore 9, 2) := by decide +kernel
theorem dX6_takeUpToTwo_129 : decode cX6_takeUpToTwo 129 = .ok (.aload 4, 2) := by decide +kernel
theorem dX6_takeUpToTwo_131 : decode cX6_takeUpToTwo 131 = .ok (.iload 9, 2) := by decide +kernel
theorem dX6_takeUpToTwo_133 : decode cX6_takeUpToTwo 133 = .ok (.iload 5, 2) := by decide +kernel
theorem dX6_takeUpToTwo_135 : decode cX6_takeUpToTwo 135 = .ok (.invokevirtual 261, 3) := by decide +kernel
theorem dX6_takeUpToTwo_138 : decode cX6_takeUpToTwo 138 = .ok (.istore 10, 2) := by decide +kernel
theorem dX6_takeUpToTwo_140 : decode cX6_takeUpToTwo 140 = .ok (.iload 7, 2) := by decide +kernel
theorem dX6_takeUpToTwo_142 : decode cX6_takeUpToTwo 142 = .ok (.iconst (-1), 1) := by decide +kernel
theorem dX6_takeUpToTwo_143 : decode cX6_takeUpToTwo 143 = .ok (.if_icmp .eq 9, 3) := by decide +kernel
theorem dX6_takeUpToTwo_146 : decode cX6_takeUpToTwo 146 = .ok (.iload 10, 2) := by decide +kernel
theorem dX6_takeUpToTwo_148 : decode cX6_takeUpToTwo 148 = .ok (.iconst (-1), 1) := by decide +kernel
theorem dX6_takeUpToTwo_149 : decode cX6_takeUpToTwo 149 = .ok (.if_icmp .ne 4, 3) := by decide +kernel
theorem dX6_takeUpToTwo_152 : decode cX6_takeUpToTwo 152 = .ok (.return_, 1) := by decide +kernel
theorem dX6_takeUpToTwo_153 : decode cX6_takeUpToTwo 153 = .ok (.aload_n 1, 1) := by decide +kernel
theorem dX6_takeUpToTwo_154 : decode cX6_takeUpToTwo 154 = .ok (.getfield 96, 3) := by decide +kernel
theorem dX6_takeUpToTwo_157 : decode cX6_takeUpToTwo 157 = .ok (.aload 4, 2) := by decide +kernel
theorem dX6_takeUpToTwo_159 : decode cX6_takeUpToTwo 159 = .ok (.invokevirtual 217, 3) := by decide +kernel
theorem dX6_takeUpToTwo_162 : decode cX6_takeUpToTwo 162 = .ok (.aaload, 1) := by decide +kernel
theorem dX6_takeUpToTwo_163 : decode cX6_takeUpToTwo 163 = .ok (.iload 7, 2) := by decide +kernel
theorem dX6_takeUpToTwo_165 : decode cX6_takeUpToTwo 165 = .ok (.iconst 0, 1) := by decide +kernel
theorem dX6_takeUpToTwo_166 : decode cX6_takeUpToTwo 166 = .ok (.iconst (-1), 1) := by decide +kernel
theorem dX6_takeUpToTwo_167 : decode cX6_takeUpToTwo 167 = .ok (.invokevirtual 198, 3) := by decide +kernel
theorem dX6_takeUpToTwo_170 : decode cX6_takeUpToTwo 170 = .ok (.aload 4, 2) := by decide +kernel
theorem dX6_takeUpToTwo_172 : decode cX6_takeUpToTwo 172 = .ok (.iload 10, 2) := by decide +kernel
theorem dX6_takeUpToTwo_174 : decode cX6_takeUpToTwo 174 = .ok (.iconst 0, 1) := by decide +kernel
theorem dX6_takeUpToTwo_175 : decode cX6_takeUpToTwo 175 = .ok (.iload 9, 2) := by decide +kernel
theorem dX6_takeUpToTwo_177 : decode cX6_takeUpToTwo 177 = .ok (.ifCond .eq 11, 3) := by decide +kernel
theorem dX6_takeUpToTwo_180 : decode cX6_takeUpToTwo 180 = .ok (.iload 7, 2) := by decide +kernel
theorem dX6_takeUpToTwo_182 : decode cX6_takeUpToTwo 182 = .ok (.bipush 10, 2) := by decide +kernel
theorem dX6_takeUpToTwo_184 : decode cX6_takeUpToTwo 184 = .ok (.iadd, 1) := by decide +kernel
theorem dX6_takeUpToTwo_185 : decode cX6_takeUpToTwo 185 = .ok (.goto 5, 3) := by decide +kernel
theorem dX6_takeUpToTwo_188 : decode cX6_takeUpToTwo 188 = .ok (.iload 7, 2) := by decide +kernel
theorem dX6_takeUpToTwo_190 : decode cX6_takeUpToTwo 190 = .ok (.invokevirtual 247, 3) := by decide +kernel
theorem dX6_takeUpToTwo_193 : decode cX6_takeUpToTwo 193 = .ok (.aload 4, 2) := by decide +kernel
theorem dX6_takeUpToTwo_195 : decode cX6_takeUpToTwo 195 = .ok (.dup, 1) := by decide +kernel
theorem dX6_takeUpToTwo_196 : decode cX6_takeUpToTwo 196 = .ok (.getfield 148, 3) := by decide +kernel
theorem dX6_takeUpToTwo_199 : decode cX6_takeUpToTwo 199 = .ok (.iconst 1, 1) := by decide +kernel
theorem dX6_takeUpToTwo_200 : decode cX6_takeUpToTwo 200 = .ok (.iadd, 1) := by decide +kernel
theorem dX6_takeUpToTwo_201 : decode cX6_takeUpToTwo 201 = .ok (.putfield 148, 3) := by decide +kernel
theorem dX6_takeUpToTwo_204 : decode cX6_takeUpToTwo 204 = .ok (.aload 4, 2) := by decide +kernel
theorem dX6_takeUpToTwo_206 : decode cX6_takeUpToTwo 206 = .ok (.dup, 1) := by decide +kernel
theorem dX6_takeUpToTwo_207 : decode cX6_takeUpToTwo 207 = .ok (.getfield 201, 3) := by decide +kernel
theorem dX6_takeUpToTwo_210 : decode cX6_takeUpToTwo 210 = .ok (.iconst 1, 1) := by decide +kernel
theorem dX6_takeUpToTwo_211 : decode cX6_takeUpToTwo 211 = .ok (.iadd, 1) := by decide +kernel
theorem dX6_takeUpToTwo_212 : decode cX6_takeUpToTwo 212 = .ok (.putfield 201, 3) := by decide +kernel
theorem dX6_takeUpToTwo_215 : decode cX6_takeUpToTwo 215 = .ok (.iinc 6 1, 3) := by decide +kernel
theorem dX6_takeUpToTwo_218 : decode cX6_takeUpToTwo 218 = .ok (.goto (-147), 3) := by decide +kernel
theorem dX6_takeUpToTwo_221 : decode cX6_takeUpToTwo 221 = .ok (.return_, 1) := by decide +kernel
theorem dX6_moveLinks_0 : decode cX6_moveLinks 0 = .ok (.iconst 0, 1) := by decide +kernel
theorem dX6_moveLinks_1 : decode cX6_moveLinks 1 = .ok (.istore_n 3, 1) := by decide +kernel
theorem dX6_moveLinks_2 : decode cX6_moveLinks 2 = .ok (.iload_n 3, 1) := by decide +kernel
theorem dX6_moveLinks_3 : decode cX6_moveLinks 3 = .ok (.aload_n 1, 1) := by decide +kernel
theorem dX6_moveLinks_4 : decode cX6_moveLinks 4 = .ok (.getfield 141, 3) := by decide +kernel
theorem dX6_moveLinks_7 : decode cX6_moveLinks 7 = .ok (.if_icmp .ge 143, 3) := by decide +kernel
theorem dX6_moveLinks_10 : decode cX6_moveLinks 10 = .ok (.iload_n 3, 1) := by decide +kernel
theorem dX6_moveLinks_11 : decode cX6_moveLinks 11 = .ok (.aload_n 1, 1) := by decide +kernel
theorem dX6_moveLinks_12 : decode cX6_moveLinks 12 = .ok (.getfield 144, 3) := by decide +kernel
theorem dX6_moveLinks_15 : decode cX6_moveLinks 15 = .ok (.arraylength, 1) := by decide +kernel
theorem dX6_moveLinks_16 : decode cX6_moveLinks 16 = .ok (.if_icmp .ge 134, 3) := by decide +kernel
theorem dX6_moveLinks_19 : decode cX6_moveLinks 19 = .ok (.aload_n 1, 1) := by decide +kernel
theorem dX6_moveLinks_20 : decode cX6_moveLinks 20 = .ok (.getfield 144, 3) := by decide +kernel
theorem dX6_moveLinks_23 : decode cX6_moveLinks 23 = .ok (.iload_n 3, 1) := by decide +kernel
theorem dX6_moveLinks_24 : decode cX6_moveLinks 24 = .ok (.aaload, 1) := by decide +kernel
theorem dX6_moveLinks_25 : decode cX6_moveLinks 25 = .ok (.astore 4, 2) := by decide +kernel
theorem dX6_moveLinks_27 : decode cX6_moveLinks 27 = .ok (.aload 4, 2) := by decide +kernel
theorem dX6_moveLinks_29 : decode cX6_moveLinks 29 = .ok (.getfield 157, 3) := by decide +kernel
theorem dX6_moveLinks_32 : decode cX6_moveLinks 32 = .ok (.iconst 2, 1) := by decide +kernel
theorem dX6_moveLinks_33 : decode cX6_moveLinks 33 = .ok (.if_icmp .ne 59, 3) := by decide +kernel
theorem dX6_moveLinks_36 : decode cX6_moveLinks 36 = .ok (.aload 4, 2) := by decide +kernel
theorem dX6_moveLinks_38 : decode cX6_moveLinks 38 = .ok (.getfield 158, 3) := by decide +kernel
theorem dX6_moveLinks_41 : decode cX6_moveLinks 41 = .ok (.ifCond .le 103, 3) := by decide +kernel
theorem dX6_moveLinks_44 : decode cX6_moveLinks 44 = .ok (.aload_n 1, 1) := by decide +kernel
theorem dX6_moveLinks_45 : decode cX6_moveLinks 45 = .ok (.getfield 47, 3) := by decide +kernel
theorem dX6_moveLinks_48 : decode cX6_moveLinks 48 = .ok (.aload 4, 2) := by decide +kernel
theorem dX6_moveLinks_50 : decode cX6_moveLinks 50 = .ok (.getfield 158, 3) := by decide +kernel
theorem dX6_moveLinks_53 : decode cX6_moveLinks 53 = .ok (.irem, 1) := by decide +kernel
theorem dX6_moveLinks_54 : decode cX6_moveLinks 54 = .ok (.ifCond .ne 90, 3) := by decide +kernel
theorem dX6_moveLinks_57 : decode cX6_moveLinks 57 = .ok (.aload_n 0, 1) := by decide +kernel
theorem dX6_moveLinks_58 : decode cX6_moveLinks 58 = .ok (.aload_n 1, 1) := by decide +kernel
theorem dX6_moveLinks_59 : decode cX6_moveLinks 59 = .ok (.iload_n 3, 1) := by decide +kernel
theorem dX6_moveLinks_60 : decode cX6_moveLinks 60 = .ok (.aload 4, 2) := by decide +kernel
theorem dX6_moveLinks_62 : decode cX6_moveLinks 62 = .ok (.getfield 161, 3) := by decide +kernel
theorem dX6_moveLinks_65 : decode cX6_moveLinks 65 = .ok (.aload 4, 2) := by decide +kernel
theorem dX6_moveLinks_67 : decode cX6_moveLinks 67 = .ok (.getfield 164, 3) := by decide +kernel
theorem dX6_moveLinks_70 : decode cX6_moveLinks 70 = .ok (.invokevirtual 167, 3) := by decide +kernel
theorem dX6_moveLinks_73 : decode cX6_moveLinks 73 = .ok (.aload_n 0, 1) := by decide +kernel
theorem dX6_moveLinks_74 : decode cX6_moveLinks 74 = .ok (.aload_n 1, 1) := by decide +kernel
theorem dX6_moveLinks_75 : decode cX6_moveLinks 75 = .ok (.iload_n 3, 1) := by decide +kernel
theorem dX6_moveLinks_76 : decode cX6_moveLinks 76 = .ok (.aload 4, 2) := by decide +kernel
theorem dX6_moveLinks_78 : decode cX6_moveLinks 78 = .ok (.getfield 164, 3) := by decide +kernel
theorem dX6_moveLinks_81 : decode cX6_moveLinks 81 = .ok (.aload 4, 2) := by decide +kernel
theorem dX6_moveLinks_83 : decode cX6_moveLinks 83 = .ok (.getfield 161, 3) := by decide +kernel
theorem dX6_moveLinks_86 : decode cX6_moveLinks 86 = .ok (.invokevirtual 167, 3) := by decide +kernel
theorem dX6_moveLinks_89 : decode cX6_moveLinks 89 = .ok (.goto 55, 3) := by decide +kernel
theorem dX6_moveLinks_92 : decode cX6_moveLinks 92 = .ok (.aload_n 0, 1) := by decide +kernel
theorem dX6_moveLinks_93 : decode cX6_moveLinks 93 = .ok (.aload_n 1, 1) := by decide +kernel
theorem dX6_moveLinks_94 : decode cX6_moveLinks 94 = .ok (.aload_n 2, 1) := by decide +kernel
theorem dX6_moveLinks_95 : decode cX6_moveLinks 95 = .ok (.aload 4, 2) := by decide +kernel
theorem dX6_moveLinks_97 : decode cX6_moveLinks 97 = .ok (.invokevirtual 171, 3) := by decide +kernel
theorem dX6_moveLinks_100 : decode cX6_moveLinks 100 = .ok (.istore 5, 2) := by decide +kernel
theorem dX6_moveLinks_102 : decode cX6_moveLinks 102 = .ok (.aload 4, 2) := by decide +kernel
theorem dX6_moveLinks_104 : decode cX6_moveLinks 104 = .ok (.getfield 157, 3) := by decide +kernel
theorem dX6_moveLinks_107 : decode cX6_moveLinks 107 = .ok (.ifCond .ne 13, 3) := by decide +kernel
theorem dX6_moveLinks_110 : decode cX6_moveLinks 110 = .ok (.aload_n 0, 1) := by decide +kernel
theorem dX6_moveLinks_111 : decode cX6_moveLinks 111 = .ok (.aload_n 1, 1) := by decide +kernel
theorem dX6_moveLinks_112 : decode cX6_moveLinks 112 = .ok (.aload 4, 2) := by decide +kernel
theorem dX6_moveLinks_114 : decode cX6_moveLinks 114 = .ok (.invokevirtual 175, 3) := by decide +kernel
theorem dX6_moveLinks_117 : decode cX6_moveLinks 117 = .ok (.goto 19, 3) := by decide +kernel
theorem dX6_moveLinks_120 : decode cX6_moveLinks 120 = .ok (.aload_n 1, 1) := by decide +kernel
theorem dX6_moveLinks_121 : decode cX6_moveLinks 121 = .ok (.getfield 47, 3) := by decide +kernel
theorem dX6_moveLinks_124 : decode cX6_moveLinks 124 = .ok (.iconst 2, 1) := by decide +kernel
theorem dX6_moveLinks_125 : decode cX6_moveLinks 125 = .ok (.irem, 1) := by decide +kernel
theorem dX6_moveLinks_126 : decode cX6_moveLinks 126 = .ok (.ifCond .ne 10, 3) := by decide +kernel
theorem dX6_moveLinks_129 : decode cX6_moveLinks 129 = .ok (.aload_n 0, 1) := by decide +kernel
theorem dX6_moveLinks_130 : decode cX6_moveLinks 130 = .ok (.aload_n 1, 1) := by decide +kernel
theorem dX6_moveLinks_131 : decode cX6_moveLinks 131 = .ok (.aload 4, 2) := by decide +kernel
theorem dX6_moveLinks_133 : decode cX6_moveLinks 133 = .ok (.invokevirtual 179, 3) := by decide +kernel
theorem dX6_moveLinks_136 : decode cX6_moveLinks 136 = .ok (.aload_n 0, 1) := by decide +kernel
theorem dX6_moveLinks_137 : decode cX6_moveLinks 137 = .ok (.aload_n 1, 1) := by decide +kernel
theorem dX6_moveLinks_138 : decode cX6_moveLinks 138 = .ok (.iload_n 3, 1) := by decide +kernel
theorem dX6_moveLinks_139 : decode cX6_moveLinks 139 = .ok (.iload 5, 2) := by decide +kernel
theorem dX6_moveLinks_141 : decode cX6_moveLinks 141 = .ok (.invokevirtual 182, 3) := by decide +kernel
theorem dX6_moveLinks_144 : decode cX6_moveLinks 144 = .ok (.iinc 3 1, 3) := by decide +kernel
theorem dX6_moveLinks_147 : decode cX6_moveLinks 147 = .ok (.goto (-145), 3) := by decide +kernel
theorem dX6_moveLinks_150 : decode cX6_moveLinks 150 = .ok (.return_, 1) := by decide +kernel
theorem dX0_isDue_0 : decode cX0_isDue 0 = .ok (.aload_n 0, 1) := by decide +kernel
theorem dX0_isDue_1 : decode cX0_isDue 1 = .ok (.getfield 13, 3) := by decide +kernel
theorem dX0_isDue_4 : decode cX0_isDue 4 = .ok (.ifCond .le 31, 3) := by decide +kernel
theorem dX0_isDue_7 : decode cX0_isDue 7 = .ok (.iload_n 1, 1) := by decide +kernel
theorem dX0_isDue_8 : decode cX0_isDue 8 = .ok (.aload_n 0, 1) := by decide +kernel
theorem dX0_isDue_9 : decode cX0_isDue 9 = .ok (.getfield 7, 3) := by decide +kernel
theorem dX0_isDue_12 : decode cX0_isDue 12 = .ok (.if_icmp .le 23, 3) := by decide +kernel
theorem dX0_isDue_15 : decode cX0_isDue 15 = .ok (.iload_n 1, 1) := by decide +kernel
theorem dX0_isDue_16 : decode cX0_isDue 16 = .ok (.aload_n 0, 1) := by decide +kernel
theorem dX0_isDue_17 : decode cX0_isDue 17 = .ok (.getfield 7, 3) := by decide +kernel
theorem dX0_isDue_20 : decode cX0_isDue 20 = .ok (.isub, 1) := by decide +kernel
theorem dX0_isDue_21 : decode cX0_isDue 21 = .ok (.aload_n 0, 1) := by decide +kernel
theorem dX0_isDue_22 : decode cX0_isDue 22 = .ok (.getfield 13, 3) := by decide +kernel
theorem dX0_isDue_25 : decode cX0_isDue 25 = .ok (.irem, 1) := by decide +kernel
theorem dX0_isDue_26 : decode cX0_isDue 26 = .ok (.ifCond .ne 7, 3) := by decide +kernel
theorem dX0_isDue_29 : decode cX0_isDue 29 = .ok (.iconst 1, 1) := by decide +kernel
theorem dX0_isDue_30 : decode cX0_isDue 30 = .ok (.goto 4, 3) := by decide +kernel
theorem dX0_isDue_33 : decode cX0_isDue 33 = .ok (.iconst 0, 1) := by decide +kernel
theorem dX0_isDue_34 : decode cX0_isDue 34 = .ok (.ireturn, 1) := by decide +kernel
theorem dX0_isDue_35 : decode cX0_isDue 35 = .ok (.iload_n 1, 1) := by decide +kernel
theorem dX0_isDue_36 : decode cX0_isDue 36 = .ok (.aload_n 0, 1) := by decide +kernel
theorem dX0_isDue_37 : decode cX0_isDue 37 = .ok (.getfield 7, 3) := by decide +kernel
theorem dX0_isDue_40 : decode cX0_isDue 40 = .ok (.if_icmp .ne 7, 3) := by decide +kernel
theorem dX0_isDue_43 : decode cX0_isDue 43 = .ok (.iconst 1, 1) := by decide +kernel
theorem dX0_isDue_44 : decode cX0_isDue 44 = .ok (.goto 4, 3) := by decide +kernel
theorem dX0_isDue_47 : decode cX0_isDue 47 = .ok (.iconst 0, 1) := by decide +kernel
theorem dX0_isDue_48 : decode cX0_isDue 48 = .ok (.ireturn, 1) := by decide +kernel
theorem dX6_comeInBursts_0 : decode cX6_comeInBursts 0 = .ok (.iconst 0, 1) := by decide +kernel
theorem dX6_comeInBursts_1 : decode cX6_comeInBursts 1 = .ok (.istore_n 3, 1) := by decide +kernel
theorem dX6_comeInBursts_2 : decode cX6_comeInBursts 2 = .ok (.iload_n 3, 1) := by decide +kernel
theorem dX6_comeInBursts_3 : decode cX6_comeInBursts 3 = .ok (.aload_n 1, 1) := by decide +kernel
theorem dX6_comeInBursts_4 : decode cX6_comeInBursts 4 = .ok (.getfield 53, 3) := by decide +kernel
theorem dX6_comeInBursts_7 : decode cX6_comeInBursts 7 = .ok (.if_icmp .ge 148, 3) := by decide +kernel
theorem dX6_comeInBursts_10 : decode cX6_comeInBursts 10 = .ok (.iload_n 3, 1) := by decide +kernel
theorem dX6_comeInBursts_11 : decode cX6_comeInBursts 11 = .ok (.aload_n 1, 1) := by decide +kernel
theorem dX6_comeInBursts_12 : decode cX6_comeInBursts 12 = .ok (.getfield 56, 3) := by decide +kernel
theorem dX6_comeInBursts_15 : decode cX6_comeInBursts 15 = .ok (.arraylength, 1) := by decide +kernel
theorem dX6_comeInBursts_16 : decode cX6_comeInBursts 16 = .ok (.if_icmp .ge 139, 3) := by decide +kernel
theorem dX6_comeInBursts_19 : decode cX6_comeInBursts 19 = .ok (.aload_n 1, 1) := by decide +kernel
theorem dX6_comeInBursts_20 : decode cX6_comeInBursts 20 = .ok (.getfield 56, 3) := by decide +kernel
theorem dX6_comeInBursts_23 : decode cX6_comeInBursts 23 = .ok (.iload_n 3, 1) := by decide +kernel
theorem dX6_comeInBursts_24 : decode cX6_comeInBursts 24 = .ok (.aaload, 1) := by decide +kernel
theorem dX6_comeInBursts_25 : decode cX6_comeInBursts 25 = .ok (.astore 4, 2) := by decide +kernel
theorem dX6_comeInBursts_27 : decode cX6_comeInBursts 27 = .ok (.aload 4, 2) := by decide +kernel
theorem dX6_comeInBursts_29 : decode cX6_comeInBursts 29 = .ok (.aload_n 1, 1) := by decide +kernel
theorem dX6_comeInBursts_30 : decode cX6_comeInBursts 30 = .ok (.getfield 47, 3) := by decide +kernel
theorem dX6_comeInBursts_33 : decode cX6_comeInBursts 33 = .ok (.invokevirtual 60, 3) := by decide +kernel
theorem dX6_comeInBursts_36 : decode cX6_comeInBursts 36 = .ok (.ifCond .eq 113, 3) := by decide +kernel
theorem dX6_comeInBursts_39 : decode cX6_comeInBursts 39 = .ok (.aload_n 1, 1) := by decide +kernel
theorem dX6_comeInBursts_40 : decode cX6_comeInBursts 40 = .ok (.aload 4, 2) := by decide +kernel
theorem dX6_comeInBursts_42 : decode cX6_comeInBursts 42 = .ok (.getfield 66, 3) := by decide +kernel
theorem dX6_comeInBursts_45 : decode cX6_comeInBursts 45 = .ok (.invokevirtual 69, 3) := by decide +kernel
theorem dX6_comeInBursts_48 : decode cX6_comeInBursts 48 = .ok (.ifCond .ne 6, 3) := by decide +kernel
theorem dX6_comeInBursts_51 : decode cX6_comeInBursts 51 = .ok (.goto 98, 3) := by decide +kernel
theorem dX6_comeInBursts_54 : decode cX6_comeInBursts 54 = .ok (.aload 4, 2) := by decide +kernel
theorem dX6_comeInBursts_56 : decode cX6_comeInBursts 56 = .ok (.getfield 72, 3) := by decide +kernel
theorem dX6_comeInBursts_59 : decode cX6_comeInBursts 59 = .ok (.ifCond .ne 30, 3) := by decide +kernel
theorem dX6_comeInBursts_62 : decode cX6_comeInBursts 62 = .ok (.aload_n 1, 1) := by decide +kernel
theorem dX6_comeInBursts_63 : decode cX6_comeInBursts 63 = .ok (.aload 4, 2) := by decide +kernel
theorem dX6_comeInBursts_65 : decode cX6_comeInBursts 65 = .ok (.getfield 66, 3) := by decide +kernel
theorem dX6_comeInBursts_68 : decode cX6_comeInBursts 68 = .ok (.aload 4, 2) := by decide +kernel
theorem dX6_comeInBursts_70 : decode cX6_comeInBursts 70 = .ok (.getfield 76, 3) := by decide +kernel
theorem dX6_comeInBursts_73 : decode cX6_comeInBursts 73 = .ok (.aload 4, 2) := by decide +kernel
theorem dX6_comeInBursts_75 : decode cX6_comeInBursts 75 = .ok (.getfield 79, 3) := by decide +kernel
theorem dX6_comeInBursts_78 : decode cX6_comeInBursts 78 = .ok (.aload 4, 2) := by decide +kernel
theorem dX6_comeInBursts_80 : decode cX6_comeInBursts 80 = .ok (.getfield 82, 3) := by decide +kernel
theorem dX6_comeInBursts_83 : decode cX6_comeInBursts 83 = .ok (.invokevirtual 85, 3) := by decide +kernel
theorem dX6_comeInBursts_86 : decode cX6_comeInBursts 86 = .ok (.goto 63, 3) := by decide +kernel
theorem dX6_comeInBursts_89 : decode cX6_comeInBursts 89 = .ok (.aload_n 0, 1) := by decide +kernel
theorem dX6_comeInBursts_90 : decode cX6_comeInBursts 90 = .ok (.aload_n 1, 1) := by decide +kernel
theorem dX6_comeInBursts_91 : decode cX6_comeInBursts 91 = .ok (.aload_n 2, 1) := by decide +kernel
theorem dX6_comeInBursts_92 : decode cX6_comeInBursts 92 = .ok (.iconst 2, 1) := by decide +kernel
theorem dX6_comeInBursts_93 : decode cX6_comeInBursts 93 = .ok (.aload 4, 2) := by decide +kernel
theorem dX6_comeInBursts_95 : decode cX6_comeInBursts 95 = .ok (.getfield 66, 3) := by decide +kernel
theorem dX6_comeInBursts_98 : decode cX6_comeInBursts 98 = .ok (.invokevirtual 89, 3) := by decide +kernel
theorem dX6_comeInBursts_101 : decode cX6_comeInBursts 101 = .ok (.ifCond .eq 20, 3) := by decide +kernel
theorem dX6_comeInBursts_104 : decode cX6_comeInBursts 104 = .ok (.aload_n 1, 1) := by decide +kernel
theorem dX6_comeInBursts_105 : decode cX6_comeInBursts 105 = .ok (.dup, 1) := by decide +kernel
theorem dX6_comeInBursts_106 : decode cX6_comeInBursts 106 = .ok (.getfield 93, 3) := by decide +kernel
theorem dX6_comeInBursts_109 : decode cX6_comeInBursts 109 = .ok (.aload 4, 2) := by decide +kernel
theorem dX6_comeInBursts_111 : decode cX6_comeInBursts 111 = .ok (.getfield 82, 3) := by decide +kernel
theorem dX6_comeInBursts_114 : decode cX6_comeInBursts 114 = .ok (.iadd, 1) := by decide +kernel
theorem dX6_comeInBursts_115 : decode cX6_comeInBursts 115 = .ok (.putfield 93, 3) := by decide +kernel
theorem dX6_comeInBursts_118 : decode cX6_comeInBursts 118 = .ok (.goto 31, 3) := by decide +kernel
theorem dX6_comeInBursts_121 : decode cX6_comeInBursts 121 = .ok (.aload_n 1, 1) := by decide +kernel
theorem dX6_comeInBursts_122 : decode cX6_comeInBursts 122 = .ok (.getfield 96, 3) := by decide +kernel
theorem dX6_comeInBursts_125 : decode cX6_comeInBursts 125 = .ok (.aload 4, 2) := by decide +kernel
theorem dX6_comeInBursts_127 : decode cX6_comeInBursts 127 = .ok (.getfield 66, 3) := by decide +kernel
theorem dX6_comeInBursts_130 : decode cX6_comeInBursts 130 = .ok (.aaload, 1) := by decide +kernel
theorem dX6_comeInBursts_131 : decode cX6_comeInBursts 131 = .ok (.aload 4, 2) := by decide +kernel
theorem dX6_comeInBursts_133 : decode cX6_comeInBursts 133 = .ok (.getfield 76, 3) := by decide +kernel
theorem dX6_comeInBursts_136 : decode cX6_comeInBursts 136 = .ok (.aload 4, 2) := by decide +kernel
theorem dX6_comeInBursts_138 : decode cX6_comeInBursts 138 = .ok (.getfield 79, 3) := by decide +kernel
theorem dX6_comeInBursts_141 : decode cX6_comeInBursts 141 = .ok (.aload 4, 2) := by decide +kernel
theorem dX6_comeInBursts_143 : decode cX6_comeInBursts 143 = .ok (.getfield 82, 3) := by decide +kernel
theorem dX6_comeInBursts_146 : decode cX6_comeInBursts 146 = .ok (.invokevirtual 100, 3) := by decide +kernel
theorem dX6_comeInBursts_149 : decode cX6_comeInBursts 149 = .ok (.iinc 3 1, 3) := by decide +kernel
theorem dX6_comeInBursts_152 : decode cX6_comeInBursts 152 = .ok (.goto (-150), 3) := by decide +kernel
theorem dX6_comeInBursts_155 : decode cX6_comeInBursts 155 = .ok (.return_, 1) := by decide +kernel
theorem dX6_passSecond_0 : decode cX6_passSecond 0 = .ok (.aload_n 0, 1) := by decide +kernel
theorem dX6_passSecond_1 : decode cX6_passSecond 1 = .ok (.aload_n 1, 1) := by decide +kernel
theorem dX6_passSecond_2 : decode cX6_passSecond 2 = .ok (.aload_n 2, 1) := by decide +kernel
theorem dX6_passSecond_3 : decode cX6_passSecond 3 = .ok (.invokevirtual 27, 3) := by decide +kernel
theorem dX6_passSecond_6 : decode cX6_passSecond 6 = .ok (.aload_n 0, 1) := by decide +kernel
theorem dX6_passSecond_7 : decode cX6_passSecond 7 = .ok (.aload_n 1, 1) := by decide +kernel
theorem dX6_passSecond_8 : decode cX6_passSecond 8 = .ok (.aload_n 2, 1) := by decide +kernel
theorem dX6_passSecond_9 : decode cX6_passSecond 9 = .ok (.invokevirtual 31, 3) := by decide +kernel
theorem dX6_passSecond_12 : decode cX6_passSecond 12 = .ok (.aload_n 0, 1) := by decide +kernel
theorem dX6_passSecond_13 : decode cX6_passSecond 13 = .ok (.aload_n 1, 1) := by decide +kernel
theorem dX6_passSecond_14 : decode cX6_passSecond 14 = .ok (.invokevirtual 34, 3) := by decide +kernel
theorem dX6_passSecond_17 : decode cX6_passSecond 17 = .ok (.aload_n 0, 1) := by decide +kernel
theorem dX6_passSecond_18 : decode cX6_passSecond 18 = .ok (.getfield 12, 3) := by decide +kernel
theorem dX6_passSecond_21 : decode cX6_passSecond 21 = .ok (.aload_n 1, 1) := by decide +kernel
theorem dX6_passSecond_22 : decode cX6_passSecond 22 = .ok (.invokevirtual 38, 3) := by decide +kernel
theorem dX6_passSecond_25 : decode cX6_passSecond 25 = .ok (.aload_n 0, 1) := by decide +kernel
theorem dX6_passSecond_26 : decode cX6_passSecond 26 = .ok (.aload_n 1, 1) := by decide +kernel
theorem dX6_passSecond_27 : decode cX6_passSecond 27 = .ok (.aload_n 2, 1) := by decide +kernel
theorem dX6_passSecond_28 : decode cX6_passSecond 28 = .ok (.invokevirtual 41, 3) := by decide +kernel
theorem dX6_passSecond_31 : decode cX6_passSecond 31 = .ok (.aload_n 0, 1) := by decide +kernel
theorem dX6_passSecond_32 : decode cX6_passSecond 32 = .ok (.aload_n 1, 1) := by decide +kernel
theorem dX6_passSecond_33 : decode cX6_passSecond 33 = .ok (.invokevirtual 44, 3) := by decide +kernel
theorem dX6_passSecond_36 : decode cX6_passSecond 36 = .ok (.aload_n 1, 1) := by decide +kernel
theorem dX6_passSecond_37 : decode cX6_passSecond 37 = .ok (.dup, 1) := by decide +kernel
theorem dX6_passSecond_38 : decode cX6_passSecond 38 = .ok (.getfield 47, 3) := by decide +kernel
theorem dX6_passSecond_41 : decode cX6_passSecond 41 = .ok (.iconst 1, 1) := by decide +kernel
theorem dX6_passSecond_42 : decode cX6_passSecond 42 = .ok (.iadd, 1) := by decide +kernel
theorem dX6_passSecond_43 : decode cX6_passSecond 43 = .ok (.putfield 47, 3) := by decide +kernel
theorem dX6_passSecond_46 : decode cX6_passSecond 46 = .ok (.return_, 1) := by decide +kernel
theorem dX11_mayRun_0 : decode cX11_mayRun 0 = .ok (.iload_n 1, 1) := by decide +kernel
theorem dX11_mayRun_1 : decode cX11_mayRun 1 = .ok (.iconst 1, 1) := by decide +kernel
theorem dX11_mayRun_2 : decode cX11_mayRun 2 = .ok (.sipush 300, 3) := by decide +kernel
theorem dX11_mayRun_5 : decode cX11_mayRun 5 = .ok (.invokestatic 47, 3) := by decide +kernel
theorem dX11_mayRun_8 : decode cX11_mayRun 8 = .ok (.ifCond .eq 21, 3) := by decide +kernel
theorem dX11_mayRun_11 : decode cX11_mayRun 11 = .ok (.aload_n 0, 1) := by decide +kernel
theorem dX11_mayRun_12 : decode cX11_mayRun 12 = .ok (.getfield 10, 3) := by decide +kernel
theorem dX11_mayRun_15 : decode cX11_mayRun 15 = .ok (.getfield 173, 3) := by decide +kernel
theorem dX11_mayRun_18 : decode cX11_mayRun 18 = .ok (.iload_n 1, 1) := by decide +kernel
theorem dX11_mayRun_19 : decode cX11_mayRun 19 = .ok (.iadd, 1) := by decide +kernel
theorem dX11_mayRun_20 : decode cX11_mayRun 20 = .ok (.ldc 103, 2) := by decide +kernel
theorem dX11_mayRun_22 : decode cX11_mayRun 22 = .ok (.if_icmp .gt 7, 3) := by decide +kernel
theorem dX11_mayRun_25 : decode cX11_mayRun 25 = .ok (.iconst 1, 1) := by decide +kernel
theorem dX11_mayRun_26 : decode cX11_mayRun 26 = .ok (.goto 4, 3) := by decide +kernel
theorem dX11_mayRun_29 : decode cX11_mayRun 29 = .ok (.iconst 0, 1) := by decide +kernel
theorem dX11_mayRun_30 : decode cX11_mayRun 30 = .ok (.ireturn, 1) := by decide +kernel
theorem dX11_law_0 : decode cX11_law 0 = .ok (.aload_n 0, 1) := by decide +kernel
theorem dX11_law_1 : decode cX11_law 1 = .ok (.getfield 10, 3) := by decide +kernel
theorem dX11_law_4 : decode cX11_law 4 = .ok (.getfield 156, 3) := by decide +kernel
theorem dX11_law_7 : decode cX11_law 7 = .ok (.iconst 0, 1) := by decide +kernel
theorem dX11_law_8 : decode cX11_law 8 = .ok (.iconst 3, 1) := by decide +kernel
theorem dX11_law_9 : decode cX11_law 9 = .ok (.invokestatic 47, 3) := by decide +kernel
theorem dX11_law_12 : decode cX11_law 12 = .ok (.ifCond .eq 18, 3) := by decide +kernel
theorem dX11_law_15 : decode cX11_law 15 = .ok (.aload_n 0, 1) := by decide +kernel
theorem dX11_law_16 : decode cX11_law 16 = .ok (.getfield 43, 3) := by decide +kernel
theorem dX11_law_19 : decode cX11_law 19 = .ok (.aload_n 0, 1) := by decide +kernel
theorem dX11_law_20 : decode cX11_law 20 = .ok (.getfield 10, 3) := by decide +kernel
theorem dX11_law_23 : decode cX11_law 23 = .ok (.getfield 156, 3) := by decide +kernel
theorem dX11_law_26 : decode cX11_law 26 = .ok (.aaload, 1) := by decide +kernel
theorem dX11_law_27 : decode cX11_law 27 = .ok (.goto 7, 3) := by decide +kernel
theorem dX11_law_30 : decode cX11_law 30 = .ok (.aload_n 0, 1) := by decide +kernel
theorem dX11_law_31 : decode cX11_law 31 = .ok (.getfield 39, 3) := by decide +kernel
theorem dX11_law_34 : decode cX11_law 34 = .ok (.areturn, 1) := by decide +kernel
theorem dX8_forget_0 : decode cX8_forget 0 = .ok (.aload_n 0, 1) := by decide +kernel
theorem dX8_forget_1 : decode cX8_forget 1 = .ok (.iconst (-1), 1) := by decide +kernel
theorem dX8_forget_2 : decode cX8_forget 2 = .ok (.putfield 18, 3) := by decide +kernel
theorem dX8_forget_5 : decode cX8_forget 5 = .ok (.return_, 1) := by decide +kernel
theorem dX6_forgetRoutes_0 : decode cX6_forgetRoutes 0 = .ok (.aload_n 0, 1) := by decide +kernel
theorem dX6_forgetRoutes_1 : decode cX6_forgetRoutes 1 = .ok (.getfield 12, 3) := by decide +kernel
theorem dX6_forgetRoutes_4 : decode cX6_forgetRoutes 4 = .ok (.invokevirtual 24, 3) := by decide +kernel
theorem dX6_forgetRoutes_7 : decode cX6_forgetRoutes 7 = .ok (.return_, 1) := by decide +kernel
theorem dX11_run_0 : decode cX11_run 0 = .ok (.aload_n 0, 1) := by decide +kernel
theorem dX11_run_1 : decode cX11_run 1 = .ok (.iload_n 1, 1) := by decide +kernel
theorem dX11_run_2 : decode cX11_run 2 = .ok (.invokevirtual 159, 3) := by decide +kernel
theorem dX11_run_5 : decode cX11_run 5 = .ok (.ifCond .ne 5, 3) := by decide +kernel
theorem dX11_run_8 : decode cX11_run 8 = .ok (.iconst (-1), 1) := by decide +kernel
theorem dX11_run_9 : decode cX11_run 9 = .ok (.ireturn, 1) := by decide +kernel
theorem dX11_run_10 : decode cX11_run 10 = .ok (.aload_n 0, 1) := by decide +kernel
theorem dX11_run_11 : decode cX11_run 11 = .ok (.invokevirtual 162, 3) := by decide +kernel
theorem dX11_run_14 : decode cX11_run 14 = .ok (.astore_n 2, 1) := by decide +kernel
theorem dX11_run_15 : decode cX11_run 15 = .ok (.aload_n 0, 1) := by decide +kernel
theorem dX11_run_16 : decode cX11_run 16 = .ok (.getfield 25, 3) := by decide +kernel
theorem dX11_run_19 : decode cX11_run 19 = .ok (.invokevirtual 166, 3) := by decide +kernel
theorem dX11_run_22 : decode cX11_run 22 = .ok (.iconst 0, 1) := by decide +kernel
theorem dX11_run_23 : decode cX11_run 23 = .ok (.istore_n 3, 1) := by decide +kernel
theorem dX11_run_24 : decode cX11_run 24 = .ok (.iload_n 3, 1) := by decide +kernel
theorem dX11_run_25 : decode cX11_run 25 = .ok (.iload_n 1, 1) := by decide +kernel
theorem dX11_run_26 : decode cX11_run 26 = .ok (.if_icmp .ge 21, 3) := by decide +kernel
theorem dX11_run_29 : decode cX11_run 29 = .ok (.aload_n 0, 1) := by decide +kernel
theorem dX11_run_30 : decode cX11_run 30 = .ok (.getfield 25, 3) := by decide +kernel
theorem dX11_run_33 : decode cX11_run 33 = .ok (.aload_n 0, 1) := by decide +kernel
theorem dX11_run_34 : decode cX11_run 34 = .ok (.getfield 10, 3) := by decide +kernel
theorem dX11_run_37 : decode cX11_run 37 = .ok (.aload_n 2, 1) := by decide +kernel
theorem dX11_run_38 : decode cX11_run 38 = .ok (.invokevirtual 169, 3) := by decide +kernel
theorem dX11_run_41 : decode cX11_run 41 = .ok (.iinc 3 1, 3) := by decide +kernel
theorem dX11_run_44 : decode cX11_run 44 = .ok (.goto (-20), 3) := by decide +kernel
theorem dX11_run_47 : decode cX11_run 47 = .ok (.aload_n 0, 1) := by decide +kernel
theorem dX11_run_48 : decode cX11_run 48 = .ok (.getfield 10, 3) := by decide +kernel
theorem dX11_run_51 : decode cX11_run 51 = .ok (.getfield 173, 3) := by decide +kernel
theorem dX11_run_54 : decode cX11_run 54 = .ok (.ireturn, 1) := by decide +kernel
def fX6_moveFixed_14 (a0 : Nat) (a1 : Nat) (a2 : Nat) (m : xMem) : Option xMem := some m
set_option maxRecDepth 4000 in
theorem fX6_moveFixed_14_ok {a0 : Nat} {a1 : Nat} {a2 : Nat} {d : Nat} (hd : 3 ≤ d) (ha0 : isMover a0) (ha1 : isStation a1) (ha2 : isLink a2) {o3 : Option Value} {o4 : Option Value} {m : xMem} {r : xMem} (q3 : xNoD o3 = true) (q4 : xNoD o4 = true) (h : fX6_moveFixed_14 a0 a1 a2 m = some r) : xFx hh_157 cX6_moveFixed d 14 [some (.ref a0), some (.ref a1), some (.ref a2), o3, o4] [] (xLay m) 0 0 none (xLay r) := by
  unfold fX6_moveFixed_14 at h
  cases h
  exact fx_return dX6_moveFixed_14 rfl rfl
def fX6_moveFixed_63 (a0 : Nat) (a1 : Nat) (a2 : Nat) (rec17 : Int32 → xMem → Option xMem) (rec38 : Int32 → Int32 → xMem → Option xMem) (l3 : Int32) (l4 : Int32) (m : xMem) : Option xMem := xLet (l4 + (-1 : Int32)) fun x1 => rec38 l3 x1 m
set_option maxRecDepth 4000 in
theorem fX6_moveFixed_63_ok {a0 : Nat} {a1 : Nat} {a2 : Nat} {rec17 : Int32 → xMem → Option xMem} {rec38 : Int32 → Int32 → xMem → Option xMem} {d : Nat} (hd : 3 ≤ d) (ha0 : isMover a0) (ha1 : isStation a1) (ha2 : isLink a2) (hrec17 : ∀ (l3 : Int32) (o4 : Option Value) (q4 : xNoD o4 = true) (m : xMem) (r : xMem), rec17 l3 m = some r → xFx hh_157 cX6_moveFixed d 17 [some (.ref a0), some (.ref a1), some (.ref a2), some (.int l3), o4] [] (xLay m) 0 0 none (xLay r)) (hrec38 : ∀ (l3 : Int32) (l4 : Int32) (m : xMem) (r : xMem), rec38 l3 l4 m = some r → xFx hh_157 cX6_moveFixed d 38 [some (.ref a0), some (.ref a1), some (.ref a2), some (.int l3), some (.int l4)] [] (xLay m) 0 0 none (xLay r)) {l3 : Int32} {l4 : Int32} {m : xMem} {r : xMem} (h : fX6_moveFixed_63 a0 a1 a2 rec17 rec38 l3 l4 m = some r) : xFx hh_157 cX6_moveFixed d 63 [some (.ref a0), some (.ref a1), some (.ref a2), some (.int l3), some (.int l4)] [] (xLay m) 0 0 none (xLay r) := by
  unfold fX6_moveFixed_63 at h
  obtain ⟨x1, hx1, h⟩ := xLet_el h
  refine fx_iinc (ls2 := [some (.ref a0), some (.ref a1), some (.ref a2), some (.int l3), some (.int x1)]) dX6_moveFixed_63 rfl rfl rfl hx1 rfl ?_
  refine fx_goto (t := 38) dX6_moveFixed_66 rfl rfl ?_
  exact hrec38 l3 x1 m r h
def fX6_moveFixed_38 (a0 : Nat) (a1 : Nat) (a2 : Nat) (rec17 : Int32 → xMem → Option xMem) : Nat → Int32 → Int32 → xMem → Option xMem
  | 0, _, _, _ => none
  | fuel + 1, l3, l4, m => if l4 < (0 : Int32) then xLet (l3 + (1 : Int32)) fun x2 => rec17 x2 m else xLet (l4 + (1 : Int32)) fun x3 => (fX3_who a2 l3 x3 m).bind fun p4 => if ¬ p4.1 = (-1 : Int32) then fX6_moveFixed_63 a0 a1 a2 rec17 (fX6_moveFixed_38 a0 a1 a2 rec17 fuel) l3 l4 p4.2 else (fX3_move a2 l3 l4 p4.2).bind fun p6 => fX6_moveFixed_63 a0 a1 a2 rec17 (fX6_moveFixed_38 a0 a1 a2 rec17 fuel) l3 l4 p6
set_option maxRecDepth 4000 in
theorem fX6_moveFixed_38_ok {a0 : Nat} {a1 : Nat} {a2 : Nat} {rec17 : Int32 → xMem → Option xMem} {d : Nat} (hd : 3 ≤ d) (ha0 : isMover a0) (ha1 : isStation a1) (ha2 : isLink a2) (hrec17 : ∀ (l3 : Int32) (o4 : Option Value) (q4 : xNoD o4 = true) (m : xMem) (r : xMem), rec17 l3 m = some r → xFx hh_157 cX6_moveFixed d 17 [some (.ref a0), some (.ref a1), some (.ref a2), some (.int l3), o4] [] (xLay m) 0 0 none (xLay r)) : ∀ (fuel : Nat) (l3 : Int32) (l4 : Int32) (m : xMem) (r : xMem), fX6_moveFixed_38 a0 a1 a2 rec17 fuel l3 l4 m = some r → xFx hh_157 cX6_moveFixed d 38 [some (.ref a0), some (.ref a1), some (.ref a2), some (.int l3), some (.int l4)] [] (xLay m) 0 0 none (xLay r) := by
  intro fuel
  induction fuel with
  | zero => intro l3 l4  m r  h; cases h
  | succ fuel ih =>
    intro l3 l4  m r  h
    unfold fX6_moveFixed_38 at h
    refine fx_iload dX6_moveFixed_38 rfl rfl ?_
    refine fx_if_lt (t := 69) dX6_moveFixed_40 rfl rfl (fun hc1 => ?_) (fun hc1 => ?_)
    · rw [if_pos hc1] at h
      obtain ⟨x2, hx2, h⟩ := xLet_el h
      refine fx_iinc (ls2 := [some (.ref a0), some (.ref a1), some (.ref a2), some (.int x2), some (.int l4)]) dX6_moveFixed_69 rfl rfl rfl hx2 rfl ?_
      refine fx_goto (t := 17) dX6_moveFixed_72 rfl rfl ?_
      exact hrec17 x2 (some (.int l4)) rfl m r h
    · rw [if_neg hc1] at h
      refine fx_aload_n dX6_moveFixed_43 rfl rfl ?_
      refine fx_iload_n dX6_moveFixed_44 rfl rfl ?_
      refine fx_iload dX6_moveFixed_45 rfl rfl ?_
      refine fx_iconst (x := 1) dX6_moveFixed_47 rfl (by decide) ?_
      obtain ⟨x3, hx3, h⟩ := xLet_el h
      refine fx_iadd dX6_moveFixed_48 rfl hx3 ?_
      obtain ⟨p4, ep4, h⟩ := xBind_el h
      refine gx_callv (as := [.int l3, .int x3]) (r := []) rfl dX6_moveFixed_49 ca_6_241 rfl me_152 rfl rfl rfl rfl (ha2.1) rfl (fX3_who_ok (d := d) (by omega) ha2 ep4) rfl rfl ?_
      refine fx_iconst (x := -1) dX6_moveFixed_52 rfl (by decide) ?_
      refine fx_icmp_ne (t := 63) dX6_moveFixed_53 rfl rfl (fun hc5 => ?_) (fun hc5 => ?_)
      · rw [if_pos hc5] at h
        exact fX6_moveFixed_63_ok hd ha0 ha1 ha2 hrec17 ih h
      · rw [if_neg hc5] at h
        refine fx_aload_n dX6_moveFixed_56 rfl rfl ?_
        refine fx_iload_n dX6_moveFixed_57 rfl rfl ?_
        refine fx_iload dX6_moveFixed_58 rfl rfl ?_
        obtain ⟨p6, ep6, h⟩ := xBind_el h
        refine gx_callv (as := [.int l3, .int l4]) (r := []) rfl dX6_moveFixed_60 ca_6_250 rfl me_153 rfl rfl rfl rfl (ha2.1) rfl (fX3_move_ok (d := d) (by omega) ha2 ep6) rfl rfl ?_
        exact fX6_moveFixed_63_ok hd ha0 ha1 ha2 hrec17 ih h
def fX6_moveFixed_17 (a0 : Nat) (a1 : Nat) (a2 : Nat) : Nat → Int32 → xMem → Option xMem
  | 0, _, _ => none
  | fuel + 1, l3, m => if (2 : Int32) ≤ l3 then some m else (fX6_stepOff a0 a1 a2 l3 m).bind fun p2 => xLet (p2.2.1 a2 4) fun x3 => xLet (x3 - (2 : Int32)) fun x4 => fX6_moveFixed_38 a0 a1 a2 (fX6_moveFixed_17 a0 a1 a2 fuel) xFuel l3 x4 p2.2
set_option maxRecDepth 4000 in
theorem fX6_moveFixed_17_ok {a0 : Nat} {a1 : Nat} {a2 : Nat} {d : Nat} (hd : 3 ≤ d) (ha0 : isMover a0) (ha1 : isStation a1) (ha2 : isLink a2) : ∀ (fuel : Nat) (l3 : Int32) (o4 : Option Value) (q4 : xNoD o4 = true) (m : xMem) (r : xMem), fX6_moveFixed_17 a0 a1 a2 fuel l3 m = some r → xFx hh_157 cX6_moveFixed d 17 [some (.ref a0), some (.ref a1), some (.ref a2), some (.int l3), o4] [] (xLay m) 0 0 none (xLay r) := by
  intro fuel
  induction fuel with
  | zero => intro l3 o4 q4 m r  h; cases h
  | succ fuel ih =>
    intro l3 o4 q4 m r  h
    unfold fX6_moveFixed_17 at h
    refine fx_iload_n dX6_moveFixed_17 rfl rfl ?_
    refine fx_iconst (x := 2) dX6_moveFixed_18 rfl (by decide) ?_
    refine fx_icmp_ge (t := 75) dX6_moveFixed_19 rfl rfl (fun hc1 => ?_) (fun hc1 => ?_)
    · rw [if_pos hc1] at h
      cases h
      exact fx_return dX6_moveFixed_75 rfl rfl
    · rw [if_neg hc1] at h
      refine fx_aload_n dX6_moveFixed_22 rfl rfl ?_
      refine fx_aload_n dX6_moveFixed_23 rfl rfl ?_
      refine fx_aload_n dX6_moveFixed_24 rfl rfl ?_
      refine fx_iload_n dX6_moveFixed_25 rfl rfl ?_
      obtain ⟨p2, ep2, h⟩ := xBind_el h
      refine gx_callv (as := [.ref a1, .ref a2, .int l3]) (r := []) rfl dX6_moveFixed_26 ca_6_234 rfl me_155 rfl rfl rfl rfl (ha0.1) rfl (fX6_stepOff_ok (d := d) (by omega) ha0 ha1 ha2 ep2) rfl rfl ?_
      refine fx_pop dX6_moveFixed_29 rfl rfl ?_
      refine fx_aload_n dX6_moveFixed_30 rfl rfl ?_
      obtain ⟨x3, hx3, h⟩ := xLet_el h
      refine gx_get dX6_moveFixed_31 rfl fd_6_189 ha2.1 rfl rfl hx3 ?_
      refine fx_iconst (x := 2) dX6_moveFixed_34 rfl (by decide) ?_
      obtain ⟨x4, hx4, h⟩ := xLet_el h
      refine fx_isub dX6_moveFixed_35 rfl hx4 ?_
      refine fx_istore (ls2 := [some (.ref a0), some (.ref a1), some (.ref a2), some (.int l3), some (.int x4)]) dX6_moveFixed_36 rfl rfl rfl ?_
      exact fX6_moveFixed_38_ok hd ha0 ha1 ha2 ih xFuel l3 x4 p2.2 r h
def fX6_moveFixed_0 (a0 : Nat) (a1 : Nat) (a2 : Nat) (m : xMem) : Option xMem := xLet (m.1 a2 12) fun x1 => if x1 = (0 : Int32) then fX6_moveFixed_14 a0 a1 a2 m else xLet (m.1 a2 9) fun x3 => if ¬ x3 = (0 : Int32) then fX6_moveFixed_17 a0 a1 a2 xFuel (0 : Int32) m else fX6_moveFixed_14 a0 a1 a2 m
set_option maxRecDepth 4000 in
theorem fX6_moveFixed_0_ok {a0 : Nat} {a1 : Nat} {a2 : Nat} {d : Nat} (hd : 3 ≤ d) (ha0 : isMover a0) (ha1 : isStation a1) (ha2 : isLink a2) {o3 : Option Value} {o4 : Option Value} {m : xMem} {r : xMem} (q3 : xNoD o3 = true) (q4 : xNoD o4 = true) (h : fX6_moveFixed_0 a0 a1 a2 m = some r) : xFx hh_157 cX6_moveFixed d 0 [some (.ref a0), some (.ref a1), some (.ref a2), o3, o4] [] (xLay m) 0 0 none (xLay r) := by
  unfold fX6_moveFixed_0 at h
  refine fx_aload_n dX6_moveFixed_0 rfl rfl ?_
  obtain ⟨x1, hx1, h⟩ := xLet_el h
  refine gx_get dX6_moveFixed_1 rfl fd_6_225 ha2.1 rfl rfl hx1 ?_
  refine fx_if_eq (t := 14) dX6_moveFixed_4 rfl rfl (fun hc2 => ?_) (fun hc2 => ?_)
  · rw [if_pos hc2] at h
    exact fX6_moveFixed_14_ok (o3 := o3) (o4 := o4) hd ha0 ha1 ha2 q3 q4 h
  · rw [if_neg hc2] at h
    refine fx_aload_n dX6_moveFixed_7 rfl rfl ?_
    obtain ⟨x3, hx3, h⟩ := xLet_el h
    refine gx_get dX6_moveFixed_8 rfl fd_6_148 ha2.1 rfl rfl hx3 ?_
    refine fx_if_ne (t := 15) dX6_moveFixed_11 rfl rfl (fun hc4 => ?_) (fun hc4 => ?_)
    · rw [if_pos hc4] at h
      refine fx_iconst (x := 0) dX6_moveFixed_15 rfl (by decide) ?_
      refine fx_istore_n (ls2 := [some (.ref a0), some (.ref a1), some (.ref a2), some (.int (0 : Int32)), o4]) dX6_moveFixed_16 rfl rfl rfl ?_
      exact fX6_moveFixed_17_ok hd ha0 ha1 ha2 xFuel (0 : Int32) (o4) q4 m r h
    · rw [if_neg hc4] at h
      exact fX6_moveFixed_14_ok (o3 := o3) (o4 := o4) hd ha0 ha1 ha2 q3 q4 h
def fX6_moveFixed (a0 : Nat) (a1 : Nat) (a2 : Nat) (m : xMem) : Option xMem := fX6_moveFixed_0 a0 a1 a2  m
theorem fX6_moveFixed_ok {a0 : Nat} {a1 : Nat} {a2 : Nat} {m : xMem} {r : xMem} {d : Nat} (hd : 4 ≤ d) (ha0 : isMover a0) (ha1 : isStation a1) (ha2 : isLink a2) (h : fX6_moveFixed a0 a1 a2 m = some r) : xEx d 157 [.ref a0, .ref a1, .ref a2] (xLay m) none (xLay r) := by
  obtain ⟨d, rfl⟩ : ∃ q, d = q + 1 := ⟨d - 1, by omega⟩
  exact xEx_of me_157 rfl (fX6_moveFixed_0_ok (d := d) (o3 := none) (o4 := none) (by omega) ha0 ha1 ha2 rfl rfl h)
def fX3_sideFor_29 (a0 : Nat) (a1 : Int32) (a2 : Int32) (s0 : Int32) (m : xMem) : Option (Int32 × xMem) := some (s0, m)
set_option maxRecDepth 4000 in
theorem fX3_sideFor_29_ok {a0 : Nat} {a1 : Int32} {a2 : Int32} {d : Nat} (hd : 1 ≤ d) (ha0 : isLink a0) {s0 : Int32} {o3 : Option Value} {m : xMem} {r : (Int32 × xMem)} (q3 : xNoD o3 = true) (h : fX3_sideFor_29 a0 a1 a2 s0 m = some r) : xFx hh_159 cX3_sideFor d 29 [some (.ref a0), some (.int a1), some (.int a2), o3] [.int s0] (xLay m) 0 0 (some (.int r.1)) (xLay r.2) := by
  unfold fX3_sideFor_29 at h
  cases h
  exact fx_ireturn dX3_sideFor_29 rfl rfl
def fX3_sideFor_13 (a0 : Nat) (a1 : Int32) (a2 : Int32) (s0 : Int32) (m : xMem) : Option (Int32 × xMem) := (fX3_who a0 s0 (0 : Int32) m).bind fun p1 => if ¬ p1.1 = (-1 : Int32) then fX3_sideFor_29 a0 a1 a2 (-1 : Int32) p1.2 else fX3_sideFor_29 a0 a1 a2 s0 p1.2
set_option maxRecDepth 4000 in
theorem fX3_sideFor_13_ok {a0 : Nat} {a1 : Int32} {a2 : Int32} {d : Nat} (hd : 1 ≤ d) (ha0 : isLink a0) {s0 : Int32} {o3 : Option Value} {m : xMem} {r : (Int32 × xMem)} (q3 : xNoD o3 = true) (h : fX3_sideFor_13 a0 a1 a2 s0 m = some r) : xFx hh_159 cX3_sideFor d 13 [some (.ref a0), some (.int a1), some (.int a2), o3] [.int s0] (xLay m) 0 0 (some (.int r.1)) (xLay r.2) := by
  unfold fX3_sideFor_13 at h
  refine fx_istore_n (ls2 := [some (.ref a0), some (.int a1), some (.int a2), some (.int s0)]) dX3_sideFor_13 rfl rfl rfl ?_
  refine fx_aload_n dX3_sideFor_14 rfl rfl ?_
  refine fx_iload_n dX3_sideFor_15 rfl rfl ?_
  refine fx_iconst (x := 0) dX3_sideFor_16 rfl (by decide) ?_
  obtain ⟨p1, ep1, h⟩ := xBind_el h
  refine gx_callv (as := [.int s0, .int (0 : Int32)]) (r := []) rfl dX3_sideFor_17 ca_3_68 rfl me_152 rfl rfl rfl rfl (ha0.1) rfl (fX3_who_ok (d := d) (by omega) ha0 ep1) rfl rfl ?_
  refine fx_iconst (x := -1) dX3_sideFor_20 rfl (by decide) ?_
  refine fx_icmp_ne (t := 28) dX3_sideFor_21 rfl rfl (fun hc2 => ?_) (fun hc2 => ?_)
  · rw [if_pos hc2] at h
    refine fx_iconst (x := -1) dX3_sideFor_28 rfl (by decide) ?_
    exact fX3_sideFor_29_ok (o3 := some (.int s0)) hd ha0 rfl h
  · rw [if_neg hc2] at h
    refine fx_iload_n dX3_sideFor_24 rfl rfl ?_
    refine fx_goto (t := 29) dX3_sideFor_25 rfl rfl ?_
    exact fX3_sideFor_29_ok (o3 := some (.int s0)) hd ha0 rfl h
def fX3_sideFor_57 (a0 : Nat) (a1 : Int32) (a2 : Int32) (s0 : Int32) (m : xMem) : Option (Int32 × xMem) := some (s0, m)
set_option maxRecDepth 4000 in
theorem fX3_sideFor_57_ok {a0 : Nat} {a1 : Int32} {a2 : Int32} {d : Nat} (hd : 1 ≤ d) (ha0 : isLink a0) {s0 : Int32} {o3 : Option Value} {m : xMem} {r : (Int32 × xMem)} (q3 : xNoD o3 = true) (h : fX3_sideFor_57 a0 a1 a2 s0 m = some r) : xFx hh_159 cX3_sideFor d 57 [some (.ref a0), some (.int a1), some (.int a2), o3] [.int s0] (xLay m) 0 0 (some (.int r.1)) (xLay r.2) := by
  unfold fX3_sideFor_57 at h
  cases h
  exact fx_ireturn dX3_sideFor_57 rfl rfl
def fX3_sideFor_0 (a0 : Nat) (a1 : Int32) (a2 : Int32) (m : xMem) : Option (Int32 × xMem) := if a2 = (0 : Int32) then (fX3_who a0 (0 : Int32) (0 : Int32) m).bind fun p2 => if ¬ p2.1 = (-1 : Int32) then (fX3_who a0 (1 : Int32) (0 : Int32) p2.2).bind fun p4 => if ¬ p4.1 = (-1 : Int32) then fX3_sideFor_57 a0 a1 a2 (-1 : Int32) p4.2 else fX3_sideFor_57 a0 a1 a2 (1 : Int32) p4.2 else some ((0 : Int32), p2.2) else if a1 = (0 : Int32) then fX3_sideFor_13 a0 a1 a2 (0 : Int32) m else fX3_sideFor_13 a0 a1 a2 (1 : Int32) m
set_option maxRecDepth 4000 in
theorem fX3_sideFor_0_ok {a0 : Nat} {a1 : Int32} {a2 : Int32} {d : Nat} (hd : 1 ≤ d) (ha0 : isLink a0) {o3 : Option Value} {m : xMem} {r : (Int32 × xMem)} (q3 : xNoD o3 = true) (h : fX3_sideFor_0 a0 a1 a2 m = some r) : xFx hh_159 cX3_sideFor d 0 [some (.ref a0), some (.int a1), some (.int a2), o3] [] (xLay m) 0 0 (some (.int r.1)) (xLay r.2) := by
  unfold fX3_sideFor_0 at h
  refine fx_iload_n dX3_sideFor_0 rfl rfl ?_
  refine fx_if_eq (t := 30) dX3_sideFor_1 rfl rfl (fun hc1 => ?_) (fun hc1 => ?_)
  · rw [if_pos hc1] at h
    refine fx_aload_n dX3_sideFor_30 rfl rfl ?_
    refine fx_iconst (x := 0) dX3_sideFor_31 rfl (by decide) ?_
    refine fx_iconst (x := 0) dX3_sideFor_32 rfl (by decide) ?_
    obtain ⟨p2, ep2, h⟩ := xBind_el h
    refine gx_callv (as := [.int (0 : Int32), .int (0 : Int32)]) (r := []) rfl dX3_sideFor_33 ca_3_68 rfl me_152 rfl rfl rfl rfl (ha0.1) rfl (fX3_who_ok (d := d) (by omega) ha0 ep2) rfl rfl ?_
    refine fx_iconst (x := -1) dX3_sideFor_36 rfl (by decide) ?_
    refine fx_icmp_ne (t := 42) dX3_sideFor_37 rfl rfl (fun hc3 => ?_) (fun hc3 => ?_)
    · rw [if_pos hc3] at h
      refine fx_aload_n dX3_sideFor_42 rfl rfl ?_
      refine fx_iconst (x := 1) dX3_sideFor_43 rfl (by decide) ?_
      refine fx_iconst (x := 0) dX3_sideFor_44 rfl (by decide) ?_
      obtain ⟨p4, ep4, h⟩ := xBind_el h
      refine gx_callv (as := [.int (1 : Int32), .int (0 : Int32)]) (r := []) rfl dX3_sideFor_45 ca_3_68 rfl me_152 rfl rfl rfl rfl (ha0.1) rfl (fX3_who_ok (d := d) (by omega) ha0 ep4) rfl rfl ?_
      refine fx_iconst (x := -1) dX3_sideFor_48 rfl (by decide) ?_
      refine fx_icmp_ne (t := 56) dX3_sideFor_49 rfl rfl (fun hc5 => ?_) (fun hc5 => ?_)
      · rw [if_pos hc5] at h
        refine fx_iconst (x := -1) dX3_sideFor_56 rfl (by decide) ?_
        exact fX3_sideFor_57_ok (o3 := o3) hd ha0 q3 h
      · rw [if_neg hc5] at h
        refine fx_iconst (x := 1) dX3_sideFor_52 rfl (by decide) ?_
        refine fx_goto (t := 57) dX3_sideFor_53 rfl rfl ?_
        exact fX3_sideFor_57_ok (o3 := o3) hd ha0 q3 h
    · rw [if_neg hc3] at h
      refine fx_iconst (x := 0) dX3_sideFor_40 rfl (by decide) ?_
      cases h
      exact fx_ireturn dX3_sideFor_41 rfl rfl
  · rw [if_neg hc1] at h
    refine fx_iload_n dX3_sideFor_4 rfl rfl ?_
    refine fx_if_eq (t := 12) dX3_sideFor_5 rfl rfl (fun hc6 => ?_) (fun hc6 => ?_)
    · rw [if_pos hc6] at h
      refine fx_iconst (x := 0) dX3_sideFor_12 rfl (by decide) ?_
      exact fX3_sideFor_13_ok (o3 := o3) hd ha0 q3 h
    · rw [if_neg hc6] at h
      refine fx_iconst (x := 1) dX3_sideFor_8 rfl (by decide) ?_
      refine fx_goto (t := 13) dX3_sideFor_9 rfl rfl ?_
      exact fX3_sideFor_13_ok (o3 := o3) hd ha0 q3 h
def fX3_sideFor (a0 : Nat) (a1 : Int32) (a2 : Int32) (m : xMem) : Option (Int32 × xMem) := fX3_sideFor_0 a0 a1 a2  m
theorem fX3_sideFor_ok {a0 : Nat} {a1 : Int32} {a2 : Int32} {m : xMem} {r : (Int32 × xMem)} {d : Nat} (hd : 2 ≤ d) (ha0 : isLink a0) (h : fX3_sideFor a0 a1 a2 m = some r) : xEx d 159 [.ref a0, .int a1, .int a2] (xLay m) (some (.int r.1)) (xLay r.2) := by
  obtain ⟨d, rfl⟩ : ∃ q, d = q + 1 := ⟨d - 1, by omega⟩
  exact xEx_of me_159 rfl (fX3_sideFor_0_ok (d := d) (o3 := none) (by omega) ha0 rfl h)
def fX6_takeUpToTwo_36 (a0 : Nat) (a1 : Nat) (a2 : Int32) (a3 : Int32) (m : xMem) : Option xMem := some m
set_option maxRecDepth 4000 in
theorem fX6_takeUpToTwo_36_ok {a0 : Nat} {a1 : Nat} {a2 : Int32} {a3 : Int32} {d : Nat} (hd : 2 ≤ d) (ha0 : isMover a0) (ha1 : isStation a1) {o4 : Option Value} {o5 : Option Value} {o6 : Option Value} {o7 : Option Value} {o8 : Option Value} {o9 : Option Value} {o10 : Option Value} {m : xMem} {r : xMem} (q4 : xNoD o4 = true) (q5 : xNoD o5 = true) (q6 : xNoD o6 = true) (q7 : xNoD o7 = true) (q8 : xNoD o8 = true) (q9 : xNoD o9 = true) (q10 : xNoD o10 = true) (h : fX6_takeUpToTwo_36 a0 a1 a2 a3 m = some r) : xFx hh_158 cX6_takeUpToTwo d 36 [some (.ref a0), some (.ref a1), some (.int a2), some (.int a3), o4, o5, o6, o7, o8, o9, o10] [] (xLay m) 0 0 none (xLay r) := by
  unfold fX6_takeUpToTwo_36 at h
  cases h
  exact fx_return dX6_takeUpToTwo_36 rfl rfl
def fX6_takeUpToTwo_152 (a0 : Nat) (a1 : Nat) (a2 : Int32) (a3 : Int32) (m : xMem) : Option xMem := some m
set_option maxRecDepth 4000 in
theorem fX6_takeUpToTwo_152_ok {a0 : Nat} {a1 : Nat} {a2 : Int32} {a3 : Int32} {d : Nat} (hd : 2 ≤ d) (ha0 : isMover a0) (ha1 : isStation a1) {o4 : Option Value} {o5 : Option Value} {o6 : Option Value} {o7 : Option Value} {o8 : Option Value} {o9 : Option Value} {o10 : Option Value} {m : xMem} {r : xMem} (q4 : xNoD o4 = true) (q5 : xNoD o5 = true) (q6 : xNoD o6 = true) (q7 : xNoD o7 = true) (q8 : xNoD o8 = true) (q9 : xNoD o9 = true) (q10 : xNoD o10 = true) (h : fX6_takeUpToTwo_152 a0 a1 a2 a3 m = some r) : xFx hh_158 cX6_takeUpToTwo d 152 [some (.ref a0), some (.ref a1), some (.int a2), some (.int a3), o4, o5, o6, o7, o8, o9, o10] [] (xLay m) 0 0 none (xLay r) := by
  unfold fX6_takeUpToTwo_152 at h
  cases h
  exact fx_return dX6_takeUpToTwo_152 rfl rfl
def fX6_takeUpToTwo_190 (a0 : Nat) (a1 : Nat) (a2 : Int32) (a3 : Int32) (rec71 : Nat → Int32 → Int32 → xMem → Option xMem) (l4 : Nat) (l5 : Int32) (l6 : Int32) (s0 : Nat) (s1 : Int32) (s2 : Int32) (s3 : Int32) (m : xMem) : Option xMem := (fX3_put s0 s1 s2 s3 m).bind fun p1 => xLet (p1.1 l4 9) fun x2 => xLet (x2 + (1 : Int32)) fun x3 => xLet (xPut p1 l4 9 x3) fun m4 => xLet (m4.1 l4 10) fun x5 => xLet (x5 + (1 : Int32)) fun x6 => xLet (xPut m4 l4 10 x6) fun m7 => xLet (l6 + (1 : Int32)) fun x8 => rec71 l4 l5 x8 m7
set_option maxRecDepth 4000 in
theorem fX6_takeUpToTwo_190_ok {a0 : Nat} {a1 : Nat} {a2 : Int32} {a3 : Int32} {rec71 : Nat → Int32 → Int32 → xMem → Option xMem} {d : Nat} (hd : 2 ≤ d) (ha0 : isMover a0) (ha1 : isStation a1) (hrec71 : ∀ (l4 : Nat) (l5 : Int32) (l6 : Int32) (o7 : Option Value) (o8 : Option Value) (o9 : Option Value) (o10 : Option Value) (q7 : xNoD o7 = true) (q8 : xNoD o8 = true) (q9 : xNoD o9 = true) (q10 : xNoD o10 = true) (m : xMem) (r : xMem) (hl4 : isLink l4), rec71 l4 l5 l6 m = some r → xFx hh_158 cX6_takeUpToTwo d 71 [some (.ref a0), some (.ref a1), some (.int a2), some (.int a3), some (.ref l4), some (.int l5), some (.int l6), o7, o8, o9, o10] [] (xLay m) 0 0 none (xLay r)) {l4 : Nat} {l5 : Int32} {l6 : Int32} {s0 : Nat} {s1 : Int32} {s2 : Int32} {s3 : Int32} {o7 : Option Value} {o8 : Option Value} {o9 : Option Value} {o10 : Option Value} {m : xMem} {r : xMem} (hl4 : isLink l4) (hs0 : isLink s0) (q7 : xNoD o7 = true) (q8 : xNoD o8 = true) (q9 : xNoD o9 = true) (q10 : xNoD o10 = true) (h : fX6_takeUpToTwo_190 a0 a1 a2 a3 rec71 l4 l5 l6 s0 s1 s2 s3 m = some r) : xFx hh_158 cX6_takeUpToTwo d 190 [some (.ref a0), some (.ref a1), some (.int a2), some (.int a3), some (.ref l4), some (.int l5), some (.int l6), o7, o8, o9, o10] [.int s3, .int s2, .int s1, .ref s0] (xLay m) 0 0 none (xLay r) := by
  unfold fX6_takeUpToTwo_190 at h
  obtain ⟨p1, ep1, h⟩ := xBind_el h
  refine gx_callv (as := [.int s1, .int s2, .int s3]) (r := []) rfl dX6_takeUpToTwo_190 ca_6_247 rfl me_154 rfl rfl rfl rfl (hs0.1) rfl (fX3_put_ok (d := d) (by omega) hs0 ep1) rfl rfl ?_
  refine fx_aload dX6_takeUpToTwo_193 rfl rfl ?_
  refine fx_dup dX6_takeUpToTwo_195 rfl rfl ?_
  obtain ⟨x2, hx2, h⟩ := xLet_el h
  refine gx_get dX6_takeUpToTwo_196 rfl fd_6_148 hl4.1 rfl rfl hx2 ?_
  refine fx_iconst (x := 1) dX6_takeUpToTwo_199 rfl (by decide) ?_
  obtain ⟨x3, hx3, h⟩ := xLet_el h
  refine fx_iadd dX6_takeUpToTwo_200 rfl hx3 ?_
  obtain ⟨m4, hm4, h⟩ := xLet_el h
  refine gx_put dX6_takeUpToTwo_201 rfl fd_6_148 hl4.1 rfl rfl rfl hm4 ?_
  refine fx_aload dX6_takeUpToTwo_204 rfl rfl ?_
  refine fx_dup dX6_takeUpToTwo_206 rfl rfl ?_
  obtain ⟨x5, hx5, h⟩ := xLet_el h
  refine gx_get dX6_takeUpToTwo_207 rfl fd_6_201 hl4.1 rfl rfl hx5 ?_
  refine fx_iconst (x := 1) dX6_takeUpToTwo_210 rfl (by decide) ?_
  obtain ⟨x6, hx6, h⟩ := xLet_el h
  refine fx_iadd dX6_takeUpToTwo_211 rfl hx6 ?_
  obtain ⟨m7, hm7, h⟩ := xLet_el h
  refine gx_put dX6_takeUpToTwo_212 rfl fd_6_201 hl4.1 rfl rfl rfl hm7 ?_
  obtain ⟨x8, hx8, h⟩ := xLet_el h
  refine fx_iinc (ls2 := [some (.ref a0), some (.ref a1), some (.int a2), some (.int a3), some (.ref l4), some (.int l5), some (.int x8), o7, o8, o9, o10]) dX6_takeUpToTwo_215 rfl rfl rfl hx8 rfl ?_
  refine fx_goto (t := 71) dX6_takeUpToTwo_218 rfl rfl ?_
  exact hrec71 l4 l5 x8 (o7) (o8) (o9) (o10) q7 q8 q9 q10 m7 r hl4 h
def fX6_takeUpToTwo_127 (a0 : Nat) (a1 : Nat) (a2 : Int32) (a3 : Int32) (rec71 : Nat → Int32 → Int32 → xMem → Option xMem) (l4 : Nat) (l5 : Int32) (l6 : Int32) (l7 : Int32) (s0 : Int32) (m : xMem) : Option xMem := (fX3_sideFor l4 s0 l5 m).bind fun p1 => if l7 = (-1 : Int32) then fX6_takeUpToTwo_152 a0 a1 a2 a3 p1.2 else if ¬ p1.1 = (-1 : Int32) then (fX3_foot l4 p1.2).bind fun p4 => bif xIn p4.1 6 then xLet (a1 + 15 + 3 * p4.1.toNatClampNeg) fun r6 => (fX2_change r6 l7 (0 : Int32) (-1 : Int32) p4.2).bind fun p7 => if s0 = (0 : Int32) then fX6_takeUpToTwo_190 a0 a1 a2 a3 rec71 l4 l5 l6 l4 p1.1 (0 : Int32) l7 p7 else xLet (l7 + (10 : Int32)) fun x9 => fX6_takeUpToTwo_190 a0 a1 a2 a3 rec71 l4 l5 l6 l4 p1.1 (0 : Int32) x9 p7 else none else fX6_takeUpToTwo_152 a0 a1 a2 a3 p1.2
set_option maxRecDepth 4000 in
theorem fX6_takeUpToTwo_127_ok {a0 : Nat} {a1 : Nat} {a2 : Int32} {a3 : Int32} {rec71 : Nat → Int32 → Int32 → xMem → Option xMem} {d : Nat} (hd : 2 ≤ d) (ha0 : isMover a0) (ha1 : isStation a1) (hrec71 : ∀ (l4 : Nat) (l5 : Int32) (l6 : Int32) (o7 : Option Value) (o8 : Option Value) (o9 : Option Value) (o10 : Option Value) (q7 : xNoD o7 = true) (q8 : xNoD o8 = true) (q9 : xNoD o9 = true) (q10 : xNoD o10 = true) (m : xMem) (r : xMem) (hl4 : isLink l4), rec71 l4 l5 l6 m = some r → xFx hh_158 cX6_takeUpToTwo d 71 [some (.ref a0), some (.ref a1), some (.int a2), some (.int a3), some (.ref l4), some (.int l5), some (.int l6), o7, o8, o9, o10] [] (xLay m) 0 0 none (xLay r)) {l4 : Nat} {l5 : Int32} {l6 : Int32} {l7 : Int32} {s0 : Int32} {o8 : Option Value} {o9 : Option Value} {o10 : Option Value} {m : xMem} {r : xMem} (hl4 : isLink l4) (q8 : xNoD o8 = true) (q9 : xNoD o9 = true) (q10 : xNoD o10 = true) (h : fX6_takeUpToTwo_127 a0 a1 a2 a3 rec71 l4 l5 l6 l7 s0 m = some r) : xFx hh_158 cX6_takeUpToTwo d 127 [some (.ref a0), some (.ref a1), some (.int a2), some (.int a3), some (.ref l4), some (.int l5), some (.int l6), some (.int l7), o8, o9, o10] [.int s0] (xLay m) 0 0 none (xLay r) := by
  unfold fX6_takeUpToTwo_127 at h
  refine fx_istore (ls2 := [some (.ref a0), some (.ref a1), some (.int a2), some (.int a3), some (.ref l4), some (.int l5), some (.int l6), some (.int l7), o8, some (.int s0), o10]) dX6_takeUpToTwo_127 rfl (xGd (j := 8) rfl rfl q8 rfl) rfl ?_
  refine fx_aload dX6_takeUpToTwo_129 rfl rfl ?_
  refine fx_iload dX6_takeUpToTwo_131 rfl rfl ?_
  refine fx_iload dX6_takeUpToTwo_133 rfl rfl ?_
  obtain ⟨p1, ep1, h⟩ := xBind_el h
  refine gx_callv (as := [.int s0, .int l5]) (r := []) rfl dX6_takeUpToTwo_135 ca_6_261 rfl me_159 rfl rfl rfl rfl (hl4.1) rfl (fX3_sideFor_ok (d := d) (by omega) hl4 ep1) rfl rfl ?_
  refine fx_istore (ls2 := [some (.ref a0), some (.ref a1), some (.int a2), some (.int a3), some (.ref l4), some (.int l5), some (.int l6), some (.int l7), o8, some (.int s0), some (.int p1.1)]) dX6_takeUpToTwo_138 rfl rfl rfl ?_
  refine fx_iload dX6_takeUpToTwo_140 rfl rfl ?_
  refine fx_iconst (x := -1) dX6_takeUpToTwo_142 rfl (by decide) ?_
  refine fx_icmp_eq (t := 152) dX6_takeUpToTwo_143 rfl rfl (fun hc2 => ?_) (fun hc2 => ?_)
  · rw [if_pos hc2] at h
    exact fX6_takeUpToTwo_152_ok (o4 := some (.ref l4)) (o5 := some (.int l5)) (o6 := some (.int l6)) (o7 := some (.int l7)) (o8 := o8) (o9 := some (.int s0)) (o10 := some (.int p1.1)) hd ha0 ha1 rfl rfl rfl rfl q8 rfl rfl h
  · rw [if_neg hc2] at h
    refine fx_iload dX6_takeUpToTwo_146 rfl rfl ?_
    refine fx_iconst (x := -1) dX6_takeUpToTwo_148 rfl (by decide) ?_
    refine fx_icmp_ne (t := 153) dX6_takeUpToTwo_149 rfl rfl (fun hc3 => ?_) (fun hc3 => ?_)
    · rw [if_pos hc3] at h
      refine fx_aload_n dX6_takeUpToTwo_153 rfl rfl ?_
      refine gx_getr dX6_takeUpToTwo_154 rfl fd_6_96 ha1.1 rfl rfl ?_
      refine fx_aload dX6_takeUpToTwo_157 rfl rfl ?_
      obtain ⟨p4, ep4, h⟩ := xBind_el h
      refine gx_callv (as := []) (r := [.ref (a1 + 1)]) rfl dX6_takeUpToTwo_159 ca_6_217 rfl me_137 rfl rfl rfl rfl (hl4.1) rfl (fX3_foot_ok (d := d) (by omega) hl4 ep4) rfl rfl ?_
      obtain ⟨hj5, h⟩ := xChk_el h
      obtain ⟨r6, hr6, h⟩ := xLet_el h
      refine gx_aaload (t := 4) dX6_takeUpToTwo_162 rfl ha1.2.1 rfl hj5 ((xRef_at (sl_9_0 a1) hj5).trans (congrArg some hr6)) ?_
      have hpr6 : isHall r6 := by rw [← hr6]; exact ha1.2.2.2.2.2.2.2.1 _ (xIn_lt hj5)
      refine fx_iload dX6_takeUpToTwo_163 rfl rfl ?_
      refine fx_iconst (x := 0) dX6_takeUpToTwo_165 rfl (by decide) ?_
      refine fx_iconst (x := -1) dX6_takeUpToTwo_166 rfl (by decide) ?_
      obtain ⟨p7, ep7, h⟩ := xBind_el h
      refine gx_callv (as := [.int l7, .int (0 : Int32), .int (-1 : Int32)]) (r := []) rfl dX6_takeUpToTwo_167 ca_6_198 rfl me_124 rfl rfl rfl rfl (hpr6.1) rfl (fX2_change_ok (d := d) (by omega) hpr6 ep7) rfl rfl ?_
      refine fx_aload dX6_takeUpToTwo_170 rfl rfl ?_
      refine fx_iload dX6_takeUpToTwo_172 rfl rfl ?_
      refine fx_iconst (x := 0) dX6_takeUpToTwo_174 rfl (by decide) ?_
      refine fx_iload dX6_takeUpToTwo_175 rfl rfl ?_
      refine fx_if_eq (t := 188) dX6_takeUpToTwo_177 rfl rfl (fun hc8 => ?_) (fun hc8 => ?_)
      · rw [if_pos hc8] at h
        refine fx_iload dX6_takeUpToTwo_188 rfl rfl ?_
        exact fX6_takeUpToTwo_190_ok (o7 := some (.int l7)) (o8 := o8) (o9 := some (.int s0)) (o10 := some (.int p1.1)) hd ha0 ha1 hrec71 hl4 hl4 rfl q8 rfl rfl h
      · rw [if_neg hc8] at h
        refine fx_iload dX6_takeUpToTwo_180 rfl rfl ?_
        refine fx_bipush (x := 10) dX6_takeUpToTwo_182 rfl (by decide) ?_
        obtain ⟨x9, hx9, h⟩ := xLet_el h
        refine fx_iadd dX6_takeUpToTwo_184 rfl hx9 ?_
        refine fx_goto (t := 190) dX6_takeUpToTwo_185 rfl rfl ?_
        exact fX6_takeUpToTwo_190_ok (o7 := some (.int l7)) (o8 := o8) (o9 := some (.int s0)) (o10 := some (.int p1.1)) hd ha0 ha1 hrec71 hl4 hl4 rfl q8 rfl rfl h
    · rw [if_neg hc3] at h
      exact fX6_takeUpToTwo_152_ok (o4 := some (.ref l4)) (o5 := some (.int l5)) (o6 := some (.int l6)) (o7 := some (.int l7)) (o8 := o8) (o9 := some (.int s0)) (o10 := some (.int p1.1)) hd ha0 ha1 rfl rfl rfl rfl q8 rfl rfl h
def fX6_takeUpToTwo_126 (a0 : Nat) (a1 : Nat) (a2 : Int32) (a3 : Int32) (rec71 : Nat → Int32 → Int32 → xMem → Option xMem) (l4 : Nat) (l5 : Int32) (l6 : Int32) (l7 : Int32) (m : xMem) : Option xMem := fX6_takeUpToTwo_127 a0 a1 a2 a3 rec71 l4 l5 l6 l7 (0 : Int32) m
set_option maxRecDepth 4000 in
theorem fX6_takeUpToTwo_126_ok {a0 : Nat} {a1 : Nat} {a2 : Int32} {a3 : Int32} {rec71 : Nat → Int32 → Int32 → xMem → Option xMem} {d : Nat} (hd : 2 ≤ d) (ha0 : isMover a0) (ha1 : isStation a1) (hrec71 : ∀ (l4 : Nat) (l5 : Int32) (l6 : Int32) (o7 : Option Value) (o8 : Option Value) (o9 : Option Value) (o10 : Option Value) (q7 : xNoD o7 = true) (q8 : xNoD o8 = true) (q9 : xNoD o9 = true) (q10 : xNoD o10 = true) (m : xMem) (r : xMem) (hl4 : isLink l4), rec71 l4 l5 l6 m = some r → xFx hh_158 cX6_takeUpToTwo d 71 [some (.ref a0), some (.ref a1), some (.int a2), some (.int a3), some (.ref l4), some (.int l5), some (.int l6), o7, o8, o9, o10] [] (xLay m) 0 0 none (xLay r)) {l4 : Nat} {l5 : Int32} {l6 : Int32} {l7 : Int32} {o8 : Option Value} {o9 : Option Value} {o10 : Option Value} {m : xMem} {r : xMem} (hl4 : isLink l4) (q8 : xNoD o8 = true) (q9 : xNoD o9 = true) (q10 : xNoD o10 = true) (h : fX6_takeUpToTwo_126 a0 a1 a2 a3 rec71 l4 l5 l6 l7 m = some r) : xFx hh_158 cX6_takeUpToTwo d 126 [some (.ref a0), some (.ref a1), some (.int a2), some (.int a3), some (.ref l4), some (.int l5), some (.int l6), some (.int l7), o8, o9, o10] [] (xLay m) 0 0 none (xLay r) := by
  unfold fX6_takeUpToTwo_126 at h
  refine fx_iconst (x := 0) dX6_takeUpToTwo_126 rfl (by decide) ?_
  exact fX6_takeUpToTwo_127_ok (o8 := o8) (o9 := o9) (o10 := o10) hd ha0 ha1 hrec71 hl4 q8 q9 q10 h
def fX6_takeUpToTwo_71 (a0 : Nat) (a1 : Nat) (a2 : Int32) (a3 : Int32) : Nat → Nat → Int32 → Int32 → xMem → Option xMem
  | 0, _, _, _, _ => none
  | fuel + 1, l4, l5, l6, m => if (2 : Int32) ≤ l6 then some m else (fX3_foot l4 m).bind fun p2 => (fX6_goalOfMost a0 a1 a2 p2.1 (0 : Int32) p2.2).bind fun p3 => xLet (p3.2.1 l4 10) fun x4 => if l5 = (0 : Int32) then fX6_takeUpToTwo_126 a0 a1 a2 a3 (fX6_takeUpToTwo_71 a0 a1 a2 a3 fuel) l4 l5 l6 p3.1 p3.2 else xLet (x4 + (1 : Int32)) fun x6 => xLet (a3 * x6) fun x7 => xLet (x7 / (10 : Int32)) fun x8 => xLet (a3 * x4) fun x9 => xLet (x9 / (10 : Int32)) fun x10 => if x8 ≤ x10 then fX6_takeUpToTwo_126 a0 a1 a2 a3 (fX6_takeUpToTwo_71 a0 a1 a2 a3 fuel) l4 l5 l6 p3.1 p3.2 else fX6_takeUpToTwo_127 a0 a1 a2 a3 (fX6_takeUpToTwo_71 a0 a1 a2 a3 fuel) l4 l5 l6 p3.1 (1 : Int32) p3.2
set_option maxRecDepth 4000 in
theorem fX6_takeUpToTwo_71_ok {a0 : Nat} {a1 : Nat} {a2 : Int32} {a3 : Int32} {d : Nat} (hd : 2 ≤ d) (ha0 : isMover a0) (ha1 : isStation a1) : ∀ (fuel : Nat) (l4 : Nat) (l5 : Int32) (l6 : Int32) (o7 : Option Value) (o8 : Option Value) (o9 : Option Value) (o10 : Option Value) (q7 : xNoD o7 = true) (q8 : xNoD o8 = true) (q9 : xNoD o9 = true) (q10 : xNoD o10 = true) (m : xMem) (r : xMem) (hl4 : isLink l4), fX6_takeUpToTwo_71 a0 a1 a2 a3 fuel l4 l5 l6 m = some r → xFx hh_158 cX6_takeUpToTwo d 71 [some (.ref a0), some (.ref a1), some (.int a2), some (.int a3), some (.ref l4), some (.int l5), some (.int l6), o7, o8, o9, o10] [] (xLay m) 0 0 none (xLay r) := by
  intro fuel
  induction fuel with
  | zero => intro l4 l5 l6 o7 o8 o9 o10 q7 q8 q9 q10 m r hl4 h; cases h
  | succ fuel ih =>
    intro l4 l5 l6 o7 o8 o9 o10 q7 q8 q9 q10 m r hl4 h
    unfold fX6_takeUpToTwo_71 at h
    refine fx_iload dX6_takeUpToTwo_71 rfl rfl ?_
    refine fx_iconst (x := 2) dX6_takeUpToTwo_73 rfl (by decide) ?_
    refine fx_icmp_ge (t := 221) dX6_takeUpToTwo_74 rfl rfl (fun hc1 => ?_) (fun hc1 => ?_)
    · rw [if_pos hc1] at h
      cases h
      exact fx_return dX6_takeUpToTwo_221 rfl rfl
    · rw [if_neg hc1] at h
      refine fx_aload_n dX6_takeUpToTwo_77 rfl rfl ?_
      refine fx_aload_n dX6_takeUpToTwo_78 rfl rfl ?_
      refine fx_iload_n dX6_takeUpToTwo_79 rfl rfl ?_
      refine fx_aload dX6_takeUpToTwo_80 rfl rfl ?_
      obtain ⟨p2, ep2, h⟩ := xBind_el h
      refine gx_callv (as := []) (r := [.int a2, .ref a1, .ref a0]) rfl dX6_takeUpToTwo_82 ca_6_217 rfl me_137 rfl rfl rfl rfl (hl4.1) rfl (fX3_foot_ok (d := d) (by omega) hl4 ep2) rfl rfl ?_
      refine fx_iconst (x := 0) dX6_takeUpToTwo_85 rfl (by decide) ?_
      obtain ⟨p3, ep3, h⟩ := xBind_el h
      refine gx_callv (as := [.ref a1, .int a2, .int p2.1, .int (0 : Int32)]) (r := []) rfl dX6_takeUpToTwo_86 ca_6_190 rfl me_144 rfl rfl rfl rfl (ha0.1) rfl (fX6_goalOfMost_ok (d := d) (by omega) ha0 ha1 ep3) rfl rfl ?_
      refine fx_istore (ls2 := [some (.ref a0), some (.ref a1), some (.int a2), some (.int a3), some (.ref l4), some (.int l5), some (.int l6), some (.int p3.1), o8, o9, o10]) dX6_takeUpToTwo_89 rfl rfl rfl ?_
      refine fx_aload dX6_takeUpToTwo_91 rfl rfl ?_
      obtain ⟨x4, hx4, h⟩ := xLet_el h
      refine gx_get dX6_takeUpToTwo_93 rfl fd_6_201 hl4.1 rfl rfl hx4 ?_
      refine fx_istore (ls2 := [some (.ref a0), some (.ref a1), some (.int a2), some (.int a3), some (.ref l4), some (.int l5), some (.int l6), some (.int p3.1), some (.int x4), o9, o10]) dX6_takeUpToTwo_96 rfl rfl rfl ?_
      refine fx_iload dX6_takeUpToTwo_98 rfl rfl ?_
      refine fx_if_eq (t := 126) dX6_takeUpToTwo_100 rfl rfl (fun hc5 => ?_) (fun hc5 => ?_)
      · rw [if_pos hc5] at h
        exact fX6_takeUpToTwo_126_ok (o8 := some (.int x4)) (o9 := o9) (o10 := o10) hd ha0 ha1 ih hl4 rfl q9 q10 h
      · rw [if_neg hc5] at h
        refine fx_iload_n dX6_takeUpToTwo_103 rfl rfl ?_
        refine fx_iload dX6_takeUpToTwo_104 rfl rfl ?_
        refine fx_iconst (x := 1) dX6_takeUpToTwo_106 rfl (by decide) ?_
        obtain ⟨x6, hx6, h⟩ := xLet_el h
        refine fx_iadd dX6_takeUpToTwo_107 rfl hx6 ?_
        obtain ⟨x7, hx7, h⟩ := xLet_el h
        refine fx_imul dX6_takeUpToTwo_108 rfl hx7 ?_
        refine fx_bipush (x := 10) dX6_takeUpToTwo_109 rfl (by decide) ?_
        obtain ⟨x8, hx8, h⟩ := xLet_el h
        refine fx_idiv dX6_takeUpToTwo_111 rfl (by decide) hx8 ?_
        refine fx_iload_n dX6_takeUpToTwo_112 rfl rfl ?_
        refine fx_iload dX6_takeUpToTwo_113 rfl rfl ?_
        obtain ⟨x9, hx9, h⟩ := xLet_el h
        refine fx_imul dX6_takeUpToTwo_115 rfl hx9 ?_
        refine fx_bipush (x := 10) dX6_takeUpToTwo_116 rfl (by decide) ?_
        obtain ⟨x10, hx10, h⟩ := xLet_el h
        refine fx_idiv dX6_takeUpToTwo_118 rfl (by decide) hx10 ?_
        refine fx_icmp_le (t := 126) dX6_takeUpToTwo_119 rfl rfl (fun hc11 => ?_) (fun hc11 => ?_)
        · rw [if_pos hc11] at h
          exact fX6_takeUpToTwo_126_ok (o8 := some (.int x4)) (o9 := o9) (o10 := o10) hd ha0 ha1 ih hl4 rfl q9 q10 h
        · rw [if_neg hc11] at h
          refine fx_iconst (x := 1) dX6_takeUpToTwo_122 rfl (by decide) ?_
          refine fx_goto (t := 127) dX6_takeUpToTwo_123 rfl rfl ?_
          exact fX6_takeUpToTwo_127_ok (o8 := some (.int x4)) (o9 := o9) (o10 := o10) hd ha0 ha1 ih hl4 rfl q9 q10 h
def fX6_takeUpToTwo_66 (a0 : Nat) (a1 : Nat) (a2 : Int32) (a3 : Int32) (l4 : Nat) (s0 : Int32) (m : xMem) : Option xMem := fX6_takeUpToTwo_71 a0 a1 a2 a3 xFuel l4 s0 (0 : Int32) m
set_option maxRecDepth 4000 in
theorem fX6_takeUpToTwo_66_ok {a0 : Nat} {a1 : Nat} {a2 : Int32} {a3 : Int32} {d : Nat} (hd : 2 ≤ d) (ha0 : isMover a0) (ha1 : isStation a1) {l4 : Nat} {s0 : Int32} {o5 : Option Value} {o6 : Option Value} {o7 : Option Value} {o8 : Option Value} {o9 : Option Value} {o10 : Option Value} {m : xMem} {r : xMem} (hl4 : isLink l4) (q5 : xNoD o5 = true) (q6 : xNoD o6 = true) (q7 : xNoD o7 = true) (q8 : xNoD o8 = true) (q9 : xNoD o9 = true) (q10 : xNoD o10 = true) (h : fX6_takeUpToTwo_66 a0 a1 a2 a3 l4 s0 m = some r) : xFx hh_158 cX6_takeUpToTwo d 66 [some (.ref a0), some (.ref a1), some (.int a2), some (.int a3), some (.ref l4), o5, o6, o7, o8, o9, o10] [.int s0] (xLay m) 0 0 none (xLay r) := by
  unfold fX6_takeUpToTwo_66 at h
  refine fx_istore (ls2 := [some (.ref a0), some (.ref a1), some (.int a2), some (.int a3), some (.ref l4), some (.int s0), o6, o7, o8, o9, o10]) dX6_takeUpToTwo_66 rfl rfl rfl ?_
  refine fx_iconst (x := 0) dX6_takeUpToTwo_68 rfl (by decide) ?_
  refine fx_istore (ls2 := [some (.ref a0), some (.ref a1), some (.int a2), some (.int a3), some (.ref l4), some (.int s0), some (.int (0 : Int32)), o7, o8, o9, o10]) dX6_takeUpToTwo_69 rfl rfl rfl ?_
  exact fX6_takeUpToTwo_71_ok hd ha0 ha1 xFuel l4 s0 (0 : Int32) (o7) (o8) (o9) (o10) q7 q8 q9 q10 m r hl4 h
def fX6_takeUpToTwo_65 (a0 : Nat) (a1 : Nat) (a2 : Int32) (a3 : Int32) (l4 : Nat) (m : xMem) : Option xMem := fX6_takeUpToTwo_66 a0 a1 a2 a3 l4 (0 : Int32) m
set_option maxRecDepth 4000 in
theorem fX6_takeUpToTwo_65_ok {a0 : Nat} {a1 : Nat} {a2 : Int32} {a3 : Int32} {d : Nat} (hd : 2 ≤ d) (ha0 : isMover a0) (ha1 : isStation a1) {l4 : Nat} {o5 : Option Value} {o6 : Option Value} {o7 : Option Value} {o8 : Option Value} {o9 : Option Value} {o10 : Option Value} {m : xMem} {r : xMem} (hl4 : isLink l4) (q5 : xNoD o5 = true) (q6 : xNoD o6 = true) (q7 : xNoD o7 = true) (q8 : xNoD o8 = true) (q9 : xNoD o9 = true) (q10 : xNoD o10 = true) (h : fX6_takeUpToTwo_65 a0 a1 a2 a3 l4 m = some r) : xFx hh_158 cX6_takeUpToTwo d 65 [some (.ref a0), some (.ref a1), some (.int a2), some (.int a3), some (.ref l4), o5, o6, o7, o8, o9, o10] [] (xLay m) 0 0 none (xLay r) := by
  unfold fX6_takeUpToTwo_65 at h
  refine fx_iconst (x := 0) dX6_takeUpToTwo_65 rfl (by decide) ?_
  exact fX6_takeUpToTwo_66_ok (o5 := o5) (o6 := o6) (o7 := o7) (o8 := o8) (o9 := o9) (o10 := o10) hd ha0 ha1 hl4 q5 q6 q7 q8 q9 q10 h
def fX6_takeUpToTwo_0 (a0 : Nat) (a1 : Nat) (a2 : Int32) (a3 : Int32) (m : xMem) : Option xMem := (fX9_hasStepped a1 a2 m).bind fun p1 => if p1.1 = (0 : Int32) then fX6_takeUpToTwo_36 a0 a1 a2 a3 p1.2 else bif xIn a2 10 then xLet (a1 + 33 + 2 * a2.toNatClampNeg) fun r4 => (fX3_takesNow r4 p1.2).bind fun p5 => if p5.1 = (0 : Int32) then fX6_takeUpToTwo_36 a0 a1 a2 a3 p5.2 else bif xIn a2 10 then xLet (a1 + 33 + 2 * a2.toNatClampNeg) fun r8 => (fX3_foot r8 p5.2).bind fun p9 => (fX9_hasHall a1 p9.1 p9.2).bind fun p10 => if ¬ p10.1 = (0 : Int32) then bif xIn a2 10 then xLet (a1 + 33 + 2 * a2.toNatClampNeg) fun r13 => xLet (p10.2.1 r13 1) fun x14 => if ¬ x14 = (0 : Int32) then fX6_takeUpToTwo_65 a0 a1 a2 a3 r13 p10.2 else xLet (p10.2.1 r13 8) fun x16 => if ¬ x16 = (0 : Int32) then fX6_takeUpToTwo_65 a0 a1 a2 a3 r13 p10.2 else fX6_takeUpToTwo_66 a0 a1 a2 a3 r13 (1 : Int32) p10.2 else none else fX6_takeUpToTwo_36 a0 a1 a2 a3 p10.2 else none else none
set_option maxRecDepth 4000 in
theorem fX6_takeUpToTwo_0_ok {a0 : Nat} {a1 : Nat} {a2 : Int32} {a3 : Int32} {d : Nat} (hd : 2 ≤ d) (ha0 : isMover a0) (ha1 : isStation a1) {o4 : Option Value} {o5 : Option Value} {o6 : Option Value} {o7 : Option Value} {o8 : Option Value} {o9 : Option Value} {o10 : Option Value} {m : xMem} {r : xMem} (q4 : xNoD o4 = true) (q5 : xNoD o5 = true) (q6 : xNoD o6 = true) (q7 : xNoD o7 = true) (q8 : xNoD o8 = true) (q9 : xNoD o9 = true) (q10 : xNoD o10 = true) (h : fX6_takeUpToTwo_0 a0 a1 a2 a3 m = some r) : xFx hh_158 cX6_takeUpToTwo d 0 [some (.ref a0), some (.ref a1), some (.int a2), some (.int a3), o4, o5, o6, o7, o8, o9, o10] [] (xLay m) 0 0 none (xLay r) := by
  unfold fX6_takeUpToTwo_0 at h
  refine fx_aload_n dX6_takeUpToTwo_0 rfl rfl ?_
  refine fx_iload_n dX6_takeUpToTwo_1 rfl rfl ?_
  obtain ⟨p1, ep1, h⟩ := xBind_el h
  refine gx_callv (as := [.int a2]) (r := []) rfl dX6_takeUpToTwo_2 ca_6_254 rfl me_28 rfl rfl rfl rfl (ha1.1) rfl (fX9_hasStepped_ok (d := d) (by omega) ha1 ep1) rfl rfl ?_
  refine fx_if_eq (t := 36) dX6_takeUpToTwo_5 rfl rfl (fun hc2 => ?_) (fun hc2 => ?_)
  · rw [if_pos hc2] at h
    exact fX6_takeUpToTwo_36_ok (o4 := o4) (o5 := o5) (o6 := o6) (o7 := o7) (o8 := o8) (o9 := o9) (o10 := o10) hd ha0 ha1 q4 q5 q6 q7 q8 q9 q10 h
  · rw [if_neg hc2] at h
    refine fx_aload_n dX6_takeUpToTwo_8 rfl rfl ?_
    refine gx_getr dX6_takeUpToTwo_9 rfl fd_6_144 ha1.1 rfl rfl ?_
    refine fx_iload_n dX6_takeUpToTwo_12 rfl rfl ?_
    obtain ⟨hj3, h⟩ := xChk_el h
    obtain ⟨r4, hr4, h⟩ := xLet_el h
    refine gx_aaload (t := 5) dX6_takeUpToTwo_13 rfl ha1.2.2.1 rfl hj3 ((xRef_at (sl_9_1 a1) hj3).trans (congrArg some hr4)) ?_
    have hpr4 : isLink r4 := by rw [← hr4]; exact ha1.2.2.2.2.2.2.2.2.1 _ (xIn_lt hj3)
    obtain ⟨p5, ep5, h⟩ := xBind_el h
    refine gx_callv (as := []) (r := []) rfl dX6_takeUpToTwo_14 ca_6_257 rfl me_134 rfl rfl rfl rfl (hpr4.1) rfl (fX3_takesNow_ok (d := d) (by omega) hpr4 ep5) rfl rfl ?_
    refine fx_if_eq (t := 36) dX6_takeUpToTwo_17 rfl rfl (fun hc6 => ?_) (fun hc6 => ?_)
    · rw [if_pos hc6] at h
      exact fX6_takeUpToTwo_36_ok (o4 := o4) (o5 := o5) (o6 := o6) (o7 := o7) (o8 := o8) (o9 := o9) (o10 := o10) hd ha0 ha1 q4 q5 q6 q7 q8 q9 q10 h
    · rw [if_neg hc6] at h
      refine fx_aload_n dX6_takeUpToTwo_20 rfl rfl ?_
      refine fx_aload_n dX6_takeUpToTwo_21 rfl rfl ?_
      refine gx_getr dX6_takeUpToTwo_22 rfl fd_6_144 ha1.1 rfl rfl ?_
      refine fx_iload_n dX6_takeUpToTwo_25 rfl rfl ?_
      obtain ⟨hj7, h⟩ := xChk_el h
      obtain ⟨r8, hr8, h⟩ := xLet_el h
      refine gx_aaload (t := 5) dX6_takeUpToTwo_26 rfl ha1.2.2.1 rfl hj7 ((xRef_at (sl_9_1 a1) hj7).trans (congrArg some hr8)) ?_
      have hpr8 : isLink r8 := by rw [← hr8]; exact ha1.2.2.2.2.2.2.2.2.1 _ (xIn_lt hj7)
      obtain ⟨p9, ep9, h⟩ := xBind_el h
      refine gx_callv (as := []) (r := [.ref a1]) rfl dX6_takeUpToTwo_27 ca_6_217 rfl me_137 rfl rfl rfl rfl (hpr8.1) rfl (fX3_foot_ok (d := d) (by omega) hpr8 ep9) rfl rfl ?_
      obtain ⟨p10, ep10, h⟩ := xBind_el h
      refine gx_callv (as := [.int p9.1]) (r := []) rfl dX6_takeUpToTwo_30 ca_6_69 rfl me_20 rfl rfl rfl rfl (ha1.1) rfl (fX9_hasHall_ok (d := d) (by omega) ha1 ep10) rfl rfl ?_
      refine fx_if_ne (t := 37) dX6_takeUpToTwo_33 rfl rfl (fun hc11 => ?_) (fun hc11 => ?_)
      · rw [if_pos hc11] at h
        refine fx_aload_n dX6_takeUpToTwo_37 rfl rfl ?_
        refine gx_getr dX6_takeUpToTwo_38 rfl fd_6_144 ha1.1 rfl rfl ?_
        refine fx_iload_n dX6_takeUpToTwo_41 rfl rfl ?_
        obtain ⟨hj12, h⟩ := xChk_el h
        obtain ⟨r13, hr13, h⟩ := xLet_el h
        refine gx_aaload (t := 5) dX6_takeUpToTwo_42 rfl ha1.2.2.1 rfl hj12 ((xRef_at (sl_9_1 a1) hj12).trans (congrArg some hr13)) ?_
        have hpr13 : isLink r13 := by rw [← hr13]; exact ha1.2.2.2.2.2.2.2.2.1 _ (xIn_lt hj12)
        refine fx_astore (ls2 := [some (.ref a0), some (.ref a1), some (.int a2), some (.int a3), some (.ref r13), o5, o6, o7, o8, o9, o10]) dX6_takeUpToTwo_43 rfl rfl rfl ?_
        refine fx_aload dX6_takeUpToTwo_45 rfl rfl ?_
        obtain ⟨x14, hx14, h⟩ := xLet_el h
        refine gx_get dX6_takeUpToTwo_47 rfl fd_6_157 hpr13.1 rfl rfl hx14 ?_
        refine fx_if_ne (t := 65) dX6_takeUpToTwo_50 rfl rfl (fun hc15 => ?_) (fun hc15 => ?_)
        · rw [if_pos hc15] at h
          exact fX6_takeUpToTwo_65_ok (o5 := o5) (o6 := o6) (o7 := o7) (o8 := o8) (o9 := o9) (o10 := o10) hd ha0 ha1 hpr13 q5 q6 q7 q8 q9 q10 h
        · rw [if_neg hc15] at h
          refine fx_aload dX6_takeUpToTwo_53 rfl rfl ?_
          obtain ⟨x16, hx16, h⟩ := xLet_el h
          refine gx_get dX6_takeUpToTwo_55 rfl fd_6_214 hpr13.1 rfl rfl hx16 ?_
          refine fx_if_ne (t := 65) dX6_takeUpToTwo_58 rfl rfl (fun hc17 => ?_) (fun hc17 => ?_)
          · rw [if_pos hc17] at h
            exact fX6_takeUpToTwo_65_ok (o5 := o5) (o6 := o6) (o7 := o7) (o8 := o8) (o9 := o9) (o10 := o10) hd ha0 ha1 hpr13 q5 q6 q7 q8 q9 q10 h
          · rw [if_neg hc17] at h
            refine fx_iconst (x := 1) dX6_takeUpToTwo_61 rfl (by decide) ?_
            refine fx_goto (t := 66) dX6_takeUpToTwo_62 rfl rfl ?_
            exact fX6_takeUpToTwo_66_ok (o5 := o5) (o6 := o6) (o7 := o7) (o8 := o8) (o9 := o9) (o10 := o10) hd ha0 ha1 hpr13 q5 q6 q7 q8 q9 q10 h
      · rw [if_neg hc11] at h
        exact fX6_takeUpToTwo_36_ok (o4 := o4) (o5 := o5) (o6 := o6) (o7 := o7) (o8 := o8) (o9 := o9) (o10 := o10) hd ha0 ha1 q4 q5 q6 q7 q8 q9 q10 h
def fX6_takeUpToTwo (a0 : Nat) (a1 : Nat) (a2 : Int32) (a3 : Int32) (m : xMem) : Option xMem := fX6_takeUpToTwo_0 a0 a1 a2 a3  m
theorem fX6_takeUpToTwo_ok {a0 : Nat} {a1 : Nat} {a2 : Int32} {a3 : Int32} {m : xMem} {r : xMem} {d : Nat} (hd : 3 ≤ d) (ha0 : isMover a0) (ha1 : isStation a1) (h : fX6_takeUpToTwo a0 a1 a2 a3 m = some r) : xEx d 158 [.ref a0, .ref a1, .int a2, .int a3] (xLay m) none (xLay r) := by
  obtain ⟨d, rfl⟩ : ∃ q, d = q + 1 := ⟨d - 1, by omega⟩
  exact xEx_of me_158 rfl (fX6_takeUpToTwo_0_ok (d := d) (o4 := none) (o5 := none) (o6 := none) (o7 := none) (o8 := none) (o9 := none) (o10 := none) (by omega) ha0 ha1 rfl rfl rfl rfl rfl rfl rfl h)
def fX6_moveLinks_144 (a0 : Nat) (a1 : Nat) (a2 : Nat) (rec2 : Int32 → xMem → Option xMem) (l3 : Int32) (m : xMem) : Option xMem := xLet (l3 + (1 : Int32)) fun x1 => rec2 x1 m
set_option maxRecDepth 4000 in
theorem fX6_moveLinks_144_ok {a0 : Nat} {a1 : Nat} {a2 : Nat} {rec2 : Int32 → xMem → Option xMem} {d : Nat} (hd : 4 ≤ d) (ha0 : isMover a0) (ha1 : isStation a1) (ha2 : isText a2) (hrec2 : ∀ (l3 : Int32) (o4 : Option Value) (o5 : Option Value) (q4 : xNoD o4 = true) (q5 : xNoD o5 = true) (m : xMem) (r : xMem), rec2 l3 m = some r → xFx hh_142 cX6_moveLinks d 2 [some (.ref a0), some (.ref a1), some (.ref a2), some (.int l3), o4, o5] [] (xLay m) 0 0 none (xLay r)) {l3 : Int32} {o4 : Option Value} {o5 : Option Value} {m : xMem} {r : xMem} (q4 : xNoD o4 = true) (q5 : xNoD o5 = true) (h : fX6_moveLinks_144 a0 a1 a2 rec2 l3 m = some r) : xFx hh_142 cX6_moveLinks d 144 [some (.ref a0), some (.ref a1), some (.ref a2), some (.int l3), o4, o5] [] (xLay m) 0 0 none (xLay r) := by
  unfold fX6_moveLinks_144 at h
  obtain ⟨x1, hx1, h⟩ := xLet_el h
  refine fx_iinc (ls2 := [some (.ref a0), some (.ref a1), some (.ref a2), some (.int x1), o4, o5]) dX6_moveLinks_144 rfl rfl rfl hx1 rfl ?_
  refine fx_goto (t := 2) dX6_moveLinks_147 rfl rfl ?_
  exact hrec2 x1 (o4) (o5) q4 q5 m r h
def fX6_moveLinks_136 (a0 : Nat) (a1 : Nat) (a2 : Nat) (rec2 : Int32 → xMem → Option xMem) (l3 : Int32) (l5 : Int32) (m : xMem) : Option xMem := (fX6_takeUpToTwo a0 a1 l3 l5 m).bind fun p1 => fX6_moveLinks_144 a0 a1 a2 rec2 l3 p1
set_option maxRecDepth 4000 in
theorem fX6_moveLinks_136_ok {a0 : Nat} {a1 : Nat} {a2 : Nat} {rec2 : Int32 → xMem → Option xMem} {d : Nat} (hd : 4 ≤ d) (ha0 : isMover a0) (ha1 : isStation a1) (ha2 : isText a2) (hrec2 : ∀ (l3 : Int32) (o4 : Option Value) (o5 : Option Value) (q4 : xNoD o4 = true) (q5 : xNoD o5 = true) (m : xMem) (r : xMem), rec2 l3 m = some r → xFx hh_142 cX6_moveLinks d 2 [some (.ref a0), some (.ref a1), some (.ref a2), some (.int l3), o4, o5] [] (xLay m) 0 0 none (xLay r)) {l3 : Int32} {l5 : Int32} {o4 : Option Value} {m : xMem} {r : xMem} (q4 : xNoD o4 = true) (h : fX6_moveLinks_136 a0 a1 a2 rec2 l3 l5 m = some r) : xFx hh_142 cX6_moveLinks d 136 [some (.ref a0), some (.ref a1), some (.ref a2), some (.int l3), o4, some (.int l5)] [] (xLay m) 0 0 none (xLay r) := by
  unfold fX6_moveLinks_136 at h
  refine fx_aload_n dX6_moveLinks_136 rfl rfl ?_
  refine fx_aload_n dX6_moveLinks_137 rfl rfl ?_
  refine fx_iload_n dX6_moveLinks_138 rfl rfl ?_
  refine fx_iload dX6_moveLinks_139 rfl rfl ?_
  obtain ⟨p1, ep1, h⟩ := xBind_el h
  refine gx_callv (as := [.ref a1, .int l3, .int l5]) (r := []) rfl dX6_moveLinks_141 ca_6_182 rfl me_158 rfl rfl rfl rfl (ha0.1) rfl (fX6_takeUpToTwo_ok (d := d) (by omega) ha0 ha1 ep1) rfl rfl ?_
  exact fX6_moveLinks_144_ok (o4 := o4) (o5 := some (.int l5)) hd ha0 ha1 ha2 hrec2 q4 rfl h
def fX6_moveLinks_150 (a0 : Nat) (a1 : Nat) (a2 : Nat) (m : xMem) : Option xMem := some m
set_option maxRecDepth 4000 in
theorem fX6_moveLinks_150_ok {a0 : Nat} {a1 : Nat} {a2 : Nat} {d : Nat} (hd : 4 ≤ d) (ha0 : isMover a0) (ha1 : isStation a1) (ha2 : isText a2) {o3 : Option Value} {o4 : Option Value} {o5 : Option Value} {m : xMem} {r : xMem} (q3 : xNoD o3 = true) (q4 : xNoD o4 = true) (q5 : xNoD o5 = true) (h : fX6_moveLinks_150 a0 a1 a2 m = some r) : xFx hh_142 cX6_moveLinks d 150 [some (.ref a0), some (.ref a1), some (.ref a2), o3, o4, o5] [] (xLay m) 0 0 none (xLay r) := by
  unfold fX6_moveLinks_150 at h
  cases h
  exact fx_return dX6_moveLinks_150 rfl rfl
def fX6_moveLinks_2 (a0 : Nat) (a1 : Nat) (a2 : Nat) : Nat → Int32 → xMem → Option xMem
  | 0, _, _ => none
  | fuel + 1, l3, m => xLet (m.1 a1 8) fun x1 => if x1 ≤ l3 then fX6_moveLinks_150 a0 a1 a2 m else if (10 : Int32) ≤ l3 then fX6_moveLinks_150 a0 a1 a2 m else bif xIn l3 10 then xLet (a1 + 33 + 2 * l3.toNatClampNeg) fun r5 => xLet (m.1 r5 1) fun x6 => if ¬ x6 = (2 : Int32) then (fX6_walkOf a0 a1 a2 r5 m).bind fun p8 => xLet (p8.2.1 r5 1) fun x9 => if ¬ x9 = (0 : Int32) then xLet (p8.2.1 a1 6) fun x11 => xLet (xRem x11 (2 : Int32)) fun x12 => if ¬ x12 = (0 : Int32) then fX6_moveLinks_136 a0 a1 a2 (fX6_moveLinks_2 a0 a1 a2 fuel) l3 p8.1 p8.2 else (fX6_moveFixed a0 a1 r5 p8.2).bind fun p14 => fX6_moveLinks_136 a0 a1 a2 (fX6_moveLinks_2 a0 a1 a2 fuel) l3 p8.1 p14 else (fX6_moveStair a0 a1 r5 p8.2).bind fun p15 => fX6_moveLinks_136 a0 a1 a2 (fX6_moveLinks_2 a0 a1 a2 fuel) l3 p8.1 p15 else xLet (m.1 r5 5) fun x16 => if x16 ≤ (0 : Int32) then fX6_moveLinks_144 a0 a1 a2 (fX6_moveLinks_2 a0 a1 a2 fuel) l3 m else xLet (m.1 a1 6) fun x18 => xLet (m.1 r5 5) fun x19 => bif !decide (x19 = 0) then xLet (xRem x18 x19) fun x20 => if ¬ x20 = (0 : Int32) then fX6_moveLinks_144 a0 a1 a2 (fX6_moveLinks_2 a0 a1 a2 fuel) l3 m else xLet (m.1 r5 2) fun x23 => xLet (m.1 r5 3) fun x24 => (fX6_lift a0 a1 l3 x23 x24 m).bind fun p25 => xLet (p25.1 r5 3) fun x26 => xLet (p25.1 r5 2) fun x27 => (fX6_lift a0 a1 l3 x26 x27 p25).bind fun p28 => fX6_moveLinks_144 a0 a1 a2 (fX6_moveLinks_2 a0 a1 a2 fuel) l3 p28 else none else none
set_option maxRecDepth 4000 in
theorem fX6_moveLinks_2_ok {a0 : Nat} {a1 : Nat} {a2 : Nat} {d : Nat} (hd : 4 ≤ d) (ha0 : isMover a0) (ha1 : isStation a1) (ha2 : isText a2) : ∀ (fuel : Nat) (l3 : Int32) (o4 : Option Value) (o5 : Option Value) (q4 : xNoD o4 = true) (q5 : xNoD o5 = true) (m : xMem) (r : xMem), fX6_moveLinks_2 a0 a1 a2 fuel l3 m = some r → xFx hh_142 cX6_moveLinks d 2 [some (.ref a0), some (.ref a1), some (.ref a2), some (.int l3), o4, o5] [] (xLay m) 0 0 none (xLay r) := by
  intro fuel
  induction fuel with
  | zero => intro l3 o4 o5 q4 q5 m r  h; cases h
  | succ fuel ih =>
    intro l3 o4 o5 q4 q5 m r  h
    unfold fX6_moveLinks_2 at h
    refine fx_iload_n dX6_moveLinks_2 rfl rfl ?_
    refine fx_aload_n dX6_moveLinks_3 rfl rfl ?_
    obtain ⟨x1, hx1, h⟩ := xLet_el h
    refine gx_get dX6_moveLinks_4 rfl fd_6_141 ha1.1 rfl rfl hx1 ?_
    refine fx_icmp_ge (t := 150) dX6_moveLinks_7 rfl rfl (fun hc2 => ?_) (fun hc2 => ?_)
    · rw [if_pos hc2] at h
      exact fX6_moveLinks_150_ok (o3 := some (.int l3)) (o4 := o4) (o5 := o5) hd ha0 ha1 ha2 rfl q4 q5 h
    · rw [if_neg hc2] at h
      refine fx_iload_n dX6_moveLinks_10 rfl rfl ?_
      refine fx_aload_n dX6_moveLinks_11 rfl rfl ?_
      refine gx_getr dX6_moveLinks_12 rfl fd_6_144 ha1.1 rfl rfl ?_
      refine gx_alen (t := 5) (y := 10) dX6_moveLinks_15 rfl ha1.2.2.1 rfl (by decide) ?_
      refine fx_icmp_ge (t := 150) dX6_moveLinks_16 rfl rfl (fun hc3 => ?_) (fun hc3 => ?_)
      · rw [if_pos hc3] at h
        exact fX6_moveLinks_150_ok (o3 := some (.int l3)) (o4 := o4) (o5 := o5) hd ha0 ha1 ha2 rfl q4 q5 h
      · rw [if_neg hc3] at h
        refine fx_aload_n dX6_moveLinks_19 rfl rfl ?_
        refine gx_getr dX6_moveLinks_20 rfl fd_6_144 ha1.1 rfl rfl ?_
        refine fx_iload_n dX6_moveLinks_23 rfl rfl ?_
        obtain ⟨hj4, h⟩ := xChk_el h
        obtain ⟨r5, hr5, h⟩ := xLet_el h
        refine gx_aaload (t := 5) dX6_moveLinks_24 rfl ha1.2.2.1 rfl hj4 ((xRef_at (sl_9_1 a1) hj4).trans (congrArg some hr5)) ?_
        have hpr5 : isLink r5 := by rw [← hr5]; exact ha1.2.2.2.2.2.2.2.2.1 _ (xIn_lt hj4)
        refine fx_astore (ls2 := [some (.ref a0), some (.ref a1), some (.ref a2), some (.int l3), some (.ref r5), o5]) dX6_moveLinks_25 rfl rfl rfl ?_
        refine fx_aload dX6_moveLinks_27 rfl rfl ?_
        obtain ⟨x6, hx6, h⟩ := xLet_el h
        refine gx_get dX6_moveLinks_29 rfl fd_6_157 hpr5.1 rfl rfl hx6 ?_
        refine fx_iconst (x := 2) dX6_moveLinks_32 rfl (by decide) ?_
        refine fx_icmp_ne (t := 92) dX6_moveLinks_33 rfl rfl (fun hc7 => ?_) (fun hc7 => ?_)
        · rw [if_pos hc7] at h
          refine fx_aload_n dX6_moveLinks_92 rfl rfl ?_
          refine fx_aload_n dX6_moveLinks_93 rfl rfl ?_
          refine fx_aload_n dX6_moveLinks_94 rfl rfl ?_
          refine fx_aload dX6_moveLinks_95 rfl rfl ?_
          obtain ⟨p8, ep8, h⟩ := xBind_el h
          refine gx_callv (as := [.ref a1, .ref a2, .ref r5]) (r := []) rfl dX6_moveLinks_97 ca_6_171 rfl me_148 rfl rfl rfl rfl (ha0.1) rfl (fX6_walkOf_ok (d := d) (by omega) ha0 ha1 ha2 hpr5 ep8) rfl rfl ?_
          refine fx_istore (ls2 := [some (.ref a0), some (.ref a1), some (.ref a2), some (.int l3), some (.ref r5), some (.int p8.1)]) dX6_moveLinks_100 rfl rfl rfl ?_
          refine fx_aload dX6_moveLinks_102 rfl rfl ?_
          obtain ⟨x9, hx9, h⟩ := xLet_el h
          refine gx_get dX6_moveLinks_104 rfl fd_6_157 hpr5.1 rfl rfl hx9 ?_
          refine fx_if_ne (t := 120) dX6_moveLinks_107 rfl rfl (fun hc10 => ?_) (fun hc10 => ?_)
          · rw [if_pos hc10] at h
            refine fx_aload_n dX6_moveLinks_120 rfl rfl ?_
            obtain ⟨x11, hx11, h⟩ := xLet_el h
            refine gx_get dX6_moveLinks_121 rfl fd_6_47 ha1.1 rfl rfl hx11 ?_
            refine fx_iconst (x := 2) dX6_moveLinks_124 rfl (by decide) ?_
            obtain ⟨x12, hx12, h⟩ := xLet_el h
            refine fx_irem dX6_moveLinks_125 rfl (by decide) hx12 ?_
            refine fx_if_ne (t := 136) dX6_moveLinks_126 rfl rfl (fun hc13 => ?_) (fun hc13 => ?_)
            · rw [if_pos hc13] at h
              exact fX6_moveLinks_136_ok (o4 := some (.ref r5)) hd ha0 ha1 ha2 ih rfl h
            · rw [if_neg hc13] at h
              refine fx_aload_n dX6_moveLinks_129 rfl rfl ?_
              refine fx_aload_n dX6_moveLinks_130 rfl rfl ?_
              refine fx_aload dX6_moveLinks_131 rfl rfl ?_
              obtain ⟨p14, ep14, h⟩ := xBind_el h
              refine gx_callv (as := [.ref a1, .ref r5]) (r := []) rfl dX6_moveLinks_133 ca_6_179 rfl me_157 rfl rfl rfl rfl (ha0.1) rfl (fX6_moveFixed_ok (d := d) (by omega) ha0 ha1 hpr5 ep14) rfl rfl ?_
              exact fX6_moveLinks_136_ok (o4 := some (.ref r5)) hd ha0 ha1 ha2 ih rfl h
          · rw [if_neg hc10] at h
            refine fx_aload_n dX6_moveLinks_110 rfl rfl ?_
            refine fx_aload_n dX6_moveLinks_111 rfl rfl ?_
            refine fx_aload dX6_moveLinks_112 rfl rfl ?_
            obtain ⟨p15, ep15, h⟩ := xBind_el h
            refine gx_callv (as := [.ref a1, .ref r5]) (r := []) rfl dX6_moveLinks_114 ca_6_175 rfl me_150 rfl rfl rfl rfl (ha0.1) rfl (fX6_moveStair_ok (d := d) (by omega) ha0 ha1 hpr5 ep15) rfl rfl ?_
            refine fx_goto (t := 136) dX6_moveLinks_117 rfl rfl ?_
            exact fX6_moveLinks_136_ok (o4 := some (.ref r5)) hd ha0 ha1 ha2 ih rfl h
        · rw [if_neg hc7] at h
          refine fx_aload dX6_moveLinks_36 rfl rfl ?_
          obtain ⟨x16, hx16, h⟩ := xLet_el h
          refine gx_get dX6_moveLinks_38 rfl fd_6_158 hpr5.1 rfl rfl hx16 ?_
          refine fx_if_le (t := 144) dX6_moveLinks_41 rfl rfl (fun hc17 => ?_) (fun hc17 => ?_)
          · rw [if_pos hc17] at h
            exact fX6_moveLinks_144_ok (o4 := some (.ref r5)) (o5 := o5) hd ha0 ha1 ha2 ih rfl q5 h
          · rw [if_neg hc17] at h
            refine fx_aload_n dX6_moveLinks_44 rfl rfl ?_
            obtain ⟨x18, hx18, h⟩ := xLet_el h
            refine gx_get dX6_moveLinks_45 rfl fd_6_47 ha1.1 rfl rfl hx18 ?_
            refine fx_aload dX6_moveLinks_48 rfl rfl ?_
            obtain ⟨x19, hx19, h⟩ := xLet_el h
            refine gx_get dX6_moveLinks_50 rfl fd_6_158 hpr5.1 rfl rfl hx19 ?_
            obtain ⟨hz21, h⟩ := xChk_el h
            obtain ⟨x20, hx20, h⟩ := xLet_el h
            refine fx_irem dX6_moveLinks_53 rfl (by simpa using hz21) hx20 ?_
            refine fx_if_ne (t := 144) dX6_moveLinks_54 rfl rfl (fun hc22 => ?_) (fun hc22 => ?_)
            · rw [if_pos hc22] at h
              exact fX6_moveLinks_144_ok (o4 := some (.ref r5)) (o5 := o5) hd ha0 ha1 ha2 ih rfl q5 h
            · rw [if_neg hc22] at h
              refine fx_aload_n dX6_moveLinks_57 rfl rfl ?_
              refine fx_aload_n dX6_moveLinks_58 rfl rfl ?_
              refine fx_iload_n dX6_moveLinks_59 rfl rfl ?_
              refine fx_aload dX6_moveLinks_60 rfl rfl ?_
              obtain ⟨x23, hx23, h⟩ := xLet_el h
              refine gx_get dX6_moveLinks_62 rfl fd_6_161 hpr5.1 rfl rfl hx23 ?_
              refine fx_aload dX6_moveLinks_65 rfl rfl ?_
              obtain ⟨x24, hx24, h⟩ := xLet_el h
              refine gx_get dX6_moveLinks_67 rfl fd_6_164 hpr5.1 rfl rfl hx24 ?_
              obtain ⟨p25, ep25, h⟩ := xBind_el h
              refine gx_callv (as := [.ref a1, .int l3, .int x23, .int x24]) (r := []) rfl dX6_moveLinks_70 ca_6_167 rfl me_143 rfl rfl rfl rfl (ha0.1) rfl (fX6_lift_ok (d := d) (by omega) ha0 ha1 ep25) rfl rfl ?_
              refine fx_aload_n dX6_moveLinks_73 rfl rfl ?_
              refine fx_aload_n dX6_moveLinks_74 rfl rfl ?_
              refine fx_iload_n dX6_moveLinks_75 rfl rfl ?_
              refine fx_aload dX6_moveLinks_76 rfl rfl ?_
              obtain ⟨x26, hx26, h⟩ := xLet_el h
              refine gx_get dX6_moveLinks_78 rfl fd_6_164 hpr5.1 rfl rfl hx26 ?_
              refine fx_aload dX6_moveLinks_81 rfl rfl ?_
              obtain ⟨x27, hx27, h⟩ := xLet_el h
              refine gx_get dX6_moveLinks_83 rfl fd_6_161 hpr5.1 rfl rfl hx27 ?_
              obtain ⟨p28, ep28, h⟩ := xBind_el h
              refine gx_callv (as := [.ref a1, .int l3, .int x26, .int x27]) (r := []) rfl dX6_moveLinks_86 ca_6_167 rfl me_143 rfl rfl rfl rfl (ha0.1) rfl (fX6_lift_ok (d := d) (by omega) ha0 ha1 ep28) rfl rfl ?_
              refine fx_goto (t := 144) dX6_moveLinks_89 rfl rfl ?_
              exact fX6_moveLinks_144_ok (o4 := some (.ref r5)) (o5 := o5) hd ha0 ha1 ha2 ih rfl q5 h
def fX6_moveLinks_0 (a0 : Nat) (a1 : Nat) (a2 : Nat) (m : xMem) : Option xMem := fX6_moveLinks_2 a0 a1 a2 xFuel (0 : Int32) m
set_option maxRecDepth 4000 in
theorem fX6_moveLinks_0_ok {a0 : Nat} {a1 : Nat} {a2 : Nat} {d : Nat} (hd : 4 ≤ d) (ha0 : isMover a0) (ha1 : isStation a1) (ha2 : isText a2) {o3 : Option Value} {o4 : Option Value} {o5 : Option Value} {m : xMem} {r : xMem} (q3 : xNoD o3 = true) (q4 : xNoD o4 = true) (q5 : xNoD o5 = true) (h : fX6_moveLinks_0 a0 a1 a2 m = some r) : xFx hh_142 cX6_moveLinks d 0 [some (.ref a0), some (.ref a1), some (.ref a2), o3, o4, o5] [] (xLay m) 0 0 none (xLay r) := by
  unfold fX6_moveLinks_0 at h
  refine fx_iconst (x := 0) dX6_moveLinks_0 rfl (by decide) ?_
  refine fx_istore_n (ls2 := [some (.ref a0), some (.ref a1), some (.ref a2), some (.int (0 : Int32)), o4, o5]) dX6_moveLinks_1 rfl rfl rfl ?_
  exact fX6_moveLinks_2_ok hd ha0 ha1 ha2 xFuel (0 : Int32) (o4) (o5) q4 q5 m r h
def fX6_moveLinks (a0 : Nat) (a1 : Nat) (a2 : Nat) (m : xMem) : Option xMem := fX6_moveLinks_0 a0 a1 a2  m
theorem fX6_moveLinks_ok {a0 : Nat} {a1 : Nat} {a2 : Nat} {m : xMem} {r : xMem} {d : Nat} (hd : 5 ≤ d) (ha0 : isMover a0) (ha1 : isStation a1) (ha2 : isText a2) (h : fX6_moveLinks a0 a1 a2 m = some r) : xEx d 142 [.ref a0, .ref a1, .ref a2] (xLay m) none (xLay r) := by
  obtain ⟨d, rfl⟩ : ∃ q, d = q + 1 := ⟨d - 1, by omega⟩
  exact xEx_of me_142 rfl (fX6_moveLinks_0_ok (d := d) (o3 := none) (o4 := none) (o5 := none) (by omega) ha0 ha1 ha2 rfl rfl rfl h)
def fX0_isDue_34 (a0 : Nat) (a1 : Int32) (s0 : Int32) (m : xMem) : Option (Int32 × xMem) := bif (decide (s0 = 0) || decide (s0 = 1)) then some (s0, m) else none
set_option maxRecDepth 4000 in
theorem fX0_isDue_34_ok {a0 : Nat} {a1 : Int32} {d : Nat} (hd : 0 ≤ d) (ha0 : isBurst a0) {s0 : Int32} {m : xMem} {r : (Int32 × xMem)} (h : fX0_isDue_34 a0 a1 s0 m = some r) : xFx hh_122 cX0_isDue d 34 [some (.ref a0), some (.int a1)] [.int s0] (xLay m) 0 0 (some (.int r.1)) (xLay r.2) := by
  unfold fX0_isDue_34 at h
  obtain ⟨hb1, h⟩ := xChk_el h
  cases h
  exact fx_ireturn dX0_isDue_34 rfl (by show ((decide _ || decide _) && _) = true; rw [hb1]; rfl)
def fX0_isDue_48 (a0 : Nat) (a1 : Int32) (s0 : Int32) (m : xMem) : Option (Int32 × xMem) := bif (decide (s0 = 0) || decide (s0 = 1)) then some (s0, m) else none
set_option maxRecDepth 4000 in
theorem fX0_isDue_48_ok {a0 : Nat} {a1 : Int32} {d : Nat} (hd : 0 ≤ d) (ha0 : isBurst a0) {s0 : Int32} {m : xMem} {r : (Int32 × xMem)} (h : fX0_isDue_48 a0 a1 s0 m = some r) : xFx hh_122 cX0_isDue d 48 [some (.ref a0), some (.int a1)] [.int s0] (xLay m) 0 0 (some (.int r.1)) (xLay r.2) := by
  unfold fX0_isDue_48 at h
  obtain ⟨hb1, h⟩ := xChk_el h
  cases h
  exact fx_ireturn dX0_isDue_48 rfl (by show ((decide _ || decide _) && _) = true; rw [hb1]; rfl)
def fX0_isDue_35 (a0 : Nat) (a1 : Int32) (m : xMem) : Option (Int32 × xMem) := xLet (m.1 a0 0) fun x1 => if ¬ a1 = x1 then fX0_isDue_48 a0 a1 (0 : Int32) m else fX0_isDue_48 a0 a1 (1 : Int32) m
set_option maxRecDepth 4000 in
theorem fX0_isDue_35_ok {a0 : Nat} {a1 : Int32} {d : Nat} (hd : 0 ≤ d) (ha0 : isBurst a0) {m : xMem} {r : (Int32 × xMem)} (h : fX0_isDue_35 a0 a1 m = some r) : xFx hh_122 cX0_isDue d 35 [some (.ref a0), some (.int a1)] [] (xLay m) 0 0 (some (.int r.1)) (xLay r.2) := by
  unfold fX0_isDue_35 at h
  refine fx_iload_n dX0_isDue_35 rfl rfl ?_
  refine fx_aload_n dX0_isDue_36 rfl rfl ?_
  obtain ⟨x1, hx1, h⟩ := xLet_el h
  refine gx_get dX0_isDue_37 rfl fd_0_7 ha0 rfl rfl hx1 ?_
  refine fx_icmp_ne (t := 47) dX0_isDue_40 rfl rfl (fun hc2 => ?_) (fun hc2 => ?_)
  · rw [if_pos hc2] at h
    refine fx_iconst (x := 0) dX0_isDue_47 rfl (by decide) ?_
    exact fX0_isDue_48_ok hd ha0 h
  · rw [if_neg hc2] at h
    refine fx_iconst (x := 1) dX0_isDue_43 rfl (by decide) ?_
    refine fx_goto (t := 48) dX0_isDue_44 rfl rfl ?_
    exact fX0_isDue_48_ok hd ha0 h
def fX0_isDue_0 (a0 : Nat) (a1 : Int32) (m : xMem) : Option (Int32 × xMem) := xLet (m.1 a0 1) fun x1 => if x1 ≤ (0 : Int32) then fX0_isDue_35 a0 a1 m else xLet (m.1 a0 0) fun x3 => if a1 ≤ x3 then fX0_isDue_35 a0 a1 m else xLet (m.1 a0 0) fun x5 => xLet (a1 - x5) fun x6 => xLet (m.1 a0 1) fun x7 => bif !decide (x7 = 0) then xLet (xRem x6 x7) fun x8 => if ¬ x8 = (0 : Int32) then fX0_isDue_34 a0 a1 (0 : Int32) m else fX0_isDue_34 a0 a1 (1 : Int32) m else none
set_option maxRecDepth 4000 in
theorem fX0_isDue_0_ok {a0 : Nat} {a1 : Int32} {d : Nat} (hd : 0 ≤ d) (ha0 : isBurst a0) {m : xMem} {r : (Int32 × xMem)} (h : fX0_isDue_0 a0 a1 m = some r) : xFx hh_122 cX0_isDue d 0 [some (.ref a0), some (.int a1)] [] (xLay m) 0 0 (some (.int r.1)) (xLay r.2) := by
  unfold fX0_isDue_0 at h
  refine fx_aload_n dX0_isDue_0 rfl rfl ?_
  obtain ⟨x1, hx1, h⟩ := xLet_el h
  refine gx_get dX0_isDue_1 rfl fd_0_13 ha0 rfl rfl hx1 ?_
  refine fx_if_le (t := 35) dX0_isDue_4 rfl rfl (fun hc2 => ?_) (fun hc2 => ?_)
  · rw [if_pos hc2] at h
    exact fX0_isDue_35_ok hd ha0 h
  · rw [if_neg hc2] at h
    refine fx_iload_n dX0_isDue_7 rfl rfl ?_
    refine fx_aload_n dX0_isDue_8 rfl rfl ?_
    obtain ⟨x3, hx3, h⟩ := xLet_el h
    refine gx_get dX0_isDue_9 rfl fd_0_7 ha0 rfl rfl hx3 ?_
    refine fx_icmp_le (t := 35) dX0_isDue_12 rfl rfl (fun hc4 => ?_) (fun hc4 => ?_)
    · rw [if_pos hc4] at h
      exact fX0_isDue_35_ok hd ha0 h
    · rw [if_neg hc4] at h
      refine fx_iload_n dX0_isDue_15 rfl rfl ?_
      refine fx_aload_n dX0_isDue_16 rfl rfl ?_
      obtain ⟨x5, hx5, h⟩ := xLet_el h
      refine gx_get dX0_isDue_17 rfl fd_0_7 ha0 rfl rfl hx5 ?_
      obtain ⟨x6, hx6, h⟩ := xLet_el h
      refine fx_isub dX0_isDue_20 rfl hx6 ?_
      refine fx_aload_n dX0_isDue_21 rfl rfl ?_
      obtain ⟨x7, hx7, h⟩ := xLet_el h
      refine gx_get dX0_isDue_22 rfl fd_0_13 ha0 rfl rfl hx7 ?_
      obtain ⟨hz9, h⟩ := xChk_el h
      obtain ⟨x8, hx8, h⟩ := xLet_el h
      refine fx_irem dX0_isDue_25 rfl (by simpa using hz9) hx8 ?_
      refine fx_if_ne (t := 33) dX0_isDue_26 rfl rfl (fun hc10 => ?_) (fun hc10 => ?_)
      · rw [if_pos hc10] at h
        refine fx_iconst (x := 0) dX0_isDue_33 rfl (by decide) ?_
        exact fX0_isDue_34_ok hd ha0 h
      · rw [if_neg hc10] at h
        refine fx_iconst (x := 1) dX0_isDue_29 rfl (by decide) ?_
        refine fx_goto (t := 34) dX0_isDue_30 rfl rfl ?_
        exact fX0_isDue_34_ok hd ha0 h
def fX0_isDue (a0 : Nat) (a1 : Int32) (m : xMem) : Option (Int32 × xMem) := fX0_isDue_0 a0 a1  m
theorem fX0_isDue_ok {a0 : Nat} {a1 : Int32} {m : xMem} {r : (Int32 × xMem)} {d : Nat} (hd : 1 ≤ d) (ha0 : isBurst a0) (h : fX0_isDue a0 a1 m = some r) : xEx d 122 [.ref a0, .int a1] (xLay m) (some (.int r.1)) (xLay r.2) := by
  obtain ⟨d, rfl⟩ : ∃ q, d = q + 1 := ⟨d - 1, by omega⟩
  exact xEx_of me_122 rfl (fX0_isDue_0_ok (d := d) (by omega) ha0 h)
def fX6_comeInBursts_149 (a0 : Nat) (a1 : Nat) (a2 : Nat) (rec2 : Int32 → xMem → Option xMem) (l3 : Int32) (m : xMem) : Option xMem := xLet (l3 + (1 : Int32)) fun x1 => rec2 x1 m
set_option maxRecDepth 4000 in
theorem fX6_comeInBursts_149_ok {a0 : Nat} {a1 : Nat} {a2 : Nat} {rec2 : Int32 → xMem → Option xMem} {d : Nat} (hd : 4 ≤ d) (ha0 : isMover a0) (ha1 : isStation a1) (ha2 : isText a2) (hrec2 : ∀ (l3 : Int32) (o4 : Option Value) (q4 : xNoD o4 = true) (m : xMem) (r : xMem), rec2 l3 m = some r → xFx hh_121 cX6_comeInBursts d 2 [some (.ref a0), some (.ref a1), some (.ref a2), some (.int l3), o4] [] (xLay m) 0 0 none (xLay r)) {l3 : Int32} {o4 : Option Value} {m : xMem} {r : xMem} (q4 : xNoD o4 = true) (h : fX6_comeInBursts_149 a0 a1 a2 rec2 l3 m = some r) : xFx hh_121 cX6_comeInBursts d 149 [some (.ref a0), some (.ref a1), some (.ref a2), some (.int l3), o4] [] (xLay m) 0 0 none (xLay r) := by
  unfold fX6_comeInBursts_149 at h
  obtain ⟨x1, hx1, h⟩ := xLet_el h
  refine fx_iinc (ls2 := [some (.ref a0), some (.ref a1), some (.ref a2), some (.int x1), o4]) dX6_comeInBursts_149 rfl rfl rfl hx1 rfl ?_
  refine fx_goto (t := 2) dX6_comeInBursts_152 rfl rfl ?_
  exact hrec2 x1 (o4) q4 m r h
def fX6_comeInBursts_155 (a0 : Nat) (a1 : Nat) (a2 : Nat) (m : xMem) : Option xMem := some m
set_option maxRecDepth 4000 in
theorem fX6_comeInBursts_155_ok {a0 : Nat} {a1 : Nat} {a2 : Nat} {d : Nat} (hd : 4 ≤ d) (ha0 : isMover a0) (ha1 : isStation a1) (ha2 : isText a2) {o3 : Option Value} {o4 : Option Value} {m : xMem} {r : xMem} (q3 : xNoD o3 = true) (q4 : xNoD o4 = true) (h : fX6_comeInBursts_155 a0 a1 a2 m = some r) : xFx hh_121 cX6_comeInBursts d 155 [some (.ref a0), some (.ref a1), some (.ref a2), o3, o4] [] (xLay m) 0 0 none (xLay r) := by
  unfold fX6_comeInBursts_155 at h
  cases h
  exact fx_return dX6_comeInBursts_155 rfl rfl
def fX6_comeInBursts_2 (a0 : Nat) (a1 : Nat) (a2 : Nat) : Nat → Int32 → xMem → Option xMem
  | 0, _, _ => none
  | fuel + 1, l3, m => xLet (m.1 a1 9) fun x1 => if x1 ≤ l3 then fX6_comeInBursts_155 a0 a1 a2 m else if (30 : Int32) ≤ l3 then fX6_comeInBursts_155 a0 a1 a2 m else bif xIn l3 30 then xLet (a1 + 53 + 1 * l3.toNatClampNeg) fun r5 => xLet (m.1 a1 6) fun x6 => (fX0_isDue r5 x6 m).bind fun p7 => if p7.1 = (0 : Int32) then fX6_comeInBursts_149 a0 a1 a2 (fX6_comeInBursts_2 a0 a1 a2 fuel) l3 p7.2 else xLet (p7.2.1 r5 2) fun x9 => (fX9_hasHall a1 x9 p7.2).bind fun p10 => if ¬ p10.1 = (0 : Int32) then xLet (p10.2.1 r5 6) fun x12 => if ¬ x12 = (0 : Int32) then xLet (p10.2.1 r5 2) fun x14 => (fX6_isSo a0 a1 a2 (2 : Int32) x14 p10.2).bind fun p15 => if p15.1 = (0 : Int32) then xLet (p15.2.1 r5 2) fun x17 => bif xIn x17 6 then xLet (a1 + 15 + 3 * x17.toNatClampNeg) fun r19 => xLet (p15.2.1 r5 3) fun x20 => xLet (p15.2.1 r5 5) fun x21 => xLet (p15.2.1 r5 4) fun x22 => (fX2_changeOutside r19 x20 x21 x22 p15.2).bind fun p23 => fX6_comeInBursts_149 a0 a1 a2 (fX6_comeInBursts_2 a0 a1 a2 fuel) l3 p23 else none else xLet (p15.2.1 a1 14) fun x24 => xLet (p15.2.1 r5 4) fun x25 => xLet (x24 + x25) fun x26 => xLet (xPut p15.2 a1 14 x26) fun m27 => fX6_comeInBursts_149 a0 a1 a2 (fX6_comeInBursts_2 a0 a1 a2 fuel) l3 m27 else xLet (p10.2.1 r5 2) fun x28 => xLet (p10.2.1 r5 3) fun x29 => xLet (p10.2.1 r5 5) fun x30 => xLet (p10.2.1 r5 4) fun x31 => (fX9_comeTo a1 x28 x29 x30 x31 p10.2).bind fun p32 => fX6_comeInBursts_149 a0 a1 a2 (fX6_comeInBursts_2 a0 a1 a2 fuel) l3 p32 else fX6_comeInBursts_149 a0 a1 a2 (fX6_comeInBursts_2 a0 a1 a2 fuel) l3 p10.2 else none
set_option maxRecDepth 4000 in
theorem fX6_comeInBursts_2_ok {a0 : Nat} {a1 : Nat} {a2 : Nat} {d : Nat} (hd : 4 ≤ d) (ha0 : isMover a0) (ha1 : isStation a1) (ha2 : isText a2) : ∀ (fuel : Nat) (l3 : Int32) (o4 : Option Value) (q4 : xNoD o4 = true) (m : xMem) (r : xMem), fX6_comeInBursts_2 a0 a1 a2 fuel l3 m = some r → xFx hh_121 cX6_comeInBursts d 2 [some (.ref a0), some (.ref a1), some (.ref a2), some (.int l3), o4] [] (xLay m) 0 0 none (xLay r) := by
  intro fuel
  induction fuel with
  | zero => intro l3 o4 q4 m r  h; cases h
  | succ fuel ih =>
    intro l3 o4 q4 m r  h
    unfold fX6_comeInBursts_2 at h
    refine fx_iload_n dX6_comeInBursts_2 rfl rfl ?_
    refine fx_aload_n dX6_comeInBursts_3 rfl rfl ?_
    obtain ⟨x1, hx1, h⟩ := xLet_el h
    refine gx_get dX6_comeInBursts_4 rfl fd_6_53 ha1.1 rfl rfl hx1 ?_
    refine fx_icmp_ge (t := 155) dX6_comeInBursts_7 rfl rfl (fun hc2 => ?_) (fun hc2 => ?_)
    · rw [if_pos hc2] at h
      exact fX6_comeInBursts_155_ok (o3 := some (.int l3)) (o4 := o4) hd ha0 ha1 ha2 rfl q4 h
    · rw [if_neg hc2] at h
      refine fx_iload_n dX6_comeInBursts_10 rfl rfl ?_
      refine fx_aload_n dX6_comeInBursts_11 rfl rfl ?_
      refine gx_getr dX6_comeInBursts_12 rfl fd_6_56 ha1.1 rfl rfl ?_
      refine gx_alen (t := 6) (y := 30) dX6_comeInBursts_15 rfl ha1.2.2.2.1 rfl (by decide) ?_
      refine fx_icmp_ge (t := 155) dX6_comeInBursts_16 rfl rfl (fun hc3 => ?_) (fun hc3 => ?_)
      · rw [if_pos hc3] at h
        exact fX6_comeInBursts_155_ok (o3 := some (.int l3)) (o4 := o4) hd ha0 ha1 ha2 rfl q4 h
      · rw [if_neg hc3] at h
        refine fx_aload_n dX6_comeInBursts_19 rfl rfl ?_
        refine gx_getr dX6_comeInBursts_20 rfl fd_6_56 ha1.1 rfl rfl ?_
        refine fx_iload_n dX6_comeInBursts_23 rfl rfl ?_
        obtain ⟨hj4, h⟩ := xChk_el h
        obtain ⟨r5, hr5, h⟩ := xLet_el h
        refine gx_aaload (t := 6) dX6_comeInBursts_24 rfl ha1.2.2.2.1 rfl hj4 ((xRef_at (sl_9_2 a1) hj4).trans (congrArg some hr5)) ?_
        have hpr5 : isBurst r5 := by rw [← hr5]; exact ha1.2.2.2.2.2.2.2.2.2 _ (xIn_lt hj4)
        refine fx_astore (ls2 := [some (.ref a0), some (.ref a1), some (.ref a2), some (.int l3), some (.ref r5)]) dX6_comeInBursts_25 rfl rfl rfl ?_
        refine fx_aload dX6_comeInBursts_27 rfl rfl ?_
        refine fx_aload_n dX6_comeInBursts_29 rfl rfl ?_
        obtain ⟨x6, hx6, h⟩ := xLet_el h
        refine gx_get dX6_comeInBursts_30 rfl fd_6_47 ha1.1 rfl rfl hx6 ?_
        obtain ⟨p7, ep7, h⟩ := xBind_el h
        refine gx_callv (as := [.int x6]) (r := []) rfl dX6_comeInBursts_33 ca_6_60 rfl me_122 rfl rfl rfl rfl (hpr5) rfl (fX0_isDue_ok (d := d) (by omega) hpr5 ep7) rfl rfl ?_
        refine fx_if_eq (t := 149) dX6_comeInBursts_36 rfl rfl (fun hc8 => ?_) (fun hc8 => ?_)
        · rw [if_pos hc8] at h
          exact fX6_comeInBursts_149_ok (o4 := some (.ref r5)) hd ha0 ha1 ha2 ih rfl h
        · rw [if_neg hc8] at h
          refine fx_aload_n dX6_comeInBursts_39 rfl rfl ?_
          refine fx_aload dX6_comeInBursts_40 rfl rfl ?_
          obtain ⟨x9, hx9, h⟩ := xLet_el h
          refine gx_get dX6_comeInBursts_42 rfl fd_6_66 hpr5 rfl rfl hx9 ?_
          obtain ⟨p10, ep10, h⟩ := xBind_el h
          refine gx_callv (as := [.int x9]) (r := []) rfl dX6_comeInBursts_45 ca_6_69 rfl me_20 rfl rfl rfl rfl (ha1.1) rfl (fX9_hasHall_ok (d := d) (by omega) ha1 ep10) rfl rfl ?_
          refine fx_if_ne (t := 54) dX6_comeInBursts_48 rfl rfl (fun hc11 => ?_) (fun hc11 => ?_)
          · rw [if_pos hc11] at h
            refine fx_aload dX6_comeInBursts_54 rfl rfl ?_
            obtain ⟨x12, hx12, h⟩ := xLet_el h
            refine gx_get dX6_comeInBursts_56 rfl fd_6_72 hpr5 rfl rfl hx12 ?_
            refine fx_if_ne (t := 89) dX6_comeInBursts_59 rfl rfl (fun hc13 => ?_) (fun hc13 => ?_)
            · rw [if_pos hc13] at h
              refine fx_aload_n dX6_comeInBursts_89 rfl rfl ?_
              refine fx_aload_n dX6_comeInBursts_90 rfl rfl ?_
              refine fx_aload_n dX6_comeInBursts_91 rfl rfl ?_
              refine fx_iconst (x := 2) dX6_comeInBursts_92 rfl (by decide) ?_
              refine fx_aload dX6_comeInBursts_93 rfl rfl ?_
              obtain ⟨x14, hx14, h⟩ := xLet_el h
              refine gx_get dX6_comeInBursts_95 rfl fd_6_66 hpr5 rfl rfl hx14 ?_
              obtain ⟨p15, ep15, h⟩ := xBind_el h
              refine gx_callv (as := [.ref a1, .ref a2, .int (2 : Int32), .int x14]) (r := []) rfl dX6_comeInBursts_98 ca_6_89 rfl me_125 rfl rfl rfl rfl (ha0.1) rfl (fX6_isSo_ok (d := d) (by omega) ha0 ha1 ha2 ep15) rfl rfl ?_
              refine fx_if_eq (t := 121) dX6_comeInBursts_101 rfl rfl (fun hc16 => ?_) (fun hc16 => ?_)
              · rw [if_pos hc16] at h
                refine fx_aload_n dX6_comeInBursts_121 rfl rfl ?_
                refine gx_getr dX6_comeInBursts_122 rfl fd_6_96 ha1.1 rfl rfl ?_
                refine fx_aload dX6_comeInBursts_125 rfl rfl ?_
                obtain ⟨x17, hx17, h⟩ := xLet_el h
                refine gx_get dX6_comeInBursts_127 rfl fd_6_66 hpr5 rfl rfl hx17 ?_
                obtain ⟨hj18, h⟩ := xChk_el h
                obtain ⟨r19, hr19, h⟩ := xLet_el h
                refine gx_aaload (t := 4) dX6_comeInBursts_130 rfl ha1.2.1 rfl hj18 ((xRef_at (sl_9_0 a1) hj18).trans (congrArg some hr19)) ?_
                have hpr19 : isHall r19 := by rw [← hr19]; exact ha1.2.2.2.2.2.2.2.1 _ (xIn_lt hj18)
                refine fx_aload dX6_comeInBursts_131 rfl rfl ?_
                obtain ⟨x20, hx20, h⟩ := xLet_el h
                refine gx_get dX6_comeInBursts_133 rfl fd_6_76 hpr5 rfl rfl hx20 ?_
                refine fx_aload dX6_comeInBursts_136 rfl rfl ?_
                obtain ⟨x21, hx21, h⟩ := xLet_el h
                refine gx_get dX6_comeInBursts_138 rfl fd_6_79 hpr5 rfl rfl hx21 ?_
                refine fx_aload dX6_comeInBursts_141 rfl rfl ?_
                obtain ⟨x22, hx22, h⟩ := xLet_el h
                refine gx_get dX6_comeInBursts_143 rfl fd_6_82 hpr5 rfl rfl hx22 ?_
                obtain ⟨p23, ep23, h⟩ := xBind_el h
                refine gx_callv (as := [.int x20, .int x21, .int x22]) (r := []) rfl dX6_comeInBursts_146 ca_6_100 rfl me_129 rfl rfl rfl rfl (hpr19.1) rfl (fX2_changeOutside_ok (d := d) (by omega) hpr19 ep23) rfl rfl ?_
                exact fX6_comeInBursts_149_ok (o4 := some (.ref r5)) hd ha0 ha1 ha2 ih rfl h
              · rw [if_neg hc16] at h
                refine fx_aload_n dX6_comeInBursts_104 rfl rfl ?_
                refine fx_dup dX6_comeInBursts_105 rfl rfl ?_
                obtain ⟨x24, hx24, h⟩ := xLet_el h
                refine gx_get dX6_comeInBursts_106 rfl fd_6_93 ha1.1 rfl rfl hx24 ?_
                refine fx_aload dX6_comeInBursts_109 rfl rfl ?_
                obtain ⟨x25, hx25, h⟩ := xLet_el h
                refine gx_get dX6_comeInBursts_111 rfl fd_6_82 hpr5 rfl rfl hx25 ?_
                obtain ⟨x26, hx26, h⟩ := xLet_el h
                refine fx_iadd dX6_comeInBursts_114 rfl hx26 ?_
                obtain ⟨m27, hm27, h⟩ := xLet_el h
                refine gx_put dX6_comeInBursts_115 rfl fd_6_93 ha1.1 rfl rfl rfl hm27 ?_
                refine fx_goto (t := 149) dX6_comeInBursts_118 rfl rfl ?_
                exact fX6_comeInBursts_149_ok (o4 := some (.ref r5)) hd ha0 ha1 ha2 ih rfl h
            · rw [if_neg hc13] at h
              refine fx_aload_n dX6_comeInBursts_62 rfl rfl ?_
              refine fx_aload dX6_comeInBursts_63 rfl rfl ?_
              obtain ⟨x28, hx28, h⟩ := xLet_el h
              refine gx_get dX6_comeInBursts_65 rfl fd_6_66 hpr5 rfl rfl hx28 ?_
              refine fx_aload dX6_comeInBursts_68 rfl rfl ?_
              obtain ⟨x29, hx29, h⟩ := xLet_el h
              refine gx_get dX6_comeInBursts_70 rfl fd_6_76 hpr5 rfl rfl hx29 ?_
              refine fx_aload dX6_comeInBursts_73 rfl rfl ?_
              obtain ⟨x30, hx30, h⟩ := xLet_el h
              refine gx_get dX6_comeInBursts_75 rfl fd_6_79 hpr5 rfl rfl hx30 ?_
              refine fx_aload dX6_comeInBursts_78 rfl rfl ?_
              obtain ⟨x31, hx31, h⟩ := xLet_el h
              refine gx_get dX6_comeInBursts_80 rfl fd_6_82 hpr5 rfl rfl hx31 ?_
              obtain ⟨p32, ep32, h⟩ := xBind_el h
              refine gx_callv (as := [.int x28, .int x29, .int x30, .int x31]) (r := []) rfl dX6_comeInBursts_83 ca_6_85 rfl me_123 rfl rfl rfl rfl (ha1.1) rfl (fX9_comeTo_ok (d := d) (by omega) ha1 ep32) rfl rfl ?_
              refine fx_goto (t := 149) dX6_comeInBursts_86 rfl rfl ?_
              exact fX6_comeInBursts_149_ok (o4 := some (.ref r5)) hd ha0 ha1 ha2 ih rfl h
          · rw [if_neg hc11] at h
            refine fx_goto (t := 149) dX6_comeInBursts_51 rfl rfl ?_
            exact fX6_comeInBursts_149_ok (o4 := some (.ref r5)) hd ha0 ha1 ha2 ih rfl h
def fX6_comeInBursts_0 (a0 : Nat) (a1 : Nat) (a2 : Nat) (m : xMem) : Option xMem := fX6_comeInBursts_2 a0 a1 a2 xFuel (0 : Int32) m
set_option maxRecDepth 4000 in
theorem fX6_comeInBursts_0_ok {a0 : Nat} {a1 : Nat} {a2 : Nat} {d : Nat} (hd : 4 ≤ d) (ha0 : isMover a0) (ha1 : isStation a1) (ha2 : isText a2) {o3 : Option Value} {o4 : Option Value} {m : xMem} {r : xMem} (q3 : xNoD o3 = true) (q4 : xNoD o4 = true) (h : fX6_comeInBursts_0 a0 a1 a2 m = some r) : xFx hh_121 cX6_comeInBursts d 0 [some (.ref a0), some (.ref a1), some (.ref a2), o3, o4] [] (xLay m) 0 0 none (xLay r) := by
  unfold fX6_comeInBursts_0 at h
  refine fx_iconst (x := 0) dX6_comeInBursts_0 rfl (by decide) ?_
  refine fx_istore_n (ls2 := [some (.ref a0), some (.ref a1), some (.ref a2), some (.int (0 : Int32)), o4]) dX6_comeInBursts_1 rfl rfl rfl ?_
  exact fX6_comeInBursts_2_ok hd ha0 ha1 ha2 xFuel (0 : Int32) (o4) q4 m r h
def fX6_comeInBursts (a0 : Nat) (a1 : Nat) (a2 : Nat) (m : xMem) : Option xMem := fX6_comeInBursts_0 a0 a1 a2  m
theorem fX6_comeInBursts_ok {a0 : Nat} {a1 : Nat} {a2 : Nat} {m : xMem} {r : xMem} {d : Nat} (hd : 5 ≤ d) (ha0 : isMover a0) (ha1 : isStation a1) (ha2 : isText a2) (h : fX6_comeInBursts a0 a1 a2 m = some r) : xEx d 121 [.ref a0, .ref a1, .ref a2] (xLay m) none (xLay r) := by
  obtain ⟨d, rfl⟩ : ∃ q, d = q + 1 := ⟨d - 1, by omega⟩
  exact xEx_of me_121 rfl (fX6_comeInBursts_0_ok (d := d) (o3 := none) (o4 := none) (by omega) ha0 ha1 ha2 rfl rfl h)
def fX6_passSecond_0 (a0 : Nat) (a1 : Nat) (a2 : Nat) (m : xMem) : Option xMem := (fX6_comeInBursts a0 a1 a2 m).bind fun p1 => (fX6_openHalls a0 a1 a2 p1).bind fun p2 => (fX6_turnEmptyLinks a0 a1 p2).bind fun p3 => (fX8_find (a0 + 1) a1 p3).bind fun p4 => (fX6_moveLinks a0 a1 a2 p4).bind fun p5 => (fX6_countSecond a0 a1 p5).bind fun p6 => xLet (p6.1 a1 6) fun x7 => xLet (x7 + (1 : Int32)) fun x8 => xLet (xPut p6 a1 6 x8) fun m9 => some m9
set_option maxRecDepth 4000 in
theorem fX6_passSecond_0_ok {a0 : Nat} {a1 : Nat} {a2 : Nat} {d : Nat} (hd : 5 ≤ d) (ha0 : isMover a0) (ha1 : isStation a1) (ha2 : isText a2) {m : xMem} {r : xMem} (h : fX6_passSecond_0 a0 a1 a2 m = some r) : xFx hh_120 cX6_passSecond d 0 [some (.ref a0), some (.ref a1), some (.ref a2)] [] (xLay m) 0 0 none (xLay r) := by
  unfold fX6_passSecond_0 at h
  refine fx_aload_n dX6_passSecond_0 rfl rfl ?_
  refine fx_aload_n dX6_passSecond_1 rfl rfl ?_
  refine fx_aload_n dX6_passSecond_2 rfl rfl ?_
  obtain ⟨p1, ep1, h⟩ := xBind_el h
  refine gx_callv (as := [.ref a1, .ref a2]) (r := []) rfl dX6_passSecond_3 ca_6_27 rfl me_121 rfl rfl rfl rfl (ha0.1) rfl (fX6_comeInBursts_ok (d := d) (by omega) ha0 ha1 ha2 ep1) rfl rfl ?_
  refine fx_aload_n dX6_passSecond_6 rfl rfl ?_
  refine fx_aload_n dX6_passSecond_7 rfl rfl ?_
  refine fx_aload_n dX6_passSecond_8 rfl rfl ?_
  obtain ⟨p2, ep2, h⟩ := xBind_el h
  refine gx_callv (as := [.ref a1, .ref a2]) (r := []) rfl dX6_passSecond_9 ca_6_31 rfl me_130 rfl rfl rfl rfl (ha0.1) rfl (fX6_openHalls_ok (d := d) (by omega) ha0 ha1 ha2 ep2) rfl rfl ?_
  refine fx_aload_n dX6_passSecond_12 rfl rfl ?_
  refine fx_aload_n dX6_passSecond_13 rfl rfl ?_
  obtain ⟨p3, ep3, h⟩ := xBind_el h
  refine gx_callv (as := [.ref a1]) (r := []) rfl dX6_passSecond_14 ca_6_34 rfl me_132 rfl rfl rfl rfl (ha0.1) rfl (fX6_turnEmptyLinks_ok (d := d) (by omega) ha0 ha1 ep3) rfl rfl ?_
  refine fx_aload_n dX6_passSecond_17 rfl rfl ?_
  refine gx_getr dX6_passSecond_18 rfl fd_6_12 ha0.1 rfl rfl ?_
  refine fx_aload_n dX6_passSecond_21 rfl rfl ?_
  obtain ⟨p4, ep4, h⟩ := xBind_el h
  refine gx_callv (as := [.ref a1]) (r := []) rfl dX6_passSecond_22 ca_6_38 rfl me_133 rfl rfl rfl rfl (ha0.2.1.1) rfl (fX8_find_ok (d := d) (by omega) ha0.2.1 ha1 ep4) rfl rfl ?_
  refine fx_aload_n dX6_passSecond_25 rfl rfl ?_
  refine fx_aload_n dX6_passSecond_26 rfl rfl ?_
  refine fx_aload_n dX6_passSecond_27 rfl rfl ?_
  obtain ⟨p5, ep5, h⟩ := xBind_el h
  refine gx_callv (as := [.ref a1, .ref a2]) (r := []) rfl dX6_passSecond_28 ca_6_41 rfl me_142 rfl rfl rfl rfl (ha0.1) rfl (fX6_moveLinks_ok (d := d) (by omega) ha0 ha1 ha2 ep5) rfl rfl ?_
  refine fx_aload_n dX6_passSecond_31 rfl rfl ?_
  refine fx_aload_n dX6_passSecond_32 rfl rfl ?_
  obtain ⟨p6, ep6, h⟩ := xBind_el h
  refine gx_callv (as := [.ref a1]) (r := []) rfl dX6_passSecond_33 ca_6_44 rfl me_160 rfl rfl rfl rfl (ha0.1) rfl (fX6_countSecond_ok (d := d) (by omega) ha0 ha1 ep6) rfl rfl ?_
  refine fx_aload_n dX6_passSecond_36 rfl rfl ?_
  refine fx_dup dX6_passSecond_37 rfl rfl ?_
  obtain ⟨x7, hx7, h⟩ := xLet_el h
  refine gx_get dX6_passSecond_38 rfl fd_6_47 ha1.1 rfl rfl hx7 ?_
  refine fx_iconst (x := 1) dX6_passSecond_41 rfl (by decide) ?_
  obtain ⟨x8, hx8, h⟩ := xLet_el h
  refine fx_iadd dX6_passSecond_42 rfl hx8 ?_
  obtain ⟨m9, hm9, h⟩ := xLet_el h
  refine gx_put dX6_passSecond_43 rfl fd_6_47 ha1.1 rfl rfl rfl hm9 ?_
  cases h
  exact fx_return dX6_passSecond_46 rfl rfl
def fX6_passSecond (a0 : Nat) (a1 : Nat) (a2 : Nat) (m : xMem) : Option xMem := fX6_passSecond_0 a0 a1 a2  m
theorem fX6_passSecond_ok {a0 : Nat} {a1 : Nat} {a2 : Nat} {m : xMem} {r : xMem} {d : Nat} (hd : 6 ≤ d) (ha0 : isMover a0) (ha1 : isStation a1) (ha2 : isText a2) (h : fX6_passSecond a0 a1 a2 m = some r) : xEx d 120 [.ref a0, .ref a1, .ref a2] (xLay m) none (xLay r) := by
  obtain ⟨d, rfl⟩ : ∃ q, d = q + 1 := ⟨d - 1, by omega⟩
  exact xEx_of me_120 rfl (fX6_passSecond_0_ok (d := d) (by omega) ha0 ha1 ha2 h)
def fX11_mayRun_30 (a0 : Nat) (a1 : Int32) (s0 : Int32) (m : xMem) : Option (Int32 × xMem) := bif (decide (s0 = 0) || decide (s0 = 1)) then some (s0, m) else none
set_option maxRecDepth 4000 in
theorem fX11_mayRun_30_ok {a0 : Nat} {a1 : Int32} {d : Nat} (hd : 1 ≤ d) (ha0 : isMS a0) {s0 : Int32} {m : xMem} {r : (Int32 × xMem)} (h : fX11_mayRun_30 a0 a1 s0 m = some r) : xFx hh_116 cX11_mayRun d 30 [some (.ref a0), some (.int a1)] [.int s0] (xLay m) 0 0 (some (.int r.1)) (xLay r.2) := by
  unfold fX11_mayRun_30 at h
  obtain ⟨hb1, h⟩ := xChk_el h
  cases h
  exact fx_ireturn dX11_mayRun_30 rfl (by show ((decide _ || decide _) && _) = true; rw [hb1]; rfl)
def fX11_mayRun_29 (a0 : Nat) (a1 : Int32) (m : xMem) : Option (Int32 × xMem) := fX11_mayRun_30 a0 a1 (0 : Int32) m
set_option maxRecDepth 4000 in
theorem fX11_mayRun_29_ok {a0 : Nat} {a1 : Int32} {d : Nat} (hd : 1 ≤ d) (ha0 : isMS a0) {m : xMem} {r : (Int32 × xMem)} (h : fX11_mayRun_29 a0 a1 m = some r) : xFx hh_116 cX11_mayRun d 29 [some (.ref a0), some (.int a1)] [] (xLay m) 0 0 (some (.int r.1)) (xLay r.2) := by
  unfold fX11_mayRun_29 at h
  refine fx_iconst (x := 0) dX11_mayRun_29 rfl (by decide) ?_
  exact fX11_mayRun_30_ok hd ha0 h
def fX11_mayRun_0 (a0 : Nat) (a1 : Int32) (m : xMem) : Option (Int32 × xMem) := (fX11_within a1 (1 : Int32) (300 : Int32) m).bind fun p1 => if p1.1 = (0 : Int32) then fX11_mayRun_29 a0 a1 p1.2 else xLet (p1.2.1 (a0 + 1) 6) fun x3 => xLet (x3 + a1) fun x4 => if (99999 : Int32) < x4 then fX11_mayRun_29 a0 a1 p1.2 else fX11_mayRun_30 a0 a1 (1 : Int32) p1.2
set_option maxRecDepth 4000 in
theorem fX11_mayRun_0_ok {a0 : Nat} {a1 : Int32} {d : Nat} (hd : 1 ≤ d) (ha0 : isMS a0) {m : xMem} {r : (Int32 × xMem)} (h : fX11_mayRun_0 a0 a1 m = some r) : xFx hh_116 cX11_mayRun d 0 [some (.ref a0), some (.int a1)] [] (xLay m) 0 0 (some (.int r.1)) (xLay r.2) := by
  unfold fX11_mayRun_0 at h
  refine fx_iload_n dX11_mayRun_0 rfl rfl ?_
  refine fx_iconst (x := 1) dX11_mayRun_1 rfl (by decide) ?_
  refine fx_sipush (x := 300) dX11_mayRun_2 rfl (by decide) ?_
  obtain ⟨p1, ep1, h⟩ := xBind_el h
  refine gx_calls (as := [.int a1, .int (1 : Int32), .int (300 : Int32)]) (r := []) rfl dX11_mayRun_5 ca_11_47 rfl me_14 rfl rfl rfl rfl (fX11_within_ok (d := d) (by omega) ep1) rfl rfl ?_
  refine fx_if_eq (t := 29) dX11_mayRun_8 rfl rfl (fun hc2 => ?_) (fun hc2 => ?_)
  · rw [if_pos hc2] at h
    exact fX11_mayRun_29_ok hd ha0 h
  · rw [if_neg hc2] at h
    refine fx_aload_n dX11_mayRun_11 rfl rfl ?_
    refine gx_getr dX11_mayRun_12 rfl fd_11_10 ha0.1 rfl rfl ?_
    obtain ⟨x3, hx3, h⟩ := xLet_el h
    refine gx_get dX11_mayRun_15 rfl fd_11_173 ha0.2.1.1 rfl rfl hx3 ?_
    refine fx_iload_n dX11_mayRun_18 rfl rfl ?_
    obtain ⟨x4, hx4, h⟩ := xLet_el h
    refine fx_iadd dX11_mayRun_19 rfl hx4 ?_
    refine fx_ldc dX11_mayRun_20 rfl ck_11_103 ?_
    refine fx_icmp_gt (t := 29) dX11_mayRun_22 rfl rfl (fun hc5 => ?_) (fun hc5 => ?_)
    · rw [if_pos hc5] at h
      exact fX11_mayRun_29_ok hd ha0 h
    · rw [if_neg hc5] at h
      refine fx_iconst (x := 1) dX11_mayRun_25 rfl (by decide) ?_
      refine fx_goto (t := 30) dX11_mayRun_26 rfl rfl ?_
      exact fX11_mayRun_30_ok hd ha0 h
def fX11_mayRun (a0 : Nat) (a1 : Int32) (m : xMem) : Option (Int32 × xMem) := fX11_mayRun_0 a0 a1  m
theorem fX11_mayRun_ok {a0 : Nat} {a1 : Int32} {m : xMem} {r : (Int32 × xMem)} {d : Nat} (hd : 2 ≤ d) (ha0 : isMS a0) (h : fX11_mayRun a0 a1 m = some r) : xEx d 116 [.ref a0, .int a1] (xLay m) (some (.int r.1)) (xLay r.2) := by
  obtain ⟨d, rfl⟩ : ∃ q, d = q + 1 := ⟨d - 1, by omega⟩
  exact xEx_of me_116 rfl (fX11_mayRun_0_ok (d := d) (by omega) ha0 h)
def fX11_law_34 (a0 : Nat) (s0 : Nat) (m : xMem) : Option (Nat × xMem) := some (s0, m)
set_option maxRecDepth 4000 in
theorem fX11_law_34_ok {a0 : Nat} {d : Nat} (hd : 1 ≤ d) (ha0 : isMS a0) {s0 : Nat} {m : xMem} {r : (Nat × xMem)} (hs0 : isText s0) (h : fX11_law_34 a0 s0 m = some r) : xFx hh_117 cX11_law d 34 [some (.ref a0)] [.ref s0] (xLay m) 0 0 (some (.ref r.1)) (xLay r.2) := by
  unfold fX11_law_34 at h
  cases h
  exact fx_areturn dX11_law_34 rfl rfl
def fX11_law_0 (a0 : Nat) (m : xMem) : Option (Nat × xMem) := xLet (m.1 (a0 + 1) 11) fun x1 => (fX11_within x1 (0 : Int32) (3 : Int32) m).bind fun p2 => if p2.1 = (0 : Int32) then fX11_law_34 a0 (a0 + 260) p2.2 else xLet (p2.2.1 (a0 + 1) 11) fun x4 => bif xIn x4 4 then xLet (a0 + 267 + 6 * x4.toNatClampNeg) fun r6 => fX11_law_34 a0 r6 p2.2 else none
set_option maxRecDepth 4000 in
theorem fX11_law_0_ok {a0 : Nat} {d : Nat} (hd : 1 ≤ d) (ha0 : isMS a0) {m : xMem} {r : (Nat × xMem)} (h : fX11_law_0 a0 m = some r) : xFx hh_117 cX11_law d 0 [some (.ref a0)] [] (xLay m) 0 0 (some (.ref r.1)) (xLay r.2) := by
  unfold fX11_law_0 at h
  refine fx_aload_n dX11_law_0 rfl rfl ?_
  refine gx_getr dX11_law_1 rfl fd_11_10 ha0.1 rfl rfl ?_
  obtain ⟨x1, hx1, h⟩ := xLet_el h
  refine gx_get dX11_law_4 rfl fd_11_156 ha0.2.1.1 rfl rfl hx1 ?_
  refine fx_iconst (x := 0) dX11_law_7 rfl (by decide) ?_
  refine fx_iconst (x := 3) dX11_law_8 rfl (by decide) ?_
  obtain ⟨p2, ep2, h⟩ := xBind_el h
  refine gx_calls (as := [.int x1, .int (0 : Int32), .int (3 : Int32)]) (r := []) rfl dX11_law_9 ca_11_47 rfl me_14 rfl rfl rfl rfl (fX11_within_ok (d := d) (by omega) ep2) rfl rfl ?_
  refine fx_if_eq (t := 30) dX11_law_12 rfl rfl (fun hc3 => ?_) (fun hc3 => ?_)
  · rw [if_pos hc3] at h
    refine fx_aload_n dX11_law_30 rfl rfl ?_
    refine gx_getr dX11_law_31 rfl fd_11_39 ha0.1 rfl rfl ?_
    exact fX11_law_34_ok hd ha0 ha0.2.2.2.2.2.2.1 h
  · rw [if_neg hc3] at h
    refine fx_aload_n dX11_law_15 rfl rfl ?_
    refine gx_getr dX11_law_16 rfl fd_11_43 ha0.1 rfl rfl ?_
    refine fx_aload_n dX11_law_19 rfl rfl ?_
    refine gx_getr dX11_law_20 rfl fd_11_10 ha0.1 rfl rfl ?_
    obtain ⟨x4, hx4, h⟩ := xLet_el h
    refine gx_get dX11_law_23 rfl fd_11_156 ha0.2.1.1 rfl rfl hx4 ?_
    obtain ⟨hj5, h⟩ := xChk_el h
    obtain ⟨r6, hr6, h⟩ := xLet_el h
    refine gx_aaload (t := 7) dX11_law_26 rfl ha0.2.2.2.2.2.2.2.1 rfl hj5 ((xRef_at (sl_11_6 a0) hj5).trans (congrArg some hr6)) ?_
    have hpr6 : isText r6 := by rw [← hr6]; exact ha0.2.2.2.2.2.2.2.2 _ (xIn_lt hj5)
    refine fx_goto (t := 34) dX11_law_27 rfl rfl ?_
    exact fX11_law_34_ok hd ha0 hpr6 h
def fX11_law (a0 : Nat) (m : xMem) : Option (Nat × xMem) := fX11_law_0 a0  m
theorem fX11_law_ok {a0 : Nat} {m : xMem} {r : (Nat × xMem)} {d : Nat} (hd : 2 ≤ d) (ha0 : isMS a0) (h : fX11_law a0 m = some r) : xEx d 117 [.ref a0] (xLay m) (some (.ref r.1)) (xLay r.2) := by
  obtain ⟨d, rfl⟩ : ∃ q, d = q + 1 := ⟨d - 1, by omega⟩
  exact xEx_of me_117 rfl (fX11_law_0_ok (d := d) (by omega) ha0 h)
theorem fX11_law_ref {a0 : Nat} {m : xMem} {p : Nat × xMem} (ha0 : isMS a0) (h : fX11_law a0 m = some p) : isText p.1 := by
  unfold fX11_law fX11_law_0 fX11_law_34 at h
  obtain ⟨x1, -, h⟩ := xLet_el h
  obtain ⟨p2, -, h⟩ := xBind_el h
  by_cases hc : p2.1 = (0 : Int32)
  · rw [if_pos hc] at h
    cases h
    exact ha0.2.2.2.2.2.2.1
  · rw [if_neg hc] at h
    obtain ⟨x4, -, h⟩ := xLet_el h
    obtain ⟨hj, h⟩ := xChk_el h
    obtain ⟨r6, hr6, h⟩ := xLet_el h
    cases h
    show isText r6
    rw [← hr6]
    exact ha0.2.2.2.2.2.2.2.2 _ (xIn_lt hj)
def fX8_forget_0 (a0 : Nat) (m : xMem) : Option xMem := xLet (xPut m a0 2 (-1 : Int32)) fun m1 => some m1
set_option maxRecDepth 4000 in
theorem fX8_forget_0_ok {a0 : Nat} {d : Nat} (hd : 0 ≤ d) (ha0 : isRoutes a0) {m : xMem} {r : xMem} (h : fX8_forget_0 a0 m = some r) : xFx hh_119 cX8_forget d 0 [some (.ref a0)] [] (xLay m) 0 0 none (xLay r) := by
  unfold fX8_forget_0 at h
  refine fx_aload_n dX8_forget_0 rfl rfl ?_
  refine fx_iconst (x := -1) dX8_forget_1 rfl (by decide) ?_
  obtain ⟨m1, hm1, h⟩ := xLet_el h
  refine gx_put dX8_forget_2 rfl fd_8_18 ha0.1 rfl rfl rfl hm1 ?_
  cases h
  exact fx_return dX8_forget_5 rfl rfl
def fX8_forget (a0 : Nat) (m : xMem) : Option xMem := fX8_forget_0 a0  m
theorem fX8_forget_ok {a0 : Nat} {m : xMem} {r : xMem} {d : Nat} (hd : 1 ≤ d) (ha0 : isRoutes a0) (h : fX8_forget a0 m = some r) : xEx d 119 [.ref a0] (xLay m) none (xLay r) := by
  obtain ⟨d, rfl⟩ : ∃ q, d = q + 1 := ⟨d - 1, by omega⟩
  exact xEx_of me_119 rfl (fX8_forget_0_ok (d := d) (by omega) ha0 h)
def fX6_forgetRoutes_0 (a0 : Nat) (m : xMem) : Option xMem := (fX8_forget (a0 + 1) m).bind fun p1 => some p1
set_option maxRecDepth 4000 in
theorem fX6_forgetRoutes_0_ok {a0 : Nat} {d : Nat} (hd : 1 ≤ d) (ha0 : isMover a0) {m : xMem} {r : xMem} (h : fX6_forgetRoutes_0 a0 m = some r) : xFx hh_118 cX6_forgetRoutes d 0 [some (.ref a0)] [] (xLay m) 0 0 none (xLay r) := by
  unfold fX6_forgetRoutes_0 at h
  refine fx_aload_n dX6_forgetRoutes_0 rfl rfl ?_
  refine gx_getr dX6_forgetRoutes_1 rfl fd_6_12 ha0.1 rfl rfl ?_
  obtain ⟨p1, ep1, h⟩ := xBind_el h
  refine gx_callv (as := []) (r := []) rfl dX6_forgetRoutes_4 ca_6_24 rfl me_119 rfl rfl rfl rfl (ha0.2.1.1) rfl (fX8_forget_ok (d := d) (by omega) ha0.2.1 ep1) rfl rfl ?_
  cases h
  exact fx_return dX6_forgetRoutes_7 rfl rfl
def fX6_forgetRoutes (a0 : Nat) (m : xMem) : Option xMem := fX6_forgetRoutes_0 a0  m
theorem fX6_forgetRoutes_ok {a0 : Nat} {m : xMem} {r : xMem} {d : Nat} (hd : 2 ≤ d) (ha0 : isMover a0) (h : fX6_forgetRoutes a0 m = some r) : xEx d 118 [.ref a0] (xLay m) none (xLay r) := by
  obtain ⟨d, rfl⟩ : ∃ q, d = q + 1 := ⟨d - 1, by omega⟩
  exact xEx_of me_118 rfl (fX6_forgetRoutes_0_ok (d := d) (by omega) ha0 h)
def fX11_run_24 (a0 : Nat) (a1 : Int32) : Nat → Nat → Int32 → xMem → Option (Int32 × xMem)
  | 0, _, _, _ => none
  | fuel + 1, l2, l3, m => if a1 ≤ l3 then xLet (m.1 (a0 + 1) 6) fun x2 => some (x2, m) else (fX6_passSecond (a0 + 250) (a0 + 1) l2 m).bind fun p3 => xLet (l3 + (1 : Int32)) fun x4 => fX11_run_24 a0 a1 fuel l2 x4 p3
set_option maxRecDepth 4000 in
theorem fX11_run_24_ok {a0 : Nat} {a1 : Int32} {d : Nat} (hd : 6 ≤ d) (ha0 : isMS a0) : ∀ (fuel : Nat) (l2 : Nat) (l3 : Int32) (m : xMem) (r : (Int32 × xMem)) (hl2 : isText l2), fX11_run_24 a0 a1 fuel l2 l3 m = some r → xFx hh_115 cX11_run d 24 [some (.ref a0), some (.int a1), some (.ref l2), some (.int l3)] [] (xLay m) 0 0 (some (.int r.1)) (xLay r.2) := by
  intro fuel
  induction fuel with
  | zero => intro l2 l3  m r hl2 h; cases h
  | succ fuel ih =>
    intro l2 l3  m r hl2 h
    unfold fX11_run_24 at h
    refine fx_iload_n dX11_run_24 rfl rfl ?_
    refine fx_iload_n dX11_run_25 rfl rfl ?_
    refine fx_icmp_ge (t := 47) dX11_run_26 rfl rfl (fun hc1 => ?_) (fun hc1 => ?_)
    · rw [if_pos hc1] at h
      refine fx_aload_n dX11_run_47 rfl rfl ?_
      refine gx_getr dX11_run_48 rfl fd_11_10 ha0.1 rfl rfl ?_
      obtain ⟨x2, hx2, h⟩ := xLet_el h
      refine gx_get dX11_run_51 rfl fd_11_173 ha0.2.1.1 rfl rfl hx2 ?_
      cases h
      exact fx_ireturn dX11_run_54 rfl rfl
    · rw [if_neg hc1] at h
      refine fx_aload_n dX11_run_29 rfl rfl ?_
      refine gx_getr dX11_run_30 rfl fd_11_25 ha0.1 rfl rfl ?_
      refine fx_aload_n dX11_run_33 rfl rfl ?_
      refine gx_getr dX11_run_34 rfl fd_11_10 ha0.1 rfl rfl ?_
      refine fx_aload_n dX11_run_37 rfl rfl ?_
      obtain ⟨p3, ep3, h⟩ := xBind_el h
      refine gx_callv (as := [.ref (a0 + 1), .ref l2]) (r := []) rfl dX11_run_38 ca_11_169 rfl me_120 rfl rfl rfl rfl (ha0.2.2.2.2.1.1) rfl (fX6_passSecond_ok (d := d) (by omega) ha0.2.2.2.2.1 ha0.2.1 hl2 ep3) rfl rfl ?_
      obtain ⟨x4, hx4, h⟩ := xLet_el h
      refine fx_iinc (ls2 := [some (.ref a0), some (.int a1), some (.ref l2), some (.int x4)]) dX11_run_41 rfl rfl rfl hx4 rfl ?_
      refine fx_goto (t := 24) dX11_run_44 rfl rfl ?_
      exact ih l2 x4 p3 r hl2 h
def fX11_run_0 (a0 : Nat) (a1 : Int32) (m : xMem) : Option (Int32 × xMem) := (fX11_mayRun a0 a1 m).bind fun p1 => if ¬ p1.1 = (0 : Int32) then (fX11_law a0 p1.2).bind fun p3 => (fX6_forgetRoutes (a0 + 250) p3.2).bind fun p4 => fX11_run_24 a0 a1 xFuel p3.1 (0 : Int32) p4 else some ((-1 : Int32), p1.2)
set_option maxRecDepth 4000 in
theorem fX11_run_0_ok {a0 : Nat} {a1 : Int32} {d : Nat} (hd : 6 ≤ d) (ha0 : isMS a0) {o2 : Option Value} {o3 : Option Value} {m : xMem} {r : (Int32 × xMem)} (q2 : xNoD o2 = true) (q3 : xNoD o3 = true) (h : fX11_run_0 a0 a1 m = some r) : xFx hh_115 cX11_run d 0 [some (.ref a0), some (.int a1), o2, o3] [] (xLay m) 0 0 (some (.int r.1)) (xLay r.2) := by
  unfold fX11_run_0 at h
  refine fx_aload_n dX11_run_0 rfl rfl ?_
  refine fx_iload_n dX11_run_1 rfl rfl ?_
  obtain ⟨p1, ep1, h⟩ := xBind_el h
  refine gx_callv (as := [.int a1]) (r := []) rfl dX11_run_2 ca_11_159 rfl me_116 rfl rfl rfl rfl (ha0.1) rfl (fX11_mayRun_ok (d := d) (by omega) ha0 ep1) rfl rfl ?_
  refine fx_if_ne (t := 10) dX11_run_5 rfl rfl (fun hc2 => ?_) (fun hc2 => ?_)
  · rw [if_pos hc2] at h
    refine fx_aload_n dX11_run_10 rfl rfl ?_
    obtain ⟨p3, ep3, h⟩ := xBind_el h
    refine gx_callv (as := []) (r := []) rfl dX11_run_11 ca_11_162 rfl me_117 rfl rfl rfl rfl (ha0.1) rfl (fX11_law_ok (d := d) (by omega) ha0 ep3) rfl rfl ?_
    have hqp3 : isText p3.1 := fX11_law_ref ha0 ep3
    refine fx_astore_n (ls2 := [some (.ref a0), some (.int a1), some (.ref p3.1), o3]) dX11_run_14 rfl rfl rfl ?_
    refine fx_aload_n dX11_run_15 rfl rfl ?_
    refine gx_getr dX11_run_16 rfl fd_11_25 ha0.1 rfl rfl ?_
    obtain ⟨p4, ep4, h⟩ := xBind_el h
    refine gx_callv (as := []) (r := []) rfl dX11_run_19 ca_11_166 rfl me_118 rfl rfl rfl rfl (ha0.2.2.2.2.1.1) rfl (fX6_forgetRoutes_ok (d := d) (by omega) ha0.2.2.2.2.1 ep4) rfl rfl ?_
    refine fx_iconst (x := 0) dX11_run_22 rfl (by decide) ?_
    refine fx_istore_n (ls2 := [some (.ref a0), some (.int a1), some (.ref p3.1), some (.int (0 : Int32))]) dX11_run_23 rfl rfl rfl ?_
    exact fX11_run_24_ok hd ha0 xFuel p3.1 (0 : Int32) p4 r hqp3 h
  · rw [if_neg hc2] at h
    refine fx_iconst (x := -1) dX11_run_8 rfl (by decide) ?_
    cases h
    exact fx_ireturn dX11_run_9 rfl rfl
def fX11_run (a0 : Nat) (a1 : Int32) (m : xMem) : Option (Int32 × xMem) := fX11_run_0 a0 a1  m
theorem fX11_run_ok {a0 : Nat} {a1 : Int32} {m : xMem} {r : (Int32 × xMem)} {d : Nat} (hd : 7 ≤ d) (ha0 : isMS a0) (h : fX11_run a0 a1 m = some r) : xEx d 115 [.ref a0, .int a1] (xLay m) (some (.int r.1)) (xLay r.2) := by
  obtain ⟨d, rfl⟩ : ∃ q, d = q + 1 := ⟨d - 1, by omega⟩
  exact xEx_of me_115 rfl (fX11_run_0_ok (d := d) (o2 := none) (o3 := none) (by omega) ha0 rfl rfl h)
