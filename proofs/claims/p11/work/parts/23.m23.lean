theorem bdX10_worth_0 : (decode cX10_worth 0 = .ok (.iconst 0, 1)) ∧ (decode cX10_worth 1 = .ok (.istore 4, 2)) ∧ (decode cX10_worth 3 = .ok (.iload_n 1, 1)) ∧ (decode cX10_worth 4 = .ok (.iconst 0, 1)) ∧ (decode cX10_worth 5 = .ok (.invokestatic 44, 3)) ∧ (decode cX10_worth 8 = .ok (.istore 5, 2)) ∧ (decode cX10_worth 10 = .ok (.iload 5, 2)) ∧ (decode cX10_worth 12 = .ok (.iload_n 2, 1)) ∧ (decode cX10_worth 13 = .ok (.if_icmp .ge 216, 3)) ∧ (decode cX10_worth 16 = .ok (.iload 5, 2)) ∧ (decode cX10_worth 18 = .ok (.aload_n 0, 1)) ∧ (decode cX10_worth 19 = .ok (.getfield 9, 3)) ∧ (decode cX10_worth 22 = .ok (.arraylength, 1)) ∧ (decode cX10_worth 23 = .ok (.if_icmp .ge 206, 3)) ∧ (decode cX10_worth 26 = .ok (.aload_n 0, 1)) ∧ (decode cX10_worth 27 = .ok (.getfield 9, 3)) := by decide +kernel
theorem dX10_worth_0 : decode cX10_worth 0 = .ok (.iconst 0, 1) := bdX10_worth_0.1
theorem dX10_worth_1 : decode cX10_worth 1 = .ok (.istore 4, 2) := bdX10_worth_0.2.1
theorem dX10_worth_3 : decode cX10_worth 3 = .ok (.iload_n 1, 1) := bdX10_worth_0.2.2.1
theorem dX10_worth_4 : decode cX10_worth 4 = .ok (.iconst 0, 1) := bdX10_worth_0.2.2.2.1
theorem dX10_worth_5 : decode cX10_worth 5 = .ok (.invokestatic 44, 3) := bdX10_worth_0.2.2.2.2.1
theorem dX10_worth_8 : decode cX10_worth 8 = .ok (.istore 5, 2) := bdX10_worth_0.2.2.2.2.2.1
theorem dX10_worth_10 : decode cX10_worth 10 = .ok (.iload 5, 2) := bdX10_worth_0.2.2.2.2.2.2.1
theorem dX10_worth_12 : decode cX10_worth 12 = .ok (.iload_n 2, 1) := bdX10_worth_0.2.2.2.2.2.2.2.1
theorem dX10_worth_13 : decode cX10_worth 13 = .ok (.if_icmp .ge 216, 3) := bdX10_worth_0.2.2.2.2.2.2.2.2.1
theorem dX10_worth_16 : decode cX10_worth 16 = .ok (.iload 5, 2) := bdX10_worth_0.2.2.2.2.2.2.2.2.2.1
theorem dX10_worth_18 : decode cX10_worth 18 = .ok (.aload_n 0, 1) := bdX10_worth_0.2.2.2.2.2.2.2.2.2.2.1
theorem dX10_worth_19 : decode cX10_worth 19 = .ok (.getfield 9, 3) := bdX10_worth_0.2.2.2.2.2.2.2.2.2.2.2.1
theorem dX10_worth_22 : decode cX10_worth 22 = .ok (.arraylength, 1) := bdX10_worth_0.2.2.2.2.2.2.2.2.2.2.2.2.1
theorem dX10_worth_23 : decode cX10_worth 23 = .ok (.if_icmp .ge 206, 3) := bdX10_worth_0.2.2.2.2.2.2.2.2.2.2.2.2.2.1
theorem dX10_worth_26 : decode cX10_worth 26 = .ok (.aload_n 0, 1) := bdX10_worth_0.2.2.2.2.2.2.2.2.2.2.2.2.2.2.1
theorem dX10_worth_27 : decode cX10_worth 27 = .ok (.getfield 9, 3) := bdX10_worth_0.2.2.2.2.2.2.2.2.2.2.2.2.2.2.2
theorem bdX10_worth_30 : (decode cX10_worth 30 = .ok (.iload 5, 2)) ∧ (decode cX10_worth 32 = .ok (.iaload, 1)) ∧ (decode cX10_worth 33 = .ok (.istore 6, 2)) ∧ (decode cX10_worth 35 = .ok (.aload_n 0, 1)) ∧ (decode cX10_worth 36 = .ok (.getfield 15, 3)) ∧ (decode cX10_worth 39 = .ok (.iload 5, 2)) ∧ (decode cX10_worth 41 = .ok (.iaload, 1)) ∧ (decode cX10_worth 42 = .ok (.istore 7, 2)) ∧ (decode cX10_worth 44 = .ok (.iload 7, 2)) ∧ (decode cX10_worth 46 = .ok (.i2l, 1)) ∧ (decode cX10_worth 47 = .ok (.lstore 8, 2)) ∧ (decode cX10_worth 49 = .ok (.iload 6, 2)) ∧ (decode cX10_worth 51 = .ok (.bipush 26, 2)) ∧ (decode cX10_worth 53 = .ok (.if_icmp .ne 29, 3)) ∧ (decode cX10_worth 56 = .ok (.iload 7, 2)) ∧ (decode cX10_worth 58 = .ok (.ifCond .lt 18, 3)) := by decide +kernel
theorem dX10_worth_30 : decode cX10_worth 30 = .ok (.iload 5, 2) := bdX10_worth_30.1
theorem dX10_worth_32 : decode cX10_worth 32 = .ok (.iaload, 1) := bdX10_worth_30.2.1
theorem dX10_worth_33 : decode cX10_worth 33 = .ok (.istore 6, 2) := bdX10_worth_30.2.2.1
theorem dX10_worth_35 : decode cX10_worth 35 = .ok (.aload_n 0, 1) := bdX10_worth_30.2.2.2.1
theorem dX10_worth_36 : decode cX10_worth 36 = .ok (.getfield 15, 3) := bdX10_worth_30.2.2.2.2.1
theorem dX10_worth_39 : decode cX10_worth 39 = .ok (.iload 5, 2) := bdX10_worth_30.2.2.2.2.2.1
theorem dX10_worth_41 : decode cX10_worth 41 = .ok (.iaload, 1) := bdX10_worth_30.2.2.2.2.2.2.1
theorem dX10_worth_42 : decode cX10_worth 42 = .ok (.istore 7, 2) := bdX10_worth_30.2.2.2.2.2.2.2.1
theorem dX10_worth_44 : decode cX10_worth 44 = .ok (.iload 7, 2) := bdX10_worth_30.2.2.2.2.2.2.2.2.1
theorem dX10_worth_46 : decode cX10_worth 46 = .ok (.i2l, 1) := bdX10_worth_30.2.2.2.2.2.2.2.2.2.1
theorem dX10_worth_47 : decode cX10_worth 47 = .ok (.lstore 8, 2) := bdX10_worth_30.2.2.2.2.2.2.2.2.2.2.1
theorem dX10_worth_49 : decode cX10_worth 49 = .ok (.iload 6, 2) := bdX10_worth_30.2.2.2.2.2.2.2.2.2.2.2.1
theorem dX10_worth_51 : decode cX10_worth 51 = .ok (.bipush 26, 2) := bdX10_worth_30.2.2.2.2.2.2.2.2.2.2.2.2.1
theorem dX10_worth_53 : decode cX10_worth 53 = .ok (.if_icmp .ne 29, 3) := bdX10_worth_30.2.2.2.2.2.2.2.2.2.2.2.2.2.1
theorem dX10_worth_56 : decode cX10_worth 56 = .ok (.iload 7, 2) := bdX10_worth_30.2.2.2.2.2.2.2.2.2.2.2.2.2.2.1
theorem dX10_worth_58 : decode cX10_worth 58 = .ok (.ifCond .lt 18, 3) := bdX10_worth_30.2.2.2.2.2.2.2.2.2.2.2.2.2.2.2
theorem bdX10_worth_61 : (decode cX10_worth 61 = .ok (.iload 7, 2)) ∧ (decode cX10_worth 63 = .ok (.aload_n 3, 1)) ∧ (decode cX10_worth 64 = .ok (.arraylength, 1)) ∧ (decode cX10_worth 65 = .ok (.if_icmp .ge 11, 3)) ∧ (decode cX10_worth 68 = .ok (.aload_n 3, 1)) ∧ (decode cX10_worth 69 = .ok (.iload 7, 2)) ∧ (decode cX10_worth 71 = .ok (.iaload, 1)) ∧ (decode cX10_worth 72 = .ok (.i2l, 1)) ∧ (decode cX10_worth 73 = .ok (.goto 4, 3)) ∧ (decode cX10_worth 76 = .ok (.lconst 0, 1)) ∧ (decode cX10_worth 77 = .ok (.lstore 8, 2)) ∧ (decode cX10_worth 79 = .ok (.goto 109, 3)) ∧ (decode cX10_worth 82 = .ok (.iload 6, 2)) ∧ (decode cX10_worth 84 = .ok (.bipush 25, 2)) ∧ (decode cX10_worth 86 = .ok (.if_icmp .ne 32, 3)) ∧ (decode cX10_worth 89 = .ok (.iload 4, 2)) := by decide +kernel
theorem dX10_worth_61 : decode cX10_worth 61 = .ok (.iload 7, 2) := bdX10_worth_61.1
theorem dX10_worth_63 : decode cX10_worth 63 = .ok (.aload_n 3, 1) := bdX10_worth_61.2.1
theorem dX10_worth_64 : decode cX10_worth 64 = .ok (.arraylength, 1) := bdX10_worth_61.2.2.1
theorem dX10_worth_65 : decode cX10_worth 65 = .ok (.if_icmp .ge 11, 3) := bdX10_worth_61.2.2.2.1
theorem dX10_worth_68 : decode cX10_worth 68 = .ok (.aload_n 3, 1) := bdX10_worth_61.2.2.2.2.1
theorem dX10_worth_69 : decode cX10_worth 69 = .ok (.iload 7, 2) := bdX10_worth_61.2.2.2.2.2.1
theorem dX10_worth_71 : decode cX10_worth 71 = .ok (.iaload, 1) := bdX10_worth_61.2.2.2.2.2.2.1
theorem dX10_worth_72 : decode cX10_worth 72 = .ok (.i2l, 1) := bdX10_worth_61.2.2.2.2.2.2.2.1
theorem dX10_worth_73 : decode cX10_worth 73 = .ok (.goto 4, 3) := bdX10_worth_61.2.2.2.2.2.2.2.2.1
theorem dX10_worth_76 : decode cX10_worth 76 = .ok (.lconst 0, 1) := bdX10_worth_61.2.2.2.2.2.2.2.2.2.1
theorem dX10_worth_77 : decode cX10_worth 77 = .ok (.lstore 8, 2) := bdX10_worth_61.2.2.2.2.2.2.2.2.2.2.1
theorem dX10_worth_79 : decode cX10_worth 79 = .ok (.goto 109, 3) := bdX10_worth_61.2.2.2.2.2.2.2.2.2.2.2.1
theorem dX10_worth_82 : decode cX10_worth 82 = .ok (.iload 6, 2) := bdX10_worth_61.2.2.2.2.2.2.2.2.2.2.2.2.1
theorem dX10_worth_84 : decode cX10_worth 84 = .ok (.bipush 25, 2) := bdX10_worth_61.2.2.2.2.2.2.2.2.2.2.2.2.2.1
theorem dX10_worth_86 : decode cX10_worth 86 = .ok (.if_icmp .ne 32, 3) := bdX10_worth_61.2.2.2.2.2.2.2.2.2.2.2.2.2.2.1
theorem dX10_worth_89 : decode cX10_worth 89 = .ok (.iload 4, 2) := bdX10_worth_61.2.2.2.2.2.2.2.2.2.2.2.2.2.2.2
theorem bdX10_worth_91 : (decode cX10_worth 91 = .ok (.iconst 1, 1)) ∧ (decode cX10_worth 92 = .ok (.if_icmp .lt 26, 3)) ∧ (decode cX10_worth 95 = .ok (.iinc 4 (-1), 3)) ∧ (decode cX10_worth 98 = .ok (.aload_n 0, 1)) ∧ (decode cX10_worth 99 = .ok (.getfield 24, 3)) ∧ (decode cX10_worth 102 = .ok (.iload 4, 2)) ∧ (decode cX10_worth 104 = .ok (.iaload, 1)) ∧ (decode cX10_worth 105 = .ok (.ifCond .ne 7, 3)) ∧ (decode cX10_worth 108 = .ok (.lconst 1, 1)) ∧ (decode cX10_worth 109 = .ok (.goto 4, 3)) ∧ (decode cX10_worth 112 = .ok (.lconst 0, 1)) ∧ (decode cX10_worth 113 = .ok (.lstore 8, 2)) ∧ (decode cX10_worth 115 = .ok (.goto 73, 3)) ∧ (decode cX10_worth 118 = .ok (.iload 6, 2)) ∧ (decode cX10_worth 120 = .ok (.bipush 16, 2)) ∧ (decode cX10_worth 122 = .ok (.if_icmp .ne 26, 3)) := by decide +kernel
theorem dX10_worth_91 : decode cX10_worth 91 = .ok (.iconst 1, 1) := bdX10_worth_91.1
theorem dX10_worth_92 : decode cX10_worth 92 = .ok (.if_icmp .lt 26, 3) := bdX10_worth_91.2.1
theorem dX10_worth_95 : decode cX10_worth 95 = .ok (.iinc 4 (-1), 3) := bdX10_worth_91.2.2.1
theorem dX10_worth_98 : decode cX10_worth 98 = .ok (.aload_n 0, 1) := bdX10_worth_91.2.2.2.1
theorem dX10_worth_99 : decode cX10_worth 99 = .ok (.getfield 24, 3) := bdX10_worth_91.2.2.2.2.1
theorem dX10_worth_102 : decode cX10_worth 102 = .ok (.iload 4, 2) := bdX10_worth_91.2.2.2.2.2.1
theorem dX10_worth_104 : decode cX10_worth 104 = .ok (.iaload, 1) := bdX10_worth_91.2.2.2.2.2.2.1
theorem dX10_worth_105 : decode cX10_worth 105 = .ok (.ifCond .ne 7, 3) := bdX10_worth_91.2.2.2.2.2.2.2.1
theorem dX10_worth_108 : decode cX10_worth 108 = .ok (.lconst 1, 1) := bdX10_worth_91.2.2.2.2.2.2.2.2.1
theorem dX10_worth_109 : decode cX10_worth 109 = .ok (.goto 4, 3) := bdX10_worth_91.2.2.2.2.2.2.2.2.2.1
theorem dX10_worth_112 : decode cX10_worth 112 = .ok (.lconst 0, 1) := bdX10_worth_91.2.2.2.2.2.2.2.2.2.2.1
theorem dX10_worth_113 : decode cX10_worth 113 = .ok (.lstore 8, 2) := bdX10_worth_91.2.2.2.2.2.2.2.2.2.2.2.1
theorem dX10_worth_115 : decode cX10_worth 115 = .ok (.goto 73, 3) := bdX10_worth_91.2.2.2.2.2.2.2.2.2.2.2.2.1
theorem dX10_worth_118 : decode cX10_worth 118 = .ok (.iload 6, 2) := bdX10_worth_91.2.2.2.2.2.2.2.2.2.2.2.2.2.1
theorem dX10_worth_120 : decode cX10_worth 120 = .ok (.bipush 16, 2) := bdX10_worth_91.2.2.2.2.2.2.2.2.2.2.2.2.2.2.1
theorem dX10_worth_122 : decode cX10_worth 122 = .ok (.if_icmp .ne 26, 3) := bdX10_worth_91.2.2.2.2.2.2.2.2.2.2.2.2.2.2.2
theorem bdX10_worth_125 : (decode cX10_worth 125 = .ok (.iload 4, 2)) ∧ (decode cX10_worth 127 = .ok (.iconst 1, 1)) ∧ (decode cX10_worth 128 = .ok (.if_icmp .lt 20, 3)) ∧ (decode cX10_worth 131 = .ok (.iinc 4 (-1), 3)) ∧ (decode cX10_worth 134 = .ok (.aload_n 0, 1)) ∧ (decode cX10_worth 135 = .ok (.getfield 24, 3)) ∧ (decode cX10_worth 138 = .ok (.iload 4, 2)) ∧ (decode cX10_worth 140 = .ok (.iaload, 1)) ∧ (decode cX10_worth 141 = .ok (.ineg, 1)) ∧ (decode cX10_worth 142 = .ok (.i2l, 1)) ∧ (decode cX10_worth 143 = .ok (.lstore 8, 2)) ∧ (decode cX10_worth 145 = .ok (.goto 43, 3)) ∧ (decode cX10_worth 148 = .ok (.iload 6, 2)) ∧ (decode cX10_worth 150 = .ok (.iconst 2, 1)) ∧ (decode cX10_worth 151 = .ok (.if_icmp .eq 37, 3)) ∧ (decode cX10_worth 154 = .ok (.iload 4, 2)) := by decide +kernel
theorem dX10_worth_125 : decode cX10_worth 125 = .ok (.iload 4, 2) := bdX10_worth_125.1
theorem dX10_worth_127 : decode cX10_worth 127 = .ok (.iconst 1, 1) := bdX10_worth_125.2.1
theorem dX10_worth_128 : decode cX10_worth 128 = .ok (.if_icmp .lt 20, 3) := bdX10_worth_125.2.2.1
theorem dX10_worth_131 : decode cX10_worth 131 = .ok (.iinc 4 (-1), 3) := bdX10_worth_125.2.2.2.1
theorem dX10_worth_134 : decode cX10_worth 134 = .ok (.aload_n 0, 1) := bdX10_worth_125.2.2.2.2.1
theorem dX10_worth_135 : decode cX10_worth 135 = .ok (.getfield 24, 3) := bdX10_worth_125.2.2.2.2.2.1
theorem dX10_worth_138 : decode cX10_worth 138 = .ok (.iload 4, 2) := bdX10_worth_125.2.2.2.2.2.2.1
theorem dX10_worth_140 : decode cX10_worth 140 = .ok (.iaload, 1) := bdX10_worth_125.2.2.2.2.2.2.2.1
theorem dX10_worth_141 : decode cX10_worth 141 = .ok (.ineg, 1) := bdX10_worth_125.2.2.2.2.2.2.2.2.1
theorem dX10_worth_142 : decode cX10_worth 142 = .ok (.i2l, 1) := bdX10_worth_125.2.2.2.2.2.2.2.2.2.1
theorem dX10_worth_143 : decode cX10_worth 143 = .ok (.lstore 8, 2) := bdX10_worth_125.2.2.2.2.2.2.2.2.2.2.1
theorem dX10_worth_145 : decode cX10_worth 145 = .ok (.goto 43, 3) := bdX10_worth_125.2.2.2.2.2.2.2.2.2.2.2.1
theorem dX10_worth_148 : decode cX10_worth 148 = .ok (.iload 6, 2) := bdX10_worth_125.2.2.2.2.2.2.2.2.2.2.2.2.1
theorem dX10_worth_150 : decode cX10_worth 150 = .ok (.iconst 2, 1) := bdX10_worth_125.2.2.2.2.2.2.2.2.2.2.2.2.2.1
theorem dX10_worth_151 : decode cX10_worth 151 = .ok (.if_icmp .eq 37, 3) := bdX10_worth_125.2.2.2.2.2.2.2.2.2.2.2.2.2.2.1
theorem dX10_worth_154 : decode cX10_worth 154 = .ok (.iload 4, 2) := bdX10_worth_125.2.2.2.2.2.2.2.2.2.2.2.2.2.2.2
theorem bdX10_worth_156 : (decode cX10_worth 156 = .ok (.iconst 2, 1)) ∧ (decode cX10_worth 157 = .ok (.if_icmp .lt 31, 3)) ∧ (decode cX10_worth 160 = .ok (.iinc 4 (-2), 3)) ∧ (decode cX10_worth 163 = .ok (.iload 6, 2)) ∧ (decode cX10_worth 165 = .ok (.aload_n 0, 1)) ∧ (decode cX10_worth 166 = .ok (.getfield 24, 3)) ∧ (decode cX10_worth 169 = .ok (.iload 4, 2)) ∧ (decode cX10_worth 171 = .ok (.iaload, 1)) ∧ (decode cX10_worth 172 = .ok (.i2l, 1)) ∧ (decode cX10_worth 173 = .ok (.aload_n 0, 1)) ∧ (decode cX10_worth 174 = .ok (.getfield 24, 3)) ∧ (decode cX10_worth 177 = .ok (.iload 4, 2)) ∧ (decode cX10_worth 179 = .ok (.iconst 1, 1)) ∧ (decode cX10_worth 180 = .ok (.iadd, 1)) ∧ (decode cX10_worth 181 = .ok (.iaload, 1)) ∧ (decode cX10_worth 182 = .ok (.i2l, 1)) := by decide +kernel
theorem dX10_worth_156 : decode cX10_worth 156 = .ok (.iconst 2, 1) := bdX10_worth_156.1
theorem dX10_worth_157 : decode cX10_worth 157 = .ok (.if_icmp .lt 31, 3) := bdX10_worth_156.2.1
theorem dX10_worth_160 : decode cX10_worth 160 = .ok (.iinc 4 (-2), 3) := bdX10_worth_156.2.2.1
theorem dX10_worth_163 : decode cX10_worth 163 = .ok (.iload 6, 2) := bdX10_worth_156.2.2.2.1
theorem dX10_worth_165 : decode cX10_worth 165 = .ok (.aload_n 0, 1) := bdX10_worth_156.2.2.2.2.1
theorem dX10_worth_166 : decode cX10_worth 166 = .ok (.getfield 24, 3) := bdX10_worth_156.2.2.2.2.2.1
theorem dX10_worth_169 : decode cX10_worth 169 = .ok (.iload 4, 2) := bdX10_worth_156.2.2.2.2.2.2.1
theorem dX10_worth_171 : decode cX10_worth 171 = .ok (.iaload, 1) := bdX10_worth_156.2.2.2.2.2.2.2.1
theorem dX10_worth_172 : decode cX10_worth 172 = .ok (.i2l, 1) := bdX10_worth_156.2.2.2.2.2.2.2.2.1
theorem dX10_worth_173 : decode cX10_worth 173 = .ok (.aload_n 0, 1) := bdX10_worth_156.2.2.2.2.2.2.2.2.2.1
theorem dX10_worth_174 : decode cX10_worth 174 = .ok (.getfield 24, 3) := bdX10_worth_156.2.2.2.2.2.2.2.2.2.2.1
theorem dX10_worth_177 : decode cX10_worth 177 = .ok (.iload 4, 2) := bdX10_worth_156.2.2.2.2.2.2.2.2.2.2.2.1
theorem dX10_worth_179 : decode cX10_worth 179 = .ok (.iconst 1, 1) := bdX10_worth_156.2.2.2.2.2.2.2.2.2.2.2.2.1
theorem dX10_worth_180 : decode cX10_worth 180 = .ok (.iadd, 1) := bdX10_worth_156.2.2.2.2.2.2.2.2.2.2.2.2.2.1
theorem dX10_worth_181 : decode cX10_worth 181 = .ok (.iaload, 1) := bdX10_worth_156.2.2.2.2.2.2.2.2.2.2.2.2.2.2.1
theorem dX10_worth_182 : decode cX10_worth 182 = .ok (.i2l, 1) := bdX10_worth_156.2.2.2.2.2.2.2.2.2.2.2.2.2.2.2
theorem bdX10_worth_183 : (decode cX10_worth 183 = .ok (.invokestatic 47, 3)) ∧ (decode cX10_worth 186 = .ok (.lstore 8, 2)) ∧ (decode cX10_worth 188 = .ok (.iload 4, 2)) ∧ (decode cX10_worth 190 = .ok (.aload_n 0, 1)) ∧ (decode cX10_worth 191 = .ok (.getfield 24, 3)) ∧ (decode cX10_worth 194 = .ok (.arraylength, 1)) ∧ (decode cX10_worth 195 = .ok (.if_icmp .ge 28, 3)) ∧ (decode cX10_worth 198 = .ok (.aload_n 0, 1)) ∧ (decode cX10_worth 199 = .ok (.getfield 24, 3)) ∧ (decode cX10_worth 202 = .ok (.iload 4, 2)) ∧ (decode cX10_worth 204 = .ok (.ldc2_w 51, 3)) ∧ (decode cX10_worth 207 = .ok (.ldc2_w 53, 3)) ∧ (decode cX10_worth 210 = .ok (.lload 8, 2)) ∧ (decode cX10_worth 212 = .ok (.invokestatic 55, 3)) ∧ (decode cX10_worth 215 = .ok (.invokestatic 58, 3)) ∧ (decode cX10_worth 218 = .ok (.l2i, 1)) := by decide +kernel
theorem dX10_worth_183 : decode cX10_worth 183 = .ok (.invokestatic 47, 3) := bdX10_worth_183.1
theorem dX10_worth_186 : decode cX10_worth 186 = .ok (.lstore 8, 2) := bdX10_worth_183.2.1
theorem dX10_worth_188 : decode cX10_worth 188 = .ok (.iload 4, 2) := bdX10_worth_183.2.2.1
theorem dX10_worth_190 : decode cX10_worth 190 = .ok (.aload_n 0, 1) := bdX10_worth_183.2.2.2.1
theorem dX10_worth_191 : decode cX10_worth 191 = .ok (.getfield 24, 3) := bdX10_worth_183.2.2.2.2.1
theorem dX10_worth_194 : decode cX10_worth 194 = .ok (.arraylength, 1) := bdX10_worth_183.2.2.2.2.2.1
theorem dX10_worth_195 : decode cX10_worth 195 = .ok (.if_icmp .ge 28, 3) := bdX10_worth_183.2.2.2.2.2.2.1
theorem dX10_worth_198 : decode cX10_worth 198 = .ok (.aload_n 0, 1) := bdX10_worth_183.2.2.2.2.2.2.2.1
theorem dX10_worth_199 : decode cX10_worth 199 = .ok (.getfield 24, 3) := bdX10_worth_183.2.2.2.2.2.2.2.2.1
theorem dX10_worth_202 : decode cX10_worth 202 = .ok (.iload 4, 2) := bdX10_worth_183.2.2.2.2.2.2.2.2.2.1
theorem dX10_worth_204 : decode cX10_worth 204 = .ok (.ldc2_w 51, 3) := bdX10_worth_183.2.2.2.2.2.2.2.2.2.2.1
theorem dX10_worth_207 : decode cX10_worth 207 = .ok (.ldc2_w 53, 3) := bdX10_worth_183.2.2.2.2.2.2.2.2.2.2.2.1
theorem dX10_worth_210 : decode cX10_worth 210 = .ok (.lload 8, 2) := bdX10_worth_183.2.2.2.2.2.2.2.2.2.2.2.2.1
theorem dX10_worth_212 : decode cX10_worth 212 = .ok (.invokestatic 55, 3) := bdX10_worth_183.2.2.2.2.2.2.2.2.2.2.2.2.2.1
theorem dX10_worth_215 : decode cX10_worth 215 = .ok (.invokestatic 58, 3) := bdX10_worth_183.2.2.2.2.2.2.2.2.2.2.2.2.2.2.1
theorem dX10_worth_218 : decode cX10_worth 218 = .ok (.l2i, 1) := bdX10_worth_183.2.2.2.2.2.2.2.2.2.2.2.2.2.2.2
theorem bdX10_worth_219 : (decode cX10_worth 219 = .ok (.iastore, 1)) ∧ (decode cX10_worth 220 = .ok (.iinc 4 1, 3)) ∧ (decode cX10_worth 223 = .ok (.iinc 5 1, 3)) ∧ (decode cX10_worth 226 = .ok (.goto (-216), 3)) ∧ (decode cX10_worth 229 = .ok (.aload_n 0, 1)) ∧ (decode cX10_worth 230 = .ok (.getfield 24, 3)) ∧ (decode cX10_worth 233 = .ok (.iconst 0, 1)) ∧ (decode cX10_worth 234 = .ok (.iaload, 1)) ∧ (decode cX10_worth 235 = .ok (.ireturn, 1)) := by decide +kernel
theorem dX10_worth_219 : decode cX10_worth 219 = .ok (.iastore, 1) := bdX10_worth_219.1
theorem dX10_worth_220 : decode cX10_worth 220 = .ok (.iinc 4 1, 3) := bdX10_worth_219.2.1
theorem dX10_worth_223 : decode cX10_worth 223 = .ok (.iinc 5 1, 3) := bdX10_worth_219.2.2.1
theorem dX10_worth_226 : decode cX10_worth 226 = .ok (.goto (-216), 3) := bdX10_worth_219.2.2.2.1
theorem dX10_worth_229 : decode cX10_worth 229 = .ok (.aload_n 0, 1) := bdX10_worth_219.2.2.2.2.1
theorem dX10_worth_230 : decode cX10_worth 230 = .ok (.getfield 24, 3) := bdX10_worth_219.2.2.2.2.2.1
theorem dX10_worth_233 : decode cX10_worth 233 = .ok (.iconst 0, 1) := bdX10_worth_219.2.2.2.2.2.2.1
theorem dX10_worth_234 : decode cX10_worth 234 = .ok (.iaload, 1) := bdX10_worth_219.2.2.2.2.2.2.2.1
theorem dX10_worth_235 : decode cX10_worth 235 = .ok (.ireturn, 1) := bdX10_worth_219.2.2.2.2.2.2.2.2
theorem bdX10_anySo_0 : (decode cX10_anySo 0 = .ok (.iconst 0, 1)) ∧ (decode cX10_anySo 1 = .ok (.istore_n 3, 1)) ∧ (decode cX10_anySo 2 = .ok (.iconst 0, 1)) ∧ (decode cX10_anySo 3 = .ok (.istore 4, 2)) ∧ (decode cX10_anySo 5 = .ok (.iload 4, 2)) ∧ (decode cX10_anySo 7 = .ok (.aload_n 0, 1)) ∧ (decode cX10_anySo 8 = .ok (.getfield 31, 3)) ∧ (decode cX10_anySo 11 = .ok (.if_icmp .ge 56, 3)) ∧ (decode cX10_anySo 14 = .ok (.iload 4, 2)) ∧ (decode cX10_anySo 16 = .ok (.aload_n 0, 1)) ∧ (decode cX10_anySo 17 = .ok (.getfield 18, 3)) ∧ (decode cX10_anySo 20 = .ok (.arraylength, 1)) ∧ (decode cX10_anySo 21 = .ok (.if_icmp .ge 46, 3)) ∧ (decode cX10_anySo 24 = .ok (.aload_n 0, 1)) ∧ (decode cX10_anySo 25 = .ok (.getfield 18, 3)) ∧ (decode cX10_anySo 28 = .ok (.iload 4, 2)) := by decide +kernel
theorem dX10_anySo_0 : decode cX10_anySo 0 = .ok (.iconst 0, 1) := bdX10_anySo_0.1
theorem dX10_anySo_1 : decode cX10_anySo 1 = .ok (.istore_n 3, 1) := bdX10_anySo_0.2.1
theorem dX10_anySo_2 : decode cX10_anySo 2 = .ok (.iconst 0, 1) := bdX10_anySo_0.2.2.1
theorem dX10_anySo_3 : decode cX10_anySo 3 = .ok (.istore 4, 2) := bdX10_anySo_0.2.2.2.1
theorem dX10_anySo_5 : decode cX10_anySo 5 = .ok (.iload 4, 2) := bdX10_anySo_0.2.2.2.2.1
theorem dX10_anySo_7 : decode cX10_anySo 7 = .ok (.aload_n 0, 1) := bdX10_anySo_0.2.2.2.2.2.1
theorem dX10_anySo_8 : decode cX10_anySo 8 = .ok (.getfield 31, 3) := bdX10_anySo_0.2.2.2.2.2.2.1
theorem dX10_anySo_11 : decode cX10_anySo 11 = .ok (.if_icmp .ge 56, 3) := bdX10_anySo_0.2.2.2.2.2.2.2.1
theorem dX10_anySo_14 : decode cX10_anySo 14 = .ok (.iload 4, 2) := bdX10_anySo_0.2.2.2.2.2.2.2.2.1
theorem dX10_anySo_16 : decode cX10_anySo 16 = .ok (.aload_n 0, 1) := bdX10_anySo_0.2.2.2.2.2.2.2.2.2.1
theorem dX10_anySo_17 : decode cX10_anySo 17 = .ok (.getfield 18, 3) := bdX10_anySo_0.2.2.2.2.2.2.2.2.2.2.1
theorem dX10_anySo_20 : decode cX10_anySo 20 = .ok (.arraylength, 1) := bdX10_anySo_0.2.2.2.2.2.2.2.2.2.2.2.1
theorem dX10_anySo_21 : decode cX10_anySo 21 = .ok (.if_icmp .ge 46, 3) := bdX10_anySo_0.2.2.2.2.2.2.2.2.2.2.2.2.1
theorem dX10_anySo_24 : decode cX10_anySo 24 = .ok (.aload_n 0, 1) := bdX10_anySo_0.2.2.2.2.2.2.2.2.2.2.2.2.2.1
theorem dX10_anySo_25 : decode cX10_anySo 25 = .ok (.getfield 18, 3) := bdX10_anySo_0.2.2.2.2.2.2.2.2.2.2.2.2.2.2.1
theorem dX10_anySo_28 : decode cX10_anySo 28 = .ok (.iload 4, 2) := bdX10_anySo_0.2.2.2.2.2.2.2.2.2.2.2.2.2.2.2
theorem bdX10_anySo_30 : (decode cX10_anySo 30 = .ok (.iaload, 1)) ∧ (decode cX10_anySo 31 = .ok (.iload_n 1, 1)) ∧ (decode cX10_anySo 32 = .ok (.if_icmp .ne 21, 3)) ∧ (decode cX10_anySo 35 = .ok (.aload_n 0, 1)) ∧ (decode cX10_anySo 36 = .ok (.iload_n 3, 1)) ∧ (decode cX10_anySo 37 = .ok (.aload_n 0, 1)) ∧ (decode cX10_anySo 38 = .ok (.getfield 21, 3)) ∧ (decode cX10_anySo 41 = .ok (.iload 4, 2)) ∧ (decode cX10_anySo 43 = .ok (.iaload, 1)) ∧ (decode cX10_anySo 44 = .ok (.aload_n 2, 1)) ∧ (decode cX10_anySo 45 = .ok (.invokevirtual 34, 3)) ∧ (decode cX10_anySo 48 = .ok (.ifCond .eq 5, 3)) ∧ (decode cX10_anySo 51 = .ok (.iconst 1, 1)) ∧ (decode cX10_anySo 52 = .ok (.ireturn, 1)) ∧ (decode cX10_anySo 53 = .ok (.aload_n 0, 1)) ∧ (decode cX10_anySo 54 = .ok (.getfield 21, 3)) := by decide +kernel
theorem dX10_anySo_30 : decode cX10_anySo 30 = .ok (.iaload, 1) := bdX10_anySo_30.1
theorem dX10_anySo_31 : decode cX10_anySo 31 = .ok (.iload_n 1, 1) := bdX10_anySo_30.2.1
theorem dX10_anySo_32 : decode cX10_anySo 32 = .ok (.if_icmp .ne 21, 3) := bdX10_anySo_30.2.2.1
theorem dX10_anySo_35 : decode cX10_anySo 35 = .ok (.aload_n 0, 1) := bdX10_anySo_30.2.2.2.1
theorem dX10_anySo_36 : decode cX10_anySo 36 = .ok (.iload_n 3, 1) := bdX10_anySo_30.2.2.2.2.1
theorem dX10_anySo_37 : decode cX10_anySo 37 = .ok (.aload_n 0, 1) := bdX10_anySo_30.2.2.2.2.2.1
theorem dX10_anySo_38 : decode cX10_anySo 38 = .ok (.getfield 21, 3) := bdX10_anySo_30.2.2.2.2.2.2.1
theorem dX10_anySo_41 : decode cX10_anySo 41 = .ok (.iload 4, 2) := bdX10_anySo_30.2.2.2.2.2.2.2.1
theorem dX10_anySo_43 : decode cX10_anySo 43 = .ok (.iaload, 1) := bdX10_anySo_30.2.2.2.2.2.2.2.2.1
theorem dX10_anySo_44 : decode cX10_anySo 44 = .ok (.aload_n 2, 1) := bdX10_anySo_30.2.2.2.2.2.2.2.2.2.1
theorem dX10_anySo_45 : decode cX10_anySo 45 = .ok (.invokevirtual 34, 3) := bdX10_anySo_30.2.2.2.2.2.2.2.2.2.2.1
theorem dX10_anySo_48 : decode cX10_anySo 48 = .ok (.ifCond .eq 5, 3) := bdX10_anySo_30.2.2.2.2.2.2.2.2.2.2.2.1
theorem dX10_anySo_51 : decode cX10_anySo 51 = .ok (.iconst 1, 1) := bdX10_anySo_30.2.2.2.2.2.2.2.2.2.2.2.2.1
theorem dX10_anySo_52 : decode cX10_anySo 52 = .ok (.ireturn, 1) := bdX10_anySo_30.2.2.2.2.2.2.2.2.2.2.2.2.2.1
theorem dX10_anySo_53 : decode cX10_anySo 53 = .ok (.aload_n 0, 1) := bdX10_anySo_30.2.2.2.2.2.2.2.2.2.2.2.2.2.2.1
theorem dX10_anySo_54 : decode cX10_anySo 54 = .ok (.getfield 21, 3) := bdX10_anySo_30.2.2.2.2.2.2.2.2.2.2.2.2.2.2.2
theorem bdX10_anySo_57 : (decode cX10_anySo 57 = .ok (.iload 4, 2)) ∧ (decode cX10_anySo 59 = .ok (.iaload, 1)) ∧ (decode cX10_anySo 60 = .ok (.istore_n 3, 1)) ∧ (decode cX10_anySo 61 = .ok (.iinc 4 1, 3)) ∧ (decode cX10_anySo 64 = .ok (.goto (-59), 3)) ∧ (decode cX10_anySo 67 = .ok (.iconst 0, 1)) ∧ (decode cX10_anySo 68 = .ok (.ireturn, 1)) := by decide +kernel
theorem dX10_anySo_57 : decode cX10_anySo 57 = .ok (.iload 4, 2) := bdX10_anySo_57.1
theorem dX10_anySo_59 : decode cX10_anySo 59 = .ok (.iaload, 1) := bdX10_anySo_57.2.1
theorem dX10_anySo_60 : decode cX10_anySo 60 = .ok (.istore_n 3, 1) := bdX10_anySo_57.2.2.1
theorem dX10_anySo_61 : decode cX10_anySo 61 = .ok (.iinc 4 1, 3) := bdX10_anySo_57.2.2.2.1
theorem dX10_anySo_64 : decode cX10_anySo 64 = .ok (.goto (-59), 3) := bdX10_anySo_57.2.2.2.2.1
theorem dX10_anySo_67 : decode cX10_anySo 67 = .ok (.iconst 0, 1) := bdX10_anySo_57.2.2.2.2.2.1
theorem dX10_anySo_68 : decode cX10_anySo 68 = .ok (.ireturn, 1) := bdX10_anySo_57.2.2.2.2.2.2
theorem bdX6_isSo_0 : (decode cX6_isSo 0 = .ok (.aload_n 1, 1)) ∧ (decode cX6_isSo 1 = .ok (.iload 4, 2)) ∧ (decode cX6_isSo 3 = .ok (.invokevirtual 69, 3)) ∧ (decode cX6_isSo 6 = .ok (.ifCond .ne 5, 3)) ∧ (decode cX6_isSo 9 = .ok (.iconst 0, 1)) ∧ (decode cX6_isSo 10 = .ok (.ireturn, 1)) ∧ (decode cX6_isSo 11 = .ok (.aload_n 1, 1)) ∧ (decode cX6_isSo 12 = .ok (.getfield 96, 3)) ∧ (decode cX6_isSo 15 = .ok (.iload 4, 2)) ∧ (decode cX6_isSo 17 = .ok (.aaload, 1)) ∧ (decode cX6_isSo 18 = .ok (.astore 5, 2)) ∧ (decode cX6_isSo 20 = .ok (.aload_n 0, 1)) ∧ (decode cX6_isSo 21 = .ok (.getfield 20, 3)) ∧ (decode cX6_isSo 24 = .ok (.iconst 0, 1)) ∧ (decode cX6_isSo 25 = .ok (.aload_n 1, 1)) ∧ (decode cX6_isSo 26 = .ok (.getfield 47, 3)) := by decide +kernel
theorem dX6_isSo_0 : decode cX6_isSo 0 = .ok (.aload_n 1, 1) := bdX6_isSo_0.1
theorem dX6_isSo_1 : decode cX6_isSo 1 = .ok (.iload 4, 2) := bdX6_isSo_0.2.1
theorem dX6_isSo_3 : decode cX6_isSo 3 = .ok (.invokevirtual 69, 3) := bdX6_isSo_0.2.2.1
theorem dX6_isSo_6 : decode cX6_isSo 6 = .ok (.ifCond .ne 5, 3) := bdX6_isSo_0.2.2.2.1
theorem dX6_isSo_9 : decode cX6_isSo 9 = .ok (.iconst 0, 1) := bdX6_isSo_0.2.2.2.2.1
theorem dX6_isSo_10 : decode cX6_isSo 10 = .ok (.ireturn, 1) := bdX6_isSo_0.2.2.2.2.2.1
theorem dX6_isSo_11 : decode cX6_isSo 11 = .ok (.aload_n 1, 1) := bdX6_isSo_0.2.2.2.2.2.2.1
theorem dX6_isSo_12 : decode cX6_isSo 12 = .ok (.getfield 96, 3) := bdX6_isSo_0.2.2.2.2.2.2.2.1
theorem dX6_isSo_15 : decode cX6_isSo 15 = .ok (.iload 4, 2) := bdX6_isSo_0.2.2.2.2.2.2.2.2.1
theorem dX6_isSo_17 : decode cX6_isSo 17 = .ok (.aaload, 1) := bdX6_isSo_0.2.2.2.2.2.2.2.2.2.1
theorem dX6_isSo_18 : decode cX6_isSo 18 = .ok (.astore 5, 2) := bdX6_isSo_0.2.2.2.2.2.2.2.2.2.2.1
theorem dX6_isSo_20 : decode cX6_isSo 20 = .ok (.aload_n 0, 1) := bdX6_isSo_0.2.2.2.2.2.2.2.2.2.2.2.1
theorem dX6_isSo_21 : decode cX6_isSo 21 = .ok (.getfield 20, 3) := bdX6_isSo_0.2.2.2.2.2.2.2.2.2.2.2.2.1
theorem dX6_isSo_24 : decode cX6_isSo 24 = .ok (.iconst 0, 1) := bdX6_isSo_0.2.2.2.2.2.2.2.2.2.2.2.2.2.1
theorem dX6_isSo_25 : decode cX6_isSo 25 = .ok (.aload_n 1, 1) := bdX6_isSo_0.2.2.2.2.2.2.2.2.2.2.2.2.2.2.1
theorem dX6_isSo_26 : decode cX6_isSo 26 = .ok (.getfield 47, 3) := bdX6_isSo_0.2.2.2.2.2.2.2.2.2.2.2.2.2.2.2
theorem bdX6_isSo_29 : (decode cX6_isSo 29 = .ok (.iastore, 1)) ∧ (decode cX6_isSo 30 = .ok (.aload_n 0, 1)) ∧ (decode cX6_isSo 31 = .ok (.getfield 20, 3)) ∧ (decode cX6_isSo 34 = .ok (.iconst 1, 1)) ∧ (decode cX6_isSo 35 = .ok (.iload 4, 2)) ∧ (decode cX6_isSo 37 = .ok (.iastore, 1)) ∧ (decode cX6_isSo 38 = .ok (.aload_n 0, 1)) ∧ (decode cX6_isSo 39 = .ok (.getfield 20, 3)) ∧ (decode cX6_isSo 42 = .ok (.iconst 2, 1)) ∧ (decode cX6_isSo 43 = .ok (.aload 5, 2)) ∧ (decode cX6_isSo 45 = .ok (.getfield 106, 3)) ∧ (decode cX6_isSo 48 = .ok (.iastore, 1)) ∧ (decode cX6_isSo 49 = .ok (.aload_n 0, 1)) ∧ (decode cX6_isSo 50 = .ok (.getfield 20, 3)) ∧ (decode cX6_isSo 53 = .ok (.iconst 3, 1)) ∧ (decode cX6_isSo 54 = .ok (.aload 5, 2)) := by decide +kernel
theorem dX6_isSo_29 : decode cX6_isSo 29 = .ok (.iastore, 1) := bdX6_isSo_29.1
theorem dX6_isSo_30 : decode cX6_isSo 30 = .ok (.aload_n 0, 1) := bdX6_isSo_29.2.1
theorem dX6_isSo_31 : decode cX6_isSo 31 = .ok (.getfield 20, 3) := bdX6_isSo_29.2.2.1
theorem dX6_isSo_34 : decode cX6_isSo 34 = .ok (.iconst 1, 1) := bdX6_isSo_29.2.2.2.1
theorem dX6_isSo_35 : decode cX6_isSo 35 = .ok (.iload 4, 2) := bdX6_isSo_29.2.2.2.2.1
theorem dX6_isSo_37 : decode cX6_isSo 37 = .ok (.iastore, 1) := bdX6_isSo_29.2.2.2.2.2.1
theorem dX6_isSo_38 : decode cX6_isSo 38 = .ok (.aload_n 0, 1) := bdX6_isSo_29.2.2.2.2.2.2.1
theorem dX6_isSo_39 : decode cX6_isSo 39 = .ok (.getfield 20, 3) := bdX6_isSo_29.2.2.2.2.2.2.2.1
theorem dX6_isSo_42 : decode cX6_isSo 42 = .ok (.iconst 2, 1) := bdX6_isSo_29.2.2.2.2.2.2.2.2.1
theorem dX6_isSo_43 : decode cX6_isSo 43 = .ok (.aload 5, 2) := bdX6_isSo_29.2.2.2.2.2.2.2.2.2.1
theorem dX6_isSo_45 : decode cX6_isSo 45 = .ok (.getfield 106, 3) := bdX6_isSo_29.2.2.2.2.2.2.2.2.2.2.1
theorem dX6_isSo_48 : decode cX6_isSo 48 = .ok (.iastore, 1) := bdX6_isSo_29.2.2.2.2.2.2.2.2.2.2.2.1
theorem dX6_isSo_49 : decode cX6_isSo 49 = .ok (.aload_n 0, 1) := bdX6_isSo_29.2.2.2.2.2.2.2.2.2.2.2.2.1
theorem dX6_isSo_50 : decode cX6_isSo 50 = .ok (.getfield 20, 3) := bdX6_isSo_29.2.2.2.2.2.2.2.2.2.2.2.2.2.1
theorem dX6_isSo_53 : decode cX6_isSo 53 = .ok (.iconst 3, 1) := bdX6_isSo_29.2.2.2.2.2.2.2.2.2.2.2.2.2.2.1
theorem dX6_isSo_54 : decode cX6_isSo 54 = .ok (.aload 5, 2) := bdX6_isSo_29.2.2.2.2.2.2.2.2.2.2.2.2.2.2.2
theorem bdX6_isSo_56 : (decode cX6_isSo 56 = .ok (.getfield 109, 3)) ∧ (decode cX6_isSo 59 = .ok (.iastore, 1)) ∧ (decode cX6_isSo 60 = .ok (.aload_n 0, 1)) ∧ (decode cX6_isSo 61 = .ok (.getfield 20, 3)) ∧ (decode cX6_isSo 64 = .ok (.iconst 4, 1)) ∧ (decode cX6_isSo 65 = .ok (.aload 5, 2)) ∧ (decode cX6_isSo 67 = .ok (.getfield 112, 3)) ∧ (decode cX6_isSo 70 = .ok (.iastore, 1)) ∧ (decode cX6_isSo 71 = .ok (.aload_n 2, 1)) ∧ (decode cX6_isSo 72 = .ok (.iload_n 3, 1)) ∧ (decode cX6_isSo 73 = .ok (.aload_n 0, 1)) ∧ (decode cX6_isSo 74 = .ok (.getfield 20, 3)) ∧ (decode cX6_isSo 77 = .ok (.invokevirtual 115, 3)) ∧ (decode cX6_isSo 80 = .ok (.ireturn, 1)) := by decide +kernel
theorem dX6_isSo_56 : decode cX6_isSo 56 = .ok (.getfield 109, 3) := bdX6_isSo_56.1
theorem dX6_isSo_59 : decode cX6_isSo 59 = .ok (.iastore, 1) := bdX6_isSo_56.2.1
theorem dX6_isSo_60 : decode cX6_isSo 60 = .ok (.aload_n 0, 1) := bdX6_isSo_56.2.2.1
theorem dX6_isSo_61 : decode cX6_isSo 61 = .ok (.getfield 20, 3) := bdX6_isSo_56.2.2.2.1
theorem dX6_isSo_64 : decode cX6_isSo 64 = .ok (.iconst 4, 1) := bdX6_isSo_56.2.2.2.2.1
theorem dX6_isSo_65 : decode cX6_isSo 65 = .ok (.aload 5, 2) := bdX6_isSo_56.2.2.2.2.2.1
theorem dX6_isSo_67 : decode cX6_isSo 67 = .ok (.getfield 112, 3) := bdX6_isSo_56.2.2.2.2.2.2.1
theorem dX6_isSo_70 : decode cX6_isSo 70 = .ok (.iastore, 1) := bdX6_isSo_56.2.2.2.2.2.2.2.1
theorem dX6_isSo_71 : decode cX6_isSo 71 = .ok (.aload_n 2, 1) := bdX6_isSo_56.2.2.2.2.2.2.2.2.1
theorem dX6_isSo_72 : decode cX6_isSo 72 = .ok (.iload_n 3, 1) := bdX6_isSo_56.2.2.2.2.2.2.2.2.2.1
theorem dX6_isSo_73 : decode cX6_isSo 73 = .ok (.aload_n 0, 1) := bdX6_isSo_56.2.2.2.2.2.2.2.2.2.2.1
theorem dX6_isSo_74 : decode cX6_isSo 74 = .ok (.getfield 20, 3) := bdX6_isSo_56.2.2.2.2.2.2.2.2.2.2.2.1
theorem dX6_isSo_77 : decode cX6_isSo 77 = .ok (.invokevirtual 115, 3) := bdX6_isSo_56.2.2.2.2.2.2.2.2.2.2.2.2.1
theorem dX6_isSo_80 : decode cX6_isSo 80 = .ok (.ireturn, 1) := bdX6_isSo_56.2.2.2.2.2.2.2.2.2.2.2.2.2
theorem bdX6_openHalls_0 : (decode cX6_openHalls 0 = .ok (.iconst 0, 1)) ∧ (decode cX6_openHalls 1 = .ok (.istore_n 3, 1)) ∧ (decode cX6_openHalls 2 = .ok (.iload_n 3, 1)) ∧ (decode cX6_openHalls 3 = .ok (.aload_n 1, 1)) ∧ (decode cX6_openHalls 4 = .ok (.getfield 119, 3)) ∧ (decode cX6_openHalls 7 = .ok (.if_icmp .ge 82, 3)) ∧ (decode cX6_openHalls 10 = .ok (.iload_n 3, 1)) ∧ (decode cX6_openHalls 11 = .ok (.aload_n 1, 1)) ∧ (decode cX6_openHalls 12 = .ok (.getfield 96, 3)) ∧ (decode cX6_openHalls 15 = .ok (.arraylength, 1)) ∧ (decode cX6_openHalls 16 = .ok (.if_icmp .ge 73, 3)) ∧ (decode cX6_openHalls 19 = .ok (.aload_n 1, 1)) ∧ (decode cX6_openHalls 20 = .ok (.getfield 96, 3)) ∧ (decode cX6_openHalls 23 = .ok (.iload_n 3, 1)) ∧ (decode cX6_openHalls 24 = .ok (.aaload, 1)) ∧ (decode cX6_openHalls 25 = .ok (.astore 4, 2)) := by decide +kernel
theorem dX6_openHalls_0 : decode cX6_openHalls 0 = .ok (.iconst 0, 1) := bdX6_openHalls_0.1
theorem dX6_openHalls_1 : decode cX6_openHalls 1 = .ok (.istore_n 3, 1) := bdX6_openHalls_0.2.1
theorem dX6_openHalls_2 : decode cX6_openHalls 2 = .ok (.iload_n 3, 1) := bdX6_openHalls_0.2.2.1
theorem dX6_openHalls_3 : decode cX6_openHalls 3 = .ok (.aload_n 1, 1) := bdX6_openHalls_0.2.2.2.1
theorem dX6_openHalls_4 : decode cX6_openHalls 4 = .ok (.getfield 119, 3) := bdX6_openHalls_0.2.2.2.2.1
theorem dX6_openHalls_7 : decode cX6_openHalls 7 = .ok (.if_icmp .ge 82, 3) := bdX6_openHalls_0.2.2.2.2.2.1
theorem dX6_openHalls_10 : decode cX6_openHalls 10 = .ok (.iload_n 3, 1) := bdX6_openHalls_0.2.2.2.2.2.2.1
theorem dX6_openHalls_11 : decode cX6_openHalls 11 = .ok (.aload_n 1, 1) := bdX6_openHalls_0.2.2.2.2.2.2.2.1
theorem dX6_openHalls_12 : decode cX6_openHalls 12 = .ok (.getfield 96, 3) := bdX6_openHalls_0.2.2.2.2.2.2.2.2.1
theorem dX6_openHalls_15 : decode cX6_openHalls 15 = .ok (.arraylength, 1) := bdX6_openHalls_0.2.2.2.2.2.2.2.2.2.1
theorem dX6_openHalls_16 : decode cX6_openHalls 16 = .ok (.if_icmp .ge 73, 3) := bdX6_openHalls_0.2.2.2.2.2.2.2.2.2.2.1
theorem dX6_openHalls_19 : decode cX6_openHalls 19 = .ok (.aload_n 1, 1) := bdX6_openHalls_0.2.2.2.2.2.2.2.2.2.2.2.1
theorem dX6_openHalls_20 : decode cX6_openHalls 20 = .ok (.getfield 96, 3) := bdX6_openHalls_0.2.2.2.2.2.2.2.2.2.2.2.2.1
theorem dX6_openHalls_23 : decode cX6_openHalls 23 = .ok (.iload_n 3, 1) := bdX6_openHalls_0.2.2.2.2.2.2.2.2.2.2.2.2.2.1
theorem dX6_openHalls_24 : decode cX6_openHalls 24 = .ok (.aaload, 1) := bdX6_openHalls_0.2.2.2.2.2.2.2.2.2.2.2.2.2.2.1
theorem dX6_openHalls_25 : decode cX6_openHalls 25 = .ok (.astore 4, 2) := bdX6_openHalls_0.2.2.2.2.2.2.2.2.2.2.2.2.2.2.2
theorem bdX6_openHalls_27 : (decode cX6_openHalls 27 = .ok (.aload 4, 2)) ∧ (decode cX6_openHalls 29 = .ok (.aload 4, 2)) ∧ (decode cX6_openHalls 31 = .ok (.getfield 106, 3)) ∧ (decode cX6_openHalls 34 = .ok (.aload 4, 2)) ∧ (decode cX6_openHalls 36 = .ok (.getfield 122, 3)) ∧ (decode cX6_openHalls 39 = .ok (.if_icmp .ge 14, 3)) ∧ (decode cX6_openHalls 42 = .ok (.aload_n 0, 1)) ∧ (decode cX6_openHalls 43 = .ok (.aload_n 1, 1)) ∧ (decode cX6_openHalls 44 = .ok (.aload_n 2, 1)) ∧ (decode cX6_openHalls 45 = .ok (.iconst 1, 1)) ∧ (decode cX6_openHalls 46 = .ok (.iload_n 3, 1)) ∧ (decode cX6_openHalls 47 = .ok (.invokevirtual 89, 3)) ∧ (decode cX6_openHalls 50 = .ok (.ifCond .eq 7, 3)) ∧ (decode cX6_openHalls 53 = .ok (.iconst 1, 1)) ∧ (decode cX6_openHalls 54 = .ok (.goto 4, 3)) ∧ (decode cX6_openHalls 57 = .ok (.iconst 0, 1)) := by decide +kernel
theorem dX6_openHalls_27 : decode cX6_openHalls 27 = .ok (.aload 4, 2) := bdX6_openHalls_27.1
theorem dX6_openHalls_29 : decode cX6_openHalls 29 = .ok (.aload 4, 2) := bdX6_openHalls_27.2.1
theorem dX6_openHalls_31 : decode cX6_openHalls 31 = .ok (.getfield 106, 3) := bdX6_openHalls_27.2.2.1
theorem dX6_openHalls_34 : decode cX6_openHalls 34 = .ok (.aload 4, 2) := bdX6_openHalls_27.2.2.2.1
theorem dX6_openHalls_36 : decode cX6_openHalls 36 = .ok (.getfield 122, 3) := bdX6_openHalls_27.2.2.2.2.1
theorem dX6_openHalls_39 : decode cX6_openHalls 39 = .ok (.if_icmp .ge 14, 3) := bdX6_openHalls_27.2.2.2.2.2.1
theorem dX6_openHalls_42 : decode cX6_openHalls 42 = .ok (.aload_n 0, 1) := bdX6_openHalls_27.2.2.2.2.2.2.1
theorem dX6_openHalls_43 : decode cX6_openHalls 43 = .ok (.aload_n 1, 1) := bdX6_openHalls_27.2.2.2.2.2.2.2.1
theorem dX6_openHalls_44 : decode cX6_openHalls 44 = .ok (.aload_n 2, 1) := bdX6_openHalls_27.2.2.2.2.2.2.2.2.1
theorem dX6_openHalls_45 : decode cX6_openHalls 45 = .ok (.iconst 1, 1) := bdX6_openHalls_27.2.2.2.2.2.2.2.2.2.1
theorem dX6_openHalls_46 : decode cX6_openHalls 46 = .ok (.iload_n 3, 1) := bdX6_openHalls_27.2.2.2.2.2.2.2.2.2.2.1
theorem dX6_openHalls_47 : decode cX6_openHalls 47 = .ok (.invokevirtual 89, 3) := bdX6_openHalls_27.2.2.2.2.2.2.2.2.2.2.2.1
theorem dX6_openHalls_50 : decode cX6_openHalls 50 = .ok (.ifCond .eq 7, 3) := bdX6_openHalls_27.2.2.2.2.2.2.2.2.2.2.2.2.1
theorem dX6_openHalls_53 : decode cX6_openHalls 53 = .ok (.iconst 1, 1) := bdX6_openHalls_27.2.2.2.2.2.2.2.2.2.2.2.2.2.1
theorem dX6_openHalls_54 : decode cX6_openHalls 54 = .ok (.goto 4, 3) := bdX6_openHalls_27.2.2.2.2.2.2.2.2.2.2.2.2.2.2.1
theorem dX6_openHalls_57 : decode cX6_openHalls 57 = .ok (.iconst 0, 1) := bdX6_openHalls_27.2.2.2.2.2.2.2.2.2.2.2.2.2.2.2
theorem bdX6_openHalls_58 : (decode cX6_openHalls 58 = .ok (.putfield 125, 3)) ∧ (decode cX6_openHalls 61 = .ok (.aload 4, 2)) ∧ (decode cX6_openHalls 63 = .ok (.getfield 125, 3)) ∧ (decode cX6_openHalls 66 = .ok (.ifCond .ne 17, 3)) ∧ (decode cX6_openHalls 69 = .ok (.aload 4, 2)) ∧ (decode cX6_openHalls 71 = .ok (.getfield 112, 3)) ∧ (decode cX6_openHalls 74 = .ok (.ifCond .le 9, 3)) ∧ (decode cX6_openHalls 77 = .ok (.aload_n 0, 1)) ∧ (decode cX6_openHalls 78 = .ok (.aload_n 1, 1)) ∧ (decode cX6_openHalls 79 = .ok (.iload_n 3, 1)) ∧ (decode cX6_openHalls 80 = .ok (.invokevirtual 128, 3)) ∧ (decode cX6_openHalls 83 = .ok (.iinc 3 1, 3)) ∧ (decode cX6_openHalls 86 = .ok (.goto (-84), 3)) ∧ (decode cX6_openHalls 89 = .ok (.return_, 1)) := by decide +kernel
theorem dX6_openHalls_58 : decode cX6_openHalls 58 = .ok (.putfield 125, 3) := bdX6_openHalls_58.1
theorem dX6_openHalls_61 : decode cX6_openHalls 61 = .ok (.aload 4, 2) := bdX6_openHalls_58.2.1
theorem dX6_openHalls_63 : decode cX6_openHalls 63 = .ok (.getfield 125, 3) := bdX6_openHalls_58.2.2.1
theorem dX6_openHalls_66 : decode cX6_openHalls 66 = .ok (.ifCond .ne 17, 3) := bdX6_openHalls_58.2.2.2.1
theorem dX6_openHalls_69 : decode cX6_openHalls 69 = .ok (.aload 4, 2) := bdX6_openHalls_58.2.2.2.2.1
theorem dX6_openHalls_71 : decode cX6_openHalls 71 = .ok (.getfield 112, 3) := bdX6_openHalls_58.2.2.2.2.2.1
theorem dX6_openHalls_74 : decode cX6_openHalls 74 = .ok (.ifCond .le 9, 3) := bdX6_openHalls_58.2.2.2.2.2.2.1
theorem dX6_openHalls_77 : decode cX6_openHalls 77 = .ok (.aload_n 0, 1) := bdX6_openHalls_58.2.2.2.2.2.2.2.1
theorem dX6_openHalls_78 : decode cX6_openHalls 78 = .ok (.aload_n 1, 1) := bdX6_openHalls_58.2.2.2.2.2.2.2.2.1
theorem dX6_openHalls_79 : decode cX6_openHalls 79 = .ok (.iload_n 3, 1) := bdX6_openHalls_58.2.2.2.2.2.2.2.2.2.1
theorem dX6_openHalls_80 : decode cX6_openHalls 80 = .ok (.invokevirtual 128, 3) := bdX6_openHalls_58.2.2.2.2.2.2.2.2.2.2.1
theorem dX6_openHalls_83 : decode cX6_openHalls 83 = .ok (.iinc 3 1, 3) := bdX6_openHalls_58.2.2.2.2.2.2.2.2.2.2.2.1
theorem dX6_openHalls_86 : decode cX6_openHalls 86 = .ok (.goto (-84), 3) := bdX6_openHalls_58.2.2.2.2.2.2.2.2.2.2.2.2.1
theorem dX6_openHalls_89 : decode cX6_openHalls 89 = .ok (.return_, 1) := bdX6_openHalls_58.2.2.2.2.2.2.2.2.2.2.2.2.2
theorem bdX6_turnEmptyLinks_0 : (decode cX6_turnEmptyLinks 0 = .ok (.iconst 0, 1)) ∧ (decode cX6_turnEmptyLinks 1 = .ok (.istore_n 2, 1)) ∧ (decode cX6_turnEmptyLinks 2 = .ok (.iload_n 2, 1)) ∧ (decode cX6_turnEmptyLinks 3 = .ok (.aload_n 1, 1)) ∧ (decode cX6_turnEmptyLinks 4 = .ok (.getfield 141, 3)) ∧ (decode cX6_turnEmptyLinks 7 = .ok (.if_icmp .ge 48, 3)) ∧ (decode cX6_turnEmptyLinks 10 = .ok (.iload_n 2, 1)) ∧ (decode cX6_turnEmptyLinks 11 = .ok (.aload_n 1, 1)) ∧ (decode cX6_turnEmptyLinks 12 = .ok (.getfield 144, 3)) ∧ (decode cX6_turnEmptyLinks 15 = .ok (.arraylength, 1)) ∧ (decode cX6_turnEmptyLinks 16 = .ok (.if_icmp .ge 39, 3)) ∧ (decode cX6_turnEmptyLinks 19 = .ok (.aload_n 1, 1)) ∧ (decode cX6_turnEmptyLinks 20 = .ok (.getfield 144, 3)) ∧ (decode cX6_turnEmptyLinks 23 = .ok (.iload_n 2, 1)) ∧ (decode cX6_turnEmptyLinks 24 = .ok (.aaload, 1)) ∧ (decode cX6_turnEmptyLinks 25 = .ok (.getfield 148, 3)) := by decide +kernel
theorem dX6_turnEmptyLinks_0 : decode cX6_turnEmptyLinks 0 = .ok (.iconst 0, 1) := bdX6_turnEmptyLinks_0.1
theorem dX6_turnEmptyLinks_1 : decode cX6_turnEmptyLinks 1 = .ok (.istore_n 2, 1) := bdX6_turnEmptyLinks_0.2.1
theorem dX6_turnEmptyLinks_2 : decode cX6_turnEmptyLinks 2 = .ok (.iload_n 2, 1) := bdX6_turnEmptyLinks_0.2.2.1
theorem dX6_turnEmptyLinks_3 : decode cX6_turnEmptyLinks 3 = .ok (.aload_n 1, 1) := bdX6_turnEmptyLinks_0.2.2.2.1
theorem dX6_turnEmptyLinks_4 : decode cX6_turnEmptyLinks 4 = .ok (.getfield 141, 3) := bdX6_turnEmptyLinks_0.2.2.2.2.1
theorem dX6_turnEmptyLinks_7 : decode cX6_turnEmptyLinks 7 = .ok (.if_icmp .ge 48, 3) := bdX6_turnEmptyLinks_0.2.2.2.2.2.1
theorem dX6_turnEmptyLinks_10 : decode cX6_turnEmptyLinks 10 = .ok (.iload_n 2, 1) := bdX6_turnEmptyLinks_0.2.2.2.2.2.2.1
theorem dX6_turnEmptyLinks_11 : decode cX6_turnEmptyLinks 11 = .ok (.aload_n 1, 1) := bdX6_turnEmptyLinks_0.2.2.2.2.2.2.2.1
theorem dX6_turnEmptyLinks_12 : decode cX6_turnEmptyLinks 12 = .ok (.getfield 144, 3) := bdX6_turnEmptyLinks_0.2.2.2.2.2.2.2.2.1
theorem dX6_turnEmptyLinks_15 : decode cX6_turnEmptyLinks 15 = .ok (.arraylength, 1) := bdX6_turnEmptyLinks_0.2.2.2.2.2.2.2.2.2.1
theorem dX6_turnEmptyLinks_16 : decode cX6_turnEmptyLinks 16 = .ok (.if_icmp .ge 39, 3) := bdX6_turnEmptyLinks_0.2.2.2.2.2.2.2.2.2.2.1
theorem dX6_turnEmptyLinks_19 : decode cX6_turnEmptyLinks 19 = .ok (.aload_n 1, 1) := bdX6_turnEmptyLinks_0.2.2.2.2.2.2.2.2.2.2.2.1
theorem dX6_turnEmptyLinks_20 : decode cX6_turnEmptyLinks 20 = .ok (.getfield 144, 3) := bdX6_turnEmptyLinks_0.2.2.2.2.2.2.2.2.2.2.2.2.1
theorem dX6_turnEmptyLinks_23 : decode cX6_turnEmptyLinks 23 = .ok (.iload_n 2, 1) := bdX6_turnEmptyLinks_0.2.2.2.2.2.2.2.2.2.2.2.2.2.1
theorem dX6_turnEmptyLinks_24 : decode cX6_turnEmptyLinks 24 = .ok (.aaload, 1) := bdX6_turnEmptyLinks_0.2.2.2.2.2.2.2.2.2.2.2.2.2.2.1
theorem dX6_turnEmptyLinks_25 : decode cX6_turnEmptyLinks 25 = .ok (.getfield 148, 3) := bdX6_turnEmptyLinks_0.2.2.2.2.2.2.2.2.2.2.2.2.2.2.2
theorem bdX6_turnEmptyLinks_28 : (decode cX6_turnEmptyLinks 28 = .ok (.ifCond .ne 21, 3)) ∧ (decode cX6_turnEmptyLinks 31 = .ok (.aload_n 1, 1)) ∧ (decode cX6_turnEmptyLinks 32 = .ok (.getfield 144, 3)) ∧ (decode cX6_turnEmptyLinks 35 = .ok (.iload_n 2, 1)) ∧ (decode cX6_turnEmptyLinks 36 = .ok (.aaload, 1)) ∧ (decode cX6_turnEmptyLinks 37 = .ok (.aload_n 1, 1)) ∧ (decode cX6_turnEmptyLinks 38 = .ok (.getfield 144, 3)) ∧ (decode cX6_turnEmptyLinks 41 = .ok (.iload_n 2, 1)) ∧ (decode cX6_turnEmptyLinks 42 = .ok (.aaload, 1)) ∧ (decode cX6_turnEmptyLinks 43 = .ok (.getfield 151, 3)) ∧ (decode cX6_turnEmptyLinks 46 = .ok (.putfield 154, 3)) ∧ (decode cX6_turnEmptyLinks 49 = .ok (.iinc 2 1, 3)) ∧ (decode cX6_turnEmptyLinks 52 = .ok (.goto (-50), 3)) ∧ (decode cX6_turnEmptyLinks 55 = .ok (.return_, 1)) := by decide +kernel
theorem dX6_turnEmptyLinks_28 : decode cX6_turnEmptyLinks 28 = .ok (.ifCond .ne 21, 3) := bdX6_turnEmptyLinks_28.1
theorem dX6_turnEmptyLinks_31 : decode cX6_turnEmptyLinks 31 = .ok (.aload_n 1, 1) := bdX6_turnEmptyLinks_28.2.1
theorem dX6_turnEmptyLinks_32 : decode cX6_turnEmptyLinks 32 = .ok (.getfield 144, 3) := bdX6_turnEmptyLinks_28.2.2.1
theorem dX6_turnEmptyLinks_35 : decode cX6_turnEmptyLinks 35 = .ok (.iload_n 2, 1) := bdX6_turnEmptyLinks_28.2.2.2.1
theorem dX6_turnEmptyLinks_36 : decode cX6_turnEmptyLinks 36 = .ok (.aaload, 1) := bdX6_turnEmptyLinks_28.2.2.2.2.1
theorem dX6_turnEmptyLinks_37 : decode cX6_turnEmptyLinks 37 = .ok (.aload_n 1, 1) := bdX6_turnEmptyLinks_28.2.2.2.2.2.1
theorem dX6_turnEmptyLinks_38 : decode cX6_turnEmptyLinks 38 = .ok (.getfield 144, 3) := bdX6_turnEmptyLinks_28.2.2.2.2.2.2.1
theorem dX6_turnEmptyLinks_41 : decode cX6_turnEmptyLinks 41 = .ok (.iload_n 2, 1) := bdX6_turnEmptyLinks_28.2.2.2.2.2.2.2.1
theorem dX6_turnEmptyLinks_42 : decode cX6_turnEmptyLinks 42 = .ok (.aaload, 1) := bdX6_turnEmptyLinks_28.2.2.2.2.2.2.2.2.1
theorem dX6_turnEmptyLinks_43 : decode cX6_turnEmptyLinks 43 = .ok (.getfield 151, 3) := bdX6_turnEmptyLinks_28.2.2.2.2.2.2.2.2.2.1
theorem dX6_turnEmptyLinks_46 : decode cX6_turnEmptyLinks 46 = .ok (.putfield 154, 3) := bdX6_turnEmptyLinks_28.2.2.2.2.2.2.2.2.2.2.1
theorem dX6_turnEmptyLinks_49 : decode cX6_turnEmptyLinks 49 = .ok (.iinc 2 1, 3) := bdX6_turnEmptyLinks_28.2.2.2.2.2.2.2.2.2.2.2.1
theorem dX6_turnEmptyLinks_52 : decode cX6_turnEmptyLinks 52 = .ok (.goto (-50), 3) := bdX6_turnEmptyLinks_28.2.2.2.2.2.2.2.2.2.2.2.2.1
theorem dX6_turnEmptyLinks_55 : decode cX6_turnEmptyLinks 55 = .ok (.return_, 1) := bdX6_turnEmptyLinks_28.2.2.2.2.2.2.2.2.2.2.2.2.2
theorem bdX3_takesNow_0 : (decode cX3_takesNow 0 = .ok (.aload_n 0, 1)) ∧ (decode cX3_takesNow 1 = .ok (.getfield 49, 3)) ∧ (decode cX3_takesNow 4 = .ok (.ifCond .eq 25, 3)) ∧ (decode cX3_takesNow 7 = .ok (.aload_n 0, 1)) ∧ (decode cX3_takesNow 8 = .ok (.getfield 53, 3)) ∧ (decode cX3_takesNow 11 = .ok (.ifCond .ne 18, 3)) ∧ (decode cX3_takesNow 14 = .ok (.aload_n 0, 1)) ∧ (decode cX3_takesNow 15 = .ok (.getfield 34, 3)) ∧ (decode cX3_takesNow 18 = .ok (.aload_n 0, 1)) ∧ (decode cX3_takesNow 19 = .ok (.getfield 31, 3)) ∧ (decode cX3_takesNow 22 = .ok (.if_icmp .ne 7, 3)) ∧ (decode cX3_takesNow 25 = .ok (.iconst 1, 1)) ∧ (decode cX3_takesNow 26 = .ok (.goto 4, 3)) ∧ (decode cX3_takesNow 29 = .ok (.iconst 0, 1)) ∧ (decode cX3_takesNow 30 = .ok (.ireturn, 1)) := by decide +kernel
theorem dX3_takesNow_0 : decode cX3_takesNow 0 = .ok (.aload_n 0, 1) := bdX3_takesNow_0.1
theorem dX3_takesNow_1 : decode cX3_takesNow 1 = .ok (.getfield 49, 3) := bdX3_takesNow_0.2.1
theorem dX3_takesNow_4 : decode cX3_takesNow 4 = .ok (.ifCond .eq 25, 3) := bdX3_takesNow_0.2.2.1
theorem dX3_takesNow_7 : decode cX3_takesNow 7 = .ok (.aload_n 0, 1) := bdX3_takesNow_0.2.2.2.1
theorem dX3_takesNow_8 : decode cX3_takesNow 8 = .ok (.getfield 53, 3) := bdX3_takesNow_0.2.2.2.2.1
theorem dX3_takesNow_11 : decode cX3_takesNow 11 = .ok (.ifCond .ne 18, 3) := bdX3_takesNow_0.2.2.2.2.2.1
theorem dX3_takesNow_14 : decode cX3_takesNow 14 = .ok (.aload_n 0, 1) := bdX3_takesNow_0.2.2.2.2.2.2.1
theorem dX3_takesNow_15 : decode cX3_takesNow 15 = .ok (.getfield 34, 3) := bdX3_takesNow_0.2.2.2.2.2.2.2.1
theorem dX3_takesNow_18 : decode cX3_takesNow 18 = .ok (.aload_n 0, 1) := bdX3_takesNow_0.2.2.2.2.2.2.2.2.1
theorem dX3_takesNow_19 : decode cX3_takesNow 19 = .ok (.getfield 31, 3) := bdX3_takesNow_0.2.2.2.2.2.2.2.2.2.1
theorem dX3_takesNow_22 : decode cX3_takesNow 22 = .ok (.if_icmp .ne 7, 3) := bdX3_takesNow_0.2.2.2.2.2.2.2.2.2.2.1
theorem dX3_takesNow_25 : decode cX3_takesNow 25 = .ok (.iconst 1, 1) := bdX3_takesNow_0.2.2.2.2.2.2.2.2.2.2.2.1
theorem dX3_takesNow_26 : decode cX3_takesNow 26 = .ok (.goto 4, 3) := bdX3_takesNow_0.2.2.2.2.2.2.2.2.2.2.2.2.1
theorem dX3_takesNow_29 : decode cX3_takesNow 29 = .ok (.iconst 0, 1) := bdX3_takesNow_0.2.2.2.2.2.2.2.2.2.2.2.2.2.1
theorem dX3_takesNow_30 : decode cX3_takesNow 30 = .ok (.ireturn, 1) := bdX3_takesNow_0.2.2.2.2.2.2.2.2.2.2.2.2.2.2
theorem bdX3_foot_0 : (decode cX3_foot 0 = .ok (.aload_n 0, 1)) ∧ (decode cX3_foot 1 = .ok (.getfield 31, 3)) ∧ (decode cX3_foot 4 = .ok (.iconst 2, 1)) ∧ (decode cX3_foot 5 = .ok (.if_icmp .ne 10, 3)) ∧ (decode cX3_foot 8 = .ok (.aload_n 0, 1)) ∧ (decode cX3_foot 9 = .ok (.getfield 22, 3)) ∧ (decode cX3_foot 12 = .ok (.goto 7, 3)) ∧ (decode cX3_foot 15 = .ok (.aload_n 0, 1)) ∧ (decode cX3_foot 16 = .ok (.getfield 19, 3)) ∧ (decode cX3_foot 19 = .ok (.ireturn, 1)) := by decide +kernel
theorem dX3_foot_0 : decode cX3_foot 0 = .ok (.aload_n 0, 1) := bdX3_foot_0.1
theorem dX3_foot_1 : decode cX3_foot 1 = .ok (.getfield 31, 3) := bdX3_foot_0.2.1
theorem dX3_foot_4 : decode cX3_foot 4 = .ok (.iconst 2, 1) := bdX3_foot_0.2.2.1
theorem dX3_foot_5 : decode cX3_foot 5 = .ok (.if_icmp .ne 10, 3) := bdX3_foot_0.2.2.2.1
theorem dX3_foot_8 : decode cX3_foot 8 = .ok (.aload_n 0, 1) := bdX3_foot_0.2.2.2.2.1
theorem dX3_foot_9 : decode cX3_foot 9 = .ok (.getfield 22, 3) := bdX3_foot_0.2.2.2.2.2.1
theorem dX3_foot_12 : decode cX3_foot 12 = .ok (.goto 7, 3) := bdX3_foot_0.2.2.2.2.2.2.1
theorem dX3_foot_15 : decode cX3_foot 15 = .ok (.aload_n 0, 1) := bdX3_foot_0.2.2.2.2.2.2.2.1
theorem dX3_foot_16 : decode cX3_foot 16 = .ok (.getfield 19, 3) := bdX3_foot_0.2.2.2.2.2.2.2.2.1
theorem dX3_foot_19 : decode cX3_foot 19 = .ok (.ireturn, 1) := bdX3_foot_0.2.2.2.2.2.2.2.2.2
theorem bdX8_leads_0 : (decode cX8_leads 0 = .ok (.aload_n 1, 1)) ∧ (decode cX8_leads 1 = .ok (.getfield 77, 3)) ∧ (decode cX8_leads 4 = .ok (.iconst 2, 1)) ∧ (decode cX8_leads 5 = .ok (.if_icmp .ne 14, 3)) ∧ (decode cX8_leads 8 = .ok (.iload_n 2, 1)) ∧ (decode cX8_leads 9 = .ok (.iconst 1, 1)) ∧ (decode cX8_leads 10 = .ok (.if_icmp .ne 7, 3)) ∧ (decode cX8_leads 13 = .ok (.iconst 1, 1)) ∧ (decode cX8_leads 14 = .ok (.goto 4, 3)) ∧ (decode cX8_leads 17 = .ok (.iconst 0, 1)) ∧ (decode cX8_leads 18 = .ok (.ireturn, 1)) ∧ (decode cX8_leads 19 = .ok (.iload_n 2, 1)) ∧ (decode cX8_leads 20 = .ok (.ifCond .ne 22, 3)) ∧ (decode cX8_leads 23 = .ok (.aload_n 1, 1)) ∧ (decode cX8_leads 24 = .ok (.invokevirtual 31, 3)) ∧ (decode cX8_leads 27 = .ok (.ifCond .eq 15, 3)) := by decide +kernel
theorem dX8_leads_0 : decode cX8_leads 0 = .ok (.aload_n 1, 1) := bdX8_leads_0.1
theorem dX8_leads_1 : decode cX8_leads 1 = .ok (.getfield 77, 3) := bdX8_leads_0.2.1
theorem dX8_leads_4 : decode cX8_leads 4 = .ok (.iconst 2, 1) := bdX8_leads_0.2.2.1
theorem dX8_leads_5 : decode cX8_leads 5 = .ok (.if_icmp .ne 14, 3) := bdX8_leads_0.2.2.2.1
theorem dX8_leads_8 : decode cX8_leads 8 = .ok (.iload_n 2, 1) := bdX8_leads_0.2.2.2.2.1
theorem dX8_leads_9 : decode cX8_leads 9 = .ok (.iconst 1, 1) := bdX8_leads_0.2.2.2.2.2.1
theorem dX8_leads_10 : decode cX8_leads 10 = .ok (.if_icmp .ne 7, 3) := bdX8_leads_0.2.2.2.2.2.2.1
theorem dX8_leads_13 : decode cX8_leads 13 = .ok (.iconst 1, 1) := bdX8_leads_0.2.2.2.2.2.2.2.1
theorem dX8_leads_14 : decode cX8_leads 14 = .ok (.goto 4, 3) := bdX8_leads_0.2.2.2.2.2.2.2.2.1
theorem dX8_leads_17 : decode cX8_leads 17 = .ok (.iconst 0, 1) := bdX8_leads_0.2.2.2.2.2.2.2.2.2.1
theorem dX8_leads_18 : decode cX8_leads 18 = .ok (.ireturn, 1) := bdX8_leads_0.2.2.2.2.2.2.2.2.2.2.1
theorem dX8_leads_19 : decode cX8_leads 19 = .ok (.iload_n 2, 1) := bdX8_leads_0.2.2.2.2.2.2.2.2.2.2.2.1
theorem dX8_leads_20 : decode cX8_leads 20 = .ok (.ifCond .ne 22, 3) := bdX8_leads_0.2.2.2.2.2.2.2.2.2.2.2.2.1
theorem dX8_leads_23 : decode cX8_leads 23 = .ok (.aload_n 1, 1) := bdX8_leads_0.2.2.2.2.2.2.2.2.2.2.2.2.2.1
theorem dX8_leads_24 : decode cX8_leads 24 = .ok (.invokevirtual 31, 3) := bdX8_leads_0.2.2.2.2.2.2.2.2.2.2.2.2.2.2.1
theorem dX8_leads_27 : decode cX8_leads 27 = .ok (.ifCond .eq 15, 3) := bdX8_leads_0.2.2.2.2.2.2.2.2.2.2.2.2.2.2.2
theorem bdX8_leads_30 : (decode cX8_leads 30 = .ok (.aload_n 1, 1)) ∧ (decode cX8_leads 31 = .ok (.invokevirtual 80, 3)) ∧ (decode cX8_leads 34 = .ok (.iload_n 3, 1)) ∧ (decode cX8_leads 35 = .ok (.if_icmp .ne 7, 3)) ∧ (decode cX8_leads 38 = .ok (.iconst 1, 1)) ∧ (decode cX8_leads 39 = .ok (.goto 4, 3)) ∧ (decode cX8_leads 42 = .ok (.iconst 0, 1)) ∧ (decode cX8_leads 43 = .ok (.ireturn, 1)) := by decide +kernel
theorem dX8_leads_30 : decode cX8_leads 30 = .ok (.aload_n 1, 1) := bdX8_leads_30.1
theorem dX8_leads_31 : decode cX8_leads 31 = .ok (.invokevirtual 80, 3) := bdX8_leads_30.2.1
theorem dX8_leads_34 : decode cX8_leads 34 = .ok (.iload_n 3, 1) := bdX8_leads_30.2.2.1
theorem dX8_leads_35 : decode cX8_leads 35 = .ok (.if_icmp .ne 7, 3) := bdX8_leads_30.2.2.2.1
theorem dX8_leads_38 : decode cX8_leads 38 = .ok (.iconst 1, 1) := bdX8_leads_30.2.2.2.2.1
theorem dX8_leads_39 : decode cX8_leads 39 = .ok (.goto 4, 3) := bdX8_leads_30.2.2.2.2.2.1
theorem dX8_leads_42 : decode cX8_leads 42 = .ok (.iconst 0, 1) := bdX8_leads_30.2.2.2.2.2.2.1
theorem dX8_leads_43 : decode cX8_leads 43 = .ok (.ireturn, 1) := bdX8_leads_30.2.2.2.2.2.2.2
theorem bdX3_seconds_0 : (decode cX3_seconds 0 = .ok (.aload_n 0, 1)) ∧ (decode cX3_seconds 1 = .ok (.getfield 15, 3)) ∧ (decode cX3_seconds 4 = .ok (.iconst 2, 1)) ∧ (decode cX3_seconds 5 = .ok (.if_icmp .ne 8, 3)) ∧ (decode cX3_seconds 8 = .ok (.aload_n 0, 1)) ∧ (decode cX3_seconds 9 = .ok (.getfield 28, 3)) ∧ (decode cX3_seconds 12 = .ok (.ireturn, 1)) ∧ (decode cX3_seconds 13 = .ok (.aload_n 0, 1)) ∧ (decode cX3_seconds 14 = .ok (.getfield 15, 3)) ∧ (decode cX3_seconds 17 = .ok (.iconst 1, 1)) ∧ (decode cX3_seconds 18 = .ok (.if_icmp .ne 12, 3)) ∧ (decode cX3_seconds 21 = .ok (.iconst 2, 1)) ∧ (decode cX3_seconds 22 = .ok (.aload_n 0, 1)) ∧ (decode cX3_seconds 23 = .ok (.getfield 25, 3)) ∧ (decode cX3_seconds 26 = .ok (.imul, 1)) ∧ (decode cX3_seconds 27 = .ok (.goto 7, 3)) := by decide +kernel
theorem dX3_seconds_0 : decode cX3_seconds 0 = .ok (.aload_n 0, 1) := bdX3_seconds_0.1
theorem dX3_seconds_1 : decode cX3_seconds 1 = .ok (.getfield 15, 3) := bdX3_seconds_0.2.1
theorem dX3_seconds_4 : decode cX3_seconds 4 = .ok (.iconst 2, 1) := bdX3_seconds_0.2.2.1
theorem dX3_seconds_5 : decode cX3_seconds 5 = .ok (.if_icmp .ne 8, 3) := bdX3_seconds_0.2.2.2.1
theorem dX3_seconds_8 : decode cX3_seconds 8 = .ok (.aload_n 0, 1) := bdX3_seconds_0.2.2.2.2.1
theorem dX3_seconds_9 : decode cX3_seconds 9 = .ok (.getfield 28, 3) := bdX3_seconds_0.2.2.2.2.2.1
theorem dX3_seconds_12 : decode cX3_seconds 12 = .ok (.ireturn, 1) := bdX3_seconds_0.2.2.2.2.2.2.1
theorem dX3_seconds_13 : decode cX3_seconds 13 = .ok (.aload_n 0, 1) := bdX3_seconds_0.2.2.2.2.2.2.2.1
theorem dX3_seconds_14 : decode cX3_seconds 14 = .ok (.getfield 15, 3) := bdX3_seconds_0.2.2.2.2.2.2.2.2.1
theorem dX3_seconds_17 : decode cX3_seconds 17 = .ok (.iconst 1, 1) := bdX3_seconds_0.2.2.2.2.2.2.2.2.2.1
theorem dX3_seconds_18 : decode cX3_seconds 18 = .ok (.if_icmp .ne 12, 3) := bdX3_seconds_0.2.2.2.2.2.2.2.2.2.2.1
theorem dX3_seconds_21 : decode cX3_seconds 21 = .ok (.iconst 2, 1) := bdX3_seconds_0.2.2.2.2.2.2.2.2.2.2.2.1
theorem dX3_seconds_22 : decode cX3_seconds 22 = .ok (.aload_n 0, 1) := bdX3_seconds_0.2.2.2.2.2.2.2.2.2.2.2.2.1
theorem dX3_seconds_23 : decode cX3_seconds 23 = .ok (.getfield 25, 3) := bdX3_seconds_0.2.2.2.2.2.2.2.2.2.2.2.2.2.1
theorem dX3_seconds_26 : decode cX3_seconds 26 = .ok (.imul, 1) := bdX3_seconds_0.2.2.2.2.2.2.2.2.2.2.2.2.2.2.1
theorem dX3_seconds_27 : decode cX3_seconds 27 = .ok (.goto 7, 3) := bdX3_seconds_0.2.2.2.2.2.2.2.2.2.2.2.2.2.2.2
theorem bdX3_seconds_30 : (decode cX3_seconds 30 = .ok (.aload_n 0, 1)) ∧ (decode cX3_seconds 31 = .ok (.getfield 25, 3)) ∧ (decode cX3_seconds 34 = .ok (.ireturn, 1)) := by decide +kernel
theorem dX3_seconds_30 : decode cX3_seconds 30 = .ok (.aload_n 0, 1) := bdX3_seconds_30.1
theorem dX3_seconds_31 : decode cX3_seconds 31 = .ok (.getfield 25, 3) := bdX3_seconds_30.2.1
theorem dX3_seconds_34 : decode cX3_seconds 34 = .ok (.ireturn, 1) := bdX3_seconds_30.2.2
theorem bdX8_shorten_0 : (decode cX8_shorten 0 = .ok (.iload_n 1, 1)) ∧ (decode cX8_shorten 1 = .ok (.bipush 6, 2)) ∧ (decode cX8_shorten 3 = .ok (.imul, 1)) ∧ (decode cX8_shorten 4 = .ok (.iload_n 2, 1)) ∧ (decode cX8_shorten 5 = .ok (.iadd, 1)) ∧ (decode cX8_shorten 6 = .ok (.istore 4, 2)) ∧ (decode cX8_shorten 8 = .ok (.iload 4, 2)) ∧ (decode cX8_shorten 10 = .ok (.ifCond .lt 32, 3)) ∧ (decode cX8_shorten 13 = .ok (.iload 4, 2)) ∧ (decode cX8_shorten 15 = .ok (.aload_n 0, 1)) ∧ (decode cX8_shorten 16 = .ok (.getfield 15, 3)) ∧ (decode cX8_shorten 19 = .ok (.arraylength, 1)) ∧ (decode cX8_shorten 20 = .ok (.if_icmp .ge 22, 3)) ∧ (decode cX8_shorten 23 = .ok (.iload_n 3, 1)) ∧ (decode cX8_shorten 24 = .ok (.aload_n 0, 1)) ∧ (decode cX8_shorten 25 = .ok (.getfield 15, 3)) := by decide +kernel
theorem dX8_shorten_0 : decode cX8_shorten 0 = .ok (.iload_n 1, 1) := bdX8_shorten_0.1
theorem dX8_shorten_1 : decode cX8_shorten 1 = .ok (.bipush 6, 2) := bdX8_shorten_0.2.1
theorem dX8_shorten_3 : decode cX8_shorten 3 = .ok (.imul, 1) := bdX8_shorten_0.2.2.1
theorem dX8_shorten_4 : decode cX8_shorten 4 = .ok (.iload_n 2, 1) := bdX8_shorten_0.2.2.2.1
theorem dX8_shorten_5 : decode cX8_shorten 5 = .ok (.iadd, 1) := bdX8_shorten_0.2.2.2.2.1
theorem dX8_shorten_6 : decode cX8_shorten 6 = .ok (.istore 4, 2) := bdX8_shorten_0.2.2.2.2.2.1
theorem dX8_shorten_8 : decode cX8_shorten 8 = .ok (.iload 4, 2) := bdX8_shorten_0.2.2.2.2.2.2.1
theorem dX8_shorten_10 : decode cX8_shorten 10 = .ok (.ifCond .lt 32, 3) := bdX8_shorten_0.2.2.2.2.2.2.2.1
theorem dX8_shorten_13 : decode cX8_shorten 13 = .ok (.iload 4, 2) := bdX8_shorten_0.2.2.2.2.2.2.2.2.1
theorem dX8_shorten_15 : decode cX8_shorten 15 = .ok (.aload_n 0, 1) := bdX8_shorten_0.2.2.2.2.2.2.2.2.2.1
theorem dX8_shorten_16 : decode cX8_shorten 16 = .ok (.getfield 15, 3) := bdX8_shorten_0.2.2.2.2.2.2.2.2.2.2.1
theorem dX8_shorten_19 : decode cX8_shorten 19 = .ok (.arraylength, 1) := bdX8_shorten_0.2.2.2.2.2.2.2.2.2.2.2.1
theorem dX8_shorten_20 : decode cX8_shorten 20 = .ok (.if_icmp .ge 22, 3) := bdX8_shorten_0.2.2.2.2.2.2.2.2.2.2.2.2.1
theorem dX8_shorten_23 : decode cX8_shorten 23 = .ok (.iload_n 3, 1) := bdX8_shorten_0.2.2.2.2.2.2.2.2.2.2.2.2.2.1
theorem dX8_shorten_24 : decode cX8_shorten 24 = .ok (.aload_n 0, 1) := bdX8_shorten_0.2.2.2.2.2.2.2.2.2.2.2.2.2.2.1
theorem dX8_shorten_25 : decode cX8_shorten 25 = .ok (.getfield 15, 3) := bdX8_shorten_0.2.2.2.2.2.2.2.2.2.2.2.2.2.2.2
theorem bdX8_shorten_28 : (decode cX8_shorten 28 = .ok (.iload 4, 2)) ∧ (decode cX8_shorten 30 = .ok (.iaload, 1)) ∧ (decode cX8_shorten 31 = .ok (.if_icmp .ge 11, 3)) ∧ (decode cX8_shorten 34 = .ok (.aload_n 0, 1)) ∧ (decode cX8_shorten 35 = .ok (.getfield 15, 3)) ∧ (decode cX8_shorten 38 = .ok (.iload 4, 2)) ∧ (decode cX8_shorten 40 = .ok (.iload_n 3, 1)) ∧ (decode cX8_shorten 41 = .ok (.iastore, 1)) ∧ (decode cX8_shorten 42 = .ok (.return_, 1)) := by decide +kernel
theorem dX8_shorten_28 : decode cX8_shorten 28 = .ok (.iload 4, 2) := bdX8_shorten_28.1
theorem dX8_shorten_30 : decode cX8_shorten 30 = .ok (.iaload, 1) := bdX8_shorten_28.2.1
theorem dX8_shorten_31 : decode cX8_shorten 31 = .ok (.if_icmp .ge 11, 3) := bdX8_shorten_28.2.2.1
theorem dX8_shorten_34 : decode cX8_shorten 34 = .ok (.aload_n 0, 1) := bdX8_shorten_28.2.2.2.1
theorem dX8_shorten_35 : decode cX8_shorten 35 = .ok (.getfield 15, 3) := bdX8_shorten_28.2.2.2.2.1
theorem dX8_shorten_38 : decode cX8_shorten 38 = .ok (.iload 4, 2) := bdX8_shorten_28.2.2.2.2.2.1
theorem dX8_shorten_40 : decode cX8_shorten 40 = .ok (.iload_n 3, 1) := bdX8_shorten_28.2.2.2.2.2.2.1
theorem dX8_shorten_41 : decode cX8_shorten 41 = .ok (.iastore, 1) := bdX8_shorten_28.2.2.2.2.2.2.2.1
theorem dX8_shorten_42 : decode cX8_shorten 42 = .ok (.return_, 1) := bdX8_shorten_28.2.2.2.2.2.2.2.2
theorem bdX8_between_0 : (decode cX8_between 0 = .ok (.iload_n 1, 1)) ∧ (decode cX8_between 1 = .ok (.bipush 6, 2)) ∧ (decode cX8_between 3 = .ok (.imul, 1)) ∧ (decode cX8_between 4 = .ok (.iload_n 2, 1)) ∧ (decode cX8_between 5 = .ok (.iadd, 1)) ∧ (decode cX8_between 6 = .ok (.istore_n 3, 1)) ∧ (decode cX8_between 7 = .ok (.iload_n 3, 1)) ∧ (decode cX8_between 8 = .ok (.ifCond .lt 21, 3)) ∧ (decode cX8_between 11 = .ok (.iload_n 3, 1)) ∧ (decode cX8_between 12 = .ok (.aload_n 0, 1)) ∧ (decode cX8_between 13 = .ok (.getfield 15, 3)) ∧ (decode cX8_between 16 = .ok (.arraylength, 1)) ∧ (decode cX8_between 17 = .ok (.if_icmp .ge 12, 3)) ∧ (decode cX8_between 20 = .ok (.aload_n 0, 1)) ∧ (decode cX8_between 21 = .ok (.getfield 15, 3)) ∧ (decode cX8_between 24 = .ok (.iload_n 3, 1)) := by decide +kernel
theorem dX8_between_0 : decode cX8_between 0 = .ok (.iload_n 1, 1) := bdX8_between_0.1
theorem dX8_between_1 : decode cX8_between 1 = .ok (.bipush 6, 2) := bdX8_between_0.2.1
theorem dX8_between_3 : decode cX8_between 3 = .ok (.imul, 1) := bdX8_between_0.2.2.1
theorem dX8_between_4 : decode cX8_between 4 = .ok (.iload_n 2, 1) := bdX8_between_0.2.2.2.1
theorem dX8_between_5 : decode cX8_between 5 = .ok (.iadd, 1) := bdX8_between_0.2.2.2.2.1
theorem dX8_between_6 : decode cX8_between 6 = .ok (.istore_n 3, 1) := bdX8_between_0.2.2.2.2.2.1
theorem dX8_between_7 : decode cX8_between 7 = .ok (.iload_n 3, 1) := bdX8_between_0.2.2.2.2.2.2.1
theorem dX8_between_8 : decode cX8_between 8 = .ok (.ifCond .lt 21, 3) := bdX8_between_0.2.2.2.2.2.2.2.1
theorem dX8_between_11 : decode cX8_between 11 = .ok (.iload_n 3, 1) := bdX8_between_0.2.2.2.2.2.2.2.2.1
theorem dX8_between_12 : decode cX8_between 12 = .ok (.aload_n 0, 1) := bdX8_between_0.2.2.2.2.2.2.2.2.2.1
theorem dX8_between_13 : decode cX8_between 13 = .ok (.getfield 15, 3) := bdX8_between_0.2.2.2.2.2.2.2.2.2.2.1
theorem dX8_between_16 : decode cX8_between 16 = .ok (.arraylength, 1) := bdX8_between_0.2.2.2.2.2.2.2.2.2.2.2.1
theorem dX8_between_17 : decode cX8_between 17 = .ok (.if_icmp .ge 12, 3) := bdX8_between_0.2.2.2.2.2.2.2.2.2.2.2.2.1
theorem dX8_between_20 : decode cX8_between 20 = .ok (.aload_n 0, 1) := bdX8_between_0.2.2.2.2.2.2.2.2.2.2.2.2.2.1
theorem dX8_between_21 : decode cX8_between 21 = .ok (.getfield 15, 3) := bdX8_between_0.2.2.2.2.2.2.2.2.2.2.2.2.2.2.1
theorem dX8_between_24 : decode cX8_between 24 = .ok (.iload_n 3, 1) := bdX8_between_0.2.2.2.2.2.2.2.2.2.2.2.2.2.2.2
theorem bdX8_between_25 : (decode cX8_between 25 = .ok (.iaload, 1)) ∧ (decode cX8_between 26 = .ok (.goto 5, 3)) ∧ (decode cX8_between 29 = .ok (.ldc 44, 2)) ∧ (decode cX8_between 31 = .ok (.ireturn, 1)) := by decide +kernel
theorem dX8_between_25 : decode cX8_between 25 = .ok (.iaload, 1) := bdX8_between_25.1
theorem dX8_between_26 : decode cX8_between 26 = .ok (.goto 5, 3) := bdX8_between_25.2.1
theorem dX8_between_29 : decode cX8_between 29 = .ok (.ldc 44, 2) := bdX8_between_25.2.2.1
theorem dX8_between_31 : decode cX8_between 31 = .ok (.ireturn, 1) := bdX8_between_25.2.2.2
def fX10_worth_223 (a0 : Nat) (a1 : Int32) (a2 : Int32) (a3 : Nat) (rec10 : Int32 → Int32 → xMem → Option (Int32 × xMem)) (l4 : Int32) (l5 : Int32) (m : xMem) : Option (Int32 × xMem) := xLet (l5 + (1 : Int32)) fun x1 => rec10 l4 x1 m
set_option maxRecDepth 4000 in
theorem fX10_worth_223_ok {a0 : Nat} {a1 : Int32} {a2 : Int32} {a3 : Nat} {rec10 : Int32 → Int32 → xMem → Option (Int32 × xMem)} {d : Nat} (hd : 1 ≤ d) (ha0 : isText a0) (ha3 : isNames a3) (hrec10 : ∀ (l4 : Int32) (l5 : Int32) (o6 : Option Value) (o7 : Option Value) (o8 : Option Value) (o9 : Option Value) (q6 : xNoD o6 = true) (q7 : xNoD o7 = true) (m : xMem) (r : (Int32 × xMem)), rec10 l4 l5 m = some r → xFx hh_127 cX10_worth d 10 [some (.ref a0), some (.int a1), some (.int a2), some (.ref a3), some (.int l4), some (.int l5), o6, o7, o8, o9] [] (xLay m) 0 0 (some (.int r.1)) (xLay r.2)) {l4 : Int32} {l5 : Int32} {o6 : Option Value} {o7 : Option Value} {o8 : Option Value} {o9 : Option Value} {m : xMem} {r : (Int32 × xMem)} (q6 : xNoD o6 = true) (q7 : xNoD o7 = true) (h : fX10_worth_223 a0 a1 a2 a3 rec10 l4 l5 m = some r) : xFx hh_127 cX10_worth d 223 [some (.ref a0), some (.int a1), some (.int a2), some (.ref a3), some (.int l4), some (.int l5), o6, o7, o8, o9] [] (xLay m) 0 0 (some (.int r.1)) (xLay r.2) := by
  unfold fX10_worth_223 at h
  obtain ⟨x1, hx1, h⟩ := xLet_el h
  refine fx_iinc (ls2 := [some (.ref a0), some (.int a1), some (.int a2), some (.ref a3), some (.int l4), some (.int x1), o6, o7, o8, o9]) dX10_worth_223 rfl rfl rfl hx1 rfl ?_
  refine fx_goto (t := 10) dX10_worth_226 rfl rfl ?_
  exact hrec10 l4 x1 (o6) (o7) (o8) (o9) q6 q7 m r h
def fX10_worth_188 (a0 : Nat) (a1 : Int32) (a2 : Int32) (a3 : Nat) (rec10 : Int32 → Int32 → xMem → Option (Int32 × xMem)) (l4 : Int32) (l5 : Int32) (l8 : Int64) (m : xMem) : Option (Int32 × xMem) := if (300 : Int32) ≤ l4 then fX10_worth_223 a0 a1 a2 a3 rec10 l4 l5 m else xLet (xMinL (1000000 : Int64) l8) fun x2 => xLet (xMaxL (-1000000 : Int64) x2) fun x3 => xLet (x3.toInt32) fun x4 => bif xIn l4 300 then xLet (xPut m (a0 + 5) l4.toNatClampNeg x4) fun m5 => xLet (l4 + (1 : Int32)) fun x7 => fX10_worth_223 a0 a1 a2 a3 rec10 x7 l5 m5 else none
set_option maxRecDepth 4000 in
theorem fX10_worth_188_ok {a0 : Nat} {a1 : Int32} {a2 : Int32} {a3 : Nat} {rec10 : Int32 → Int32 → xMem → Option (Int32 × xMem)} {d : Nat} (hd : 1 ≤ d) (ha0 : isText a0) (ha3 : isNames a3) (hrec10 : ∀ (l4 : Int32) (l5 : Int32) (o6 : Option Value) (o7 : Option Value) (o8 : Option Value) (o9 : Option Value) (q6 : xNoD o6 = true) (q7 : xNoD o7 = true) (m : xMem) (r : (Int32 × xMem)), rec10 l4 l5 m = some r → xFx hh_127 cX10_worth d 10 [some (.ref a0), some (.int a1), some (.int a2), some (.ref a3), some (.int l4), some (.int l5), o6, o7, o8, o9] [] (xLay m) 0 0 (some (.int r.1)) (xLay r.2)) {l4 : Int32} {l5 : Int32} {l8 : Int64} {o6 : Option Value} {o7 : Option Value} {m : xMem} {r : (Int32 × xMem)} (q6 : xNoD o6 = true) (q7 : xNoD o7 = true) (h : fX10_worth_188 a0 a1 a2 a3 rec10 l4 l5 l8 m = some r) : xFx hh_127 cX10_worth d 188 [some (.ref a0), some (.int a1), some (.int a2), some (.ref a3), some (.int l4), some (.int l5), o6, o7, some (.long l8), none] [] (xLay m) 0 0 (some (.int r.1)) (xLay r.2) := by
  unfold fX10_worth_188 at h
  refine fx_iload dX10_worth_188 rfl rfl ?_
  refine fx_aload_n dX10_worth_190 rfl rfl ?_
  refine gx_getr dX10_worth_191 rfl fd_10_24 ha0.1 rfl rfl ?_
  refine gx_alen (t := 1) (y := 300) dX10_worth_194 rfl ha0.2.2.2.2.2 rfl (by decide) ?_
  refine fx_icmp_ge (t := 223) dX10_worth_195 rfl rfl (fun hc1 => ?_) (fun hc1 => ?_)
  · rw [if_pos hc1] at h
    exact fX10_worth_223_ok (o6 := o6) (o7 := o7) (o8 := some (.long l8)) (o9 := none) hd ha0 ha3 hrec10 q6 q7 h
  · rw [if_neg hc1] at h
    refine fx_aload_n dX10_worth_198 rfl rfl ?_
    refine gx_getr dX10_worth_199 rfl fd_10_24 ha0.1 rfl rfl ?_
    refine fx_iload dX10_worth_202 rfl rfl ?_
    refine fx_ldc2_w dX10_worth_204 rfl cl_10_51 ?_
    refine fx_ldc2_w dX10_worth_207 rfl cl_10_53 ?_
    refine fx_lload dX10_worth_210 rfl rfl ?_
    obtain ⟨x2, hx2, h⟩ := xLet_el h
    refine fx_lmin dX10_worth_212 rfl ca_10_55 rfl hx2 ?_
    obtain ⟨x3, hx3, h⟩ := xLet_el h
    refine fx_lmax dX10_worth_215 rfl ca_10_58 rfl hx3 ?_
    obtain ⟨x4, hx4, h⟩ := xLet_el h
    refine fx_l2i dX10_worth_218 rfl hx4 ?_
    obtain ⟨hj6, h⟩ := xChk_el h
    obtain ⟨m5, hm5, h⟩ := xLet_el h
    refine gx_iastore dX10_worth_219 rfl ha0.2.2.2.2.2 hj6 hm5 ?_
    obtain ⟨x7, hx7, h⟩ := xLet_el h
    refine fx_iinc (ls2 := [some (.ref a0), some (.int a1), some (.int a2), some (.ref a3), some (.int x7), some (.int l5), o6, o7, some (.long l8), none]) dX10_worth_220 rfl rfl rfl hx7 rfl ?_
    exact fX10_worth_223_ok (o6 := o6) (o7 := o7) (o8 := some (.long l8)) (o9 := none) hd ha0 ha3 hrec10 q6 q7 h
def fX10_worth_77 (a0 : Nat) (a1 : Int32) (a2 : Int32) (a3 : Nat) (rec10 : Int32 → Int32 → xMem → Option (Int32 × xMem)) (l4 : Int32) (l5 : Int32) (s0 : Int64) (m : xMem) : Option (Int32 × xMem) := fX10_worth_188 a0 a1 a2 a3 rec10 l4 l5 s0 m
set_option maxRecDepth 4000 in
theorem fX10_worth_77_ok {a0 : Nat} {a1 : Int32} {a2 : Int32} {a3 : Nat} {rec10 : Int32 → Int32 → xMem → Option (Int32 × xMem)} {d : Nat} (hd : 1 ≤ d) (ha0 : isText a0) (ha3 : isNames a3) (hrec10 : ∀ (l4 : Int32) (l5 : Int32) (o6 : Option Value) (o7 : Option Value) (o8 : Option Value) (o9 : Option Value) (q6 : xNoD o6 = true) (q7 : xNoD o7 = true) (m : xMem) (r : (Int32 × xMem)), rec10 l4 l5 m = some r → xFx hh_127 cX10_worth d 10 [some (.ref a0), some (.int a1), some (.int a2), some (.ref a3), some (.int l4), some (.int l5), o6, o7, o8, o9] [] (xLay m) 0 0 (some (.int r.1)) (xLay r.2)) {l4 : Int32} {l5 : Int32} {s0 : Int64} {o6 : Option Value} {o7 : Option Value} {o8 : Option Value} {o9 : Option Value} {m : xMem} {r : (Int32 × xMem)} (q6 : xNoD o6 = true) (q7 : xNoD o7 = true) (h : fX10_worth_77 a0 a1 a2 a3 rec10 l4 l5 s0 m = some r) : xFx hh_127 cX10_worth d 77 [some (.ref a0), some (.int a1), some (.int a2), some (.ref a3), some (.int l4), some (.int l5), o6, o7, o8, o9] [.long s0] (xLay m) 0 0 (some (.int r.1)) (xLay r.2) := by
  unfold fX10_worth_77 at h
  refine fx_lstore (ls2 := [some (.ref a0), some (.int a1), some (.int a2), some (.ref a3), some (.int l4), some (.int l5), o6, o7, some (.long s0), none]) dX10_worth_77 rfl (xGd (j := 7) rfl rfl q7 rfl) rfl ?_
  refine fx_goto (t := 188) dX10_worth_79 rfl rfl ?_
  exact fX10_worth_188_ok (o6 := o6) (o7 := o7) hd ha0 ha3 hrec10 q6 q7 h
def fX10_worth_76 (a0 : Nat) (a1 : Int32) (a2 : Int32) (a3 : Nat) (rec10 : Int32 → Int32 → xMem → Option (Int32 × xMem)) (l4 : Int32) (l5 : Int32) (m : xMem) : Option (Int32 × xMem) := fX10_worth_77 a0 a1 a2 a3 rec10 l4 l5 (0 : Int64) m
set_option maxRecDepth 4000 in
theorem fX10_worth_76_ok {a0 : Nat} {a1 : Int32} {a2 : Int32} {a3 : Nat} {rec10 : Int32 → Int32 → xMem → Option (Int32 × xMem)} {d : Nat} (hd : 1 ≤ d) (ha0 : isText a0) (ha3 : isNames a3) (hrec10 : ∀ (l4 : Int32) (l5 : Int32) (o6 : Option Value) (o7 : Option Value) (o8 : Option Value) (o9 : Option Value) (q6 : xNoD o6 = true) (q7 : xNoD o7 = true) (m : xMem) (r : (Int32 × xMem)), rec10 l4 l5 m = some r → xFx hh_127 cX10_worth d 10 [some (.ref a0), some (.int a1), some (.int a2), some (.ref a3), some (.int l4), some (.int l5), o6, o7, o8, o9] [] (xLay m) 0 0 (some (.int r.1)) (xLay r.2)) {l4 : Int32} {l5 : Int32} {o6 : Option Value} {o7 : Option Value} {o8 : Option Value} {o9 : Option Value} {m : xMem} {r : (Int32 × xMem)} (q6 : xNoD o6 = true) (q7 : xNoD o7 = true) (h : fX10_worth_76 a0 a1 a2 a3 rec10 l4 l5 m = some r) : xFx hh_127 cX10_worth d 76 [some (.ref a0), some (.int a1), some (.int a2), some (.ref a3), some (.int l4), some (.int l5), o6, o7, o8, o9] [] (xLay m) 0 0 (some (.int r.1)) (xLay r.2) := by
  unfold fX10_worth_76 at h
  refine fx_lconst (x := 0) dX10_worth_76 rfl (by decide) ?_
  exact fX10_worth_77_ok (o6 := o6) (o7 := o7) (o8 := o8) (o9 := o9) hd ha0 ha3 hrec10 q6 q7 h
def fX10_worth_113 (a0 : Nat) (a1 : Int32) (a2 : Int32) (a3 : Nat) (rec10 : Int32 → Int32 → xMem → Option (Int32 × xMem)) (l4 : Int32) (l5 : Int32) (s0 : Int64) (m : xMem) : Option (Int32 × xMem) := fX10_worth_188 a0 a1 a2 a3 rec10 l4 l5 s0 m
set_option maxRecDepth 4000 in
theorem fX10_worth_113_ok {a0 : Nat} {a1 : Int32} {a2 : Int32} {a3 : Nat} {rec10 : Int32 → Int32 → xMem → Option (Int32 × xMem)} {d : Nat} (hd : 1 ≤ d) (ha0 : isText a0) (ha3 : isNames a3) (hrec10 : ∀ (l4 : Int32) (l5 : Int32) (o6 : Option Value) (o7 : Option Value) (o8 : Option Value) (o9 : Option Value) (q6 : xNoD o6 = true) (q7 : xNoD o7 = true) (m : xMem) (r : (Int32 × xMem)), rec10 l4 l5 m = some r → xFx hh_127 cX10_worth d 10 [some (.ref a0), some (.int a1), some (.int a2), some (.ref a3), some (.int l4), some (.int l5), o6, o7, o8, o9] [] (xLay m) 0 0 (some (.int r.1)) (xLay r.2)) {l4 : Int32} {l5 : Int32} {s0 : Int64} {o6 : Option Value} {o7 : Option Value} {o8 : Option Value} {o9 : Option Value} {m : xMem} {r : (Int32 × xMem)} (q6 : xNoD o6 = true) (q7 : xNoD o7 = true) (h : fX10_worth_113 a0 a1 a2 a3 rec10 l4 l5 s0 m = some r) : xFx hh_127 cX10_worth d 113 [some (.ref a0), some (.int a1), some (.int a2), some (.ref a3), some (.int l4), some (.int l5), o6, o7, o8, o9] [.long s0] (xLay m) 0 0 (some (.int r.1)) (xLay r.2) := by
  unfold fX10_worth_113 at h
  refine fx_lstore (ls2 := [some (.ref a0), some (.int a1), some (.int a2), some (.ref a3), some (.int l4), some (.int l5), o6, o7, some (.long s0), none]) dX10_worth_113 rfl (xGd (j := 7) rfl rfl q7 rfl) rfl ?_
  refine fx_goto (t := 188) dX10_worth_115 rfl rfl ?_
  exact fX10_worth_188_ok (o6 := o6) (o7 := o7) hd ha0 ha3 hrec10 q6 q7 h
def fX10_worth_148 (a0 : Nat) (a1 : Int32) (a2 : Int32) (a3 : Nat) (rec10 : Int32 → Int32 → xMem → Option (Int32 × xMem)) (l4 : Int32) (l5 : Int32) (l6 : Int32) (l8 : Int64) (m : xMem) : Option (Int32 × xMem) := if l6 = (2 : Int32) then fX10_worth_188 a0 a1 a2 a3 rec10 l4 l5 l8 m else if l4 < (2 : Int32) then fX10_worth_188 a0 a1 a2 a3 rec10 l4 l5 l8 m else xLet (l4 + (-2 : Int32)) fun x3 => bif xIn x3 300 then xLet (m.1 (a0 + 5) x3.toNatClampNeg) fun x4 => xLet (x4.toInt64) fun x6 => xLet (x3 + (1 : Int32)) fun x7 => bif xIn x7 300 then xLet (m.1 (a0 + 5) x7.toNatClampNeg) fun x8 => xLet (x8.toInt64) fun x10 => (fX10_joined l6 x6 x10 m).bind fun p11 => fX10_worth_188 a0 a1 a2 a3 rec10 x3 l5 p11.1 p11.2 else none else none
set_option maxRecDepth 4000 in
theorem fX10_worth_148_ok {a0 : Nat} {a1 : Int32} {a2 : Int32} {a3 : Nat} {rec10 : Int32 → Int32 → xMem → Option (Int32 × xMem)} {d : Nat} (hd : 1 ≤ d) (ha0 : isText a0) (ha3 : isNames a3) (hrec10 : ∀ (l4 : Int32) (l5 : Int32) (o6 : Option Value) (o7 : Option Value) (o8 : Option Value) (o9 : Option Value) (q6 : xNoD o6 = true) (q7 : xNoD o7 = true) (m : xMem) (r : (Int32 × xMem)), rec10 l4 l5 m = some r → xFx hh_127 cX10_worth d 10 [some (.ref a0), some (.int a1), some (.int a2), some (.ref a3), some (.int l4), some (.int l5), o6, o7, o8, o9] [] (xLay m) 0 0 (some (.int r.1)) (xLay r.2)) {l4 : Int32} {l5 : Int32} {l6 : Int32} {l8 : Int64} {o7 : Option Value} {m : xMem} {r : (Int32 × xMem)} (q7 : xNoD o7 = true) (h : fX10_worth_148 a0 a1 a2 a3 rec10 l4 l5 l6 l8 m = some r) : xFx hh_127 cX10_worth d 148 [some (.ref a0), some (.int a1), some (.int a2), some (.ref a3), some (.int l4), some (.int l5), some (.int l6), o7, some (.long l8), none] [] (xLay m) 0 0 (some (.int r.1)) (xLay r.2) := by
  unfold fX10_worth_148 at h
  refine fx_iload dX10_worth_148 rfl rfl ?_
  refine fx_iconst (x := 2) dX10_worth_150 rfl (by decide) ?_
  refine fx_icmp_eq (t := 188) dX10_worth_151 rfl rfl (fun hc1 => ?_) (fun hc1 => ?_)
  · rw [if_pos hc1] at h
    exact fX10_worth_188_ok (o6 := some (.int l6)) (o7 := o7) hd ha0 ha3 hrec10 rfl q7 h
  · rw [if_neg hc1] at h
    refine fx_iload dX10_worth_154 rfl rfl ?_
    refine fx_iconst (x := 2) dX10_worth_156 rfl (by decide) ?_
    refine fx_icmp_lt (t := 188) dX10_worth_157 rfl rfl (fun hc2 => ?_) (fun hc2 => ?_)
    · rw [if_pos hc2] at h
      exact fX10_worth_188_ok (o6 := some (.int l6)) (o7 := o7) hd ha0 ha3 hrec10 rfl q7 h
    · rw [if_neg hc2] at h
      obtain ⟨x3, hx3, h⟩ := xLet_el h
      refine fx_iinc (ls2 := [some (.ref a0), some (.int a1), some (.int a2), some (.ref a3), some (.int x3), some (.int l5), some (.int l6), o7, some (.long l8), none]) dX10_worth_160 rfl rfl rfl hx3 rfl ?_
      refine fx_iload dX10_worth_163 rfl rfl ?_
      refine fx_aload_n dX10_worth_165 rfl rfl ?_
      refine gx_getr dX10_worth_166 rfl fd_10_24 ha0.1 rfl rfl ?_
      refine fx_iload dX10_worth_169 rfl rfl ?_
      obtain ⟨hj5, h⟩ := xChk_el h
      obtain ⟨x4, hx4, h⟩ := xLet_el h
      refine gx_iaload dX10_worth_171 rfl ha0.2.2.2.2.2 hj5 hx4 ?_
      obtain ⟨x6, hx6, h⟩ := xLet_el h
      refine fx_i2l dX10_worth_172 rfl hx6 ?_
      refine fx_aload_n dX10_worth_173 rfl rfl ?_
      refine gx_getr dX10_worth_174 rfl fd_10_24 ha0.1 rfl rfl ?_
      refine fx_iload dX10_worth_177 rfl rfl ?_
      refine fx_iconst (x := 1) dX10_worth_179 rfl (by decide) ?_
      obtain ⟨x7, hx7, h⟩ := xLet_el h
      refine fx_iadd dX10_worth_180 rfl hx7 ?_
      obtain ⟨hj9, h⟩ := xChk_el h
      obtain ⟨x8, hx8, h⟩ := xLet_el h
      refine gx_iaload dX10_worth_181 rfl ha0.2.2.2.2.2 hj9 hx8 ?_
      obtain ⟨x10, hx10, h⟩ := xLet_el h
      refine fx_i2l dX10_worth_182 rfl hx10 ?_
      obtain ⟨p11, ep11, h⟩ := xBind_el h
      refine gx_calls (as := [.int l6, .long x6, .long x10]) (r := []) rfl dX10_worth_183 ca_10_47 rfl me_128 rfl rfl rfl rfl (fX10_joined_ok (d := d) (by omega) ep11) rfl rfl ?_
      refine fx_lstore (ls2 := [some (.ref a0), some (.int a1), some (.int a2), some (.ref a3), some (.int x3), some (.int l5), some (.int l6), o7, some (.long p11.1), none]) dX10_worth_186 rfl (xGd (j := 7) rfl rfl q7 rfl) rfl ?_
      exact fX10_worth_188_ok (o6 := some (.int l6)) (o7 := o7) hd ha0 ha3 hrec10 rfl q7 h
def fX10_worth_118 (a0 : Nat) (a1 : Int32) (a2 : Int32) (a3 : Nat) (rec10 : Int32 → Int32 → xMem → Option (Int32 × xMem)) (l4 : Int32) (l5 : Int32) (l6 : Int32) (l8 : Int64) (m : xMem) : Option (Int32 × xMem) := if ¬ l6 = (16 : Int32) then fX10_worth_148 a0 a1 a2 a3 rec10 l4 l5 l6 l8 m else if l4 < (1 : Int32) then fX10_worth_148 a0 a1 a2 a3 rec10 l4 l5 l6 l8 m else xLet (l4 + (-1 : Int32)) fun x3 => bif xIn x3 300 then xLet (m.1 (a0 + 5) x3.toNatClampNeg) fun x4 => xLet (-x4) fun x6 => xLet (x6.toInt64) fun x7 => fX10_worth_188 a0 a1 a2 a3 rec10 x3 l5 x7 m else none
set_option maxRecDepth 4000 in
theorem fX10_worth_118_ok {a0 : Nat} {a1 : Int32} {a2 : Int32} {a3 : Nat} {rec10 : Int32 → Int32 → xMem → Option (Int32 × xMem)} {d : Nat} (hd : 1 ≤ d) (ha0 : isText a0) (ha3 : isNames a3) (hrec10 : ∀ (l4 : Int32) (l5 : Int32) (o6 : Option Value) (o7 : Option Value) (o8 : Option Value) (o9 : Option Value) (q6 : xNoD o6 = true) (q7 : xNoD o7 = true) (m : xMem) (r : (Int32 × xMem)), rec10 l4 l5 m = some r → xFx hh_127 cX10_worth d 10 [some (.ref a0), some (.int a1), some (.int a2), some (.ref a3), some (.int l4), some (.int l5), o6, o7, o8, o9] [] (xLay m) 0 0 (some (.int r.1)) (xLay r.2)) {l4 : Int32} {l5 : Int32} {l6 : Int32} {l8 : Int64} {o7 : Option Value} {m : xMem} {r : (Int32 × xMem)} (q7 : xNoD o7 = true) (h : fX10_worth_118 a0 a1 a2 a3 rec10 l4 l5 l6 l8 m = some r) : xFx hh_127 cX10_worth d 118 [some (.ref a0), some (.int a1), some (.int a2), some (.ref a3), some (.int l4), some (.int l5), some (.int l6), o7, some (.long l8), none] [] (xLay m) 0 0 (some (.int r.1)) (xLay r.2) := by
  unfold fX10_worth_118 at h
  refine fx_iload dX10_worth_118 rfl rfl ?_
  refine fx_bipush (x := 16) dX10_worth_120 rfl (by decide) ?_
  refine fx_icmp_ne (t := 148) dX10_worth_122 rfl rfl (fun hc1 => ?_) (fun hc1 => ?_)
  · rw [if_pos hc1] at h
    exact fX10_worth_148_ok (o7 := o7) hd ha0 ha3 hrec10 q7 h
  · rw [if_neg hc1] at h
    refine fx_iload dX10_worth_125 rfl rfl ?_
    refine fx_iconst (x := 1) dX10_worth_127 rfl (by decide) ?_
    refine fx_icmp_lt (t := 148) dX10_worth_128 rfl rfl (fun hc2 => ?_) (fun hc2 => ?_)
    · rw [if_pos hc2] at h
      exact fX10_worth_148_ok (o7 := o7) hd ha0 ha3 hrec10 q7 h
    · rw [if_neg hc2] at h
      obtain ⟨x3, hx3, h⟩ := xLet_el h
      refine fx_iinc (ls2 := [some (.ref a0), some (.int a1), some (.int a2), some (.ref a3), some (.int x3), some (.int l5), some (.int l6), o7, some (.long l8), none]) dX10_worth_131 rfl rfl rfl hx3 rfl ?_
      refine fx_aload_n dX10_worth_134 rfl rfl ?_
      refine gx_getr dX10_worth_135 rfl fd_10_24 ha0.1 rfl rfl ?_
      refine fx_iload dX10_worth_138 rfl rfl ?_
      obtain ⟨hj5, h⟩ := xChk_el h
      obtain ⟨x4, hx4, h⟩ := xLet_el h
      refine gx_iaload dX10_worth_140 rfl ha0.2.2.2.2.2 hj5 hx4 ?_
      obtain ⟨x6, hx6, h⟩ := xLet_el h
      refine fx_ineg dX10_worth_141 rfl hx6 ?_
      obtain ⟨x7, hx7, h⟩ := xLet_el h
      refine fx_i2l dX10_worth_142 rfl hx7 ?_
      refine fx_lstore (ls2 := [some (.ref a0), some (.int a1), some (.int a2), some (.ref a3), some (.int x3), some (.int l5), some (.int l6), o7, some (.long x7), none]) dX10_worth_143 rfl (xGd (j := 7) rfl rfl q7 rfl) rfl ?_
      refine fx_goto (t := 188) dX10_worth_145 rfl rfl ?_
      exact fX10_worth_188_ok (o6 := some (.int l6)) (o7 := o7) hd ha0 ha3 hrec10 rfl q7 h
def fX10_worth_229 (a0 : Nat) (a1 : Int32) (a2 : Int32) (a3 : Nat) (m : xMem) : Option (Int32 × xMem) := bif xIn (0 : Int32) 300 then xLet (m.1 (a0 + 5) (0 : Int32).toNatClampNeg) fun x1 => some (x1, m) else none
set_option maxRecDepth 4000 in
theorem fX10_worth_229_ok {a0 : Nat} {a1 : Int32} {a2 : Int32} {a3 : Nat} {d : Nat} (hd : 1 ≤ d) (ha0 : isText a0) (ha3 : isNames a3) {o4 : Option Value} {o5 : Option Value} {o6 : Option Value} {o7 : Option Value} {o8 : Option Value} {o9 : Option Value} {m : xMem} {r : (Int32 × xMem)} (q4 : xNoD o4 = true) (q5 : xNoD o5 = true) (q6 : xNoD o6 = true) (q7 : xNoD o7 = true) (h : fX10_worth_229 a0 a1 a2 a3 m = some r) : xFx hh_127 cX10_worth d 229 [some (.ref a0), some (.int a1), some (.int a2), some (.ref a3), o4, o5, o6, o7, o8, o9] [] (xLay m) 0 0 (some (.int r.1)) (xLay r.2) := by
  unfold fX10_worth_229 at h
  refine fx_aload_n dX10_worth_229 rfl rfl ?_
  refine gx_getr dX10_worth_230 rfl fd_10_24 ha0.1 rfl rfl ?_
  refine fx_iconst (x := 0) dX10_worth_233 rfl (by decide) ?_
  obtain ⟨hj2, h⟩ := xChk_el h
  obtain ⟨x1, hx1, h⟩ := xLet_el h
  refine gx_iaload dX10_worth_234 rfl ha0.2.2.2.2.2 hj2 hx1 ?_
  cases h
  exact fx_ireturn dX10_worth_235 rfl rfl
def fX10_worth_10 (a0 : Nat) (a1 : Int32) (a2 : Int32) (a3 : Nat) : Nat → Int32 → Int32 → xMem → Option (Int32 × xMem)
  | 0, _, _, _ => none
  | fuel + 1, l4, l5, m => if a2 ≤ l5 then fX10_worth_229 a0 a1 a2 a3 m else if (300 : Int32) ≤ l5 then fX10_worth_229 a0 a1 a2 a3 m else bif xIn l5 300 then xLet (m.1 (a0 + 1) l5.toNatClampNeg) fun x3 => bif xIn l5 300 then xLet (m.1 (a0 + 2) l5.toNatClampNeg) fun x5 => xLet (x5.toInt64) fun x7 => if ¬ x3 = (26 : Int32) then if ¬ x3 = (25 : Int32) then fX10_worth_118 a0 a1 a2 a3 (fX10_worth_10 a0 a1 a2 a3 fuel) l4 l5 x3 x7 m else if l4 < (1 : Int32) then fX10_worth_118 a0 a1 a2 a3 (fX10_worth_10 a0 a1 a2 a3 fuel) l4 l5 x3 x7 m else xLet (l4 + (-1 : Int32)) fun x11 => bif xIn x11 300 then xLet (m.1 (a0 + 5) x11.toNatClampNeg) fun x12 => if ¬ x12 = (0 : Int32) then fX10_worth_113 a0 a1 a2 a3 (fX10_worth_10 a0 a1 a2 a3 fuel) x11 l5 (0 : Int64) m else fX10_worth_113 a0 a1 a2 a3 (fX10_worth_10 a0 a1 a2 a3 fuel) x11 l5 (1 : Int64) m else none else if x5 < (0 : Int32) then fX10_worth_76 a0 a1 a2 a3 (fX10_worth_10 a0 a1 a2 a3 fuel) l4 l5 m else if (8 : Int32) ≤ x5 then fX10_worth_76 a0 a1 a2 a3 (fX10_worth_10 a0 a1 a2 a3 fuel) l4 l5 m else bif xIn x5 8 then xLet (m.1 a3 x5.toNatClampNeg) fun x17 => xLet (x17.toInt64) fun x19 => fX10_worth_77 a0 a1 a2 a3 (fX10_worth_10 a0 a1 a2 a3 fuel) l4 l5 x19 m else none else none else none
set_option maxRecDepth 4000 in
theorem fX10_worth_10_ok {a0 : Nat} {a1 : Int32} {a2 : Int32} {a3 : Nat} {d : Nat} (hd : 1 ≤ d) (ha0 : isText a0) (ha3 : isNames a3) : ∀ (fuel : Nat) (l4 : Int32) (l5 : Int32) (o6 : Option Value) (o7 : Option Value) (o8 : Option Value) (o9 : Option Value) (q6 : xNoD o6 = true) (q7 : xNoD o7 = true) (m : xMem) (r : (Int32 × xMem)), fX10_worth_10 a0 a1 a2 a3 fuel l4 l5 m = some r → xFx hh_127 cX10_worth d 10 [some (.ref a0), some (.int a1), some (.int a2), some (.ref a3), some (.int l4), some (.int l5), o6, o7, o8, o9] [] (xLay m) 0 0 (some (.int r.1)) (xLay r.2) := by
  intro fuel
  induction fuel with
  | zero => intro l4 l5 o6 o7 o8 o9 q6 q7 m r  h; cases h
  | succ fuel ih =>
    intro l4 l5 o6 o7 o8 o9 q6 q7 m r  h
    unfold fX10_worth_10 at h
    refine fx_iload dX10_worth_10 rfl rfl ?_
    refine fx_iload_n dX10_worth_12 rfl rfl ?_
    refine fx_icmp_ge (t := 229) dX10_worth_13 rfl rfl (fun hc1 => ?_) (fun hc1 => ?_)
    · rw [if_pos hc1] at h
      exact fX10_worth_229_ok (o4 := some (.int l4)) (o5 := some (.int l5)) (o6 := o6) (o7 := o7) (o8 := o8) (o9 := o9) hd ha0 ha3 rfl rfl q6 q7 h
    · rw [if_neg hc1] at h
      refine fx_iload dX10_worth_16 rfl rfl ?_
      refine fx_aload_n dX10_worth_18 rfl rfl ?_
      refine gx_getr dX10_worth_19 rfl fd_10_9 ha0.1 rfl rfl ?_
      refine gx_alen (t := 1) (y := 300) dX10_worth_22 rfl ha0.2.1 rfl (by decide) ?_
      refine fx_icmp_ge (t := 229) dX10_worth_23 rfl rfl (fun hc2 => ?_) (fun hc2 => ?_)
      · rw [if_pos hc2] at h
        exact fX10_worth_229_ok (o4 := some (.int l4)) (o5 := some (.int l5)) (o6 := o6) (o7 := o7) (o8 := o8) (o9 := o9) hd ha0 ha3 rfl rfl q6 q7 h
      · rw [if_neg hc2] at h
        refine fx_aload_n dX10_worth_26 rfl rfl ?_
        refine gx_getr dX10_worth_27 rfl fd_10_9 ha0.1 rfl rfl ?_
        refine fx_iload dX10_worth_30 rfl rfl ?_
        obtain ⟨hj4, h⟩ := xChk_el h
        obtain ⟨x3, hx3, h⟩ := xLet_el h
        refine gx_iaload dX10_worth_32 rfl ha0.2.1 hj4 hx3 ?_
        refine fx_istore (ls2 := [some (.ref a0), some (.int a1), some (.int a2), some (.ref a3), some (.int l4), some (.int l5), some (.int x3), o7, o8, o9]) dX10_worth_33 rfl rfl rfl ?_
        refine fx_aload_n dX10_worth_35 rfl rfl ?_
        refine gx_getr dX10_worth_36 rfl fd_10_15 ha0.1 rfl rfl ?_
        refine fx_iload dX10_worth_39 rfl rfl ?_
        obtain ⟨hj6, h⟩ := xChk_el h
        obtain ⟨x5, hx5, h⟩ := xLet_el h
        refine gx_iaload dX10_worth_41 rfl ha0.2.2.1 hj6 hx5 ?_
        refine fx_istore (ls2 := [some (.ref a0), some (.int a1), some (.int a2), some (.ref a3), some (.int l4), some (.int l5), some (.int x3), some (.int x5), o8, o9]) dX10_worth_42 rfl rfl rfl ?_
        refine fx_iload dX10_worth_44 rfl rfl ?_
        obtain ⟨x7, hx7, h⟩ := xLet_el h
        refine fx_i2l dX10_worth_46 rfl hx7 ?_
        refine fx_lstore (ls2 := [some (.ref a0), some (.int a1), some (.int a2), some (.ref a3), some (.int l4), some (.int l5), some (.int x3), some (.int x5), some (.long x7), none]) dX10_worth_47 rfl rfl rfl ?_
        refine fx_iload dX10_worth_49 rfl rfl ?_
        refine fx_bipush (x := 26) dX10_worth_51 rfl (by decide) ?_
        refine fx_icmp_ne (t := 82) dX10_worth_53 rfl rfl (fun hc8 => ?_) (fun hc8 => ?_)
        · rw [if_pos hc8] at h
          refine fx_iload dX10_worth_82 rfl rfl ?_
          refine fx_bipush (x := 25) dX10_worth_84 rfl (by decide) ?_
          refine fx_icmp_ne (t := 118) dX10_worth_86 rfl rfl (fun hc9 => ?_) (fun hc9 => ?_)
          · rw [if_pos hc9] at h
            exact fX10_worth_118_ok (o7 := some (.int x5)) hd ha0 ha3 ih rfl h
          · rw [if_neg hc9] at h
            refine fx_iload dX10_worth_89 rfl rfl ?_
            refine fx_iconst (x := 1) dX10_worth_91 rfl (by decide) ?_
            refine fx_icmp_lt (t := 118) dX10_worth_92 rfl rfl (fun hc10 => ?_) (fun hc10 => ?_)
            · rw [if_pos hc10] at h
              exact fX10_worth_118_ok (o7 := some (.int x5)) hd ha0 ha3 ih rfl h
            · rw [if_neg hc10] at h
              obtain ⟨x11, hx11, h⟩ := xLet_el h
              refine fx_iinc (ls2 := [some (.ref a0), some (.int a1), some (.int a2), some (.ref a3), some (.int x11), some (.int l5), some (.int x3), some (.int x5), some (.long x7), none]) dX10_worth_95 rfl rfl rfl hx11 rfl ?_
              refine fx_aload_n dX10_worth_98 rfl rfl ?_
              refine gx_getr dX10_worth_99 rfl fd_10_24 ha0.1 rfl rfl ?_
              refine fx_iload dX10_worth_102 rfl rfl ?_
              obtain ⟨hj13, h⟩ := xChk_el h
              obtain ⟨x12, hx12, h⟩ := xLet_el h
              refine gx_iaload dX10_worth_104 rfl ha0.2.2.2.2.2 hj13 hx12 ?_
              refine fx_if_ne (t := 112) dX10_worth_105 rfl rfl (fun hc14 => ?_) (fun hc14 => ?_)
              · rw [if_pos hc14] at h
                refine fx_lconst (x := 0) dX10_worth_112 rfl (by decide) ?_
                exact fX10_worth_113_ok (o6 := some (.int x3)) (o7 := some (.int x5)) (o8 := some (.long x7)) (o9 := none) hd ha0 ha3 ih rfl rfl h
              · rw [if_neg hc14] at h
                refine fx_lconst (x := 1) dX10_worth_108 rfl (by decide) ?_
                refine fx_goto (t := 113) dX10_worth_109 rfl rfl ?_
                exact fX10_worth_113_ok (o6 := some (.int x3)) (o7 := some (.int x5)) (o8 := some (.long x7)) (o9 := none) hd ha0 ha3 ih rfl rfl h
        · rw [if_neg hc8] at h
          refine fx_iload dX10_worth_56 rfl rfl ?_
          refine fx_if_lt (t := 76) dX10_worth_58 rfl rfl (fun hc15 => ?_) (fun hc15 => ?_)
          · rw [if_pos hc15] at h
            exact fX10_worth_76_ok (o6 := some (.int x3)) (o7 := some (.int x5)) (o8 := some (.long x7)) (o9 := none) hd ha0 ha3 ih rfl rfl h
          · rw [if_neg hc15] at h
            refine fx_iload dX10_worth_61 rfl rfl ?_
            refine fx_aload_n dX10_worth_63 rfl rfl ?_
            refine gx_alen (t := 1) (y := 8) dX10_worth_64 rfl ha3 rfl (by decide) ?_
            refine fx_icmp_ge (t := 76) dX10_worth_65 rfl rfl (fun hc16 => ?_) (fun hc16 => ?_)
            · rw [if_pos hc16] at h
              exact fX10_worth_76_ok (o6 := some (.int x3)) (o7 := some (.int x5)) (o8 := some (.long x7)) (o9 := none) hd ha0 ha3 ih rfl rfl h
            · rw [if_neg hc16] at h
              refine fx_aload_n dX10_worth_68 rfl rfl ?_
              refine fx_iload dX10_worth_69 rfl rfl ?_
              obtain ⟨hj18, h⟩ := xChk_el h
              obtain ⟨x17, hx17, h⟩ := xLet_el h
              refine gx_iaload dX10_worth_71 rfl ha3 hj18 hx17 ?_
              obtain ⟨x19, hx19, h⟩ := xLet_el h
              refine fx_i2l dX10_worth_72 rfl hx19 ?_
              refine fx_goto (t := 77) dX10_worth_73 rfl rfl ?_
              exact fX10_worth_77_ok (o6 := some (.int x3)) (o7 := some (.int x5)) (o8 := some (.long x7)) (o9 := none) hd ha0 ha3 ih rfl rfl h
def fX10_worth_0 (a0 : Nat) (a1 : Int32) (a2 : Int32) (a3 : Nat) (m : xMem) : Option (Int32 × xMem) := xLet (xMax a1 (0 : Int32)) fun x1 => fX10_worth_10 a0 a1 a2 a3 xFuel (0 : Int32) x1 m
set_option maxRecDepth 4000 in
theorem fX10_worth_0_ok {a0 : Nat} {a1 : Int32} {a2 : Int32} {a3 : Nat} {d : Nat} (hd : 1 ≤ d) (ha0 : isText a0) (ha3 : isNames a3) {o4 : Option Value} {o5 : Option Value} {o6 : Option Value} {o7 : Option Value} {o8 : Option Value} {o9 : Option Value} {m : xMem} {r : (Int32 × xMem)} (q4 : xNoD o4 = true) (q5 : xNoD o5 = true) (q6 : xNoD o6 = true) (q7 : xNoD o7 = true) (h : fX10_worth_0 a0 a1 a2 a3 m = some r) : xFx hh_127 cX10_worth d 0 [some (.ref a0), some (.int a1), some (.int a2), some (.ref a3), o4, o5, o6, o7, o8, o9] [] (xLay m) 0 0 (some (.int r.1)) (xLay r.2) := by
  unfold fX10_worth_0 at h
  refine fx_iconst (x := 0) dX10_worth_0 rfl (by decide) ?_
  refine fx_istore (ls2 := [some (.ref a0), some (.int a1), some (.int a2), some (.ref a3), some (.int (0 : Int32)), o5, o6, o7, o8, o9]) dX10_worth_1 rfl rfl rfl ?_
  refine fx_iload_n dX10_worth_3 rfl rfl ?_
  refine fx_iconst (x := 0) dX10_worth_4 rfl (by decide) ?_
  obtain ⟨x1, hx1, h⟩ := xLet_el h
  refine fx_imax dX10_worth_5 rfl ca_10_44 rfl hx1 ?_
  refine fx_istore (ls2 := [some (.ref a0), some (.int a1), some (.int a2), some (.ref a3), some (.int (0 : Int32)), some (.int x1), o6, o7, o8, o9]) dX10_worth_8 rfl rfl rfl ?_
  exact fX10_worth_10_ok hd ha0 ha3 xFuel (0 : Int32) x1 (o6) (o7) (o8) (o9) q6 q7 m r h
def fX10_worth (a0 : Nat) (a1 : Int32) (a2 : Int32) (a3 : Nat) (m : xMem) : Option (Int32 × xMem) := fX10_worth_0 a0 a1 a2 a3  m
theorem fX10_worth_ok {a0 : Nat} {a1 : Int32} {a2 : Int32} {a3 : Nat} {m : xMem} {r : (Int32 × xMem)} {d : Nat} (hd : 2 ≤ d) (ha0 : isText a0) (ha3 : isNames a3) (h : fX10_worth a0 a1 a2 a3 m = some r) : xEx d 127 [.ref a0, .int a1, .int a2, .ref a3] (xLay m) (some (.int r.1)) (xLay r.2) := by
  obtain ⟨d, rfl⟩ : ∃ q, d = q + 1 := ⟨d - 1, by omega⟩
  exact xEx_of me_127 rfl (fX10_worth_0_ok (d := d) (o4 := none) (o5 := none) (o6 := none) (o7 := none) (o8 := none) (o9 := none) (by omega) ha0 ha3 rfl rfl rfl rfl h)
def fX10_anySo_53 (a0 : Nat) (a1 : Int32) (a2 : Nat) (rec5 : Int32 → Int32 → xMem → Option (Int32 × xMem)) (l4 : Int32) (m : xMem) : Option (Int32 × xMem) := bif xIn l4 10 then xLet (m.1 (a0 + 4) l4.toNatClampNeg) fun x1 => xLet (l4 + (1 : Int32)) fun x3 => rec5 x1 x3 m else none
set_option maxRecDepth 4000 in
theorem fX10_anySo_53_ok {a0 : Nat} {a1 : Int32} {a2 : Nat} {rec5 : Int32 → Int32 → xMem → Option (Int32 × xMem)} {d : Nat} (hd : 2 ≤ d) (ha0 : isText a0) (ha2 : isNames a2) (hrec5 : ∀ (l3 : Int32) (l4 : Int32) (m : xMem) (r : (Int32 × xMem)), rec5 l3 l4 m = some r → xFx hh_126 cX10_anySo d 5 [some (.ref a0), some (.int a1), some (.ref a2), some (.int l3), some (.int l4)] [] (xLay m) 0 0 (some (.int r.1)) (xLay r.2)) {l4 : Int32} {o3 : Option Value} {m : xMem} {r : (Int32 × xMem)} (q3 : xNoD o3 = true) (h : fX10_anySo_53 a0 a1 a2 rec5 l4 m = some r) : xFx hh_126 cX10_anySo d 53 [some (.ref a0), some (.int a1), some (.ref a2), o3, some (.int l4)] [] (xLay m) 0 0 (some (.int r.1)) (xLay r.2) := by
  unfold fX10_anySo_53 at h
  refine fx_aload_n dX10_anySo_53 rfl rfl ?_
  refine gx_getr dX10_anySo_54 rfl fd_10_21 ha0.1 rfl rfl ?_
  refine fx_iload dX10_anySo_57 rfl rfl ?_
  obtain ⟨hj2, h⟩ := xChk_el h
  obtain ⟨x1, hx1, h⟩ := xLet_el h
  refine gx_iaload dX10_anySo_59 rfl ha0.2.2.2.2.1 hj2 hx1 ?_
  refine fx_istore_n (ls2 := [some (.ref a0), some (.int a1), some (.ref a2), some (.int x1), some (.int l4)]) dX10_anySo_60 rfl rfl rfl ?_
  obtain ⟨x3, hx3, h⟩ := xLet_el h
  refine fx_iinc (ls2 := [some (.ref a0), some (.int a1), some (.ref a2), some (.int x1), some (.int x3)]) dX10_anySo_61 rfl rfl rfl hx3 rfl ?_
  refine fx_goto (t := 5) dX10_anySo_64 rfl rfl ?_
  exact hrec5 x1 x3 m r h
def fX10_anySo_67 (a0 : Nat) (a1 : Int32) (a2 : Nat) (m : xMem) : Option (Int32 × xMem) := some ((0 : Int32), m)
set_option maxRecDepth 4000 in
theorem fX10_anySo_67_ok {a0 : Nat} {a1 : Int32} {a2 : Nat} {d : Nat} (hd : 2 ≤ d) (ha0 : isText a0) (ha2 : isNames a2) {o3 : Option Value} {o4 : Option Value} {m : xMem} {r : (Int32 × xMem)} (q3 : xNoD o3 = true) (q4 : xNoD o4 = true) (h : fX10_anySo_67 a0 a1 a2 m = some r) : xFx hh_126 cX10_anySo d 67 [some (.ref a0), some (.int a1), some (.ref a2), o3, o4] [] (xLay m) 0 0 (some (.int r.1)) (xLay r.2) := by
  unfold fX10_anySo_67 at h
  refine fx_iconst (x := 0) dX10_anySo_67 rfl (by decide) ?_
  cases h
  exact fx_ireturn dX10_anySo_68 rfl rfl
def fX10_anySo_5 (a0 : Nat) (a1 : Int32) (a2 : Nat) : Nat → Int32 → Int32 → xMem → Option (Int32 × xMem)
  | 0, _, _, _ => none
  | fuel + 1, l3, l4, m => xLet (m.1 a0 6) fun x1 => if x1 ≤ l4 then fX10_anySo_67 a0 a1 a2 m else if (10 : Int32) ≤ l4 then fX10_anySo_67 a0 a1 a2 m else bif xIn l4 10 then xLet (m.1 (a0 + 3) l4.toNatClampNeg) fun x4 => if ¬ x4 = a1 then fX10_anySo_53 a0 a1 a2 (fX10_anySo_5 a0 a1 a2 fuel) l4 m else bif xIn l4 10 then xLet (m.1 (a0 + 4) l4.toNatClampNeg) fun x7 => (fX10_worth a0 l3 x7 a2 m).bind fun p9 => if p9.1 = (0 : Int32) then fX10_anySo_53 a0 a1 a2 (fX10_anySo_5 a0 a1 a2 fuel) l4 p9.2 else some ((1 : Int32), p9.2) else none else none
set_option maxRecDepth 4000 in
theorem fX10_anySo_5_ok {a0 : Nat} {a1 : Int32} {a2 : Nat} {d : Nat} (hd : 2 ≤ d) (ha0 : isText a0) (ha2 : isNames a2) : ∀ (fuel : Nat) (l3 : Int32) (l4 : Int32) (m : xMem) (r : (Int32 × xMem)), fX10_anySo_5 a0 a1 a2 fuel l3 l4 m = some r → xFx hh_126 cX10_anySo d 5 [some (.ref a0), some (.int a1), some (.ref a2), some (.int l3), some (.int l4)] [] (xLay m) 0 0 (some (.int r.1)) (xLay r.2) := by
  intro fuel
  induction fuel with
  | zero => intro l3 l4  m r  h; cases h
  | succ fuel ih =>
    intro l3 l4  m r  h
    unfold fX10_anySo_5 at h
    refine fx_iload dX10_anySo_5 rfl rfl ?_
    refine fx_aload_n dX10_anySo_7 rfl rfl ?_
    obtain ⟨x1, hx1, h⟩ := xLet_el h
    refine gx_get dX10_anySo_8 rfl fd_10_31 ha0.1 rfl rfl hx1 ?_
    refine fx_icmp_ge (t := 67) dX10_anySo_11 rfl rfl (fun hc2 => ?_) (fun hc2 => ?_)
    · rw [if_pos hc2] at h
      exact fX10_anySo_67_ok (o3 := some (.int l3)) (o4 := some (.int l4)) hd ha0 ha2 rfl rfl h
    · rw [if_neg hc2] at h
      refine fx_iload dX10_anySo_14 rfl rfl ?_
      refine fx_aload_n dX10_anySo_16 rfl rfl ?_
      refine gx_getr dX10_anySo_17 rfl fd_10_18 ha0.1 rfl rfl ?_
      refine gx_alen (t := 1) (y := 10) dX10_anySo_20 rfl ha0.2.2.2.1 rfl (by decide) ?_
      refine fx_icmp_ge (t := 67) dX10_anySo_21 rfl rfl (fun hc3 => ?_) (fun hc3 => ?_)
      · rw [if_pos hc3] at h
        exact fX10_anySo_67_ok (o3 := some (.int l3)) (o4 := some (.int l4)) hd ha0 ha2 rfl rfl h
      · rw [if_neg hc3] at h
        refine fx_aload_n dX10_anySo_24 rfl rfl ?_
        refine gx_getr dX10_anySo_25 rfl fd_10_18 ha0.1 rfl rfl ?_
        refine fx_iload dX10_anySo_28 rfl rfl ?_
        obtain ⟨hj5, h⟩ := xChk_el h
        obtain ⟨x4, hx4, h⟩ := xLet_el h
        refine gx_iaload dX10_anySo_30 rfl ha0.2.2.2.1 hj5 hx4 ?_
        refine fx_iload_n dX10_anySo_31 rfl rfl ?_
        refine fx_icmp_ne (t := 53) dX10_anySo_32 rfl rfl (fun hc6 => ?_) (fun hc6 => ?_)
        · rw [if_pos hc6] at h
          exact fX10_anySo_53_ok (o3 := some (.int l3)) hd ha0 ha2 ih rfl h
        · rw [if_neg hc6] at h
          refine fx_aload_n dX10_anySo_35 rfl rfl ?_
          refine fx_iload_n dX10_anySo_36 rfl rfl ?_
          refine fx_aload_n dX10_anySo_37 rfl rfl ?_
          refine gx_getr dX10_anySo_38 rfl fd_10_21 ha0.1 rfl rfl ?_
          refine fx_iload dX10_anySo_41 rfl rfl ?_
          obtain ⟨hj8, h⟩ := xChk_el h
          obtain ⟨x7, hx7, h⟩ := xLet_el h
          refine gx_iaload dX10_anySo_43 rfl ha0.2.2.2.2.1 hj8 hx7 ?_
          refine fx_aload_n dX10_anySo_44 rfl rfl ?_
          obtain ⟨p9, ep9, h⟩ := xBind_el h
          refine gx_callv (as := [.int l3, .int x7, .ref a2]) (r := []) rfl dX10_anySo_45 ca_10_34 rfl me_127 rfl rfl rfl rfl (ha0.1) rfl (fX10_worth_ok (d := d) (by omega) ha0 ha2 ep9) rfl rfl ?_
          refine fx_if_eq (t := 53) dX10_anySo_48 rfl rfl (fun hc10 => ?_) (fun hc10 => ?_)
          · rw [if_pos hc10] at h
            exact fX10_anySo_53_ok (o3 := some (.int l3)) hd ha0 ha2 ih rfl h
          · rw [if_neg hc10] at h
            refine fx_iconst (x := 1) dX10_anySo_51 rfl (by decide) ?_
            cases h
            exact fx_ireturn dX10_anySo_52 rfl rfl
def fX10_anySo_0 (a0 : Nat) (a1 : Int32) (a2 : Nat) (m : xMem) : Option (Int32 × xMem) := fX10_anySo_5 a0 a1 a2 xFuel (0 : Int32) (0 : Int32) m
set_option maxRecDepth 4000 in
theorem fX10_anySo_0_ok {a0 : Nat} {a1 : Int32} {a2 : Nat} {d : Nat} (hd : 2 ≤ d) (ha0 : isText a0) (ha2 : isNames a2) {o3 : Option Value} {o4 : Option Value} {m : xMem} {r : (Int32 × xMem)} (q3 : xNoD o3 = true) (q4 : xNoD o4 = true) (h : fX10_anySo_0 a0 a1 a2 m = some r) : xFx hh_126 cX10_anySo d 0 [some (.ref a0), some (.int a1), some (.ref a2), o3, o4] [] (xLay m) 0 0 (some (.int r.1)) (xLay r.2) := by
  unfold fX10_anySo_0 at h
  refine fx_iconst (x := 0) dX10_anySo_0 rfl (by decide) ?_
  refine fx_istore_n (ls2 := [some (.ref a0), some (.int a1), some (.ref a2), some (.int (0 : Int32)), o4]) dX10_anySo_1 rfl rfl rfl ?_
  refine fx_iconst (x := 0) dX10_anySo_2 rfl (by decide) ?_
  refine fx_istore (ls2 := [some (.ref a0), some (.int a1), some (.ref a2), some (.int (0 : Int32)), some (.int (0 : Int32))]) dX10_anySo_3 rfl rfl rfl ?_
  exact fX10_anySo_5_ok hd ha0 ha2 xFuel (0 : Int32) (0 : Int32) m r h
def fX10_anySo (a0 : Nat) (a1 : Int32) (a2 : Nat) (m : xMem) : Option (Int32 × xMem) := fX10_anySo_0 a0 a1 a2  m
theorem fX10_anySo_ok {a0 : Nat} {a1 : Int32} {a2 : Nat} {m : xMem} {r : (Int32 × xMem)} {d : Nat} (hd : 3 ≤ d) (ha0 : isText a0) (ha2 : isNames a2) (h : fX10_anySo a0 a1 a2 m = some r) : xEx d 126 [.ref a0, .int a1, .ref a2] (xLay m) (some (.int r.1)) (xLay r.2) := by
  obtain ⟨d, rfl⟩ : ∃ q, d = q + 1 := ⟨d - 1, by omega⟩
  exact xEx_of me_126 rfl (fX10_anySo_0_ok (d := d) (o3 := none) (o4 := none) (by omega) ha0 ha2 rfl rfl h)
def fX6_isSo_0 (a0 : Nat) (a1 : Nat) (a2 : Nat) (a3 : Int32) (a4 : Int32) (m : xMem) : Option (Int32 × xMem) := (fX9_hasHall a1 a4 m).bind fun p1 => if ¬ p1.1 = (0 : Int32) then bif xIn a4 6 then xLet (a1 + 15 + 3 * a4.toNatClampNeg) fun r4 => xLet (p1.2.1 a1 6) fun x5 => bif xIn (0 : Int32) 8 then xLet (xPut p1.2 (a0 + 4) (0 : Int32).toNatClampNeg x5) fun m6 => bif xIn (1 : Int32) 8 then xLet (xPut m6 (a0 + 4) (1 : Int32).toNatClampNeg a4) fun m8 => xLet (m8.1 r4 4) fun x10 => bif xIn (2 : Int32) 8 then xLet (xPut m8 (a0 + 4) (2 : Int32).toNatClampNeg x10) fun m11 => xLet (m11.1 r4 2) fun x13 => bif xIn (3 : Int32) 8 then xLet (xPut m11 (a0 + 4) (3 : Int32).toNatClampNeg x13) fun m14 => xLet (m14.1 r4 5) fun x16 => bif xIn (4 : Int32) 8 then xLet (xPut m14 (a0 + 4) (4 : Int32).toNatClampNeg x16) fun m17 => (fX10_anySo a2 a3 (a0 + 4) m17).bind fun p19 => bif (decide (p19.1 = 0) || decide (p19.1 = 1)) then some (p19.1, p19.2) else none else none else none else none else none else none else none else some ((0 : Int32), p1.2)
set_option maxRecDepth 4000 in
theorem fX6_isSo_0_ok {a0 : Nat} {a1 : Nat} {a2 : Nat} {a3 : Int32} {a4 : Int32} {d : Nat} (hd : 3 ≤ d) (ha0 : isMover a0) (ha1 : isStation a1) (ha2 : isText a2) {o5 : Option Value} {m : xMem} {r : (Int32 × xMem)} (q5 : xNoD o5 = true) (h : fX6_isSo_0 a0 a1 a2 a3 a4 m = some r) : xFx hh_125 cX6_isSo d 0 [some (.ref a0), some (.ref a1), some (.ref a2), some (.int a3), some (.int a4), o5] [] (xLay m) 0 0 (some (.int r.1)) (xLay r.2) := by
  unfold fX6_isSo_0 at h
  refine fx_aload_n dX6_isSo_0 rfl rfl ?_
  refine fx_iload dX6_isSo_1 rfl rfl ?_
  obtain ⟨p1, ep1, h⟩ := xBind_el h
  refine gx_callv (as := [.int a4]) (r := []) rfl dX6_isSo_3 ca_6_69 rfl me_20 rfl rfl rfl rfl (ha1.1) rfl (fX9_hasHall_ok (d := d) (by omega) ha1 ep1) rfl rfl ?_
  refine fx_if_ne (t := 11) dX6_isSo_6 rfl rfl (fun hc2 => ?_) (fun hc2 => ?_)
  · rw [if_pos hc2] at h
    refine fx_aload_n dX6_isSo_11 rfl rfl ?_
    refine gx_getr dX6_isSo_12 rfl fd_6_96 ha1.1 rfl rfl ?_
    refine fx_iload dX6_isSo_15 rfl rfl ?_
    obtain ⟨hj3, h⟩ := xChk_el h
    obtain ⟨r4, hr4, h⟩ := xLet_el h
    refine gx_aaload (t := 4) dX6_isSo_17 rfl ha1.2.1 rfl hj3 ((xRef_at (sl_9_0 a1) hj3).trans (congrArg some hr4)) ?_
    have hpr4 : isHall r4 := by rw [← hr4]; exact ha1.2.2.2.2.2.2.2.1 _ (xIn_lt hj3)
    refine fx_astore (ls2 := [some (.ref a0), some (.ref a1), some (.ref a2), some (.int a3), some (.int a4), some (.ref r4)]) dX6_isSo_18 rfl rfl rfl ?_
    refine fx_aload_n dX6_isSo_20 rfl rfl ?_
    refine gx_getr dX6_isSo_21 rfl fd_6_20 ha0.1 rfl rfl ?_
    refine fx_iconst (x := 0) dX6_isSo_24 rfl (by decide) ?_
    refine fx_aload_n dX6_isSo_25 rfl rfl ?_
    obtain ⟨x5, hx5, h⟩ := xLet_el h
    refine gx_get dX6_isSo_26 rfl fd_6_47 ha1.1 rfl rfl hx5 ?_
    obtain ⟨hj7, h⟩ := xChk_el h
    obtain ⟨m6, hm6, h⟩ := xLet_el h
    refine gx_iastore dX6_isSo_29 rfl ha0.2.2 hj7 hm6 ?_
    refine fx_aload_n dX6_isSo_30 rfl rfl ?_
    refine gx_getr dX6_isSo_31 rfl fd_6_20 ha0.1 rfl rfl ?_
    refine fx_iconst (x := 1) dX6_isSo_34 rfl (by decide) ?_
    refine fx_iload dX6_isSo_35 rfl rfl ?_
    obtain ⟨hj9, h⟩ := xChk_el h
    obtain ⟨m8, hm8, h⟩ := xLet_el h
    refine gx_iastore dX6_isSo_37 rfl ha0.2.2 hj9 hm8 ?_
    refine fx_aload_n dX6_isSo_38 rfl rfl ?_
    refine gx_getr dX6_isSo_39 rfl fd_6_20 ha0.1 rfl rfl ?_
    refine fx_iconst (x := 2) dX6_isSo_42 rfl (by decide) ?_
    refine fx_aload dX6_isSo_43 rfl rfl ?_
    obtain ⟨x10, hx10, h⟩ := xLet_el h
    refine gx_get dX6_isSo_45 rfl fd_6_106 hpr4.1 rfl rfl hx10 ?_
    obtain ⟨hj12, h⟩ := xChk_el h
    obtain ⟨m11, hm11, h⟩ := xLet_el h
    refine gx_iastore dX6_isSo_48 rfl ha0.2.2 hj12 hm11 ?_
    refine fx_aload_n dX6_isSo_49 rfl rfl ?_
    refine gx_getr dX6_isSo_50 rfl fd_6_20 ha0.1 rfl rfl ?_
    refine fx_iconst (x := 3) dX6_isSo_53 rfl (by decide) ?_
    refine fx_aload dX6_isSo_54 rfl rfl ?_
    obtain ⟨x13, hx13, h⟩ := xLet_el h
    refine gx_get dX6_isSo_56 rfl fd_6_109 hpr4.1 rfl rfl hx13 ?_
    obtain ⟨hj15, h⟩ := xChk_el h
    obtain ⟨m14, hm14, h⟩ := xLet_el h
    refine gx_iastore dX6_isSo_59 rfl ha0.2.2 hj15 hm14 ?_
    refine fx_aload_n dX6_isSo_60 rfl rfl ?_
    refine gx_getr dX6_isSo_61 rfl fd_6_20 ha0.1 rfl rfl ?_
    refine fx_iconst (x := 4) dX6_isSo_64 rfl (by decide) ?_
    refine fx_aload dX6_isSo_65 rfl rfl ?_
    obtain ⟨x16, hx16, h⟩ := xLet_el h
    refine gx_get dX6_isSo_67 rfl fd_6_112 hpr4.1 rfl rfl hx16 ?_
    obtain ⟨hj18, h⟩ := xChk_el h
    obtain ⟨m17, hm17, h⟩ := xLet_el h
    refine gx_iastore dX6_isSo_70 rfl ha0.2.2 hj18 hm17 ?_
    refine fx_aload_n dX6_isSo_71 rfl rfl ?_
    refine fx_iload_n dX6_isSo_72 rfl rfl ?_
    refine fx_aload_n dX6_isSo_73 rfl rfl ?_
    refine gx_getr dX6_isSo_74 rfl fd_6_20 ha0.1 rfl rfl ?_
    obtain ⟨p19, ep19, h⟩ := xBind_el h
    refine gx_callv (as := [.int a3, .ref (a0 + 4)]) (r := []) rfl dX6_isSo_77 ca_6_115 rfl me_126 rfl rfl rfl rfl (ha2.1) rfl (fX10_anySo_ok (d := d) (by omega) ha2 ha0.2.2 ep19) rfl rfl ?_
    obtain ⟨hb20, h⟩ := xChk_el h
    cases h
    exact fx_ireturn dX6_isSo_80 rfl (by show ((decide _ || decide _) && _) = true; rw [hb20]; rfl)
  · rw [if_neg hc2] at h
    refine fx_iconst (x := 0) dX6_isSo_9 rfl (by decide) ?_
    cases h
    exact fx_ireturn dX6_isSo_10 rfl rfl
def fX6_isSo (a0 : Nat) (a1 : Nat) (a2 : Nat) (a3 : Int32) (a4 : Int32) (m : xMem) : Option (Int32 × xMem) := fX6_isSo_0 a0 a1 a2 a3 a4  m
theorem fX6_isSo_ok {a0 : Nat} {a1 : Nat} {a2 : Nat} {a3 : Int32} {a4 : Int32} {m : xMem} {r : (Int32 × xMem)} {d : Nat} (hd : 4 ≤ d) (ha0 : isMover a0) (ha1 : isStation a1) (ha2 : isText a2) (h : fX6_isSo a0 a1 a2 a3 a4 m = some r) : xEx d 125 [.ref a0, .ref a1, .ref a2, .int a3, .int a4] (xLay m) (some (.int r.1)) (xLay r.2) := by
  obtain ⟨d, rfl⟩ : ∃ q, d = q + 1 := ⟨d - 1, by omega⟩
  exact xEx_of me_125 rfl (fX6_isSo_0_ok (d := d) (o5 := none) (by omega) ha0 ha1 ha2 rfl h)
def fX6_openHalls_83 (a0 : Nat) (a1 : Nat) (a2 : Nat) (rec2 : Int32 → xMem → Option xMem) (l3 : Int32) (m : xMem) : Option xMem := xLet (l3 + (1 : Int32)) fun x1 => rec2 x1 m
set_option maxRecDepth 4000 in
theorem fX6_openHalls_83_ok {a0 : Nat} {a1 : Nat} {a2 : Nat} {rec2 : Int32 → xMem → Option xMem} {d : Nat} (hd : 4 ≤ d) (ha0 : isMover a0) (ha1 : isStation a1) (ha2 : isText a2) (hrec2 : ∀ (l3 : Int32) (o4 : Option Value) (q4 : xNoD o4 = true) (m : xMem) (r : xMem), rec2 l3 m = some r → xFx hh_130 cX6_openHalls d 2 [some (.ref a0), some (.ref a1), some (.ref a2), some (.int l3), o4] [] (xLay m) 0 0 none (xLay r)) {l3 : Int32} {o4 : Option Value} {m : xMem} {r : xMem} (q4 : xNoD o4 = true) (h : fX6_openHalls_83 a0 a1 a2 rec2 l3 m = some r) : xFx hh_130 cX6_openHalls d 83 [some (.ref a0), some (.ref a1), some (.ref a2), some (.int l3), o4] [] (xLay m) 0 0 none (xLay r) := by
  unfold fX6_openHalls_83 at h
  obtain ⟨x1, hx1, h⟩ := xLet_el h
  refine fx_iinc (ls2 := [some (.ref a0), some (.ref a1), some (.ref a2), some (.int x1), o4]) dX6_openHalls_83 rfl rfl rfl hx1 rfl ?_
  refine fx_goto (t := 2) dX6_openHalls_86 rfl rfl ?_
  exact hrec2 x1 (o4) q4 m r h
def fX6_openHalls_58 (a0 : Nat) (a1 : Nat) (a2 : Nat) (rec2 : Int32 → xMem → Option xMem) (l3 : Int32) (l4 : Nat) (s0 : Nat) (s1 : Int32) (m : xMem) : Option xMem := bif (decide (s1 = 0) || decide (s1 = 1)) then xLet (xPut m s0 8 s1) fun m1 => xLet (m1.1 l4 8) fun x3 => if ¬ x3 = (0 : Int32) then fX6_openHalls_83 a0 a1 a2 rec2 l3 m1 else xLet (m1.1 l4 5) fun x5 => if x5 ≤ (0 : Int32) then fX6_openHalls_83 a0 a1 a2 rec2 l3 m1 else (fX6_letIn a0 a1 l3 m1).bind fun p7 => fX6_openHalls_83 a0 a1 a2 rec2 l3 p7 else none
set_option maxRecDepth 4000 in
theorem fX6_openHalls_58_ok {a0 : Nat} {a1 : Nat} {a2 : Nat} {rec2 : Int32 → xMem → Option xMem} {d : Nat} (hd : 4 ≤ d) (ha0 : isMover a0) (ha1 : isStation a1) (ha2 : isText a2) (hrec2 : ∀ (l3 : Int32) (o4 : Option Value) (q4 : xNoD o4 = true) (m : xMem) (r : xMem), rec2 l3 m = some r → xFx hh_130 cX6_openHalls d 2 [some (.ref a0), some (.ref a1), some (.ref a2), some (.int l3), o4] [] (xLay m) 0 0 none (xLay r)) {l3 : Int32} {l4 : Nat} {s0 : Nat} {s1 : Int32} {m : xMem} {r : xMem} (hl4 : isHall l4) (hs0 : isHall s0) (h : fX6_openHalls_58 a0 a1 a2 rec2 l3 l4 s0 s1 m = some r) : xFx hh_130 cX6_openHalls d 58 [some (.ref a0), some (.ref a1), some (.ref a2), some (.int l3), some (.ref l4)] [.int s1, .ref s0] (xLay m) 0 0 none (xLay r) := by
  unfold fX6_openHalls_58 at h
  obtain ⟨hb2, h⟩ := xChk_el h
  obtain ⟨m1, hm1, h⟩ := xLet_el h
  refine gx_put dX6_openHalls_58 rfl fd_6_125 hs0.1 rfl rfl (by show ((decide _ || decide _) && _) = true; rw [hb2]; rfl) hm1 ?_
  refine fx_aload dX6_openHalls_61 rfl rfl ?_
  obtain ⟨x3, hx3, h⟩ := xLet_el h
  refine gx_get dX6_openHalls_63 rfl fd_6_125 hl4.1 rfl rfl hx3 ?_
  refine fx_if_ne (t := 83) dX6_openHalls_66 rfl rfl (fun hc4 => ?_) (fun hc4 => ?_)
  · rw [if_pos hc4] at h
    exact fX6_openHalls_83_ok (o4 := some (.ref l4)) hd ha0 ha1 ha2 hrec2 rfl h
  · rw [if_neg hc4] at h
    refine fx_aload dX6_openHalls_69 rfl rfl ?_
    obtain ⟨x5, hx5, h⟩ := xLet_el h
    refine gx_get dX6_openHalls_71 rfl fd_6_112 hl4.1 rfl rfl hx5 ?_
    refine fx_if_le (t := 83) dX6_openHalls_74 rfl rfl (fun hc6 => ?_) (fun hc6 => ?_)
    · rw [if_pos hc6] at h
      exact fX6_openHalls_83_ok (o4 := some (.ref l4)) hd ha0 ha1 ha2 hrec2 rfl h
    · rw [if_neg hc6] at h
      refine fx_aload_n dX6_openHalls_77 rfl rfl ?_
      refine fx_aload_n dX6_openHalls_78 rfl rfl ?_
      refine fx_iload_n dX6_openHalls_79 rfl rfl ?_
      obtain ⟨p7, ep7, h⟩ := xBind_el h
      refine gx_callv (as := [.ref a1, .int l3]) (r := []) rfl dX6_openHalls_80 ca_6_128 rfl me_131 rfl rfl rfl rfl (ha0.1) rfl (fX6_letIn_ok (d := d) (by omega) ha0 ha1 ep7) rfl rfl ?_
      exact fX6_openHalls_83_ok (o4 := some (.ref l4)) hd ha0 ha1 ha2 hrec2 rfl h
def fX6_openHalls_53 (a0 : Nat) (a1 : Nat) (a2 : Nat) (rec2 : Int32 → xMem → Option xMem) (l3 : Int32) (l4 : Nat) (s0 : Nat) (m : xMem) : Option xMem := fX6_openHalls_58 a0 a1 a2 rec2 l3 l4 s0 (1 : Int32) m
set_option maxRecDepth 4000 in
theorem fX6_openHalls_53_ok {a0 : Nat} {a1 : Nat} {a2 : Nat} {rec2 : Int32 → xMem → Option xMem} {d : Nat} (hd : 4 ≤ d) (ha0 : isMover a0) (ha1 : isStation a1) (ha2 : isText a2) (hrec2 : ∀ (l3 : Int32) (o4 : Option Value) (q4 : xNoD o4 = true) (m : xMem) (r : xMem), rec2 l3 m = some r → xFx hh_130 cX6_openHalls d 2 [some (.ref a0), some (.ref a1), some (.ref a2), some (.int l3), o4] [] (xLay m) 0 0 none (xLay r)) {l3 : Int32} {l4 : Nat} {s0 : Nat} {m : xMem} {r : xMem} (hl4 : isHall l4) (hs0 : isHall s0) (h : fX6_openHalls_53 a0 a1 a2 rec2 l3 l4 s0 m = some r) : xFx hh_130 cX6_openHalls d 53 [some (.ref a0), some (.ref a1), some (.ref a2), some (.int l3), some (.ref l4)] [.ref s0] (xLay m) 0 0 none (xLay r) := by
  unfold fX6_openHalls_53 at h
  refine fx_iconst (x := 1) dX6_openHalls_53 rfl (by decide) ?_
  refine fx_goto (t := 58) dX6_openHalls_54 rfl rfl ?_
  exact fX6_openHalls_58_ok hd ha0 ha1 ha2 hrec2 hl4 hs0 h
def fX6_openHalls_89 (a0 : Nat) (a1 : Nat) (a2 : Nat) (m : xMem) : Option xMem := some m
set_option maxRecDepth 4000 in
theorem fX6_openHalls_89_ok {a0 : Nat} {a1 : Nat} {a2 : Nat} {d : Nat} (hd : 4 ≤ d) (ha0 : isMover a0) (ha1 : isStation a1) (ha2 : isText a2) {o3 : Option Value} {o4 : Option Value} {m : xMem} {r : xMem} (q3 : xNoD o3 = true) (q4 : xNoD o4 = true) (h : fX6_openHalls_89 a0 a1 a2 m = some r) : xFx hh_130 cX6_openHalls d 89 [some (.ref a0), some (.ref a1), some (.ref a2), o3, o4] [] (xLay m) 0 0 none (xLay r) := by
  unfold fX6_openHalls_89 at h
  cases h
  exact fx_return dX6_openHalls_89 rfl rfl
def fX6_openHalls_2 (a0 : Nat) (a1 : Nat) (a2 : Nat) : Nat → Int32 → xMem → Option xMem
  | 0, _, _ => none
  | fuel + 1, l3, m => xLet (m.1 a1 7) fun x1 => if x1 ≤ l3 then fX6_openHalls_89 a0 a1 a2 m else if (6 : Int32) ≤ l3 then fX6_openHalls_89 a0 a1 a2 m else bif xIn l3 6 then xLet (a1 + 15 + 3 * l3.toNatClampNeg) fun r5 => xLet (m.1 r5 4) fun x6 => xLet (m.1 r5 3) fun x7 => if x7 ≤ x6 then fX6_openHalls_53 a0 a1 a2 (fX6_openHalls_2 a0 a1 a2 fuel) l3 r5 r5 m else (fX6_isSo a0 a1 a2 (1 : Int32) l3 m).bind fun p9 => if p9.1 = (0 : Int32) then fX6_openHalls_58 a0 a1 a2 (fX6_openHalls_2 a0 a1 a2 fuel) l3 r5 r5 (0 : Int32) p9.2 else fX6_openHalls_53 a0 a1 a2 (fX6_openHalls_2 a0 a1 a2 fuel) l3 r5 r5 p9.2 else none
set_option maxRecDepth 4000 in
theorem fX6_openHalls_2_ok {a0 : Nat} {a1 : Nat} {a2 : Nat} {d : Nat} (hd : 4 ≤ d) (ha0 : isMover a0) (ha1 : isStation a1) (ha2 : isText a2) : ∀ (fuel : Nat) (l3 : Int32) (o4 : Option Value) (q4 : xNoD o4 = true) (m : xMem) (r : xMem), fX6_openHalls_2 a0 a1 a2 fuel l3 m = some r → xFx hh_130 cX6_openHalls d 2 [some (.ref a0), some (.ref a1), some (.ref a2), some (.int l3), o4] [] (xLay m) 0 0 none (xLay r) := by
  intro fuel
  induction fuel with
  | zero => intro l3 o4 q4 m r  h; cases h
  | succ fuel ih =>
    intro l3 o4 q4 m r  h
    unfold fX6_openHalls_2 at h
    refine fx_iload_n dX6_openHalls_2 rfl rfl ?_
    refine fx_aload_n dX6_openHalls_3 rfl rfl ?_
    obtain ⟨x1, hx1, h⟩ := xLet_el h
    refine gx_get dX6_openHalls_4 rfl fd_6_119 ha1.1 rfl rfl hx1 ?_
    refine fx_icmp_ge (t := 89) dX6_openHalls_7 rfl rfl (fun hc2 => ?_) (fun hc2 => ?_)
    · rw [if_pos hc2] at h
      exact fX6_openHalls_89_ok (o3 := some (.int l3)) (o4 := o4) hd ha0 ha1 ha2 rfl q4 h
    · rw [if_neg hc2] at h
      refine fx_iload_n dX6_openHalls_10 rfl rfl ?_
      refine fx_aload_n dX6_openHalls_11 rfl rfl ?_
      refine gx_getr dX6_openHalls_12 rfl fd_6_96 ha1.1 rfl rfl ?_
      refine gx_alen (t := 4) (y := 6) dX6_openHalls_15 rfl ha1.2.1 rfl (by decide) ?_
      refine fx_icmp_ge (t := 89) dX6_openHalls_16 rfl rfl (fun hc3 => ?_) (fun hc3 => ?_)
      · rw [if_pos hc3] at h
        exact fX6_openHalls_89_ok (o3 := some (.int l3)) (o4 := o4) hd ha0 ha1 ha2 rfl q4 h
      · rw [if_neg hc3] at h
        refine fx_aload_n dX6_openHalls_19 rfl rfl ?_
        refine gx_getr dX6_openHalls_20 rfl fd_6_96 ha1.1 rfl rfl ?_
        refine fx_iload_n dX6_openHalls_23 rfl rfl ?_
        obtain ⟨hj4, h⟩ := xChk_el h
        obtain ⟨r5, hr5, h⟩ := xLet_el h
        refine gx_aaload (t := 4) dX6_openHalls_24 rfl ha1.2.1 rfl hj4 ((xRef_at (sl_9_0 a1) hj4).trans (congrArg some hr5)) ?_
        have hpr5 : isHall r5 := by rw [← hr5]; exact ha1.2.2.2.2.2.2.2.1 _ (xIn_lt hj4)
        refine fx_astore (ls2 := [some (.ref a0), some (.ref a1), some (.ref a2), some (.int l3), some (.ref r5)]) dX6_openHalls_25 rfl rfl rfl ?_
        refine fx_aload dX6_openHalls_27 rfl rfl ?_
        refine fx_aload dX6_openHalls_29 rfl rfl ?_
        obtain ⟨x6, hx6, h⟩ := xLet_el h
        refine gx_get dX6_openHalls_31 rfl fd_6_106 hpr5.1 rfl rfl hx6 ?_
        refine fx_aload dX6_openHalls_34 rfl rfl ?_
        obtain ⟨x7, hx7, h⟩ := xLet_el h
        refine gx_get dX6_openHalls_36 rfl fd_6_122 hpr5.1 rfl rfl hx7 ?_
        refine fx_icmp_ge (t := 53) dX6_openHalls_39 rfl rfl (fun hc8 => ?_) (fun hc8 => ?_)
        · rw [if_pos hc8] at h
          exact fX6_openHalls_53_ok hd ha0 ha1 ha2 ih hpr5 hpr5 h
        · rw [if_neg hc8] at h
          refine fx_aload_n dX6_openHalls_42 rfl rfl ?_
          refine fx_aload_n dX6_openHalls_43 rfl rfl ?_
          refine fx_aload_n dX6_openHalls_44 rfl rfl ?_
          refine fx_iconst (x := 1) dX6_openHalls_45 rfl (by decide) ?_
          refine fx_iload_n dX6_openHalls_46 rfl rfl ?_
          obtain ⟨p9, ep9, h⟩ := xBind_el h
          refine gx_callv (as := [.ref a1, .ref a2, .int (1 : Int32), .int l3]) (r := [.ref r5]) rfl dX6_openHalls_47 ca_6_89 rfl me_125 rfl rfl rfl rfl (ha0.1) rfl (fX6_isSo_ok (d := d) (by omega) ha0 ha1 ha2 ep9) rfl rfl ?_
          refine fx_if_eq (t := 57) dX6_openHalls_50 rfl rfl (fun hc10 => ?_) (fun hc10 => ?_)
          · rw [if_pos hc10] at h
            refine fx_iconst (x := 0) dX6_openHalls_57 rfl (by decide) ?_
            exact fX6_openHalls_58_ok hd ha0 ha1 ha2 ih hpr5 hpr5 h
          · rw [if_neg hc10] at h
            exact fX6_openHalls_53_ok hd ha0 ha1 ha2 ih hpr5 hpr5 h
def fX6_openHalls_0 (a0 : Nat) (a1 : Nat) (a2 : Nat) (m : xMem) : Option xMem := fX6_openHalls_2 a0 a1 a2 xFuel (0 : Int32) m
set_option maxRecDepth 4000 in
theorem fX6_openHalls_0_ok {a0 : Nat} {a1 : Nat} {a2 : Nat} {d : Nat} (hd : 4 ≤ d) (ha0 : isMover a0) (ha1 : isStation a1) (ha2 : isText a2) {o3 : Option Value} {o4 : Option Value} {m : xMem} {r : xMem} (q3 : xNoD o3 = true) (q4 : xNoD o4 = true) (h : fX6_openHalls_0 a0 a1 a2 m = some r) : xFx hh_130 cX6_openHalls d 0 [some (.ref a0), some (.ref a1), some (.ref a2), o3, o4] [] (xLay m) 0 0 none (xLay r) := by
  unfold fX6_openHalls_0 at h
  refine fx_iconst (x := 0) dX6_openHalls_0 rfl (by decide) ?_
  refine fx_istore_n (ls2 := [some (.ref a0), some (.ref a1), some (.ref a2), some (.int (0 : Int32)), o4]) dX6_openHalls_1 rfl rfl rfl ?_
  exact fX6_openHalls_2_ok hd ha0 ha1 ha2 xFuel (0 : Int32) (o4) q4 m r h
def fX6_openHalls (a0 : Nat) (a1 : Nat) (a2 : Nat) (m : xMem) : Option xMem := fX6_openHalls_0 a0 a1 a2  m
theorem fX6_openHalls_ok {a0 : Nat} {a1 : Nat} {a2 : Nat} {m : xMem} {r : xMem} {d : Nat} (hd : 5 ≤ d) (ha0 : isMover a0) (ha1 : isStation a1) (ha2 : isText a2) (h : fX6_openHalls a0 a1 a2 m = some r) : xEx d 130 [.ref a0, .ref a1, .ref a2] (xLay m) none (xLay r) := by
  obtain ⟨d, rfl⟩ : ∃ q, d = q + 1 := ⟨d - 1, by omega⟩
  exact xEx_of me_130 rfl (fX6_openHalls_0_ok (d := d) (o3 := none) (o4 := none) (by omega) ha0 ha1 ha2 rfl rfl h)
def fX6_turnEmptyLinks_49 (a0 : Nat) (a1 : Nat) (rec2 : Int32 → xMem → Option xMem) (l2 : Int32) (m : xMem) : Option xMem := xLet (l2 + (1 : Int32)) fun x1 => rec2 x1 m
set_option maxRecDepth 4000 in
theorem fX6_turnEmptyLinks_49_ok {a0 : Nat} {a1 : Nat} {rec2 : Int32 → xMem → Option xMem} {d : Nat} (hd : 0 ≤ d) (ha0 : isMover a0) (ha1 : isStation a1) (hrec2 : ∀ (l2 : Int32) (m : xMem) (r : xMem), rec2 l2 m = some r → xFx hh_132 cX6_turnEmptyLinks d 2 [some (.ref a0), some (.ref a1), some (.int l2)] [] (xLay m) 0 0 none (xLay r)) {l2 : Int32} {m : xMem} {r : xMem} (h : fX6_turnEmptyLinks_49 a0 a1 rec2 l2 m = some r) : xFx hh_132 cX6_turnEmptyLinks d 49 [some (.ref a0), some (.ref a1), some (.int l2)] [] (xLay m) 0 0 none (xLay r) := by
  unfold fX6_turnEmptyLinks_49 at h
  obtain ⟨x1, hx1, h⟩ := xLet_el h
  refine fx_iinc (ls2 := [some (.ref a0), some (.ref a1), some (.int x1)]) dX6_turnEmptyLinks_49 rfl rfl rfl hx1 rfl ?_
  refine fx_goto (t := 2) dX6_turnEmptyLinks_52 rfl rfl ?_
  exact hrec2 x1 m r h
def fX6_turnEmptyLinks_55 (a0 : Nat) (a1 : Nat) (m : xMem) : Option xMem := some m
set_option maxRecDepth 4000 in
theorem fX6_turnEmptyLinks_55_ok {a0 : Nat} {a1 : Nat} {d : Nat} (hd : 0 ≤ d) (ha0 : isMover a0) (ha1 : isStation a1) {o2 : Option Value} {m : xMem} {r : xMem} (q2 : xNoD o2 = true) (h : fX6_turnEmptyLinks_55 a0 a1 m = some r) : xFx hh_132 cX6_turnEmptyLinks d 55 [some (.ref a0), some (.ref a1), o2] [] (xLay m) 0 0 none (xLay r) := by
  unfold fX6_turnEmptyLinks_55 at h
  cases h
  exact fx_return dX6_turnEmptyLinks_55 rfl rfl
def fX6_turnEmptyLinks_2 (a0 : Nat) (a1 : Nat) : Nat → Int32 → xMem → Option xMem
  | 0, _, _ => none
  | fuel + 1, l2, m => xLet (m.1 a1 8) fun x1 => if x1 ≤ l2 then fX6_turnEmptyLinks_55 a0 a1 m else if (10 : Int32) ≤ l2 then fX6_turnEmptyLinks_55 a0 a1 m else bif xIn l2 10 then xLet (a1 + 33 + 2 * l2.toNatClampNeg) fun r5 => xLet (m.1 r5 9) fun x6 => if ¬ x6 = (0 : Int32) then fX6_turnEmptyLinks_49 a0 a1 (fX6_turnEmptyLinks_2 a0 a1 fuel) l2 m else bif xIn l2 10 then xLet (a1 + 33 + 2 * l2.toNatClampNeg) fun r9 => bif xIn l2 10 then xLet (a1 + 33 + 2 * l2.toNatClampNeg) fun r11 => xLet (m.1 r11 7) fun x12 => xLet (xPut m r9 6 x12) fun m13 => fX6_turnEmptyLinks_49 a0 a1 (fX6_turnEmptyLinks_2 a0 a1 fuel) l2 m13 else none else none else none
set_option maxRecDepth 4000 in
theorem fX6_turnEmptyLinks_2_ok {a0 : Nat} {a1 : Nat} {d : Nat} (hd : 0 ≤ d) (ha0 : isMover a0) (ha1 : isStation a1) : ∀ (fuel : Nat) (l2 : Int32) (m : xMem) (r : xMem), fX6_turnEmptyLinks_2 a0 a1 fuel l2 m = some r → xFx hh_132 cX6_turnEmptyLinks d 2 [some (.ref a0), some (.ref a1), some (.int l2)] [] (xLay m) 0 0 none (xLay r) := by
  intro fuel
  induction fuel with
  | zero => intro l2  m r  h; cases h
  | succ fuel ih =>
    intro l2  m r  h
    unfold fX6_turnEmptyLinks_2 at h
    refine fx_iload_n dX6_turnEmptyLinks_2 rfl rfl ?_
    refine fx_aload_n dX6_turnEmptyLinks_3 rfl rfl ?_
    obtain ⟨x1, hx1, h⟩ := xLet_el h
    refine gx_get dX6_turnEmptyLinks_4 rfl fd_6_141 ha1.1 rfl rfl hx1 ?_
    refine fx_icmp_ge (t := 55) dX6_turnEmptyLinks_7 rfl rfl (fun hc2 => ?_) (fun hc2 => ?_)
    · rw [if_pos hc2] at h
      exact fX6_turnEmptyLinks_55_ok (o2 := some (.int l2)) hd ha0 ha1 rfl h
    · rw [if_neg hc2] at h
      refine fx_iload_n dX6_turnEmptyLinks_10 rfl rfl ?_
      refine fx_aload_n dX6_turnEmptyLinks_11 rfl rfl ?_
      refine gx_getr dX6_turnEmptyLinks_12 rfl fd_6_144 ha1.1 rfl rfl ?_
      refine gx_alen (t := 5) (y := 10) dX6_turnEmptyLinks_15 rfl ha1.2.2.1 rfl (by decide) ?_
      refine fx_icmp_ge (t := 55) dX6_turnEmptyLinks_16 rfl rfl (fun hc3 => ?_) (fun hc3 => ?_)
      · rw [if_pos hc3] at h
        exact fX6_turnEmptyLinks_55_ok (o2 := some (.int l2)) hd ha0 ha1 rfl h
      · rw [if_neg hc3] at h
        refine fx_aload_n dX6_turnEmptyLinks_19 rfl rfl ?_
        refine gx_getr dX6_turnEmptyLinks_20 rfl fd_6_144 ha1.1 rfl rfl ?_
        refine fx_iload_n dX6_turnEmptyLinks_23 rfl rfl ?_
        obtain ⟨hj4, h⟩ := xChk_el h
        obtain ⟨r5, hr5, h⟩ := xLet_el h
        refine gx_aaload (t := 5) dX6_turnEmptyLinks_24 rfl ha1.2.2.1 rfl hj4 ((xRef_at (sl_9_1 a1) hj4).trans (congrArg some hr5)) ?_
        have hpr5 : isLink r5 := by rw [← hr5]; exact ha1.2.2.2.2.2.2.2.2.1 _ (xIn_lt hj4)
        obtain ⟨x6, hx6, h⟩ := xLet_el h
        refine gx_get dX6_turnEmptyLinks_25 rfl fd_6_148 hpr5.1 rfl rfl hx6 ?_
        refine fx_if_ne (t := 49) dX6_turnEmptyLinks_28 rfl rfl (fun hc7 => ?_) (fun hc7 => ?_)
        · rw [if_pos hc7] at h
          exact fX6_turnEmptyLinks_49_ok hd ha0 ha1 ih h
        · rw [if_neg hc7] at h
          refine fx_aload_n dX6_turnEmptyLinks_31 rfl rfl ?_
          refine gx_getr dX6_turnEmptyLinks_32 rfl fd_6_144 ha1.1 rfl rfl ?_
          refine fx_iload_n dX6_turnEmptyLinks_35 rfl rfl ?_
          obtain ⟨hj8, h⟩ := xChk_el h
          obtain ⟨r9, hr9, h⟩ := xLet_el h
          refine gx_aaload (t := 5) dX6_turnEmptyLinks_36 rfl ha1.2.2.1 rfl hj8 ((xRef_at (sl_9_1 a1) hj8).trans (congrArg some hr9)) ?_
          have hpr9 : isLink r9 := by rw [← hr9]; exact ha1.2.2.2.2.2.2.2.2.1 _ (xIn_lt hj8)
          refine fx_aload_n dX6_turnEmptyLinks_37 rfl rfl ?_
          refine gx_getr dX6_turnEmptyLinks_38 rfl fd_6_144 ha1.1 rfl rfl ?_
          refine fx_iload_n dX6_turnEmptyLinks_41 rfl rfl ?_
          obtain ⟨hj10, h⟩ := xChk_el h
          obtain ⟨r11, hr11, h⟩ := xLet_el h
          refine gx_aaload (t := 5) dX6_turnEmptyLinks_42 rfl ha1.2.2.1 rfl hj10 ((xRef_at (sl_9_1 a1) hj10).trans (congrArg some hr11)) ?_
          have hpr11 : isLink r11 := by rw [← hr11]; exact ha1.2.2.2.2.2.2.2.2.1 _ (xIn_lt hj10)
          obtain ⟨x12, hx12, h⟩ := xLet_el h
          refine gx_get dX6_turnEmptyLinks_43 rfl fd_6_151 hpr11.1 rfl rfl hx12 ?_
          obtain ⟨m13, hm13, h⟩ := xLet_el h
          refine gx_put dX6_turnEmptyLinks_46 rfl fd_6_154 hpr9.1 rfl rfl rfl hm13 ?_
          exact fX6_turnEmptyLinks_49_ok hd ha0 ha1 ih h
def fX6_turnEmptyLinks_0 (a0 : Nat) (a1 : Nat) (m : xMem) : Option xMem := fX6_turnEmptyLinks_2 a0 a1 xFuel (0 : Int32) m
set_option maxRecDepth 4000 in
theorem fX6_turnEmptyLinks_0_ok {a0 : Nat} {a1 : Nat} {d : Nat} (hd : 0 ≤ d) (ha0 : isMover a0) (ha1 : isStation a1) {o2 : Option Value} {m : xMem} {r : xMem} (q2 : xNoD o2 = true) (h : fX6_turnEmptyLinks_0 a0 a1 m = some r) : xFx hh_132 cX6_turnEmptyLinks d 0 [some (.ref a0), some (.ref a1), o2] [] (xLay m) 0 0 none (xLay r) := by
  unfold fX6_turnEmptyLinks_0 at h
  refine fx_iconst (x := 0) dX6_turnEmptyLinks_0 rfl (by decide) ?_
  refine fx_istore_n (ls2 := [some (.ref a0), some (.ref a1), some (.int (0 : Int32))]) dX6_turnEmptyLinks_1 rfl rfl rfl ?_
  exact fX6_turnEmptyLinks_2_ok hd ha0 ha1 xFuel (0 : Int32) m r h
def fX6_turnEmptyLinks (a0 : Nat) (a1 : Nat) (m : xMem) : Option xMem := fX6_turnEmptyLinks_0 a0 a1  m
theorem fX6_turnEmptyLinks_ok {a0 : Nat} {a1 : Nat} {m : xMem} {r : xMem} {d : Nat} (hd : 1 ≤ d) (ha0 : isMover a0) (ha1 : isStation a1) (h : fX6_turnEmptyLinks a0 a1 m = some r) : xEx d 132 [.ref a0, .ref a1] (xLay m) none (xLay r) := by
  obtain ⟨d, rfl⟩ : ∃ q, d = q + 1 := ⟨d - 1, by omega⟩
  exact xEx_of me_132 rfl (fX6_turnEmptyLinks_0_ok (d := d) (o2 := none) (by omega) ha0 ha1 rfl h)
def fX3_takesNow_30 (a0 : Nat) (s0 : Int32) (m : xMem) : Option (Int32 × xMem) := bif (decide (s0 = 0) || decide (s0 = 1)) then some (s0, m) else none
set_option maxRecDepth 4000 in
theorem fX3_takesNow_30_ok {a0 : Nat} {d : Nat} (hd : 0 ≤ d) (ha0 : isLink a0) {s0 : Int32} {m : xMem} {r : (Int32 × xMem)} (h : fX3_takesNow_30 a0 s0 m = some r) : xFx hh_134 cX3_takesNow d 30 [some (.ref a0)] [.int s0] (xLay m) 0 0 (some (.int r.1)) (xLay r.2) := by
  unfold fX3_takesNow_30 at h
  obtain ⟨hb1, h⟩ := xChk_el h
  cases h
  exact fx_ireturn dX3_takesNow_30 rfl (by show ((decide _ || decide _) && _) = true; rw [hb1]; rfl)
def fX3_takesNow_29 (a0 : Nat) (m : xMem) : Option (Int32 × xMem) := fX3_takesNow_30 a0 (0 : Int32) m
set_option maxRecDepth 4000 in
theorem fX3_takesNow_29_ok {a0 : Nat} {d : Nat} (hd : 0 ≤ d) (ha0 : isLink a0) {m : xMem} {r : (Int32 × xMem)} (h : fX3_takesNow_29 a0 m = some r) : xFx hh_134 cX3_takesNow d 29 [some (.ref a0)] [] (xLay m) 0 0 (some (.int r.1)) (xLay r.2) := by
  unfold fX3_takesNow_29 at h
  refine fx_iconst (x := 0) dX3_takesNow_29 rfl (by decide) ?_
  exact fX3_takesNow_30_ok hd ha0 h
def fX3_takesNow_0 (a0 : Nat) (m : xMem) : Option (Int32 × xMem) := xLet (m.1 a0 12) fun x1 => if x1 = (0 : Int32) then fX3_takesNow_29 a0 m else xLet (m.1 a0 13) fun x3 => if ¬ x3 = (0 : Int32) then fX3_takesNow_29 a0 m else xLet (m.1 a0 7) fun x5 => xLet (m.1 a0 6) fun x6 => if ¬ x5 = x6 then fX3_takesNow_29 a0 m else fX3_takesNow_30 a0 (1 : Int32) m
set_option maxRecDepth 4000 in
theorem fX3_takesNow_0_ok {a0 : Nat} {d : Nat} (hd : 0 ≤ d) (ha0 : isLink a0) {m : xMem} {r : (Int32 × xMem)} (h : fX3_takesNow_0 a0 m = some r) : xFx hh_134 cX3_takesNow d 0 [some (.ref a0)] [] (xLay m) 0 0 (some (.int r.1)) (xLay r.2) := by
  unfold fX3_takesNow_0 at h
  refine fx_aload_n dX3_takesNow_0 rfl rfl ?_
  obtain ⟨x1, hx1, h⟩ := xLet_el h
  refine gx_get dX3_takesNow_1 rfl fd_3_49 ha0.1 rfl rfl hx1 ?_
  refine fx_if_eq (t := 29) dX3_takesNow_4 rfl rfl (fun hc2 => ?_) (fun hc2 => ?_)
  · rw [if_pos hc2] at h
    exact fX3_takesNow_29_ok hd ha0 h
  · rw [if_neg hc2] at h
    refine fx_aload_n dX3_takesNow_7 rfl rfl ?_
    obtain ⟨x3, hx3, h⟩ := xLet_el h
    refine gx_get dX3_takesNow_8 rfl fd_3_53 ha0.1 rfl rfl hx3 ?_
    refine fx_if_ne (t := 29) dX3_takesNow_11 rfl rfl (fun hc4 => ?_) (fun hc4 => ?_)
    · rw [if_pos hc4] at h
      exact fX3_takesNow_29_ok hd ha0 h
    · rw [if_neg hc4] at h
      refine fx_aload_n dX3_takesNow_14 rfl rfl ?_
      obtain ⟨x5, hx5, h⟩ := xLet_el h
      refine gx_get dX3_takesNow_15 rfl fd_3_34 ha0.1 rfl rfl hx5 ?_
      refine fx_aload_n dX3_takesNow_18 rfl rfl ?_
      obtain ⟨x6, hx6, h⟩ := xLet_el h
      refine gx_get dX3_takesNow_19 rfl fd_3_31 ha0.1 rfl rfl hx6 ?_
      refine fx_icmp_ne (t := 29) dX3_takesNow_22 rfl rfl (fun hc7 => ?_) (fun hc7 => ?_)
      · rw [if_pos hc7] at h
        exact fX3_takesNow_29_ok hd ha0 h
      · rw [if_neg hc7] at h
        refine fx_iconst (x := 1) dX3_takesNow_25 rfl (by decide) ?_
        refine fx_goto (t := 30) dX3_takesNow_26 rfl rfl ?_
        exact fX3_takesNow_30_ok hd ha0 h
def fX3_takesNow (a0 : Nat) (m : xMem) : Option (Int32 × xMem) := fX3_takesNow_0 a0  m
theorem fX3_takesNow_ok {a0 : Nat} {m : xMem} {r : (Int32 × xMem)} {d : Nat} (hd : 1 ≤ d) (ha0 : isLink a0) (h : fX3_takesNow a0 m = some r) : xEx d 134 [.ref a0] (xLay m) (some (.int r.1)) (xLay r.2) := by
  obtain ⟨d, rfl⟩ : ∃ q, d = q + 1 := ⟨d - 1, by omega⟩
  exact xEx_of me_134 rfl (fX3_takesNow_0_ok (d := d) (by omega) ha0 h)
def fX3_foot_19 (a0 : Nat) (s0 : Int32) (m : xMem) : Option (Int32 × xMem) := some (s0, m)
set_option maxRecDepth 4000 in
theorem fX3_foot_19_ok {a0 : Nat} {d : Nat} (hd : 0 ≤ d) (ha0 : isLink a0) {s0 : Int32} {m : xMem} {r : (Int32 × xMem)} (h : fX3_foot_19 a0 s0 m = some r) : xFx hh_137 cX3_foot d 19 [some (.ref a0)] [.int s0] (xLay m) 0 0 (some (.int r.1)) (xLay r.2) := by
  unfold fX3_foot_19 at h
  cases h
  exact fx_ireturn dX3_foot_19 rfl rfl
def fX3_foot_0 (a0 : Nat) (m : xMem) : Option (Int32 × xMem) := xLet (m.1 a0 6) fun x1 => if ¬ x1 = (2 : Int32) then xLet (m.1 a0 2) fun x3 => fX3_foot_19 a0 x3 m else xLet (m.1 a0 3) fun x4 => fX3_foot_19 a0 x4 m
set_option maxRecDepth 4000 in
theorem fX3_foot_0_ok {a0 : Nat} {d : Nat} (hd : 0 ≤ d) (ha0 : isLink a0) {m : xMem} {r : (Int32 × xMem)} (h : fX3_foot_0 a0 m = some r) : xFx hh_137 cX3_foot d 0 [some (.ref a0)] [] (xLay m) 0 0 (some (.int r.1)) (xLay r.2) := by
  unfold fX3_foot_0 at h
  refine fx_aload_n dX3_foot_0 rfl rfl ?_
  obtain ⟨x1, hx1, h⟩ := xLet_el h
  refine gx_get dX3_foot_1 rfl fd_3_31 ha0.1 rfl rfl hx1 ?_
  refine fx_iconst (x := 2) dX3_foot_4 rfl (by decide) ?_
  refine fx_icmp_ne (t := 15) dX3_foot_5 rfl rfl (fun hc2 => ?_) (fun hc2 => ?_)
  · rw [if_pos hc2] at h
    refine fx_aload_n dX3_foot_15 rfl rfl ?_
    obtain ⟨x3, hx3, h⟩ := xLet_el h
    refine gx_get dX3_foot_16 rfl fd_3_19 ha0.1 rfl rfl hx3 ?_
    exact fX3_foot_19_ok hd ha0 h
  · rw [if_neg hc2] at h
    refine fx_aload_n dX3_foot_8 rfl rfl ?_
    obtain ⟨x4, hx4, h⟩ := xLet_el h
    refine gx_get dX3_foot_9 rfl fd_3_22 ha0.1 rfl rfl hx4 ?_
    refine fx_goto (t := 19) dX3_foot_12 rfl rfl ?_
    exact fX3_foot_19_ok hd ha0 h
def fX3_foot (a0 : Nat) (m : xMem) : Option (Int32 × xMem) := fX3_foot_0 a0  m
theorem fX3_foot_ok {a0 : Nat} {m : xMem} {r : (Int32 × xMem)} {d : Nat} (hd : 1 ≤ d) (ha0 : isLink a0) (h : fX3_foot a0 m = some r) : xEx d 137 [.ref a0] (xLay m) (some (.int r.1)) (xLay r.2) := by
  obtain ⟨d, rfl⟩ : ∃ q, d = q + 1 := ⟨d - 1, by omega⟩
  exact xEx_of me_137 rfl (fX3_foot_0_ok (d := d) (by omega) ha0 h)
def fX8_leads_18 (a0 : Nat) (a1 : Nat) (a2 : Int32) (a3 : Int32) (s0 : Int32) (m : xMem) : Option (Int32 × xMem) := bif (decide (s0 = 0) || decide (s0 = 1)) then some (s0, m) else none
set_option maxRecDepth 4000 in
theorem fX8_leads_18_ok {a0 : Nat} {a1 : Nat} {a2 : Int32} {a3 : Int32} {d : Nat} (hd : 1 ≤ d) (ha0 : isRoutes a0) (ha1 : isLink a1) {s0 : Int32} {m : xMem} {r : (Int32 × xMem)} (h : fX8_leads_18 a0 a1 a2 a3 s0 m = some r) : xFx hh_136 cX8_leads d 18 [some (.ref a0), some (.ref a1), some (.int a2), some (.int a3)] [.int s0] (xLay m) 0 0 (some (.int r.1)) (xLay r.2) := by
  unfold fX8_leads_18 at h
  obtain ⟨hb1, h⟩ := xChk_el h
  cases h
  exact fx_ireturn dX8_leads_18 rfl (by show ((decide _ || decide _) && _) = true; rw [hb1]; rfl)
def fX8_leads_43 (a0 : Nat) (a1 : Nat) (a2 : Int32) (a3 : Int32) (s0 : Int32) (m : xMem) : Option (Int32 × xMem) := bif (decide (s0 = 0) || decide (s0 = 1)) then some (s0, m) else none
set_option maxRecDepth 4000 in
theorem fX8_leads_43_ok {a0 : Nat} {a1 : Nat} {a2 : Int32} {a3 : Int32} {d : Nat} (hd : 1 ≤ d) (ha0 : isRoutes a0) (ha1 : isLink a1) {s0 : Int32} {m : xMem} {r : (Int32 × xMem)} (h : fX8_leads_43 a0 a1 a2 a3 s0 m = some r) : xFx hh_136 cX8_leads d 43 [some (.ref a0), some (.ref a1), some (.int a2), some (.int a3)] [.int s0] (xLay m) 0 0 (some (.int r.1)) (xLay r.2) := by
  unfold fX8_leads_43 at h
  obtain ⟨hb1, h⟩ := xChk_el h
  cases h
  exact fx_ireturn dX8_leads_43 rfl (by show ((decide _ || decide _) && _) = true; rw [hb1]; rfl)
def fX8_leads_42 (a0 : Nat) (a1 : Nat) (a2 : Int32) (a3 : Int32) (m : xMem) : Option (Int32 × xMem) := fX8_leads_43 a0 a1 a2 a3 (0 : Int32) m
set_option maxRecDepth 4000 in
theorem fX8_leads_42_ok {a0 : Nat} {a1 : Nat} {a2 : Int32} {a3 : Int32} {d : Nat} (hd : 1 ≤ d) (ha0 : isRoutes a0) (ha1 : isLink a1) {m : xMem} {r : (Int32 × xMem)} (h : fX8_leads_42 a0 a1 a2 a3 m = some r) : xFx hh_136 cX8_leads d 42 [some (.ref a0), some (.ref a1), some (.int a2), some (.int a3)] [] (xLay m) 0 0 (some (.int r.1)) (xLay r.2) := by
  unfold fX8_leads_42 at h
  refine fx_iconst (x := 0) dX8_leads_42 rfl (by decide) ?_
  exact fX8_leads_43_ok hd ha0 ha1 h
def fX8_leads_0 (a0 : Nat) (a1 : Nat) (a2 : Int32) (a3 : Int32) (m : xMem) : Option (Int32 × xMem) := xLet (m.1 a1 1) fun x1 => if ¬ x1 = (2 : Int32) then if ¬ a2 = (0 : Int32) then fX8_leads_42 a0 a1 a2 a3 m else (fX3_takesNow a1 m).bind fun p4 => if p4.1 = (0 : Int32) then fX8_leads_42 a0 a1 a2 a3 p4.2 else (fX3_foot a1 p4.2).bind fun p6 => if ¬ p6.1 = a3 then fX8_leads_42 a0 a1 a2 a3 p6.2 else fX8_leads_43 a0 a1 a2 a3 (1 : Int32) p6.2 else if ¬ a2 = (1 : Int32) then fX8_leads_18 a0 a1 a2 a3 (0 : Int32) m else fX8_leads_18 a0 a1 a2 a3 (1 : Int32) m
set_option maxRecDepth 4000 in
theorem fX8_leads_0_ok {a0 : Nat} {a1 : Nat} {a2 : Int32} {a3 : Int32} {d : Nat} (hd : 1 ≤ d) (ha0 : isRoutes a0) (ha1 : isLink a1) {m : xMem} {r : (Int32 × xMem)} (h : fX8_leads_0 a0 a1 a2 a3 m = some r) : xFx hh_136 cX8_leads d 0 [some (.ref a0), some (.ref a1), some (.int a2), some (.int a3)] [] (xLay m) 0 0 (some (.int r.1)) (xLay r.2) := by
  unfold fX8_leads_0 at h
  refine fx_aload_n dX8_leads_0 rfl rfl ?_
  obtain ⟨x1, hx1, h⟩ := xLet_el h
  refine gx_get dX8_leads_1 rfl fd_8_77 ha1.1 rfl rfl hx1 ?_
  refine fx_iconst (x := 2) dX8_leads_4 rfl (by decide) ?_
  refine fx_icmp_ne (t := 19) dX8_leads_5 rfl rfl (fun hc2 => ?_) (fun hc2 => ?_)
  · rw [if_pos hc2] at h
    refine fx_iload_n dX8_leads_19 rfl rfl ?_
    refine fx_if_ne (t := 42) dX8_leads_20 rfl rfl (fun hc3 => ?_) (fun hc3 => ?_)
    · rw [if_pos hc3] at h
      exact fX8_leads_42_ok hd ha0 ha1 h
    · rw [if_neg hc3] at h
      refine fx_aload_n dX8_leads_23 rfl rfl ?_
      obtain ⟨p4, ep4, h⟩ := xBind_el h
      refine gx_callv (as := []) (r := []) rfl dX8_leads_24 ca_8_31 rfl me_134 rfl rfl rfl rfl (ha1.1) rfl (fX3_takesNow_ok (d := d) (by omega) ha1 ep4) rfl rfl ?_
      refine fx_if_eq (t := 42) dX8_leads_27 rfl rfl (fun hc5 => ?_) (fun hc5 => ?_)
      · rw [if_pos hc5] at h
        exact fX8_leads_42_ok hd ha0 ha1 h
      · rw [if_neg hc5] at h
        refine fx_aload_n dX8_leads_30 rfl rfl ?_
        obtain ⟨p6, ep6, h⟩ := xBind_el h
        refine gx_callv (as := []) (r := []) rfl dX8_leads_31 ca_8_80 rfl me_137 rfl rfl rfl rfl (ha1.1) rfl (fX3_foot_ok (d := d) (by omega) ha1 ep6) rfl rfl ?_
        refine fx_iload_n dX8_leads_34 rfl rfl ?_
        refine fx_icmp_ne (t := 42) dX8_leads_35 rfl rfl (fun hc7 => ?_) (fun hc7 => ?_)
        · rw [if_pos hc7] at h
          exact fX8_leads_42_ok hd ha0 ha1 h
        · rw [if_neg hc7] at h
          refine fx_iconst (x := 1) dX8_leads_38 rfl (by decide) ?_
          refine fx_goto (t := 43) dX8_leads_39 rfl rfl ?_
          exact fX8_leads_43_ok hd ha0 ha1 h
  · rw [if_neg hc2] at h
    refine fx_iload_n dX8_leads_8 rfl rfl ?_
    refine fx_iconst (x := 1) dX8_leads_9 rfl (by decide) ?_
    refine fx_icmp_ne (t := 17) dX8_leads_10 rfl rfl (fun hc8 => ?_) (fun hc8 => ?_)
    · rw [if_pos hc8] at h
      refine fx_iconst (x := 0) dX8_leads_17 rfl (by decide) ?_
      exact fX8_leads_18_ok hd ha0 ha1 h
    · rw [if_neg hc8] at h
      refine fx_iconst (x := 1) dX8_leads_13 rfl (by decide) ?_
      refine fx_goto (t := 18) dX8_leads_14 rfl rfl ?_
      exact fX8_leads_18_ok hd ha0 ha1 h
def fX8_leads (a0 : Nat) (a1 : Nat) (a2 : Int32) (a3 : Int32) (m : xMem) : Option (Int32 × xMem) := fX8_leads_0 a0 a1 a2 a3  m
theorem fX8_leads_ok {a0 : Nat} {a1 : Nat} {a2 : Int32} {a3 : Int32} {m : xMem} {r : (Int32 × xMem)} {d : Nat} (hd : 2 ≤ d) (ha0 : isRoutes a0) (ha1 : isLink a1) (h : fX8_leads a0 a1 a2 a3 m = some r) : xEx d 136 [.ref a0, .ref a1, .int a2, .int a3] (xLay m) (some (.int r.1)) (xLay r.2) := by
  obtain ⟨d, rfl⟩ : ∃ q, d = q + 1 := ⟨d - 1, by omega⟩
  exact xEx_of me_136 rfl (fX8_leads_0_ok (d := d) (by omega) ha0 ha1 h)
def fX3_seconds_34 (a0 : Nat) (s0 : Int32) (m : xMem) : Option (Int32 × xMem) := some (s0, m)
set_option maxRecDepth 4000 in
theorem fX3_seconds_34_ok {a0 : Nat} {d : Nat} (hd : 0 ≤ d) (ha0 : isLink a0) {s0 : Int32} {m : xMem} {r : (Int32 × xMem)} (h : fX3_seconds_34 a0 s0 m = some r) : xFx hh_138 cX3_seconds d 34 [some (.ref a0)] [.int s0] (xLay m) 0 0 (some (.int r.1)) (xLay r.2) := by
  unfold fX3_seconds_34 at h
  cases h
  exact fx_ireturn dX3_seconds_34 rfl rfl
def fX3_seconds_0 (a0 : Nat) (m : xMem) : Option (Int32 × xMem) := xLet (m.1 a0 1) fun x1 => if ¬ x1 = (2 : Int32) then xLet (m.1 a0 1) fun x3 => if ¬ x3 = (1 : Int32) then xLet (m.1 a0 4) fun x5 => fX3_seconds_34 a0 x5 m else xLet (m.1 a0 4) fun x6 => xLet ((2 : Int32) * x6) fun x7 => fX3_seconds_34 a0 x7 m else xLet (m.1 a0 5) fun x8 => some (x8, m)
set_option maxRecDepth 4000 in
theorem fX3_seconds_0_ok {a0 : Nat} {d : Nat} (hd : 0 ≤ d) (ha0 : isLink a0) {m : xMem} {r : (Int32 × xMem)} (h : fX3_seconds_0 a0 m = some r) : xFx hh_138 cX3_seconds d 0 [some (.ref a0)] [] (xLay m) 0 0 (some (.int r.1)) (xLay r.2) := by
  unfold fX3_seconds_0 at h
  refine fx_aload_n dX3_seconds_0 rfl rfl ?_
  obtain ⟨x1, hx1, h⟩ := xLet_el h
  refine gx_get dX3_seconds_1 rfl fd_3_15 ha0.1 rfl rfl hx1 ?_
  refine fx_iconst (x := 2) dX3_seconds_4 rfl (by decide) ?_
  refine fx_icmp_ne (t := 13) dX3_seconds_5 rfl rfl (fun hc2 => ?_) (fun hc2 => ?_)
  · rw [if_pos hc2] at h
    refine fx_aload_n dX3_seconds_13 rfl rfl ?_
    obtain ⟨x3, hx3, h⟩ := xLet_el h
    refine gx_get dX3_seconds_14 rfl fd_3_15 ha0.1 rfl rfl hx3 ?_
    refine fx_iconst (x := 1) dX3_seconds_17 rfl (by decide) ?_
    refine fx_icmp_ne (t := 30) dX3_seconds_18 rfl rfl (fun hc4 => ?_) (fun hc4 => ?_)
    · rw [if_pos hc4] at h
      refine fx_aload_n dX3_seconds_30 rfl rfl ?_
      obtain ⟨x5, hx5, h⟩ := xLet_el h
      refine gx_get dX3_seconds_31 rfl fd_3_25 ha0.1 rfl rfl hx5 ?_
      exact fX3_seconds_34_ok hd ha0 h
    · rw [if_neg hc4] at h
      refine fx_iconst (x := 2) dX3_seconds_21 rfl (by decide) ?_
      refine fx_aload_n dX3_seconds_22 rfl rfl ?_
      obtain ⟨x6, hx6, h⟩ := xLet_el h
      refine gx_get dX3_seconds_23 rfl fd_3_25 ha0.1 rfl rfl hx6 ?_
      obtain ⟨x7, hx7, h⟩ := xLet_el h
      refine fx_imul dX3_seconds_26 rfl hx7 ?_
      refine fx_goto (t := 34) dX3_seconds_27 rfl rfl ?_
      exact fX3_seconds_34_ok hd ha0 h
  · rw [if_neg hc2] at h
    refine fx_aload_n dX3_seconds_8 rfl rfl ?_
    obtain ⟨x8, hx8, h⟩ := xLet_el h
    refine gx_get dX3_seconds_9 rfl fd_3_28 ha0.1 rfl rfl hx8 ?_
    cases h
    exact fx_ireturn dX3_seconds_12 rfl rfl
def fX3_seconds (a0 : Nat) (m : xMem) : Option (Int32 × xMem) := fX3_seconds_0 a0  m
theorem fX3_seconds_ok {a0 : Nat} {m : xMem} {r : (Int32 × xMem)} {d : Nat} (hd : 1 ≤ d) (ha0 : isLink a0) (h : fX3_seconds a0 m = some r) : xEx d 138 [.ref a0] (xLay m) (some (.int r.1)) (xLay r.2) := by
  obtain ⟨d, rfl⟩ : ∃ q, d = q + 1 := ⟨d - 1, by omega⟩
  exact xEx_of me_138 rfl (fX3_seconds_0_ok (d := d) (by omega) ha0 h)
def fX8_shorten_42 (a0 : Nat) (a1 : Int32) (a2 : Int32) (a3 : Int32) (m : xMem) : Option xMem := some m
set_option maxRecDepth 4000 in
theorem fX8_shorten_42_ok {a0 : Nat} {a1 : Int32} {a2 : Int32} {a3 : Int32} {d : Nat} (hd : 0 ≤ d) (ha0 : isRoutes a0) {o4 : Option Value} {m : xMem} {r : xMem} (q4 : xNoD o4 = true) (h : fX8_shorten_42 a0 a1 a2 a3 m = some r) : xFx hh_139 cX8_shorten d 42 [some (.ref a0), some (.int a1), some (.int a2), some (.int a3), o4] [] (xLay m) 0 0 none (xLay r) := by
  unfold fX8_shorten_42 at h
  cases h
  exact fx_return dX8_shorten_42 rfl rfl
def fX8_shorten_0 (a0 : Nat) (a1 : Int32) (a2 : Int32) (a3 : Int32) (m : xMem) : Option xMem := xLet (a1 * (6 : Int32)) fun x1 => xLet (x1 + a2) fun x2 => if x2 < (0 : Int32) then fX8_shorten_42 a0 a1 a2 a3 m else if (36 : Int32) ≤ x2 then fX8_shorten_42 a0 a1 a2 a3 m else bif xIn x2 36 then xLet (m.1 (a0 + 2) x2.toNatClampNeg) fun x5 => if x5 ≤ a3 then fX8_shorten_42 a0 a1 a2 a3 m else bif xIn x2 36 then xLet (xPut m (a0 + 2) x2.toNatClampNeg a3) fun m8 => fX8_shorten_42 a0 a1 a2 a3 m8 else none else none
set_option maxRecDepth 4000 in
theorem fX8_shorten_0_ok {a0 : Nat} {a1 : Int32} {a2 : Int32} {a3 : Int32} {d : Nat} (hd : 0 ≤ d) (ha0 : isRoutes a0) {o4 : Option Value} {m : xMem} {r : xMem} (q4 : xNoD o4 = true) (h : fX8_shorten_0 a0 a1 a2 a3 m = some r) : xFx hh_139 cX8_shorten d 0 [some (.ref a0), some (.int a1), some (.int a2), some (.int a3), o4] [] (xLay m) 0 0 none (xLay r) := by
  unfold fX8_shorten_0 at h
  refine fx_iload_n dX8_shorten_0 rfl rfl ?_
  refine fx_bipush (x := 6) dX8_shorten_1 rfl (by decide) ?_
  obtain ⟨x1, hx1, h⟩ := xLet_el h
  refine fx_imul dX8_shorten_3 rfl hx1 ?_
  refine fx_iload_n dX8_shorten_4 rfl rfl ?_
  obtain ⟨x2, hx2, h⟩ := xLet_el h
  refine fx_iadd dX8_shorten_5 rfl hx2 ?_
  refine fx_istore (ls2 := [some (.ref a0), some (.int a1), some (.int a2), some (.int a3), some (.int x2)]) dX8_shorten_6 rfl rfl rfl ?_
  refine fx_iload dX8_shorten_8 rfl rfl ?_
  refine fx_if_lt (t := 42) dX8_shorten_10 rfl rfl (fun hc3 => ?_) (fun hc3 => ?_)
  · rw [if_pos hc3] at h
    exact fX8_shorten_42_ok (o4 := some (.int x2)) hd ha0 rfl h
  · rw [if_neg hc3] at h
    refine fx_iload dX8_shorten_13 rfl rfl ?_
    refine fx_aload_n dX8_shorten_15 rfl rfl ?_
    refine gx_getr dX8_shorten_16 rfl fd_8_15 ha0.1 rfl rfl ?_
    refine gx_alen (t := 1) (y := 36) dX8_shorten_19 rfl ha0.2.2 rfl (by decide) ?_
    refine fx_icmp_ge (t := 42) dX8_shorten_20 rfl rfl (fun hc4 => ?_) (fun hc4 => ?_)
    · rw [if_pos hc4] at h
      exact fX8_shorten_42_ok (o4 := some (.int x2)) hd ha0 rfl h
    · rw [if_neg hc4] at h
      refine fx_iload_n dX8_shorten_23 rfl rfl ?_
      refine fx_aload_n dX8_shorten_24 rfl rfl ?_
      refine gx_getr dX8_shorten_25 rfl fd_8_15 ha0.1 rfl rfl ?_
      refine fx_iload dX8_shorten_28 rfl rfl ?_
      obtain ⟨hj6, h⟩ := xChk_el h
      obtain ⟨x5, hx5, h⟩ := xLet_el h
      refine gx_iaload dX8_shorten_30 rfl ha0.2.2 hj6 hx5 ?_
      refine fx_icmp_ge (t := 42) dX8_shorten_31 rfl rfl (fun hc7 => ?_) (fun hc7 => ?_)
      · rw [if_pos hc7] at h
        exact fX8_shorten_42_ok (o4 := some (.int x2)) hd ha0 rfl h
      · rw [if_neg hc7] at h
        refine fx_aload_n dX8_shorten_34 rfl rfl ?_
        refine gx_getr dX8_shorten_35 rfl fd_8_15 ha0.1 rfl rfl ?_
        refine fx_iload dX8_shorten_38 rfl rfl ?_
        refine fx_iload_n dX8_shorten_40 rfl rfl ?_
        obtain ⟨hj9, h⟩ := xChk_el h
        obtain ⟨m8, hm8, h⟩ := xLet_el h
        refine gx_iastore dX8_shorten_41 rfl ha0.2.2 hj9 hm8 ?_
        exact fX8_shorten_42_ok (o4 := some (.int x2)) hd ha0 rfl h
def fX8_shorten (a0 : Nat) (a1 : Int32) (a2 : Int32) (a3 : Int32) (m : xMem) : Option xMem := fX8_shorten_0 a0 a1 a2 a3  m
theorem fX8_shorten_ok {a0 : Nat} {a1 : Int32} {a2 : Int32} {a3 : Int32} {m : xMem} {r : xMem} {d : Nat} (hd : 1 ≤ d) (ha0 : isRoutes a0) (h : fX8_shorten a0 a1 a2 a3 m = some r) : xEx d 139 [.ref a0, .int a1, .int a2, .int a3] (xLay m) none (xLay r) := by
  obtain ⟨d, rfl⟩ : ∃ q, d = q + 1 := ⟨d - 1, by omega⟩
  exact xEx_of me_139 rfl (fX8_shorten_0_ok (d := d) (o4 := none) (by omega) ha0 rfl h)
def fX8_between_31 (a0 : Nat) (a1 : Int32) (a2 : Int32) (s0 : Int32) (m : xMem) : Option (Int32 × xMem) := some (s0, m)
set_option maxRecDepth 4000 in
theorem fX8_between_31_ok {a0 : Nat} {a1 : Int32} {a2 : Int32} {d : Nat} (hd : 0 ≤ d) (ha0 : isRoutes a0) {s0 : Int32} {o3 : Option Value} {m : xMem} {r : (Int32 × xMem)} (q3 : xNoD o3 = true) (h : fX8_between_31 a0 a1 a2 s0 m = some r) : xFx hh_140 cX8_between d 31 [some (.ref a0), some (.int a1), some (.int a2), o3] [.int s0] (xLay m) 0 0 (some (.int r.1)) (xLay r.2) := by
  unfold fX8_between_31 at h
  cases h
  exact fx_ireturn dX8_between_31 rfl rfl
def fX8_between_29 (a0 : Nat) (a1 : Int32) (a2 : Int32) (m : xMem) : Option (Int32 × xMem) := fX8_between_31 a0 a1 a2 (1000000 : Int32) m
set_option maxRecDepth 4000 in
theorem fX8_between_29_ok {a0 : Nat} {a1 : Int32} {a2 : Int32} {d : Nat} (hd : 0 ≤ d) (ha0 : isRoutes a0) {o3 : Option Value} {m : xMem} {r : (Int32 × xMem)} (q3 : xNoD o3 = true) (h : fX8_between_29 a0 a1 a2 m = some r) : xFx hh_140 cX8_between d 29 [some (.ref a0), some (.int a1), some (.int a2), o3] [] (xLay m) 0 0 (some (.int r.1)) (xLay r.2) := by
  unfold fX8_between_29 at h
  refine fx_ldc dX8_between_29 rfl ck_8_44 ?_
  exact fX8_between_31_ok (o3 := o3) hd ha0 q3 h
def fX8_between_0 (a0 : Nat) (a1 : Int32) (a2 : Int32) (m : xMem) : Option (Int32 × xMem) := xLet (a1 * (6 : Int32)) fun x1 => xLet (x1 + a2) fun x2 => if x2 < (0 : Int32) then fX8_between_29 a0 a1 a2 m else if (36 : Int32) ≤ x2 then fX8_between_29 a0 a1 a2 m else bif xIn x2 36 then xLet (m.1 (a0 + 2) x2.toNatClampNeg) fun x5 => fX8_between_31 a0 a1 a2 x5 m else none
set_option maxRecDepth 4000 in
theorem fX8_between_0_ok {a0 : Nat} {a1 : Int32} {a2 : Int32} {d : Nat} (hd : 0 ≤ d) (ha0 : isRoutes a0) {o3 : Option Value} {m : xMem} {r : (Int32 × xMem)} (q3 : xNoD o3 = true) (h : fX8_between_0 a0 a1 a2 m = some r) : xFx hh_140 cX8_between d 0 [some (.ref a0), some (.int a1), some (.int a2), o3] [] (xLay m) 0 0 (some (.int r.1)) (xLay r.2) := by
  unfold fX8_between_0 at h
  refine fx_iload_n dX8_between_0 rfl rfl ?_
  refine fx_bipush (x := 6) dX8_between_1 rfl (by decide) ?_
  obtain ⟨x1, hx1, h⟩ := xLet_el h
  refine fx_imul dX8_between_3 rfl hx1 ?_
  refine fx_iload_n dX8_between_4 rfl rfl ?_
  obtain ⟨x2, hx2, h⟩ := xLet_el h
  refine fx_iadd dX8_between_5 rfl hx2 ?_
  refine fx_istore_n (ls2 := [some (.ref a0), some (.int a1), some (.int a2), some (.int x2)]) dX8_between_6 rfl rfl rfl ?_
  refine fx_iload_n dX8_between_7 rfl rfl ?_
  refine fx_if_lt (t := 29) dX8_between_8 rfl rfl (fun hc3 => ?_) (fun hc3 => ?_)
  · rw [if_pos hc3] at h
    exact fX8_between_29_ok (o3 := some (.int x2)) hd ha0 rfl h
  · rw [if_neg hc3] at h
    refine fx_iload_n dX8_between_11 rfl rfl ?_
    refine fx_aload_n dX8_between_12 rfl rfl ?_
    refine gx_getr dX8_between_13 rfl fd_8_15 ha0.1 rfl rfl ?_
    refine gx_alen (t := 1) (y := 36) dX8_between_16 rfl ha0.2.2 rfl (by decide) ?_
    refine fx_icmp_ge (t := 29) dX8_between_17 rfl rfl (fun hc4 => ?_) (fun hc4 => ?_)
    · rw [if_pos hc4] at h
      exact fX8_between_29_ok (o3 := some (.int x2)) hd ha0 rfl h
    · rw [if_neg hc4] at h
      refine fx_aload_n dX8_between_20 rfl rfl ?_
      refine gx_getr dX8_between_21 rfl fd_8_15 ha0.1 rfl rfl ?_
      refine fx_iload_n dX8_between_24 rfl rfl ?_
      obtain ⟨hj6, h⟩ := xChk_el h
      obtain ⟨x5, hx5, h⟩ := xLet_el h
      refine gx_iaload dX8_between_25 rfl ha0.2.2 hj6 hx5 ?_
      refine fx_goto (t := 31) dX8_between_26 rfl rfl ?_
      exact fX8_between_31_ok (o3 := some (.int x2)) hd ha0 rfl h
def fX8_between (a0 : Nat) (a1 : Int32) (a2 : Int32) (m : xMem) : Option (Int32 × xMem) := fX8_between_0 a0 a1 a2  m
theorem fX8_between_ok {a0 : Nat} {a1 : Int32} {a2 : Int32} {m : xMem} {r : (Int32 × xMem)} {d : Nat} (hd : 1 ≤ d) (ha0 : isRoutes a0) (h : fX8_between a0 a1 a2 m = some r) : xEx d 140 [.ref a0, .int a1, .int a2] (xLay m) (some (.int r.1)) (xLay r.2) := by
  obtain ⟨d, rfl⟩ : ∃ q, d = q + 1 := ⟨d - 1, by omega⟩
  exact xEx_of me_140 rfl (fX8_between_0_ok (d := d) (o3 := none) (by omega) ha0 rfl h)
